/-! methods on typed pools, 21 (written by a program) -/
set_option maxHeartbeats 4000000 in
theorem c_M_add {Po : mP} {t1 : Int32} {t2 : Int32} {t3 : Int32} (hT : Typ Po) (hR : Rel Po)  : EvP 7 123 [.ref 301, .int t1, .int t2, .int t3] Po (fun r P' => (∃ x : Int32, r = some (.int x) ∧ (True)) ∧ Typ P' ∧ KW [1092, 1093, 1094, 1095, 1152, 1216, 1344, 1408, 1472] Po P' ∧ Rel P') := by
  refine EvP.of qm_123 (Nat.le_of_ble_eq_true rfl) rfl ?_
  show MEvP _ none q_123 0 [(0, .ref 301), (1, .int t1), (2, .int t2), (3, .int t3)] [] _ 0 0 _
  refine mp_a (a_aload_n dX7_add_0 rfl) (mpp 1 rfl ?_)
  refine mt_callv (i := 117) (q' := q_124) (As := []) (rest := []) hT dX7_add_1 rfl qm_124 (by decide) rfl rl_301 (by decide) rfl (Nat.le_of_ble_eq_true rfl) rfl ⟨rfl, rfl⟩ ⟨Nat.le_of_ble_eq_true rfl, Nat.le_of_ble_eq_true rfl⟩ (EvP.mono (by decide) (c_M_keeps hT hR )) (fun r1 P2 g3 => mpp 4 rfl ?_)
  obtain ⟨⟨rfl, g5⟩, hT6, k7, R8r, R8⟩ := g3
  have k9 : KW [1092, 1093, 1094, 1095, 1152, 1216, 1344, 1408, 1472] Po P2 := KW.trans KW.refl k7 rfl
  show MEvP _ none q_123 4 [(0, .ref 301), (1, .int t1), (2, .int t2), (3, .int t3)] [] _ _ _ _
  refine mp_a (a_aload_n dX7_add_4 rfl) (mpp 5 rfl ?_)
  refine mp_a (a_aload_n dX7_add_5 rfl) (mpp 6 rfl ?_)
  refine mp_a (a_iload_n dX7_add_6 rfl) (mpp 7 rfl ?_)
  refine mp_a (a_iload_n dX7_add_7 rfl) (mpp 8 rfl ?_)
  refine mp_a (a_iload_n dX7_add_8 rfl) (mpp 9 rfl ?_)
  refine mt_callv (i := 120) (q' := q_126) (As := [.int t1, .int t2, .int t3]) (rest := [.ref 301]) hT6 dX7_add_9 rfl qm_126 (by decide) rfl rl_301 (by decide) rfl (Nat.le_of_ble_eq_true rfl) rfl ⟨rfl, rfl⟩ ⟨Nat.le_of_ble_eq_true rfl, Nat.le_of_ble_eq_true rfl⟩ (EvP.mono (by decide) (c_M_addsTold hT6 R8r )) (fun r11 P12 g13 => mpp 12 rfl ?_)
  obtain ⟨⟨x14, rfl, g15⟩, hT16, k17, R18⟩ := g13
  have k19 : KW [1092, 1093, 1094, 1095, 1152, 1216, 1344, 1408, 1472] Po P12 := KW.trans k9 k17 rfl
  have wx14 := ti_full x14
  show MEvP _ none q_123 12 [(0, .ref 301), (1, .int t1), (2, .int t2), (3, .int t3)] [.int x14, .ref 301] _ _ _ _
  refine mt_callv (i := 124) (q' := q_139) (As := [.int x14]) (rest := []) hT16 dX7_add_12 rfl qm_139 (by decide) rfl rl_301 (by decide) rfl (Nat.le_of_ble_eq_true rfl) rfl ⟨rfl, rfl⟩ ⟨Nat.le_of_ble_eq_true rfl, Nat.le_of_ble_eq_true rfl⟩ (EvP.mono (by decide) (c_M_ends hT16 R18 )) (fun r21 P22 g23 => mpp 15 rfl ?_)
  obtain ⟨⟨x24, rfl, g25⟩, hT26, k27, R28r, R28⟩ := g23
  have k29 : KW [1092, 1093, 1094, 1095, 1152, 1216, 1344, 1408, 1472] Po P22 := KW.trans k19 k27 rfl
  have wx24 := ti_full x24
  have g25 : x24.toInt = x14.toInt := g25
  show MEvP _ none q_123 15 [(0, .ref 301), (1, .int t1), (2, .int t2), (3, .int t3)] [.int x24] _ _ _ _
  exact mp_iret ⟨⟨_, rfl, trivial⟩, hT26, k29, R28r⟩ dX7_add_15 (Or.inl rfl)

set_option maxHeartbeats 4000000 in
theorem c_M_isPiece {Po : mP} {t1 : Int32} (hT : Typ Po)   : EvP 2 144 [.ref 301, .int t1] Po (fun r P' => (∃ x : Int32, r = some (.int x) ∧ (0 ≤ x.toInt ∧ x.toInt ≤ 1 ∧ ((x.toInt = 1 ∧ 0 ≤ t1.toInt ∧ t1.toInt + 1 ≤ (fv Po 302 0).toInt ∧ t1.toInt ≤ 7) ∨ (x.toInt = 0 ∧ (t1.toInt < 0 ∨ (fv Po 302 0).toInt ≤ t1.toInt))))) ∧ P' = Po) := by
  refine EvP.of qm_144 (Nat.le_of_ble_eq_true rfl) rfl ?_
  show MEvP _ none q_144 0 [(0, .ref 301), (1, .int t1)] [] _ 0 0 _
  have g1 : (0 : Int) ≤ (fv Po 302 0).toInt ∧ (fv Po 302 0).toInt ≤ 8 := Typ.rng hT rl_302 (by decide) (by decide) rfl
  refine mp_a (a_iload_n dX7_isPiece_0 rfl) (mpp 1 rfl ?_)
  refine mp_a (a_iconst (v := 0) dX7_isPiece_1 rfl) (mpp 2 rfl ?_)
  refine mp_a (a_aload_n dX7_isPiece_2 rfl) (mpp 3 rfl ?_)
  refine mt_getU (i := 9) (k := 0) (A := 302) hT dX7_isPiece_3 rfl rl_301 (by decide) rfl (by decide) rfl un_18 (mpp 6 rfl ?_)
  refine mp_a (a_iconst (v := 0) dX7_isPiece_6 rfl) (mpp 7 rfl ?_)
  refine mt_ialX (n := 155) hT dX7_isPiece_7 rl_302 (by decide) rfl rfl (by decide) (by decide) ssp_0 (fun g2 => mpp 8 rfl ?_)
  have we4 := ti_full (fv Po 302 0)
  refine mp_a (a_iconst (v := 1) dX7_isPiece_8 rfl) (mpp 9 rfl ?_)
  obtain ⟨z5, h6⟩ := ti_ex ((fv Po 302 0) - 1 : Int32)
  have wz5 := ti_full z5
  refine mp_t (s_isub (v := z5) dX7_isPiece_9 h6) (mpp 10 rfl ?_)
  try have e7 : z5.toInt = (fv Po 302 0).toInt - 1 := ti_subz h6 rfl rfl (by omega) (by omega)
  refine mp_calls (i := 61) (q' := q_127) (As := [.int t1, .int 0, .int z5]) (rest := []) dX7_isPiece_10 rfl qm_127 (by decide) rfl (Nat.le_of_ble_eq_true rfl) rfl ⟨rfl, rfl⟩ ⟨Nat.le_of_ble_eq_true rfl, Nat.le_of_ble_eq_true rfl⟩ (EvP.mono (by decide) (c_M_isIn hT )) (fun r8 P9 g10 => mpp 13 rfl ?_)
  obtain ⟨⟨x11, rfl, g12⟩, e13⟩ := g10
  have e13 := e13.symm
  subst e13
  have wx11 := ti_full x11
  have g12 : 0 ≤ x11.toInt ∧ x11.toInt ≤ 1 ∧ ((x11.toInt = 1 ∧ (0 : Int) ≤ t1.toInt ∧ t1.toInt ≤ z5.toInt) ∨ (x11.toInt = 0 ∧ (t1.toInt < (0 : Int) ∨ z5.toInt < t1.toInt))) := g12
  show MEvP _ none q_144 13 [(0, .ref 301), (1, .int t1)] [.int x11] _ _ _ _
  have u14 : 0 ≤ x11.toInt ∧ x11.toInt ≤ 1 ∧ ((x11.toInt = 1 ∧ 0 ≤ t1.toInt ∧ t1.toInt + 1 ≤ (fv Po 302 0).toInt ∧ t1.toInt ≤ 7) ∨ (x11.toInt = 0 ∧ (t1.toInt < 0 ∨ (fv Po 302 0).toInt ≤ t1.toInt))) := by omega
  exact mp_iret ⟨⟨_, rfl, u14⟩, rfl⟩ dX7_isPiece_13 (Or.inr ⟨rfl, ti_01 (by omega)⟩)

set_option maxHeartbeats 4000000 in
theorem c_M_isCrease {Po : mP} {t1 : Int32} {t2 : Int32} (hT : Typ Po)   : EvP 5 143 [.ref 301, .int t1, .int t2] Po (fun r P' => (∃ x : Int32, r = some (.int x) ∧ (0 ≤ x.toInt ∧ x.toInt ≤ 1 ∧ ((x.toInt = 0 ∧ (t1.toInt < 0 ∨ (fv Po 302 0).toInt ≤ t1.toInt ∨ t2.toInt < 0 ∨ ((fv Po 302 (3 + 19 * t1.toInt.toNat)).toInt = 1 ∧ (fv Po 302 (4 + 19 * t1.toInt.toNat)).toInt ≤ t2.toInt) ∨ ((fv Po 302 (3 + 19 * t1.toInt.toNat)).toInt = 0 ∧ (fv Po 302 (4 + 19 * t1.toInt.toNat)).toInt - 1 ≤ t2.toInt))) ∨ (x.toInt = 1 ∧ 0 ≤ t1.toInt ∧ t1.toInt + 1 ≤ (fv Po 302 0).toInt ∧ t1.toInt ≤ 7 ∧ 0 ≤ t2.toInt ∧ t2.toInt ≤ 7 ∧ t2.toInt + 1 ≤ (fv Po 302 (4 + 19 * t1.toInt.toNat)).toInt ∧ (((fv Po 302 (3 + 19 * t1.toInt.toNat)).toInt = 1 ∧ t2.toInt < (fv Po 302 (4 + 19 * t1.toInt.toNat)).toInt) ∨ ((fv Po 302 (3 + 19 * t1.toInt.toNat)).toInt = 0 ∧ t2.toInt < (fv Po 302 (4 + 19 * t1.toInt.toNat)).toInt - 1)))))) ∧ P' = Po) := by
  refine EvP.of qm_143 (Nat.le_of_ble_eq_true rfl) rfl ?_
  show MEvP _ none q_143 0 [(0, .ref 301), (1, .int t1), (2, .int t2)] [] _ 0 0 _
  have g1 : (0 : Int) ≤ (fv Po 302 0).toInt ∧ (fv Po 302 0).toInt ≤ 8 := Typ.rng hT rl_302 (by decide) (by decide) rfl
  have g2 := ti_full (fv Po 302 (3 + 19 * t1.toInt.toNat))
  have g3 := ti_full (fv Po 302 (4 + 19 * t1.toInt.toNat))
  refine mp_a (a_aload_n dX7_isCrease_0 rfl) (mpp 1 rfl ?_)
  refine mp_a (a_iload_n dX7_isCrease_1 rfl) (mpp 2 rfl ?_)
  refine mt_callv (i := 85) (q' := q_144) (As := [.int t1]) (rest := []) hT dX7_isCrease_2 rfl qm_144 (by decide) rfl rl_301 (by decide) rfl (Nat.le_of_ble_eq_true rfl) rfl ⟨rfl, rfl⟩ ⟨Nat.le_of_ble_eq_true rfl, Nat.le_of_ble_eq_true rfl⟩ (EvP.mono (by decide) (c_M_isPiece hT )) (fun r4 P5 g6 => mpp 5 rfl ?_)
  obtain ⟨⟨x7, rfl, g8⟩, e9⟩ := g6
  have e9 := e9.symm
  subst e9
  have wx7 := ti_full x7
  have g8 : 0 ≤ x7.toInt ∧ x7.toInt ≤ 1 ∧ ((x7.toInt = 1 ∧ 0 ≤ t1.toInt ∧ t1.toInt + 1 ≤ (fv Po 302 0).toInt ∧ t1.toInt ≤ 7) ∨ (x7.toInt = 0 ∧ (t1.toInt < 0 ∨ (fv Po 302 0).toInt ≤ t1.toInt))) := g8
  show MEvP _ none q_143 5 [(0, .ref 301), (1, .int t1), (2, .int t2)] [.int x7] _ _ _ _
  refine mp_Tb (t := 27) (j_if_eq dX7_isCrease_5) (by decide) (fun c10 => ?_) (fun c10 => mpp 8 rfl ?_)
  · have c10 : x7.toInt = 0 := ti_eq c10
    refine mp_a (a_iconst (v := 0) dX7_isCrease_27 rfl) (mpp 28 rfl ?_)
    have u11 : 0 ≤ (0 : Int) ∧ (0 : Int) ≤ 1 ∧ (((0 : Int) = 0 ∧ (t1.toInt < 0 ∨ (fv Po 302 0).toInt ≤ t1.toInt ∨ t2.toInt < 0 ∨ ((fv Po 302 (3 + 19 * t1.toInt.toNat)).toInt = 1 ∧ (fv Po 302 (4 + 19 * t1.toInt.toNat)).toInt ≤ t2.toInt) ∨ ((fv Po 302 (3 + 19 * t1.toInt.toNat)).toInt = 0 ∧ (fv Po 302 (4 + 19 * t1.toInt.toNat)).toInt - 1 ≤ t2.toInt))) ∨ ((0 : Int) = 1 ∧ 0 ≤ t1.toInt ∧ t1.toInt + 1 ≤ (fv Po 302 0).toInt ∧ t1.toInt ≤ 7 ∧ 0 ≤ t2.toInt ∧ t2.toInt ≤ 7 ∧ t2.toInt + 1 ≤ (fv Po 302 (4 + 19 * t1.toInt.toNat)).toInt ∧ (((fv Po 302 (3 + 19 * t1.toInt.toNat)).toInt = 1 ∧ t2.toInt < (fv Po 302 (4 + 19 * t1.toInt.toNat)).toInt) ∨ ((fv Po 302 (3 + 19 * t1.toInt.toNat)).toInt = 0 ∧ t2.toInt < (fv Po 302 (4 + 19 * t1.toInt.toNat)).toInt - 1)))) := by omega
    exact mp_iret ⟨⟨_, rfl, u11⟩, rfl⟩ dX7_isCrease_28 (Or.inr ⟨rfl, by decide⟩)
  · have c10 : x7.toInt ≠ 0 := ti_eq_n c10
    refine mp_a (a_iload_n dX7_isCrease_8 rfl) (mpp 9 rfl ?_)
    refine mp_a (a_iconst (v := 0) dX7_isCrease_9 rfl) (mpp 10 rfl ?_)
    refine mp_a (a_aload_n dX7_isCrease_10 rfl) (mpp 11 rfl ?_)
    refine mp_a (a_iload_n dX7_isCrease_11 rfl) (mpp 12 rfl ?_)
    have p12 : 0 ≤ t1.toInt := by omega
    have p13 : t1.toInt ≤ 7 := by omega
    refine mt_callv (i := 88) (q' := q_136) (As := [.int t1]) (rest := [.int 0, .int t2]) hT dX7_isCrease_12 rfl qm_136 (by decide) rfl rl_301 (by decide) rfl (Nat.le_of_ble_eq_true rfl) rfl ⟨rfl, rfl⟩ ⟨Nat.le_of_ble_eq_true rfl, Nat.le_of_ble_eq_true rfl⟩ (EvP.mono (by decide) (c_M_creases hT p12 p13 )) (fun r14 P15 g16 => mpp 15 rfl ?_)
    obtain ⟨⟨x17, rfl, g18⟩, e19⟩ := g16
    have e19 := e19.symm
    subst e19
    have wx17 := ti_full x17
    have g18 : -1 ≤ x17.toInt ∧ x17.toInt ≤ 8 ∧ (((fv Po 302 (3 + 19 * t1.toInt.toNat)).toInt = 1 ∧ x17.toInt = (fv Po 302 (4 + 19 * t1.toInt.toNat)).toInt) ∨ ((fv Po 302 (3 + 19 * t1.toInt.toNat)).toInt = 0 ∧ x17.toInt = (fv Po 302 (4 + 19 * t1.toInt.toNat)).toInt - 1)) := g18
    show MEvP _ none q_143 15 [(0, .ref 301), (1, .int t1), (2, .int t2)] [.int x17, .int 0, .int t2] _ _ _ _
    refine mp_a (a_iconst (v := 1) dX7_isCrease_15 rfl) (mpp 16 rfl ?_)
    obtain ⟨z20, h21⟩ := ti_ex (x17 - 1 : Int32)
    have wz20 := ti_full z20
    refine mp_t (s_isub (v := z20) dX7_isCrease_16 h21) (mpp 17 rfl ?_)
    try have e22 : z20.toInt = x17.toInt - 1 := ti_subz h21 rfl rfl (by omega) (by omega)
    refine mp_calls (i := 61) (q' := q_127) (As := [.int t2, .int 0, .int z20]) (rest := []) dX7_isCrease_17 rfl qm_127 (by decide) rfl (Nat.le_of_ble_eq_true rfl) rfl ⟨rfl, rfl⟩ ⟨Nat.le_of_ble_eq_true rfl, Nat.le_of_ble_eq_true rfl⟩ (EvP.mono (by decide) (c_M_isIn hT )) (fun r23 P24 g25 => mpp 20 rfl ?_)
    obtain ⟨⟨x26, rfl, g27⟩, e28⟩ := g25
    have e28 := e28.symm
    subst e28
    have wx26 := ti_full x26
    have g27 : 0 ≤ x26.toInt ∧ x26.toInt ≤ 1 ∧ ((x26.toInt = 1 ∧ (0 : Int) ≤ t2.toInt ∧ t2.toInt ≤ z20.toInt) ∨ (x26.toInt = 0 ∧ (t2.toInt < (0 : Int) ∨ z20.toInt < t2.toInt))) := g27
    show MEvP _ none q_143 20 [(0, .ref 301), (1, .int t1), (2, .int t2)] [.int x26] _ _ _ _
    refine mp_Tb (t := 27) (j_if_eq dX7_isCrease_20) (by decide) (fun c29 => ?_) (fun c29 => mpp 23 rfl ?_)
    · have c29 : x26.toInt = 0 := ti_eq c29
      refine mp_a (a_iconst (v := 0) dX7_isCrease_27 rfl) (mpp 28 rfl ?_)
      have u30 : 0 ≤ (0 : Int) ∧ (0 : Int) ≤ 1 ∧ (((0 : Int) = 0 ∧ (t1.toInt < 0 ∨ (fv Po 302 0).toInt ≤ t1.toInt ∨ t2.toInt < 0 ∨ ((fv Po 302 (3 + 19 * t1.toInt.toNat)).toInt = 1 ∧ (fv Po 302 (4 + 19 * t1.toInt.toNat)).toInt ≤ t2.toInt) ∨ ((fv Po 302 (3 + 19 * t1.toInt.toNat)).toInt = 0 ∧ (fv Po 302 (4 + 19 * t1.toInt.toNat)).toInt - 1 ≤ t2.toInt))) ∨ ((0 : Int) = 1 ∧ 0 ≤ t1.toInt ∧ t1.toInt + 1 ≤ (fv Po 302 0).toInt ∧ t1.toInt ≤ 7 ∧ 0 ≤ t2.toInt ∧ t2.toInt ≤ 7 ∧ t2.toInt + 1 ≤ (fv Po 302 (4 + 19 * t1.toInt.toNat)).toInt ∧ (((fv Po 302 (3 + 19 * t1.toInt.toNat)).toInt = 1 ∧ t2.toInt < (fv Po 302 (4 + 19 * t1.toInt.toNat)).toInt) ∨ ((fv Po 302 (3 + 19 * t1.toInt.toNat)).toInt = 0 ∧ t2.toInt < (fv Po 302 (4 + 19 * t1.toInt.toNat)).toInt - 1)))) := by omega
      exact mp_iret ⟨⟨_, rfl, u30⟩, rfl⟩ dX7_isCrease_28 (Or.inr ⟨rfl, by decide⟩)
    · have c29 : x26.toInt ≠ 0 := ti_eq_n c29
      refine mp_a (a_iconst (v := 1) dX7_isCrease_23 rfl) (mpp 24 rfl ?_)
      refine mp_a (a_goto (t := 28) dX7_isCrease_24 (by decide)) ?_
      have u31 : 0 ≤ (1 : Int) ∧ (1 : Int) ≤ 1 ∧ (((1 : Int) = 0 ∧ (t1.toInt < 0 ∨ (fv Po 302 0).toInt ≤ t1.toInt ∨ t2.toInt < 0 ∨ ((fv Po 302 (3 + 19 * t1.toInt.toNat)).toInt = 1 ∧ (fv Po 302 (4 + 19 * t1.toInt.toNat)).toInt ≤ t2.toInt) ∨ ((fv Po 302 (3 + 19 * t1.toInt.toNat)).toInt = 0 ∧ (fv Po 302 (4 + 19 * t1.toInt.toNat)).toInt - 1 ≤ t2.toInt))) ∨ ((1 : Int) = 1 ∧ 0 ≤ t1.toInt ∧ t1.toInt + 1 ≤ (fv Po 302 0).toInt ∧ t1.toInt ≤ 7 ∧ 0 ≤ t2.toInt ∧ t2.toInt ≤ 7 ∧ t2.toInt + 1 ≤ (fv Po 302 (4 + 19 * t1.toInt.toNat)).toInt ∧ (((fv Po 302 (3 + 19 * t1.toInt.toNat)).toInt = 1 ∧ t2.toInt < (fv Po 302 (4 + 19 * t1.toInt.toNat)).toInt) ∨ ((fv Po 302 (3 + 19 * t1.toInt.toNat)).toInt = 0 ∧ t2.toInt < (fv Po 302 (4 + 19 * t1.toInt.toNat)).toInt - 1)))) := by omega
      exact mp_iret ⟨⟨_, rfl, u31⟩, rfl⟩ dX7_isCrease_28 (Or.inr ⟨rfl, by decide⟩)

set_option maxHeartbeats 4000000 in
theorem c_M_creaseOf {Po : mP} {t1 : Int32} {t2 : Int32} (hT : Typ Po)  (hp0 : 0 ≤ t1.toInt) (hp1 : t1.toInt ≤ 7) (hp2 : 0 ≤ t2.toInt) (hp3 : t2.toInt ≤ 7)  : EvP 3 146 [.ref 301, .int t1, .int t2] Po (fun r P' => (∃ x : Int32, r = some (.int x) ∧ (x.toInt = (fv Po 302 (14 + 19 * t1.toInt.toNat + t2.toInt.toNat)).toInt)) ∧ P' = Po) := by
  refine EvP.of qm_146 (Nat.le_of_ble_eq_true rfl) rfl ?_
  show MEvP _ none q_146 0 [(0, .ref 301), (1, .int t1), (2, .int t2)] [] _ 0 0 _
  refine mp_a (a_aload_n dX7_creaseOf_0 rfl) (mpp 1 rfl ?_)
  refine mp_a (a_iload_n dX7_creaseOf_1 rfl) (mpp 2 rfl ?_)
  refine mp_a (a_bipush (v := 11) dX7_creaseOf_2 rfl) (mpp 4 rfl ?_)
  refine mp_a (a_iload_n dX7_creaseOf_4 rfl) (mpp 5 rfl ?_)
  obtain ⟨z1, h2⟩ := ti_ex (11 + t2 : Int32)
  have wz1 := ti_full z1
  refine mp_t (s_iadd (v := z1) dX7_creaseOf_5 h2) (mpp 6 rfl ?_)
  try have e3 : z1.toInt = 11 + t2.toInt := ti_addz h2 rfl rfl (by omega) (by omega)
  have p4 : 0 ≤ t1.toInt := by omega
  have p5 : t1.toInt ≤ 7 := by omega
  have p6 : 0 ≤ z1.toInt := by omega
  have p7 : z1.toInt ≤ 18 := by omega
  refine mt_callv (i := 78) (q' := q_137) (As := [.int t1, .int z1]) (rest := []) hT dX7_creaseOf_6 rfl qm_137 (by decide) rfl rl_301 (by decide) rfl (Nat.le_of_ble_eq_true rfl) rfl ⟨rfl, rfl⟩ ⟨Nat.le_of_ble_eq_true rfl, Nat.le_of_ble_eq_true rfl⟩ (EvP.mono (by decide) (c_M_of hT p4 p5 p6 p7 )) (fun r8 P9 g10 => mpp 9 rfl ?_)
  obtain ⟨⟨x11, rfl, g12⟩, e13⟩ := g10
  have e13 := e13.symm
  subst e13
  have wx11 := ti_full x11
  have g12 : x11.toInt = (fv Po 302 (3 + 19 * t1.toInt.toNat + z1.toInt.toNat)).toInt := g12
  show MEvP _ none q_146 9 [(0, .ref 301), (1, .int t1), (2, .int t2)] [.int x11] _ _ _ _
  have u14 : x11.toInt = (fv Po 302 (14 + 19 * t1.toInt.toNat + t2.toInt.toNat)).toInt := g12.trans (congrArg (fun k => (fv Po 302 k).toInt) (by omega))
  exact mp_iret ⟨⟨_, rfl, u14⟩, rfl⟩ dX7_creaseOf_9 (Or.inl rfl)

set_option maxHeartbeats 4000000 in
theorem c_M_marks {Po : mP} {t1 : Int32} {t2 : Int32} {t3 : Int32} (hT : Typ Po) (hR : Rel Po)  : EvP 6 142 [.ref 301, .int t1, .int t2, .int t3] Po (fun r P' => (∃ x : Int32, r = some (.int x) ∧ ((x.toInt = -1001 ∧ (t1.toInt < 0 ∨ (fv Po 302 0).toInt ≤ t1.toInt ∨ t2.toInt < 0 ∨ ((fv Po 302 (3 + 19 * t1.toInt.toNat)).toInt = 1 ∧ (fv Po 302 (4 + 19 * t1.toInt.toNat)).toInt ≤ t2.toInt) ∨ ((fv Po 302 (3 + 19 * t1.toInt.toNat)).toInt = 0 ∧ (fv Po 302 (4 + 19 * t1.toInt.toNat)).toInt - 1 ≤ t2.toInt))) ∨ ((0 ≤ t1.toInt ∧ t1.toInt + 1 ≤ (fv Po 302 0).toInt ∧ 0 ≤ t2.toInt ∧ (((fv Po 302 (3 + 19 * t1.toInt.toNat)).toInt = 1 ∧ t2.toInt < (fv Po 302 (4 + 19 * t1.toInt.toNat)).toInt) ∨ ((fv Po 302 (3 + 19 * t1.toInt.toNat)).toInt = 0 ∧ t2.toInt < (fv Po 302 (4 + 19 * t1.toInt.toNat)).toInt - 1))) ∧ x.toInt = -1002 ∧ (t3.toInt < 0 ∨ 2 < t3.toInt)) ∨ ((0 ≤ t1.toInt ∧ t1.toInt + 1 ≤ (fv Po 302 0).toInt ∧ 0 ≤ t2.toInt ∧ (((fv Po 302 (3 + 19 * t1.toInt.toNat)).toInt = 1 ∧ t2.toInt < (fv Po 302 (4 + 19 * t1.toInt.toNat)).toInt) ∨ ((fv Po 302 (3 + 19 * t1.toInt.toNat)).toInt = 0 ∧ t2.toInt < (fv Po 302 (4 + 19 * t1.toInt.toNat)).toInt - 1))) ∧ 0 ≤ t3.toInt ∧ t3.toInt ≤ 2 ∧ (fv Po 302 (5 + 19 * t1.toInt.toNat)).toInt = 1 ∧ x.toInt = -1003) ∨ ((0 ≤ t1.toInt ∧ t1.toInt + 1 ≤ (fv Po 302 0).toInt ∧ 0 ≤ t2.toInt ∧ (((fv Po 302 (3 + 19 * t1.toInt.toNat)).toInt = 1 ∧ t2.toInt < (fv Po 302 (4 + 19 * t1.toInt.toNat)).toInt) ∨ ((fv Po 302 (3 + 19 * t1.toInt.toNat)).toInt = 0 ∧ t2.toInt < (fv Po 302 (4 + 19 * t1.toInt.toNat)).toInt - 1))) ∧ 0 ≤ t3.toInt ∧ t3.toInt ≤ 2 ∧ (fv Po 302 (5 + 19 * t1.toInt.toNat)).toInt ≠ 1 ∧ x.toInt = (fv Po 302 (14 + 19 * t1.toInt.toNat + t2.toInt.toNat)).toInt))) ∧ Typ P' ∧ KW [1093, 1094, 1152] Po P' ∧ Rel P' ∧ (∀ j : Nat, ¬ j = (14 + 19 * t1.toInt.toNat + t2.toInt.toNat) → fv P' 302 j = fv Po 302 j) ∧ ((((t1.toInt < 0 ∨ (fv Po 302 0).toInt ≤ t1.toInt ∨ t2.toInt < 0 ∨ ((fv Po 302 (3 + 19 * t1.toInt.toNat)).toInt = 1 ∧ (fv Po 302 (4 + 19 * t1.toInt.toNat)).toInt ≤ t2.toInt) ∨ ((fv Po 302 (3 + 19 * t1.toInt.toNat)).toInt = 0 ∧ (fv Po 302 (4 + 19 * t1.toInt.toNat)).toInt - 1 ≤ t2.toInt)) ∨ t3.toInt < 0 ∨ 2 < t3.toInt ∨ (fv Po 302 (5 + 19 * t1.toInt.toNat)).toInt = 1) ∧ fv P' 302 (14 + 19 * t1.toInt.toNat + t2.toInt.toNat) = fv Po 302 (14 + 19 * t1.toInt.toNat + t2.toInt.toNat)) ∨ ((0 ≤ t1.toInt ∧ t1.toInt + 1 ≤ (fv Po 302 0).toInt ∧ 0 ≤ t2.toInt ∧ (((fv Po 302 (3 + 19 * t1.toInt.toNat)).toInt = 1 ∧ t2.toInt < (fv Po 302 (4 + 19 * t1.toInt.toNat)).toInt) ∨ ((fv Po 302 (3 + 19 * t1.toInt.toNat)).toInt = 0 ∧ t2.toInt < (fv Po 302 (4 + 19 * t1.toInt.toNat)).toInt - 1))) ∧ 0 ≤ t3.toInt ∧ t3.toInt ≤ 2 ∧ (fv Po 302 (5 + 19 * t1.toInt.toNat)).toInt ≠ 1 ∧ (fv P' 302 (14 + 19 * t1.toInt.toNat + t2.toInt.toNat)).toInt = t3.toInt)) ∧ KI 301 303 Po P') := by
  refine EvP.of qm_142 (Nat.le_of_ble_eq_true rfl) rfl ?_
  show MEvP _ none q_142 0 [(0, .ref 301), (1, .int t1), (2, .int t2), (3, .int t3)] [] _ 0 0 _
  have g1 : (0 : Int) ≤ (fv Po 302 0).toInt ∧ (fv Po 302 0).toInt ≤ 8 := Typ.rng hT rl_302 (by decide) (by decide) rfl
  have g2 := ti_full (fv Po 302 (3 + 19 * t1.toInt.toNat))
  have g3 := ti_full (fv Po 302 (4 + 19 * t1.toInt.toNat))
  have g4 := ti_full (fv Po 302 (5 + 19 * t1.toInt.toNat))
  refine mp_a (a_aload_n dX7_marks_0 rfl) (mpp 1 rfl ?_)
  refine mp_a (a_iload_n dX7_marks_1 rfl) (mpp 2 rfl ?_)
  refine mp_a (a_iload_n dX7_marks_2 rfl) (mpp 3 rfl ?_)
  refine mt_callv (i := 127) (q' := q_143) (As := [.int t1, .int t2]) (rest := []) hT dX7_marks_3 rfl qm_143 (by decide) rfl rl_301 (by decide) rfl (Nat.le_of_ble_eq_true rfl) rfl ⟨rfl, rfl⟩ ⟨Nat.le_of_ble_eq_true rfl, Nat.le_of_ble_eq_true rfl⟩ (EvP.mono (by decide) (c_M_isCrease hT )) (fun r5 P6 g7 => mpp 6 rfl ?_)
  obtain ⟨⟨x8, rfl, g9⟩, e10⟩ := g7
  have e10 := e10.symm
  subst e10
  have wx8 := ti_full x8
  have g9 : 0 ≤ x8.toInt ∧ x8.toInt ≤ 1 ∧ ((x8.toInt = 0 ∧ (t1.toInt < 0 ∨ (fv Po 302 0).toInt ≤ t1.toInt ∨ t2.toInt < 0 ∨ ((fv Po 302 (3 + 19 * t1.toInt.toNat)).toInt = 1 ∧ (fv Po 302 (4 + 19 * t1.toInt.toNat)).toInt ≤ t2.toInt) ∨ ((fv Po 302 (3 + 19 * t1.toInt.toNat)).toInt = 0 ∧ (fv Po 302 (4 + 19 * t1.toInt.toNat)).toInt - 1 ≤ t2.toInt))) ∨ (x8.toInt = 1 ∧ 0 ≤ t1.toInt ∧ t1.toInt + 1 ≤ (fv Po 302 0).toInt ∧ t1.toInt ≤ 7 ∧ 0 ≤ t2.toInt ∧ t2.toInt ≤ 7 ∧ t2.toInt + 1 ≤ (fv Po 302 (4 + 19 * t1.toInt.toNat)).toInt ∧ (((fv Po 302 (3 + 19 * t1.toInt.toNat)).toInt = 1 ∧ t2.toInt < (fv Po 302 (4 + 19 * t1.toInt.toNat)).toInt) ∨ ((fv Po 302 (3 + 19 * t1.toInt.toNat)).toInt = 0 ∧ t2.toInt < (fv Po 302 (4 + 19 * t1.toInt.toNat)).toInt - 1)))) := g9
  show MEvP _ none q_142 6 [(0, .ref 301), (1, .int t1), (2, .int t2), (3, .int t3)] [.int x8] _ _ _ _
  refine mp_Tb (t := 13) (j_if_ne dX7_marks_6) (by decide) (fun c11 => ?_) (fun c11 => mpp 9 rfl ?_)
  · have c11 : x8.toInt ≠ 0 := ti_ne c11
    refine mp_a (a_iload_n dX7_marks_13 rfl) (mpp 14 rfl ?_)
    refine mp_a (a_iconst (v := 0) dX7_marks_14 rfl) (mpp 15 rfl ?_)
    refine mp_a (a_iconst (v := 2) dX7_marks_15 rfl) (mpp 16 rfl ?_)
    refine mp_calls (i := 61) (q' := q_127) (As := [.int t3, .int 0, .int 2]) (rest := []) dX7_marks_16 rfl qm_127 (by decide) rfl (Nat.le_of_ble_eq_true rfl) rfl ⟨rfl, rfl⟩ ⟨Nat.le_of_ble_eq_true rfl, Nat.le_of_ble_eq_true rfl⟩ (EvP.mono (by decide) (c_M_isIn hT )) (fun r12 P13 g14 => mpp 19 rfl ?_)
    obtain ⟨⟨x15, rfl, g16⟩, e17⟩ := g14
    have e17 := e17.symm
    subst e17
    have wx15 := ti_full x15
    have g16 : 0 ≤ x15.toInt ∧ x15.toInt ≤ 1 ∧ ((x15.toInt = 1 ∧ (0 : Int) ≤ t3.toInt ∧ t3.toInt ≤ (2 : Int)) ∨ (x15.toInt = 0 ∧ (t3.toInt < (0 : Int) ∨ (2 : Int) < t3.toInt))) := g16
    show MEvP _ none q_142 19 [(0, .ref 301), (1, .int t1), (2, .int t2), (3, .int t3)] [.int x15] _ _ _ _
    refine mp_Tb (t := 26) (j_if_ne dX7_marks_19) (by decide) (fun c18 => ?_) (fun c18 => mpp 22 rfl ?_)
    · have c18 : x15.toInt ≠ 0 := ti_ne c18
      refine mp_a (a_aload_n dX7_marks_26 rfl) (mpp 27 rfl ?_)
      refine mp_a (a_iload_n dX7_marks_27 rfl) (mpp 28 rfl ?_)
      have p19 : 0 ≤ t1.toInt := by omega
      have p20 : t1.toInt ≤ 7 := by omega
      refine mt_callv (i := 130) (q' := q_145) (As := [.int t1]) (rest := []) hT dX7_marks_28 rfl qm_145 (by decide) rfl rl_301 (by decide) rfl (Nat.le_of_ble_eq_true rfl) rfl ⟨rfl, rfl⟩ ⟨Nat.le_of_ble_eq_true rfl, Nat.le_of_ble_eq_true rfl⟩ (EvP.mono (by decide) (c_M_isFolded hT p19 p20 )) (fun r21 P22 g23 => mpp 31 rfl ?_)
      obtain ⟨⟨x24, rfl, g25⟩, e26⟩ := g23
      have e26 := e26.symm
      subst e26
      have wx24 := ti_full x24
      have g25 : 0 ≤ x24.toInt ∧ x24.toInt ≤ 1 ∧ ((x24.toInt = 1 ∧ (fv Po 302 (5 + 19 * t1.toInt.toNat)).toInt = 1) ∨ (x24.toInt = 0 ∧ (fv Po 302 (5 + 19 * t1.toInt.toNat)).toInt ≠ 1)) := g25
      show MEvP _ none q_142 31 [(0, .ref 301), (1, .int t1), (2, .int t2), (3, .int t3)] [.int x24] _ _ _ _
      refine mp_Tb (t := 41) (j_if_eq dX7_marks_31) (by decide) (fun c27 => ?_) (fun c27 => mpp 34 rfl ?_)
      · have c27 : x24.toInt = 0 := ti_eq c27
        refine mp_a (a_aload_n dX7_marks_41 rfl) (mpp 42 rfl ?_)
        refine mp_a (a_iload_n dX7_marks_42 rfl) (mpp 43 rfl ?_)
        refine mp_a (a_iload_n dX7_marks_43 rfl) (mpp 44 rfl ?_)
        have p28 : 0 ≤ t1.toInt := by omega
        have p29 : t1.toInt ≤ 7 := by omega
        have p30 : 0 ≤ t2.toInt := by omega
        have p31 : t2.toInt ≤ 7 := by omega
        refine mt_callv (i := 92) (q' := q_146) (As := [.int t1, .int t2]) (rest := []) hT dX7_marks_44 rfl qm_146 (by decide) rfl rl_301 (by decide) rfl (Nat.le_of_ble_eq_true rfl) rfl ⟨rfl, rfl⟩ ⟨Nat.le_of_ble_eq_true rfl, Nat.le_of_ble_eq_true rfl⟩ (EvP.mono (by decide) (c_M_creaseOf hT p28 p29 p30 p31 )) (fun r32 P33 g34 => mpp 47 rfl ?_)
        obtain ⟨⟨x35, rfl, g36⟩, e37⟩ := g34
        have e37 := e37.symm
        subst e37
        have wx35 := ti_full x35
        have g36 : x35.toInt = (fv Po 302 (14 + 19 * t1.toInt.toNat + t2.toInt.toNat)).toInt := g36
        show MEvP _ none q_142 47 [(0, .ref 301), (1, .int t1), (2, .int t2), (3, .int t3)] [.int x35] _ _ _ _
        refine mp_a (a_istore (L' := [(4, .int x35), (0, .ref 301), (1, .int t1), (2, .int t2), (3, .int t3)]) dX7_marks_47 (by decide) rfl) (mpp 49 rfl ?_)
        refine mp_a (a_aload_n dX7_marks_49 rfl) (mpp 50 rfl ?_)
        refine mt_getU (i := 9) (k := 0) (A := 302) hT dX7_marks_50 rfl rl_301 (by decide) rfl (by decide) rfl un_18 (mpp 53 rfl ?_)
        refine mp_a (a_iload_n dX7_marks_53 rfl) (mpp 54 rfl ?_)
        refine mp_a (a_bipush (v := 11) dX7_marks_54 rfl) (mpp 56 rfl ?_)
        refine mp_a (a_iload_n dX7_marks_56 rfl) (mpp 57 rfl ?_)
        obtain ⟨z38, h39⟩ := ti_ex (11 + t2 : Int32)
        have wz38 := ti_full z38
        refine mp_t (s_iadd (v := z38) dX7_marks_57 h39) (mpp 58 rfl ?_)
        try have e40 : z38.toInt = 11 + t2.toInt := ti_addz h39 rfl rfl (by omega) (by omega)
        have p41 : 0 ≤ t1.toInt := by omega
        have p42 : t1.toInt ≤ 8 := by omega
        have p43 : 0 ≤ z38.toInt := by omega
        have p44 : z38.toInt ≤ 20 := by omega
        refine mp_calls (i := 74) (q' := q_135) (As := [.int t1, .int z38]) (rest := [.ref 302]) dX7_marks_58 rfl qm_135 (by decide) rfl (Nat.le_of_ble_eq_true rfl) rfl ⟨rfl, rfl⟩ ⟨Nat.le_of_ble_eq_true rfl, Nat.le_of_ble_eq_true rfl⟩ (EvP.mono (by decide) (c_M_at hT p41 p42 p43 p44 )) (fun r45 P46 g47 => mpp 61 rfl ?_)
        obtain ⟨⟨x48, rfl, g49⟩, e50⟩ := g47
        have e50 := e50.symm
        subst e50
        have wx48 := ti_full x48
        have g49 : x48.toInt = 3 + 19 * t1.toInt + z38.toInt := g49
        show MEvP _ none q_142 61 [(4, .int x35), (0, .ref 301), (1, .int t1), (2, .int t2), (3, .int t3)] [.int x48, .ref 302] _ _ _ _
        refine mp_a (a_iload_n dX7_marks_61 rfl) (mpp 62 rfl ?_)
        refine mt_iasX (n := 155) hT dX7_marks_62 rl_302 (by decide) rfl rfl (by omega) (by omega) ssp_0 (okS_mk (by omega) (fun _ => ⟨by omega, by omega⟩) (fun _ => ⟨by omega, by omega⟩)) (fun P51 hT52 f53 f54 f55 => mpp 63 rfl ?_)
        have k56 : KW [1093, 1094, 1152] Po P51 := KW.step KW.refl rl_302 rfl f54 f55
        have R57 := Rel.oth hR f54 (by omega)
        refine mp_a (a_iload dX7_marks_63 rfl) (mpp 65 rfl ?_)
        have u58 : (x35.toInt = -1001 ∧ (t1.toInt < 0 ∨ (fv Po 302 0).toInt ≤ t1.toInt ∨ t2.toInt < 0 ∨ ((fv Po 302 (3 + 19 * t1.toInt.toNat)).toInt = 1 ∧ (fv Po 302 (4 + 19 * t1.toInt.toNat)).toInt ≤ t2.toInt) ∨ ((fv Po 302 (3 + 19 * t1.toInt.toNat)).toInt = 0 ∧ (fv Po 302 (4 + 19 * t1.toInt.toNat)).toInt - 1 ≤ t2.toInt))) ∨ ((0 ≤ t1.toInt ∧ t1.toInt + 1 ≤ (fv Po 302 0).toInt ∧ 0 ≤ t2.toInt ∧ (((fv Po 302 (3 + 19 * t1.toInt.toNat)).toInt = 1 ∧ t2.toInt < (fv Po 302 (4 + 19 * t1.toInt.toNat)).toInt) ∨ ((fv Po 302 (3 + 19 * t1.toInt.toNat)).toInt = 0 ∧ t2.toInt < (fv Po 302 (4 + 19 * t1.toInt.toNat)).toInt - 1))) ∧ x35.toInt = -1002 ∧ (t3.toInt < 0 ∨ 2 < t3.toInt)) ∨ ((0 ≤ t1.toInt ∧ t1.toInt + 1 ≤ (fv Po 302 0).toInt ∧ 0 ≤ t2.toInt ∧ (((fv Po 302 (3 + 19 * t1.toInt.toNat)).toInt = 1 ∧ t2.toInt < (fv Po 302 (4 + 19 * t1.toInt.toNat)).toInt) ∨ ((fv Po 302 (3 + 19 * t1.toInt.toNat)).toInt = 0 ∧ t2.toInt < (fv Po 302 (4 + 19 * t1.toInt.toNat)).toInt - 1))) ∧ 0 ≤ t3.toInt ∧ t3.toInt ≤ 2 ∧ (fv Po 302 (5 + 19 * t1.toInt.toNat)).toInt = 1 ∧ x35.toInt = -1003) ∨ ((0 ≤ t1.toInt ∧ t1.toInt + 1 ≤ (fv Po 302 0).toInt ∧ 0 ≤ t2.toInt ∧ (((fv Po 302 (3 + 19 * t1.toInt.toNat)).toInt = 1 ∧ t2.toInt < (fv Po 302 (4 + 19 * t1.toInt.toNat)).toInt) ∨ ((fv Po 302 (3 + 19 * t1.toInt.toNat)).toInt = 0 ∧ t2.toInt < (fv Po 302 (4 + 19 * t1.toInt.toNat)).toInt - 1))) ∧ 0 ≤ t3.toInt ∧ t3.toInt ≤ 2 ∧ (fv Po 302 (5 + 19 * t1.toInt.toNat)).toInt ≠ 1 ∧ x35.toInt = (fv Po 302 (14 + 19 * t1.toInt.toNat + t2.toInt.toNat)).toInt) := Or.inr (Or.inr (Or.inr ⟨by omega, by omega, by omega, by omega, by omega⟩))
        have u59 : (∀ j : Nat, ¬ j = (14 + 19 * t1.toInt.toNat + t2.toInt.toNat) → fv P51 302 j = fv Po 302 j) := fun j hj => f54 302 j (fun e => hj (e.2.trans (by omega)))
        have u60 : ((((t1.toInt < 0 ∨ (fv Po 302 0).toInt ≤ t1.toInt ∨ t2.toInt < 0 ∨ ((fv Po 302 (3 + 19 * t1.toInt.toNat)).toInt = 1 ∧ (fv Po 302 (4 + 19 * t1.toInt.toNat)).toInt ≤ t2.toInt) ∨ ((fv Po 302 (3 + 19 * t1.toInt.toNat)).toInt = 0 ∧ (fv Po 302 (4 + 19 * t1.toInt.toNat)).toInt - 1 ≤ t2.toInt)) ∨ t3.toInt < 0 ∨ 2 < t3.toInt ∨ (fv Po 302 (5 + 19 * t1.toInt.toNat)).toInt = 1) ∧ fv P51 302 (14 + 19 * t1.toInt.toNat + t2.toInt.toNat) = fv Po 302 (14 + 19 * t1.toInt.toNat + t2.toInt.toNat)) ∨ ((0 ≤ t1.toInt ∧ t1.toInt + 1 ≤ (fv Po 302 0).toInt ∧ 0 ≤ t2.toInt ∧ (((fv Po 302 (3 + 19 * t1.toInt.toNat)).toInt = 1 ∧ t2.toInt < (fv Po 302 (4 + 19 * t1.toInt.toNat)).toInt) ∨ ((fv Po 302 (3 + 19 * t1.toInt.toNat)).toInt = 0 ∧ t2.toInt < (fv Po 302 (4 + 19 * t1.toInt.toNat)).toInt - 1))) ∧ 0 ≤ t3.toInt ∧ t3.toInt ≤ 2 ∧ (fv Po 302 (5 + 19 * t1.toInt.toNat)).toInt ≠ 1 ∧ (fv P51 302 (14 + 19 * t1.toInt.toNat + t2.toInt.toNat)).toInt = t3.toInt)) := Or.inr ⟨by omega, by omega, by omega, by omega, (congrArg (fun k => (fv P51 302 k).toInt) (show (14 + 19 * t1.toInt.toNat + t2.toInt.toNat) = x48.toInt.toNat from by omega)).trans (congrArg Int32.toInt f53)⟩
        have u61 : KI 301 303 Po P51 := by
          intro x j hx
          rw [f54 x j (by omega)]
        exact mp_iret ⟨⟨_, rfl, u58⟩, hT52, k56, R57, ⟨u59, u60, u61⟩⟩ dX7_marks_65 (Or.inl rfl)
      · have c27 : x24.toInt ≠ 0 := ti_eq_n c27
        refine mp_a (a_aload_n dX7_marks_34 rfl) (mpp 35 rfl ?_)
        refine mp_a (a_iconst (v := 2) dX7_marks_35 rfl) (mpp 36 rfl ?_)
        refine mp_a (a_iload_n dX7_marks_36 rfl) (mpp 37 rfl ?_)
        refine mt_callv (i := 101) (q' := q_134) (As := [.int 2, .int t1]) (rest := []) hT dX7_marks_37 rfl qm_134 (by decide) rfl rl_301 (by decide) rfl (Nat.le_of_ble_eq_true rfl) rfl ⟨rfl, rfl⟩ ⟨Nat.le_of_ble_eq_true rfl, Nat.le_of_ble_eq_true rfl⟩ (EvP.mono (by decide) (c_M_refuses hT )) (fun r62 P63 g64 => mpp 40 rfl ?_)
        obtain ⟨⟨x65, rfl, g66⟩, hT67, k68, R69⟩ := g64
        have k70 : KW [1093, 1094, 1152] Po P63 := KW.trans KW.refl k68 rfl
        have R72 := Rel.kw hR k68 rfl
        have wx65 := ti_full x65
        have g66 : x65.toInt = -1003 := g66
        show MEvP _ none q_142 40 [(0, .ref 301), (1, .int t1), (2, .int t2), (3, .int t3)] [.int x65] _ _ _ _
        have u73 : (x65.toInt = -1001 ∧ (t1.toInt < 0 ∨ (fv Po 302 0).toInt ≤ t1.toInt ∨ t2.toInt < 0 ∨ ((fv Po 302 (3 + 19 * t1.toInt.toNat)).toInt = 1 ∧ (fv Po 302 (4 + 19 * t1.toInt.toNat)).toInt ≤ t2.toInt) ∨ ((fv Po 302 (3 + 19 * t1.toInt.toNat)).toInt = 0 ∧ (fv Po 302 (4 + 19 * t1.toInt.toNat)).toInt - 1 ≤ t2.toInt))) ∨ ((0 ≤ t1.toInt ∧ t1.toInt + 1 ≤ (fv Po 302 0).toInt ∧ 0 ≤ t2.toInt ∧ (((fv Po 302 (3 + 19 * t1.toInt.toNat)).toInt = 1 ∧ t2.toInt < (fv Po 302 (4 + 19 * t1.toInt.toNat)).toInt) ∨ ((fv Po 302 (3 + 19 * t1.toInt.toNat)).toInt = 0 ∧ t2.toInt < (fv Po 302 (4 + 19 * t1.toInt.toNat)).toInt - 1))) ∧ x65.toInt = -1002 ∧ (t3.toInt < 0 ∨ 2 < t3.toInt)) ∨ ((0 ≤ t1.toInt ∧ t1.toInt + 1 ≤ (fv Po 302 0).toInt ∧ 0 ≤ t2.toInt ∧ (((fv Po 302 (3 + 19 * t1.toInt.toNat)).toInt = 1 ∧ t2.toInt < (fv Po 302 (4 + 19 * t1.toInt.toNat)).toInt) ∨ ((fv Po 302 (3 + 19 * t1.toInt.toNat)).toInt = 0 ∧ t2.toInt < (fv Po 302 (4 + 19 * t1.toInt.toNat)).toInt - 1))) ∧ 0 ≤ t3.toInt ∧ t3.toInt ≤ 2 ∧ (fv Po 302 (5 + 19 * t1.toInt.toNat)).toInt = 1 ∧ x65.toInt = -1003) ∨ ((0 ≤ t1.toInt ∧ t1.toInt + 1 ≤ (fv Po 302 0).toInt ∧ 0 ≤ t2.toInt ∧ (((fv Po 302 (3 + 19 * t1.toInt.toNat)).toInt = 1 ∧ t2.toInt < (fv Po 302 (4 + 19 * t1.toInt.toNat)).toInt) ∨ ((fv Po 302 (3 + 19 * t1.toInt.toNat)).toInt = 0 ∧ t2.toInt < (fv Po 302 (4 + 19 * t1.toInt.toNat)).toInt - 1))) ∧ 0 ≤ t3.toInt ∧ t3.toInt ≤ 2 ∧ (fv Po 302 (5 + 19 * t1.toInt.toNat)).toInt ≠ 1 ∧ x65.toInt = (fv Po 302 (14 + 19 * t1.toInt.toNat + t2.toInt.toNat)).toInt) := Or.inr (Or.inr (Or.inl ⟨by omega, by omega, by omega, by omega, by omega⟩))
        have u74 : (∀ j : Nat, ¬ j = (14 + 19 * t1.toInt.toNat + t2.toInt.toNat) → fv P63 302 j = fv Po 302 j) := fun j _ => R69 302 j (by omega)
        have u75 : ((((t1.toInt < 0 ∨ (fv Po 302 0).toInt ≤ t1.toInt ∨ t2.toInt < 0 ∨ ((fv Po 302 (3 + 19 * t1.toInt.toNat)).toInt = 1 ∧ (fv Po 302 (4 + 19 * t1.toInt.toNat)).toInt ≤ t2.toInt) ∨ ((fv Po 302 (3 + 19 * t1.toInt.toNat)).toInt = 0 ∧ (fv Po 302 (4 + 19 * t1.toInt.toNat)).toInt - 1 ≤ t2.toInt)) ∨ t3.toInt < 0 ∨ 2 < t3.toInt ∨ (fv Po 302 (5 + 19 * t1.toInt.toNat)).toInt = 1) ∧ fv P63 302 (14 + 19 * t1.toInt.toNat + t2.toInt.toNat) = fv Po 302 (14 + 19 * t1.toInt.toNat + t2.toInt.toNat)) ∨ ((0 ≤ t1.toInt ∧ t1.toInt + 1 ≤ (fv Po 302 0).toInt ∧ 0 ≤ t2.toInt ∧ (((fv Po 302 (3 + 19 * t1.toInt.toNat)).toInt = 1 ∧ t2.toInt < (fv Po 302 (4 + 19 * t1.toInt.toNat)).toInt) ∨ ((fv Po 302 (3 + 19 * t1.toInt.toNat)).toInt = 0 ∧ t2.toInt < (fv Po 302 (4 + 19 * t1.toInt.toNat)).toInt - 1))) ∧ 0 ≤ t3.toInt ∧ t3.toInt ≤ 2 ∧ (fv Po 302 (5 + 19 * t1.toInt.toNat)).toInt ≠ 1 ∧ (fv P63 302 (14 + 19 * t1.toInt.toNat + t2.toInt.toNat)).toInt = t3.toInt)) := Or.inl ⟨by omega, R69 302 _ (by omega)⟩
        have u76 : KI 301 303 Po P63 := by
          intro x j hx
          rw [R69 x j (by omega)]
        exact mp_iret ⟨⟨_, rfl, u73⟩, hT67, k70, R72, ⟨u74, u75, u76⟩⟩ dX7_marks_40 (Or.inl rfl)
    · have c18 : x15.toInt = 0 := ti_ne_n c18
      refine mp_a (a_sipush (v := -1002) dX7_marks_22 rfl) (mpp 25 rfl ?_)
      have u77 : ((-1002 : Int) = -1001 ∧ (t1.toInt < 0 ∨ (fv Po 302 0).toInt ≤ t1.toInt ∨ t2.toInt < 0 ∨ ((fv Po 302 (3 + 19 * t1.toInt.toNat)).toInt = 1 ∧ (fv Po 302 (4 + 19 * t1.toInt.toNat)).toInt ≤ t2.toInt) ∨ ((fv Po 302 (3 + 19 * t1.toInt.toNat)).toInt = 0 ∧ (fv Po 302 (4 + 19 * t1.toInt.toNat)).toInt - 1 ≤ t2.toInt))) ∨ ((0 ≤ t1.toInt ∧ t1.toInt + 1 ≤ (fv Po 302 0).toInt ∧ 0 ≤ t2.toInt ∧ (((fv Po 302 (3 + 19 * t1.toInt.toNat)).toInt = 1 ∧ t2.toInt < (fv Po 302 (4 + 19 * t1.toInt.toNat)).toInt) ∨ ((fv Po 302 (3 + 19 * t1.toInt.toNat)).toInt = 0 ∧ t2.toInt < (fv Po 302 (4 + 19 * t1.toInt.toNat)).toInt - 1))) ∧ (-1002 : Int) = -1002 ∧ (t3.toInt < 0 ∨ 2 < t3.toInt)) ∨ ((0 ≤ t1.toInt ∧ t1.toInt + 1 ≤ (fv Po 302 0).toInt ∧ 0 ≤ t2.toInt ∧ (((fv Po 302 (3 + 19 * t1.toInt.toNat)).toInt = 1 ∧ t2.toInt < (fv Po 302 (4 + 19 * t1.toInt.toNat)).toInt) ∨ ((fv Po 302 (3 + 19 * t1.toInt.toNat)).toInt = 0 ∧ t2.toInt < (fv Po 302 (4 + 19 * t1.toInt.toNat)).toInt - 1))) ∧ 0 ≤ t3.toInt ∧ t3.toInt ≤ 2 ∧ (fv Po 302 (5 + 19 * t1.toInt.toNat)).toInt = 1 ∧ (-1002 : Int) = -1003) ∨ ((0 ≤ t1.toInt ∧ t1.toInt + 1 ≤ (fv Po 302 0).toInt ∧ 0 ≤ t2.toInt ∧ (((fv Po 302 (3 + 19 * t1.toInt.toNat)).toInt = 1 ∧ t2.toInt < (fv Po 302 (4 + 19 * t1.toInt.toNat)).toInt) ∨ ((fv Po 302 (3 + 19 * t1.toInt.toNat)).toInt = 0 ∧ t2.toInt < (fv Po 302 (4 + 19 * t1.toInt.toNat)).toInt - 1))) ∧ 0 ≤ t3.toInt ∧ t3.toInt ≤ 2 ∧ (fv Po 302 (5 + 19 * t1.toInt.toNat)).toInt ≠ 1 ∧ (-1002 : Int) = (fv Po 302 (14 + 19 * t1.toInt.toNat + t2.toInt.toNat)).toInt) := Or.inr (Or.inl ⟨by omega, rfl, by omega⟩)
      have u78 : (∀ j : Nat, ¬ j = (14 + 19 * t1.toInt.toNat + t2.toInt.toNat) → fv Po 302 j = fv Po 302 j) := fun _ _ => rfl
      have u79 : ((((t1.toInt < 0 ∨ (fv Po 302 0).toInt ≤ t1.toInt ∨ t2.toInt < 0 ∨ ((fv Po 302 (3 + 19 * t1.toInt.toNat)).toInt = 1 ∧ (fv Po 302 (4 + 19 * t1.toInt.toNat)).toInt ≤ t2.toInt) ∨ ((fv Po 302 (3 + 19 * t1.toInt.toNat)).toInt = 0 ∧ (fv Po 302 (4 + 19 * t1.toInt.toNat)).toInt - 1 ≤ t2.toInt)) ∨ t3.toInt < 0 ∨ 2 < t3.toInt ∨ (fv Po 302 (5 + 19 * t1.toInt.toNat)).toInt = 1) ∧ fv Po 302 (14 + 19 * t1.toInt.toNat + t2.toInt.toNat) = fv Po 302 (14 + 19 * t1.toInt.toNat + t2.toInt.toNat)) ∨ ((0 ≤ t1.toInt ∧ t1.toInt + 1 ≤ (fv Po 302 0).toInt ∧ 0 ≤ t2.toInt ∧ (((fv Po 302 (3 + 19 * t1.toInt.toNat)).toInt = 1 ∧ t2.toInt < (fv Po 302 (4 + 19 * t1.toInt.toNat)).toInt) ∨ ((fv Po 302 (3 + 19 * t1.toInt.toNat)).toInt = 0 ∧ t2.toInt < (fv Po 302 (4 + 19 * t1.toInt.toNat)).toInt - 1))) ∧ 0 ≤ t3.toInt ∧ t3.toInt ≤ 2 ∧ (fv Po 302 (5 + 19 * t1.toInt.toNat)).toInt ≠ 1 ∧ (fv Po 302 (14 + 19 * t1.toInt.toNat + t2.toInt.toNat)).toInt = t3.toInt)) := Or.inl ⟨by omega, rfl⟩
      have u80 : KI 301 303 Po Po := fun _ _ _ => rfl
      exact mp_iret ⟨⟨_, rfl, u77⟩, hT, KW.refl, hR, ⟨u78, u79, u80⟩⟩ dX7_marks_25 (Or.inl rfl)
  · have c11 : x8.toInt = 0 := ti_ne_n c11
    refine mp_a (a_sipush (v := -1001) dX7_marks_9 rfl) (mpp 12 rfl ?_)
    have u81 : ((-1001 : Int) = -1001 ∧ (t1.toInt < 0 ∨ (fv Po 302 0).toInt ≤ t1.toInt ∨ t2.toInt < 0 ∨ ((fv Po 302 (3 + 19 * t1.toInt.toNat)).toInt = 1 ∧ (fv Po 302 (4 + 19 * t1.toInt.toNat)).toInt ≤ t2.toInt) ∨ ((fv Po 302 (3 + 19 * t1.toInt.toNat)).toInt = 0 ∧ (fv Po 302 (4 + 19 * t1.toInt.toNat)).toInt - 1 ≤ t2.toInt))) ∨ ((0 ≤ t1.toInt ∧ t1.toInt + 1 ≤ (fv Po 302 0).toInt ∧ 0 ≤ t2.toInt ∧ (((fv Po 302 (3 + 19 * t1.toInt.toNat)).toInt = 1 ∧ t2.toInt < (fv Po 302 (4 + 19 * t1.toInt.toNat)).toInt) ∨ ((fv Po 302 (3 + 19 * t1.toInt.toNat)).toInt = 0 ∧ t2.toInt < (fv Po 302 (4 + 19 * t1.toInt.toNat)).toInt - 1))) ∧ (-1001 : Int) = -1002 ∧ (t3.toInt < 0 ∨ 2 < t3.toInt)) ∨ ((0 ≤ t1.toInt ∧ t1.toInt + 1 ≤ (fv Po 302 0).toInt ∧ 0 ≤ t2.toInt ∧ (((fv Po 302 (3 + 19 * t1.toInt.toNat)).toInt = 1 ∧ t2.toInt < (fv Po 302 (4 + 19 * t1.toInt.toNat)).toInt) ∨ ((fv Po 302 (3 + 19 * t1.toInt.toNat)).toInt = 0 ∧ t2.toInt < (fv Po 302 (4 + 19 * t1.toInt.toNat)).toInt - 1))) ∧ 0 ≤ t3.toInt ∧ t3.toInt ≤ 2 ∧ (fv Po 302 (5 + 19 * t1.toInt.toNat)).toInt = 1 ∧ (-1001 : Int) = -1003) ∨ ((0 ≤ t1.toInt ∧ t1.toInt + 1 ≤ (fv Po 302 0).toInt ∧ 0 ≤ t2.toInt ∧ (((fv Po 302 (3 + 19 * t1.toInt.toNat)).toInt = 1 ∧ t2.toInt < (fv Po 302 (4 + 19 * t1.toInt.toNat)).toInt) ∨ ((fv Po 302 (3 + 19 * t1.toInt.toNat)).toInt = 0 ∧ t2.toInt < (fv Po 302 (4 + 19 * t1.toInt.toNat)).toInt - 1))) ∧ 0 ≤ t3.toInt ∧ t3.toInt ≤ 2 ∧ (fv Po 302 (5 + 19 * t1.toInt.toNat)).toInt ≠ 1 ∧ (-1001 : Int) = (fv Po 302 (14 + 19 * t1.toInt.toNat + t2.toInt.toNat)).toInt) := Or.inl ⟨rfl, by omega⟩
    have u82 : (∀ j : Nat, ¬ j = (14 + 19 * t1.toInt.toNat + t2.toInt.toNat) → fv Po 302 j = fv Po 302 j) := fun _ _ => rfl
    have u83 : ((((t1.toInt < 0 ∨ (fv Po 302 0).toInt ≤ t1.toInt ∨ t2.toInt < 0 ∨ ((fv Po 302 (3 + 19 * t1.toInt.toNat)).toInt = 1 ∧ (fv Po 302 (4 + 19 * t1.toInt.toNat)).toInt ≤ t2.toInt) ∨ ((fv Po 302 (3 + 19 * t1.toInt.toNat)).toInt = 0 ∧ (fv Po 302 (4 + 19 * t1.toInt.toNat)).toInt - 1 ≤ t2.toInt)) ∨ t3.toInt < 0 ∨ 2 < t3.toInt ∨ (fv Po 302 (5 + 19 * t1.toInt.toNat)).toInt = 1) ∧ fv Po 302 (14 + 19 * t1.toInt.toNat + t2.toInt.toNat) = fv Po 302 (14 + 19 * t1.toInt.toNat + t2.toInt.toNat)) ∨ ((0 ≤ t1.toInt ∧ t1.toInt + 1 ≤ (fv Po 302 0).toInt ∧ 0 ≤ t2.toInt ∧ (((fv Po 302 (3 + 19 * t1.toInt.toNat)).toInt = 1 ∧ t2.toInt < (fv Po 302 (4 + 19 * t1.toInt.toNat)).toInt) ∨ ((fv Po 302 (3 + 19 * t1.toInt.toNat)).toInt = 0 ∧ t2.toInt < (fv Po 302 (4 + 19 * t1.toInt.toNat)).toInt - 1))) ∧ 0 ≤ t3.toInt ∧ t3.toInt ≤ 2 ∧ (fv Po 302 (5 + 19 * t1.toInt.toNat)).toInt ≠ 1 ∧ (fv Po 302 (14 + 19 * t1.toInt.toNat + t2.toInt.toNat)).toInt = t3.toInt)) := Or.inl ⟨by omega, rfl⟩
    have u84 : KI 301 303 Po Po := fun _ _ _ => rfl
    exact mp_iret ⟨⟨_, rfl, u81⟩, hT, KW.refl, hR, ⟨u82, u83, u84⟩⟩ dX7_marks_12 (Or.inl rfl)

set_option maxHeartbeats 4000000 in
theorem c_M_mark {Po : mP} {t1 : Int32} {t2 : Int32} {t3 : Int32} (hT : Typ Po) (hR : Rel Po)  : EvP 7 141 [.ref 301, .int t1, .int t2, .int t3] Po (fun r P' => (∃ x : Int32, r = some (.int x) ∧ (True)) ∧ Typ P' ∧ KW [1092, 1093, 1094, 1095, 1152, 1216, 1344] Po P' ∧ Rel P') := by
  refine EvP.of qm_141 (Nat.le_of_ble_eq_true rfl) rfl ?_
  show MEvP _ none q_141 0 [(0, .ref 301), (1, .int t1), (2, .int t2), (3, .int t3)] [] _ 0 0 _
  refine mp_a (a_aload_n dX7_mark_0 rfl) (mpp 1 rfl ?_)
  refine mt_callv (i := 117) (q' := q_124) (As := []) (rest := []) hT dX7_mark_1 rfl qm_124 (by decide) rfl rl_301 (by decide) rfl (Nat.le_of_ble_eq_true rfl) rfl ⟨rfl, rfl⟩ ⟨Nat.le_of_ble_eq_true rfl, Nat.le_of_ble_eq_true rfl⟩ (EvP.mono (by decide) (c_M_keeps hT hR )) (fun r1 P2 g3 => mpp 4 rfl ?_)
  obtain ⟨⟨rfl, g5⟩, hT6, k7, R8r, R8⟩ := g3
  have k9 : KW [1092, 1093, 1094, 1095, 1152, 1216, 1344] Po P2 := KW.trans KW.refl k7 rfl
  show MEvP _ none q_141 4 [(0, .ref 301), (1, .int t1), (2, .int t2), (3, .int t3)] [] _ _ _ _
  refine mp_a (a_aload_n dX7_mark_4 rfl) (mpp 5 rfl ?_)
  refine mp_a (a_aload_n dX7_mark_5 rfl) (mpp 6 rfl ?_)
  refine mp_a (a_iload_n dX7_mark_6 rfl) (mpp 7 rfl ?_)
  refine mp_a (a_iload_n dX7_mark_7 rfl) (mpp 8 rfl ?_)
  refine mp_a (a_iload_n dX7_mark_8 rfl) (mpp 9 rfl ?_)
  refine mt_callv (i := 133) (q' := q_142) (As := [.int t1, .int t2, .int t3]) (rest := [.ref 301]) hT6 dX7_mark_9 rfl qm_142 (by decide) rfl rl_301 (by decide) rfl (Nat.le_of_ble_eq_true rfl) rfl ⟨rfl, rfl⟩ ⟨Nat.le_of_ble_eq_true rfl, Nat.le_of_ble_eq_true rfl⟩ (EvP.mono (by decide) (c_M_marks hT6 R8r )) (fun r11 P12 g13 => mpp 12 rfl ?_)
  obtain ⟨⟨x14, rfl, g15⟩, hT16, k17, R18r, R18⟩ := g13
  have k19 : KW [1092, 1093, 1094, 1095, 1152, 1216, 1344] Po P12 := KW.trans k9 k17 rfl
  have wx14 := ti_full x14
  have g15 : (x14.toInt = -1001 ∧ (t1.toInt < 0 ∨ (fv P2 302 0).toInt ≤ t1.toInt ∨ t2.toInt < 0 ∨ ((fv P2 302 (3 + 19 * t1.toInt.toNat)).toInt = 1 ∧ (fv P2 302 (4 + 19 * t1.toInt.toNat)).toInt ≤ t2.toInt) ∨ ((fv P2 302 (3 + 19 * t1.toInt.toNat)).toInt = 0 ∧ (fv P2 302 (4 + 19 * t1.toInt.toNat)).toInt - 1 ≤ t2.toInt))) ∨ ((0 ≤ t1.toInt ∧ t1.toInt + 1 ≤ (fv P2 302 0).toInt ∧ 0 ≤ t2.toInt ∧ (((fv P2 302 (3 + 19 * t1.toInt.toNat)).toInt = 1 ∧ t2.toInt < (fv P2 302 (4 + 19 * t1.toInt.toNat)).toInt) ∨ ((fv P2 302 (3 + 19 * t1.toInt.toNat)).toInt = 0 ∧ t2.toInt < (fv P2 302 (4 + 19 * t1.toInt.toNat)).toInt - 1))) ∧ x14.toInt = -1002 ∧ (t3.toInt < 0 ∨ 2 < t3.toInt)) ∨ ((0 ≤ t1.toInt ∧ t1.toInt + 1 ≤ (fv P2 302 0).toInt ∧ 0 ≤ t2.toInt ∧ (((fv P2 302 (3 + 19 * t1.toInt.toNat)).toInt = 1 ∧ t2.toInt < (fv P2 302 (4 + 19 * t1.toInt.toNat)).toInt) ∨ ((fv P2 302 (3 + 19 * t1.toInt.toNat)).toInt = 0 ∧ t2.toInt < (fv P2 302 (4 + 19 * t1.toInt.toNat)).toInt - 1))) ∧ 0 ≤ t3.toInt ∧ t3.toInt ≤ 2 ∧ (fv P2 302 (5 + 19 * t1.toInt.toNat)).toInt = 1 ∧ x14.toInt = -1003) ∨ ((0 ≤ t1.toInt ∧ t1.toInt + 1 ≤ (fv P2 302 0).toInt ∧ 0 ≤ t2.toInt ∧ (((fv P2 302 (3 + 19 * t1.toInt.toNat)).toInt = 1 ∧ t2.toInt < (fv P2 302 (4 + 19 * t1.toInt.toNat)).toInt) ∨ ((fv P2 302 (3 + 19 * t1.toInt.toNat)).toInt = 0 ∧ t2.toInt < (fv P2 302 (4 + 19 * t1.toInt.toNat)).toInt - 1))) ∧ 0 ≤ t3.toInt ∧ t3.toInt ≤ 2 ∧ (fv P2 302 (5 + 19 * t1.toInt.toNat)).toInt ≠ 1 ∧ x14.toInt = (fv P2 302 (14 + 19 * t1.toInt.toNat + t2.toInt.toNat)).toInt) := g15
  have g21 : (0 : Int) ≤ (fv P2 302 0).toInt ∧ (fv P2 302 0).toInt ≤ 8 := Typ.rng hT6 rl_302 (by decide) (by decide) rfl
  have g22 := ti_full (fv P2 302 (3 + 19 * t1.toInt.toNat))
  have g23 := ti_full (fv P2 302 (4 + 19 * t1.toInt.toNat))
  have g24 := ti_full (fv P2 302 (5 + 19 * t1.toInt.toNat))
  show MEvP _ none q_141 12 [(0, .ref 301), (1, .int t1), (2, .int t2), (3, .int t3)] [.int x14, .ref 301] _ _ _ _
  refine mt_callv (i := 124) (q' := q_139) (As := [.int x14]) (rest := []) hT16 dX7_mark_12 rfl qm_139 (by decide) rfl rl_301 (by decide) rfl (Nat.le_of_ble_eq_true rfl) rfl ⟨rfl, rfl⟩ ⟨Nat.le_of_ble_eq_true rfl, Nat.le_of_ble_eq_true rfl⟩ (EvP.mono (by decide) (c_M_ends hT16 R18r )) (fun r25 P26 g27 => mpp 15 rfl ?_)
  obtain ⟨⟨x28, rfl, g29⟩, hT30, k31, R32r, R32⟩ := g27
  have k33 : KW [1092, 1093, 1094, 1095, 1152, 1216, 1344] Po P26 := KW.trans k19 k31 rfl
  have wx28 := ti_full x28
  have g29 : x28.toInt = x14.toInt := g29
  show MEvP _ none q_141 15 [(0, .ref 301), (1, .int t1), (2, .int t2), (3, .int t3)] [.int x28] _ _ _ _
  exact mp_iret ⟨⟨_, rfl, trivial⟩, hT30, k33, R32r⟩ dX7_mark_15 (Or.inl rfl)

set_option maxHeartbeats 4000000 in
theorem c_M_countOf_l5 {Po : mP} {t1 : Int32} {t2 : Int32} (hT : Typ Po)  (hp0 : 0 ≤ t1.toInt) (hp1 : t1.toInt ≤ 7)  : ∀ (n : Nat) (v3 : Int32) (v4 : Int32), (v3.toInt ≤ 0 ∨ UD Po t1.toInt.toNat t2.toInt) → (0 ≤ v3.toInt) → (v3.toInt ≤ v4.toInt) → (v4.toInt ≤ 8) → (0 ≤ v4.toInt) → (2147483647 - v4.toInt).toNat = n → MEvP 4 none q_149 5 [(0, .ref 301), (1, .int t1), (2, .int t2), (3, .int v3), (4, .int v4)] [] Po 0 0 (fun r P' => (∃ x : Int32, r = some (.int x) ∧ ((x.toInt ≤ 0 ∨ UD Po t1.toInt.toNat t2.toInt) ∧ 0 ≤ x.toInt ∧ x.toInt ≤ 8)) ∧ P' = Po) := by
  intro n
  induction n using Nat.strongRecOn with | _ n ih => ?_
  intro v3 v4 i_0 i_1 i_2 i_3 i_4 hm
  have w_t1 := ti_full t1
  have w_t2 := ti_full t2
  have w_v3 := ti_full v3
  have w_v4 := ti_full v4
  refine mp_a (a_iload dX7_countOf_5 rfl) (mpp 7 rfl ?_)
  refine mp_a (a_aload_n dX7_countOf_7 rfl) (mpp 8 rfl ?_)
  refine mp_a (a_iload_n dX7_countOf_8 rfl) (mpp 9 rfl ?_)
  have p1 : 0 ≤ t1.toInt := by omega
  have p2 : t1.toInt ≤ 7 := by omega
  refine mt_callv (i := 88) (q' := q_136) (As := [.int t1]) (rest := [.int v4]) hT dX7_countOf_9 rfl qm_136 (by decide) rfl rl_301 (by decide) rfl (Nat.le_of_ble_eq_true rfl) rfl ⟨rfl, rfl⟩ ⟨Nat.le_of_ble_eq_true rfl, Nat.le_of_ble_eq_true rfl⟩ (EvP.mono (by decide) (c_M_creases hT p1 p2 )) (fun r3 P4 g5 => mpp 12 rfl ?_)
  obtain ⟨⟨x6, rfl, g7⟩, e8⟩ := g5
  have e8 := e8.symm
  subst e8
  have wx6 := ti_full x6
  have g7 : -1 ≤ x6.toInt ∧ x6.toInt ≤ 8 ∧ (((fv Po 302 (3 + 19 * t1.toInt.toNat)).toInt = 1 ∧ x6.toInt = (fv Po 302 (4 + 19 * t1.toInt.toNat)).toInt) ∨ ((fv Po 302 (3 + 19 * t1.toInt.toNat)).toInt = 0 ∧ x6.toInt = (fv Po 302 (4 + 19 * t1.toInt.toNat)).toInt - 1)) := g7
  have g9 := ti_full (fv Po 302 (3 + 19 * t1.toInt.toNat))
  have g10 := ti_full (fv Po 302 (4 + 19 * t1.toInt.toNat))
  show MEvP _ none q_149 12 [(0, .ref 301), (1, .int t1), (2, .int t2), (3, .int v3), (4, .int v4)] [.int x6, .int v4] _ _ _ _
  refine mp_Tb (t := 40) (j_icmp_ge dX7_countOf_12) (by decide) (fun c11 => ?_) (fun c11 => mpp 15 rfl ?_)
  · have c11 : v4.toInt ≥ x6.toInt := ti_ge c11
    refine mp_a (a_iload_n dX7_countOf_40 rfl) (mpp 41 rfl ?_)
    have u12 : (v3.toInt ≤ 0 ∨ UD Po t1.toInt.toNat t2.toInt) ∧ 0 ≤ v3.toInt ∧ v3.toInt ≤ 8 := ⟨i_0, by omega, by omega⟩
    exact mp_iret ⟨⟨_, rfl, u12⟩, rfl⟩ dX7_countOf_41 (Or.inl rfl)
  · have c11 : v4.toInt < x6.toInt := ti_ge_n c11
    refine mp_a (a_iload_n dX7_countOf_15 rfl) (mpp 16 rfl ?_)
    refine mp_a (a_aload_n dX7_countOf_16 rfl) (mpp 17 rfl ?_)
    refine mp_a (a_iload_n dX7_countOf_17 rfl) (mpp 18 rfl ?_)
    refine mp_a (a_iload dX7_countOf_18 rfl) (mpp 20 rfl ?_)
    have p13 : 0 ≤ t1.toInt := by omega
    have p14 : t1.toInt ≤ 7 := by omega
    have p15 : 0 ≤ v4.toInt := by omega
    have p16 : v4.toInt ≤ 7 := by omega
    refine mt_callv (i := 92) (q' := q_146) (As := [.int t1, .int v4]) (rest := [.int v3]) hT dX7_countOf_20 rfl qm_146 (by decide) rfl rl_301 (by decide) rfl (Nat.le_of_ble_eq_true rfl) rfl ⟨rfl, rfl⟩ ⟨Nat.le_of_ble_eq_true rfl, Nat.le_of_ble_eq_true rfl⟩ (EvP.mono (by decide) (c_M_creaseOf hT p13 p14 p15 p16 )) (fun r17 P18 g19 => mpp 23 rfl ?_)
    obtain ⟨⟨x20, rfl, g21⟩, e22⟩ := g19
    have e22 := e22.symm
    subst e22
    have wx20 := ti_full x20
    have g21 : x20.toInt = (fv Po 302 (14 + 19 * t1.toInt.toNat + v4.toInt.toNat)).toInt := g21
    show MEvP _ none q_149 23 [(0, .ref 301), (1, .int t1), (2, .int t2), (3, .int v3), (4, .int v4)] [.int x20, .int v3] _ _ _ _
    refine mp_a (a_iload_n dX7_countOf_23 rfl) (mpp 24 rfl ?_)
    refine mp_Tb (t := 31) (j_icmp_ne dX7_countOf_24) (by decide) (fun c23 => ?_) (fun c23 => mpp 27 rfl ?_)
    · have c23 : x20.toInt ≠ t2.toInt := ti_ne c23
      refine mp_a (a_iconst (v := 0) dX7_countOf_31 rfl) (mpp 32 rfl ?_)
      obtain ⟨z24, h25⟩ := ti_ex (v3 + 0 : Int32)
      have wz24 := ti_full z24
      refine mp_t (s_iadd (v := z24) dX7_countOf_32 h25) (mpp 33 rfl ?_)
      try have e26 : z24.toInt = v3.toInt + 0 := ti_addz h25 rfl rfl (by omega) (by omega)
      refine mp_a (a_istore_n (L' := [(3, .int z24), (0, .ref 301), (1, .int t1), (2, .int t2), (4, .int v4)]) dX7_countOf_33 (by decide) rfl) (mpp 34 rfl ?_)
      obtain ⟨z27, h28⟩ := ti_ex (v4 + 1 : Int32)
      have wz27 := ti_full z27
      refine mp_a (a_iinc (v := z27) (L' := [(4, .int z27), (3, .int z24), (0, .ref 301), (1, .int t1), (2, .int t2)]) dX7_countOf_34 (by decide) rfl h28 rfl) (mpp 37 rfl ?_)
      try have e29 : z27.toInt = v4.toInt + 1 := ti_addz h28 rfl rfl (by omega) (by omega)
      refine mp_a (a_goto (t := 5) dX7_countOf_37 (by decide)) ?_
      refine MEvP.less (L := [(0, .ref 301), (1, .int t1), (2, .int t2), (3, .int z24), (4, .int z27)]) rfl rfl ⟨rfl, rfl, rfl, rfl, rfl, trivial⟩ ?_
      have i30 : z24.toInt ≤ 0 ∨ UD Po t1.toInt.toNat t2.toInt := by first | exact Or.inl (by omega) | exact Or.inr ⟨v4.toInt.toNat, by omega, by omega⟩ | exact i_0.imp (fun h => by omega) id
      have i31 : 0 ≤ z24.toInt := by omega
      have i32 : z24.toInt ≤ z27.toInt := by omega
      have i33 : z27.toInt ≤ 8 := by omega
      have i34 : 0 ≤ z27.toInt := by omega
      exact ih _ (by omega) _ _ i30 i31 i32 i33 i34 rfl
    · have c23 : x20.toInt = t2.toInt := ti_ne_n c23
      refine mp_a (a_iconst (v := 1) dX7_countOf_27 rfl) (mpp 28 rfl ?_)
      refine mp_a (a_goto (t := 32) dX7_countOf_28 (by decide)) ?_
      obtain ⟨z35, h36⟩ := ti_ex (v3 + 1 : Int32)
      have wz35 := ti_full z35
      refine mp_t (s_iadd (v := z35) dX7_countOf_32 h36) (mpp 33 rfl ?_)
      try have e37 : z35.toInt = v3.toInt + 1 := ti_addz h36 rfl rfl (by omega) (by omega)
      refine mp_a (a_istore_n (L' := [(3, .int z35), (0, .ref 301), (1, .int t1), (2, .int t2), (4, .int v4)]) dX7_countOf_33 (by decide) rfl) (mpp 34 rfl ?_)
      obtain ⟨z38, h39⟩ := ti_ex (v4 + 1 : Int32)
      have wz38 := ti_full z38
      refine mp_a (a_iinc (v := z38) (L' := [(4, .int z38), (3, .int z35), (0, .ref 301), (1, .int t1), (2, .int t2)]) dX7_countOf_34 (by decide) rfl h39 rfl) (mpp 37 rfl ?_)
      try have e40 : z38.toInt = v4.toInt + 1 := ti_addz h39 rfl rfl (by omega) (by omega)
      refine mp_a (a_goto (t := 5) dX7_countOf_37 (by decide)) ?_
      refine MEvP.less (L := [(0, .ref 301), (1, .int t1), (2, .int t2), (3, .int z35), (4, .int z38)]) rfl rfl ⟨rfl, rfl, rfl, rfl, rfl, trivial⟩ ?_
      have i41 : z35.toInt ≤ 0 ∨ UD Po t1.toInt.toNat t2.toInt := by first | exact Or.inl (by omega) | exact Or.inr ⟨v4.toInt.toNat, by omega, by omega⟩ | exact i_0.imp (fun h => by omega) id
      have i42 : 0 ≤ z35.toInt := by omega
      have i43 : z35.toInt ≤ z38.toInt := by omega
      have i44 : z38.toInt ≤ 8 := by omega
      have i45 : 0 ≤ z38.toInt := by omega
      exact ih _ (by omega) _ _ i41 i42 i43 i44 i45 rfl

set_option maxHeartbeats 4000000 in
theorem c_M_countOf {Po : mP} {t1 : Int32} {t2 : Int32} (hT : Typ Po)  (hp0 : 0 ≤ t1.toInt) (hp1 : t1.toInt ≤ 7)  : EvP 5 149 [.ref 301, .int t1, .int t2] Po (fun r P' => (∃ x : Int32, r = some (.int x) ∧ ((x.toInt ≤ 0 ∨ UD Po t1.toInt.toNat t2.toInt) ∧ 0 ≤ x.toInt ∧ x.toInt ≤ 8)) ∧ P' = Po) := by
  refine EvP.of qm_149 (Nat.le_of_ble_eq_true rfl) rfl ?_
  show MEvP _ none q_149 0 [(0, .ref 301), (1, .int t1), (2, .int t2)] [] _ 0 0 _
  refine mp_a (a_iconst (v := 0) dX7_countOf_0 rfl) (mpp 1 rfl ?_)
  refine mp_a (a_istore_n (L' := [(3, .int 0), (0, .ref 301), (1, .int t1), (2, .int t2)]) dX7_countOf_1 (by decide) rfl) (mpp 2 rfl ?_)
  refine mp_a (a_iconst (v := 0) dX7_countOf_2 rfl) (mpp 3 rfl ?_)
  refine mp_a (a_istore (L' := [(4, .int 0), (3, .int 0), (0, .ref 301), (1, .int t1), (2, .int t2)]) dX7_countOf_3 (by decide) rfl) (mpp 5 rfl ?_)
  refine MEvP.less (L := [(0, .ref 301), (1, .int t1), (2, .int t2), (3, .int 0), (4, .int 0)]) rfl rfl ⟨rfl, rfl, rfl, rfl, rfl, trivial⟩ ?_
  have i1 : (0 : Int) ≤ 0 ∨ UD Po t1.toInt.toNat t2.toInt := Or.inl (by omega)
  have i2 : 0 ≤ (0 : Int) := by omega
  have i3 : (0 : Int) ≤ (0 : Int) := by omega
  have i4 : (0 : Int) ≤ 8 := by omega
  have i5 : 0 ≤ (0 : Int) := by omega
  exact c_M_countOf_l5 hT  hp0 hp1 _ _ _ i1 i2 i3 i4 i5 rfl

set_option maxHeartbeats 4000000 in
theorem c_M_turns_l29 {Po : mP} {t1 : Int32}  : ∀ (n : Nat) (v2 : Int32), ∀ (P : mP), Typ P → KW [1093, 1094, 1152] Po P → Rel P → (0 ≤ t1.toInt) → (t1.toInt ≤ 7) → (0 ≤ v2.toInt) → (2147483647 - v2.toInt).toNat = n → MEvP 5 none q_148 29 [(0, .ref 301), (1, .int t1), (2, .int v2)] [] P 0 0 (fun r P' => (∃ x : Int32, r = some (.int x) ∧ (True)) ∧ Typ P' ∧ KW [1093, 1094, 1152] Po P' ∧ Rel P') := by
  intro n
  induction n using Nat.strongRecOn with | _ n ih => ?_
  intro v2 P hT hK hR i_0 i_1 i_2 hm
  have w_t1 := ti_full t1
  have w_v2 := ti_full v2
  refine mp_a (a_iload_n dX7_turns_29 rfl) (mpp 30 rfl ?_)
  refine mp_a (a_aload_n dX7_turns_30 rfl) (mpp 31 rfl ?_)
  refine mp_a (a_iload_n dX7_turns_31 rfl) (mpp 32 rfl ?_)
  have p1 : 0 ≤ t1.toInt := by omega
  have p2 : t1.toInt ≤ 7 := by omega
  refine mt_callv (i := 88) (q' := q_136) (As := [.int t1]) (rest := [.int v2]) hT dX7_turns_32 rfl qm_136 (by decide) rfl rl_301 (by decide) rfl (Nat.le_of_ble_eq_true rfl) rfl ⟨rfl, rfl⟩ ⟨Nat.le_of_ble_eq_true rfl, Nat.le_of_ble_eq_true rfl⟩ (EvP.mono (by decide) (c_M_creases hT p1 p2 )) (fun r3 P4 g5 => mpp 35 rfl ?_)
  obtain ⟨⟨x6, rfl, g7⟩, e8⟩ := g5
  have e8 := e8.symm
  subst e8
  have wx6 := ti_full x6
  have g7 : -1 ≤ x6.toInt ∧ x6.toInt ≤ 8 ∧ (((fv P 302 (3 + 19 * t1.toInt.toNat)).toInt = 1 ∧ x6.toInt = (fv P 302 (4 + 19 * t1.toInt.toNat)).toInt) ∨ ((fv P 302 (3 + 19 * t1.toInt.toNat)).toInt = 0 ∧ x6.toInt = (fv P 302 (4 + 19 * t1.toInt.toNat)).toInt - 1)) := g7
  have g9 := ti_full (fv P 302 (3 + 19 * t1.toInt.toNat))
  have g10 := ti_full (fv P 302 (4 + 19 * t1.toInt.toNat))
  show MEvP _ none q_148 35 [(0, .ref 301), (1, .int t1), (2, .int v2)] [.int x6, .int v2] _ _ _ _
  refine mp_Tb (t := 75) (j_icmp_ge dX7_turns_35) (by decide) (fun c11 => ?_) (fun c11 => mpp 38 rfl ?_)
  · have c11 : v2.toInt ≥ x6.toInt := ti_ge c11
    refine mp_a (a_aload_n dX7_turns_75 rfl) (mpp 76 rfl ?_)
    refine mp_a (a_iload_n dX7_turns_76 rfl) (mpp 77 rfl ?_)
    have p12 : 0 ≤ t1.toInt := by omega
    have p13 : t1.toInt ≤ 7 := by omega
    refine mt_callv (i := 88) (q' := q_136) (As := [.int t1]) (rest := []) hT dX7_turns_77 rfl qm_136 (by decide) rfl rl_301 (by decide) rfl (Nat.le_of_ble_eq_true rfl) rfl ⟨rfl, rfl⟩ ⟨Nat.le_of_ble_eq_true rfl, Nat.le_of_ble_eq_true rfl⟩ (EvP.mono (by decide) (c_M_creases hT p12 p13 )) (fun r14 P15 g16 => mpp 80 rfl ?_)
    obtain ⟨⟨x17, rfl, g18⟩, e19⟩ := g16
    have e19 := e19.symm
    subst e19
    have wx17 := ti_full x17
    have g18 : -1 ≤ x17.toInt ∧ x17.toInt ≤ 8 ∧ (((fv P 302 (3 + 19 * t1.toInt.toNat)).toInt = 1 ∧ x17.toInt = (fv P 302 (4 + 19 * t1.toInt.toNat)).toInt) ∨ ((fv P 302 (3 + 19 * t1.toInt.toNat)).toInt = 0 ∧ x17.toInt = (fv P 302 (4 + 19 * t1.toInt.toNat)).toInt - 1)) := g18
    show MEvP _ none q_148 80 [(0, .ref 301), (1, .int t1), (2, .int v2)] [.int x17] _ _ _ _
    refine mp_a (a_aload_n dX7_turns_80 rfl) (mpp 81 rfl ?_)
    refine mp_a (a_iload_n dX7_turns_81 rfl) (mpp 82 rfl ?_)
    refine mp_a (a_iconst (v := 0) dX7_turns_82 rfl) (mpp 83 rfl ?_)
    have p20 : 0 ≤ t1.toInt := by omega
    have p21 : t1.toInt ≤ 7 := by omega
    refine mt_callv (i := 136) (q' := q_149) (As := [.int t1, .int 0]) (rest := [.int x17]) hT dX7_turns_83 rfl qm_149 (by decide) rfl rl_301 (by decide) rfl (Nat.le_of_ble_eq_true rfl) rfl ⟨rfl, rfl⟩ ⟨Nat.le_of_ble_eq_true rfl, Nat.le_of_ble_eq_true rfl⟩ (EvP.mono (by decide) (c_M_countOf hT p20 p21 )) (fun r22 P23 g24 => mpp 86 rfl ?_)
    obtain ⟨⟨x25, rfl, g26⟩, e27⟩ := g24
    have e27 := e27.symm
    subst e27
    have wx25 := ti_full x25
    have g26 : (x25.toInt ≤ 0 ∨ UD P t1.toInt.toNat (0 : Int)) ∧ 0 ≤ x25.toInt ∧ x25.toInt ≤ 8 := g26
    show MEvP _ none q_148 86 [(0, .ref 301), (1, .int t1), (2, .int v2)] [.int x25, .int x17] _ _ _ _
    obtain ⟨z28, h29⟩ := ti_ex (x17 - x25 : Int32)
    have wz28 := ti_full z28
    refine mp_t (s_isub (v := z28) dX7_turns_86 h29) (mpp 87 rfl ?_)
    try have e30 : z28.toInt = x17.toInt - x25.toInt := ti_subz h29 rfl rfl (by omega) (by omega)
    exact mp_iret ⟨⟨_, rfl, trivial⟩, hT, hK, hR⟩ dX7_turns_87 (Or.inl rfl)
  · have c11 : v2.toInt < x6.toInt := ti_ge_n c11
    refine mp_a (a_aload_n dX7_turns_38 rfl) (mpp 39 rfl ?_)
    refine mp_a (a_iload_n dX7_turns_39 rfl) (mpp 40 rfl ?_)
    refine mp_a (a_iload_n dX7_turns_40 rfl) (mpp 41 rfl ?_)
    have p31 : 0 ≤ t1.toInt := by omega
    have p32 : t1.toInt ≤ 7 := by omega
    have p33 : 0 ≤ v2.toInt := by omega
    have p34 : v2.toInt ≤ 7 := by omega
    refine mt_callv (i := 92) (q' := q_146) (As := [.int t1, .int v2]) (rest := []) hT dX7_turns_41 rfl qm_146 (by decide) rfl rl_301 (by decide) rfl (Nat.le_of_ble_eq_true rfl) rfl ⟨rfl, rfl⟩ ⟨Nat.le_of_ble_eq_true rfl, Nat.le_of_ble_eq_true rfl⟩ (EvP.mono (by decide) (c_M_creaseOf hT p31 p32 p33 p34 )) (fun r35 P36 g37 => mpp 44 rfl ?_)
    obtain ⟨⟨x38, rfl, g39⟩, e40⟩ := g37
    have e40 := e40.symm
    subst e40
    have wx38 := ti_full x38
    have g39 : x38.toInt = (fv P 302 (14 + 19 * t1.toInt.toNat + v2.toInt.toNat)).toInt := g39
    show MEvP _ none q_148 44 [(0, .ref 301), (1, .int t1), (2, .int v2)] [.int x38] _ _ _ _
    refine mp_a (a_istore_n (L' := [(3, .int x38), (0, .ref 301), (1, .int t1), (2, .int v2)]) dX7_turns_44 (by decide) rfl) (mpp 45 rfl ?_)
    refine mp_a (a_aload_n dX7_turns_45 rfl) (mpp 46 rfl ?_)
    refine mt_getU (i := 9) (k := 0) (A := 302) hT dX7_turns_46 rfl rl_301 (by decide) rfl (by decide) rfl un_18 (mpp 49 rfl ?_)
    refine mp_a (a_iload_n dX7_turns_49 rfl) (mpp 50 rfl ?_)
    refine mp_a (a_bipush (v := 11) dX7_turns_50 rfl) (mpp 52 rfl ?_)
    refine mp_a (a_iload_n dX7_turns_52 rfl) (mpp 53 rfl ?_)
    obtain ⟨z41, h42⟩ := ti_ex (11 + v2 : Int32)
    have wz41 := ti_full z41
    refine mp_t (s_iadd (v := z41) dX7_turns_53 h42) (mpp 54 rfl ?_)
    try have e43 : z41.toInt = 11 + v2.toInt := ti_addz h42 rfl rfl (by omega) (by omega)
    have p44 : 0 ≤ t1.toInt := by omega
    have p45 : t1.toInt ≤ 8 := by omega
    have p46 : 0 ≤ z41.toInt := by omega
    have p47 : z41.toInt ≤ 20 := by omega
    refine mp_calls (i := 74) (q' := q_135) (As := [.int t1, .int z41]) (rest := [.ref 302]) dX7_turns_54 rfl qm_135 (by decide) rfl (Nat.le_of_ble_eq_true rfl) rfl ⟨rfl, rfl⟩ ⟨Nat.le_of_ble_eq_true rfl, Nat.le_of_ble_eq_true rfl⟩ (EvP.mono (by decide) (c_M_at hT p44 p45 p46 p47 )) (fun r48 P49 g50 => mpp 57 rfl ?_)
    obtain ⟨⟨x51, rfl, g52⟩, e53⟩ := g50
    have e53 := e53.symm
    subst e53
    have wx51 := ti_full x51
    have g52 : x51.toInt = 3 + 19 * t1.toInt + z41.toInt := g52
    show MEvP _ none q_148 57 [(3, .int x38), (0, .ref 301), (1, .int t1), (2, .int v2)] [.int x51, .ref 302] _ _ _ _
    refine mp_a (a_iload_n dX7_turns_57 rfl) (mpp 58 rfl ?_)
    refine mp_Tb (t := 65) (j_if_ne dX7_turns_58) (by decide) (fun c54 => ?_) (fun c54 => mpp 61 rfl ?_)
    · have c54 : x38.toInt ≠ 0 := ti_ne c54
      refine mp_a (a_iconst (v := 3) dX7_turns_65 rfl) (mpp 66 rfl ?_)
      refine mp_a (a_iload_n dX7_turns_66 rfl) (mpp 67 rfl ?_)
      obtain ⟨z55, h56⟩ := ti_ex (3 - x38 : Int32)
      have wz55 := ti_full z55
      refine mp_t (s_isub (v := z55) dX7_turns_67 h56) (mpp 68 rfl ?_)
      try have e57 : z55.toInt = 3 - x38.toInt := ti_subz h56 rfl rfl (by omega) (by omega)
      refine mt_iasX (n := 155) hT dX7_turns_68 rl_302 (by decide) rfl rfl (by omega) (by omega) ssp_0 (okS_mk (by omega) (fun _ => ⟨by omega, by omega⟩) (fun _ => ⟨by omega, by omega⟩)) (fun P58 hT59 f60 f61 f62 => mpp 69 rfl ?_)
      have k63 : KW [1093, 1094, 1152] Po P58 := KW.step hK rl_302 rfl f61 f62
      have R64 := Rel.oth hR f61 (by omega)
      obtain ⟨z65, h66⟩ := ti_ex (v2 + 1 : Int32)
      have wz65 := ti_full z65
      refine mp_a (a_iinc (v := z65) (L' := [(2, .int z65), (3, .int x38), (0, .ref 301), (1, .int t1)]) dX7_turns_69 (by decide) rfl h66 rfl) (mpp 72 rfl ?_)
      try have e67 : z65.toInt = v2.toInt + 1 := ti_addz h66 rfl rfl (by omega) (by omega)
      refine mp_a (a_goto (t := 29) dX7_turns_72 (by decide)) ?_
      refine MEvP.less (L := [(0, .ref 301), (1, .int t1), (2, .int z65)]) rfl rfl ⟨rfl, rfl, rfl, trivial⟩ ?_
      have i68 : 0 ≤ t1.toInt := by omega
      have i69 : t1.toInt ≤ 7 := by omega
      have i70 : 0 ≤ z65.toInt := by omega
      exact ih _ (by omega) _ P58 hT59 k63 R64 i68 i69 i70 rfl
    · have c54 : x38.toInt = 0 := ti_ne_n c54
      refine mp_a (a_iconst (v := 0) dX7_turns_61 rfl) (mpp 62 rfl ?_)
      refine mp_a (a_goto (t := 68) dX7_turns_62 (by decide)) ?_
      refine mt_iasX (n := 155) hT dX7_turns_68 rl_302 (by decide) rfl rfl (by omega) (by omega) ssp_0 (okS_mk (by omega) (fun _ => ⟨by omega, by omega⟩) (fun _ => ⟨by omega, by omega⟩)) (fun P71 hT72 f73 f74 f75 => mpp 69 rfl ?_)
      have k76 : KW [1093, 1094, 1152] Po P71 := KW.step hK rl_302 rfl f74 f75
      have R77 := Rel.oth hR f74 (by omega)
      obtain ⟨z78, h79⟩ := ti_ex (v2 + 1 : Int32)
      have wz78 := ti_full z78
      refine mp_a (a_iinc (v := z78) (L' := [(2, .int z78), (3, .int x38), (0, .ref 301), (1, .int t1)]) dX7_turns_69 (by decide) rfl h79 rfl) (mpp 72 rfl ?_)
      try have e80 : z78.toInt = v2.toInt + 1 := ti_addz h79 rfl rfl (by omega) (by omega)
      refine mp_a (a_goto (t := 29) dX7_turns_72 (by decide)) ?_
      refine MEvP.less (L := [(0, .ref 301), (1, .int t1), (2, .int z78)]) rfl rfl ⟨rfl, rfl, rfl, trivial⟩ ?_
      have i81 : 0 ≤ t1.toInt := by omega
      have i82 : t1.toInt ≤ 7 := by omega
      have i83 : 0 ≤ z78.toInt := by omega
      exact ih _ (by omega) _ P71 hT72 k76 R77 i81 i82 i83 rfl

set_option maxHeartbeats 4000000 in
theorem c_M_turns {Po : mP} {t1 : Int32} (hT : Typ Po) (hR : Rel Po)  : EvP 6 148 [.ref 301, .int t1] Po (fun r P' => (∃ x : Int32, r = some (.int x) ∧ (True)) ∧ Typ P' ∧ KW [1093, 1094, 1152] Po P' ∧ Rel P') := by
  refine EvP.of qm_148 (Nat.le_of_ble_eq_true rfl) rfl ?_
  show MEvP _ none q_148 0 [(0, .ref 301), (1, .int t1)] [] _ 0 0 _
  refine mp_a (a_aload_n dX7_turns_0 rfl) (mpp 1 rfl ?_)
  refine mp_a (a_iload_n dX7_turns_1 rfl) (mpp 2 rfl ?_)
  refine mt_callv (i := 85) (q' := q_144) (As := [.int t1]) (rest := []) hT dX7_turns_2 rfl qm_144 (by decide) rfl rl_301 (by decide) rfl (Nat.le_of_ble_eq_true rfl) rfl ⟨rfl, rfl⟩ ⟨Nat.le_of_ble_eq_true rfl, Nat.le_of_ble_eq_true rfl⟩ (EvP.mono (by decide) (c_M_isPiece hT )) (fun r1 P2 g3 => mpp 5 rfl ?_)
  obtain ⟨⟨x4, rfl, g5⟩, e6⟩ := g3
  have e6 := e6.symm
  subst e6
  have wx4 := ti_full x4
  have g5 : 0 ≤ x4.toInt ∧ x4.toInt ≤ 1 ∧ ((x4.toInt = 1 ∧ 0 ≤ t1.toInt ∧ t1.toInt + 1 ≤ (fv Po 302 0).toInt ∧ t1.toInt ≤ 7) ∨ (x4.toInt = 0 ∧ (t1.toInt < 0 ∨ (fv Po 302 0).toInt ≤ t1.toInt))) := g5
  have g7 : (0 : Int) ≤ (fv Po 302 0).toInt ∧ (fv Po 302 0).toInt ≤ 8 := Typ.rng hT rl_302 (by decide) (by decide) rfl
  show MEvP _ none q_148 5 [(0, .ref 301), (1, .int t1)] [.int x4] _ _ _ _
  refine mp_Tb (t := 12) (j_if_ne dX7_turns_5) (by decide) (fun c8 => ?_) (fun c8 => mpp 8 rfl ?_)
  · have c8 : x4.toInt ≠ 0 := ti_ne c8
    refine mp_a (a_aload_n dX7_turns_12 rfl) (mpp 13 rfl ?_)
    refine mp_a (a_iload_n dX7_turns_13 rfl) (mpp 14 rfl ?_)
    have p9 : 0 ≤ t1.toInt := by omega
    have p10 : t1.toInt ≤ 7 := by omega
    refine mt_callv (i := 130) (q' := q_145) (As := [.int t1]) (rest := []) hT dX7_turns_14 rfl qm_145 (by decide) rfl rl_301 (by decide) rfl (Nat.le_of_ble_eq_true rfl) rfl ⟨rfl, rfl⟩ ⟨Nat.le_of_ble_eq_true rfl, Nat.le_of_ble_eq_true rfl⟩ (EvP.mono (by decide) (c_M_isFolded hT p9 p10 )) (fun r11 P12 g13 => mpp 17 rfl ?_)
    obtain ⟨⟨x14, rfl, g15⟩, e16⟩ := g13
    have e16 := e16.symm
    subst e16
    have wx14 := ti_full x14
    have g15 : 0 ≤ x14.toInt ∧ x14.toInt ≤ 1 ∧ ((x14.toInt = 1 ∧ (fv Po 302 (5 + 19 * t1.toInt.toNat)).toInt = 1) ∨ (x14.toInt = 0 ∧ (fv Po 302 (5 + 19 * t1.toInt.toNat)).toInt ≠ 1)) := g15
    have g17 := ti_full (fv Po 302 (5 + 19 * t1.toInt.toNat))
    show MEvP _ none q_148 17 [(0, .ref 301), (1, .int t1)] [.int x14] _ _ _ _
    refine mp_Tb (t := 27) (j_if_eq dX7_turns_17) (by decide) (fun c18 => ?_) (fun c18 => mpp 20 rfl ?_)
    · have c18 : x14.toInt = 0 := ti_eq c18
      refine mp_a (a_iconst (v := 0) dX7_turns_27 rfl) (mpp 28 rfl ?_)
      refine mp_a (a_istore_n (L' := [(2, .int 0), (0, .ref 301), (1, .int t1)]) dX7_turns_28 (by decide) rfl) (mpp 29 rfl ?_)
      refine MEvP.less (L := [(0, .ref 301), (1, .int t1), (2, .int 0)]) rfl rfl ⟨rfl, rfl, rfl, trivial⟩ ?_
      have i19 : 0 ≤ t1.toInt := by omega
      have i20 : t1.toInt ≤ 7 := by omega
      have i21 : 0 ≤ (0 : Int) := by omega
      exact c_M_turns_l29    _ _ Po hT KW.refl hR i19 i20 i21 rfl
    · have c18 : x14.toInt ≠ 0 := ti_eq_n c18
      refine mp_a (a_aload_n dX7_turns_20 rfl) (mpp 21 rfl ?_)
      refine mp_a (a_iconst (v := 2) dX7_turns_21 rfl) (mpp 22 rfl ?_)
      refine mp_a (a_iload_n dX7_turns_22 rfl) (mpp 23 rfl ?_)
      refine mt_callv (i := 101) (q' := q_134) (As := [.int 2, .int t1]) (rest := []) hT dX7_turns_23 rfl qm_134 (by decide) rfl rl_301 (by decide) rfl (Nat.le_of_ble_eq_true rfl) rfl ⟨rfl, rfl⟩ ⟨Nat.le_of_ble_eq_true rfl, Nat.le_of_ble_eq_true rfl⟩ (EvP.mono (by decide) (c_M_refuses hT )) (fun r22 P23 g24 => mpp 26 rfl ?_)
      obtain ⟨⟨x25, rfl, g26⟩, hT27, k28, R29⟩ := g24
      have k30 : KW [1093, 1094, 1152] Po P23 := KW.trans KW.refl k28 rfl
      have R32 := Rel.kw hR k28 rfl
      have wx25 := ti_full x25
      have g26 : x25.toInt = -1003 := g26
      show MEvP _ none q_148 26 [(0, .ref 301), (1, .int t1)] [.int x25] _ _ _ _
      exact mp_iret ⟨⟨_, rfl, trivial⟩, hT27, k30, R32⟩ dX7_turns_26 (Or.inl rfl)
  · have c8 : x4.toInt = 0 := ti_ne_n c8
    refine mp_a (a_sipush (v := -1001) dX7_turns_8 rfl) (mpp 11 rfl ?_)
    exact mp_iret ⟨⟨_, rfl, trivial⟩, hT, KW.refl, hR⟩ dX7_turns_11 (Or.inl rfl)

set_option maxHeartbeats 4000000 in
theorem c_M_turn {Po : mP} {t1 : Int32} (hT : Typ Po) (hR : Rel Po)  : EvP 7 147 [.ref 301, .int t1] Po (fun r P' => (∃ x : Int32, r = some (.int x) ∧ (True)) ∧ Typ P' ∧ KW [1092, 1093, 1094, 1095, 1152, 1216, 1344] Po P' ∧ Rel P') := by
  refine EvP.of qm_147 (Nat.le_of_ble_eq_true rfl) rfl ?_
  show MEvP _ none q_147 0 [(0, .ref 301), (1, .int t1)] [] _ 0 0 _
  refine mp_a (a_aload_n dX7_turn_0 rfl) (mpp 1 rfl ?_)
  refine mt_callv (i := 117) (q' := q_124) (As := []) (rest := []) hT dX7_turn_1 rfl qm_124 (by decide) rfl rl_301 (by decide) rfl (Nat.le_of_ble_eq_true rfl) rfl ⟨rfl, rfl⟩ ⟨Nat.le_of_ble_eq_true rfl, Nat.le_of_ble_eq_true rfl⟩ (EvP.mono (by decide) (c_M_keeps hT hR )) (fun r1 P2 g3 => mpp 4 rfl ?_)
  obtain ⟨⟨rfl, g5⟩, hT6, k7, R8r, R8⟩ := g3
  have k9 : KW [1092, 1093, 1094, 1095, 1152, 1216, 1344] Po P2 := KW.trans KW.refl k7 rfl
  show MEvP _ none q_147 4 [(0, .ref 301), (1, .int t1)] [] _ _ _ _
  refine mp_a (a_aload_n dX7_turn_4 rfl) (mpp 5 rfl ?_)
  refine mp_a (a_aload_n dX7_turn_5 rfl) (mpp 6 rfl ?_)
  refine mp_a (a_iload_n dX7_turn_6 rfl) (mpp 7 rfl ?_)
  refine mt_callv (i := 139) (q' := q_148) (As := [.int t1]) (rest := [.ref 301]) hT6 dX7_turn_7 rfl qm_148 (by decide) rfl rl_301 (by decide) rfl (Nat.le_of_ble_eq_true rfl) rfl ⟨rfl, rfl⟩ ⟨Nat.le_of_ble_eq_true rfl, Nat.le_of_ble_eq_true rfl⟩ (EvP.mono (by decide) (c_M_turns hT6 R8r )) (fun r11 P12 g13 => mpp 10 rfl ?_)
  obtain ⟨⟨x14, rfl, g15⟩, hT16, k17, R18⟩ := g13
  have k19 : KW [1092, 1093, 1094, 1095, 1152, 1216, 1344] Po P12 := KW.trans k9 k17 rfl
  have wx14 := ti_full x14
  show MEvP _ none q_147 10 [(0, .ref 301), (1, .int t1)] [.int x14, .ref 301] _ _ _ _
  refine mt_callv (i := 124) (q' := q_139) (As := [.int x14]) (rest := []) hT16 dX7_turn_10 rfl qm_139 (by decide) rfl rl_301 (by decide) rfl (Nat.le_of_ble_eq_true rfl) rfl ⟨rfl, rfl⟩ ⟨Nat.le_of_ble_eq_true rfl, Nat.le_of_ble_eq_true rfl⟩ (EvP.mono (by decide) (c_M_ends hT16 R18 )) (fun r21 P22 g23 => mpp 13 rfl ?_)
  obtain ⟨⟨x24, rfl, g25⟩, hT26, k27, R28r, R28⟩ := g23
  have k29 : KW [1092, 1093, 1094, 1095, 1152, 1216, 1344] Po P22 := KW.trans k19 k27 rfl
  have wx24 := ti_full x24
  have g25 : x24.toInt = x14.toInt := g25
  show MEvP _ none q_147 13 [(0, .ref 301), (1, .int t1)] [.int x24] _ _ _ _
  exact mp_iret ⟨⟨_, rfl, trivial⟩, hT26, k29, R28r⟩ dX7_turn_13 (Or.inl rfl)

set_option maxHeartbeats 4000000 in
theorem c_M_rotates_l107 {Po : mP} {t1 : Int32} {t2 : Int32}  : ∀ (n : Nat) (v3 : Int32) (v4 : Int32) (v5 : Int32), ∀ (P : mP), Typ P → KW [1093, 1094, 1152, 1408, 1472] Po P → Rel P → (0 ≤ t1.toInt) → (t1.toInt ≤ 7) → (v3.toInt ≤ 8) → (0 ≤ v5.toInt) → (2147483647 - v5.toInt).toNat = n → MEvP 5 none q_151 107 [(0, .ref 301), (1, .int t1), (2, .int t2), (3, .int v3), (4, .int v4), (5, .int v5)] [] P 0 0 (fun r P' => (∃ x : Int32, r = some (.int x) ∧ (True)) ∧ Typ P' ∧ KW [1093, 1094, 1152, 1408, 1472] Po P' ∧ Rel P') := by
  intro n
  induction n using Nat.strongRecOn with | _ n ih => ?_
  intro v3 v4 v5 P hT hK hR i_0 i_1 i_2 i_3 hm
  have w_t1 := ti_full t1
  have w_t2 := ti_full t2
  have w_v3 := ti_full v3
  have w_v4 := ti_full v4
  have w_v5 := ti_full v5
  refine mp_a (a_iload dX7_rotates_107 rfl) (mpp 109 rfl ?_)
  refine mp_a (a_iload_n dX7_rotates_109 rfl) (mpp 110 rfl ?_)
  refine mp_Tb (t := 175) (j_icmp_ge dX7_rotates_110) (by decide) (fun c1 => ?_) (fun c1 => mpp 113 rfl ?_)
  · have c1 : v5.toInt ≥ v3.toInt := ti_ge c1
    refine mp_a (a_iload dX7_rotates_175 rfl) (mpp 177 rfl ?_)
    exact mp_iret ⟨⟨_, rfl, trivial⟩, hT, hK, hR⟩ dX7_rotates_177 (Or.inl rfl)
  · have c1 : v5.toInt < v3.toInt := ti_ge_n c1
    refine mp_a (a_aload_n dX7_rotates_113 rfl) (mpp 114 rfl ?_)
    refine mt_getU (i := 9) (k := 0) (A := 302) hT dX7_rotates_114 rfl rl_301 (by decide) rfl (by decide) rfl un_18 (mpp 117 rfl ?_)
    refine mp_a (a_iload_n dX7_rotates_117 rfl) (mpp 118 rfl ?_)
    refine mp_a (a_iconst (v := 3) dX7_rotates_118 rfl) (mpp 119 rfl ?_)
    refine mp_a (a_iload dX7_rotates_119 rfl) (mpp 121 rfl ?_)
    obtain ⟨z2, h3⟩ := ti_ex (3 + v5 : Int32)
    have wz2 := ti_full z2
    refine mp_t (s_iadd (v := z2) dX7_rotates_121 h3) (mpp 122 rfl ?_)
    try have e4 : z2.toInt = 3 + v5.toInt := ti_addz h3 rfl rfl (by omega) (by omega)
    have p5 : 0 ≤ t1.toInt := by omega
    have p6 : t1.toInt ≤ 8 := by omega
    have p7 : 0 ≤ z2.toInt := by omega
    have p8 : z2.toInt ≤ 20 := by omega
    refine mp_calls (i := 74) (q' := q_135) (As := [.int t1, .int z2]) (rest := [.ref 302]) dX7_rotates_122 rfl qm_135 (by decide) rfl (Nat.le_of_ble_eq_true rfl) rfl ⟨rfl, rfl⟩ ⟨Nat.le_of_ble_eq_true rfl, Nat.le_of_ble_eq_true rfl⟩ (EvP.mono (by decide) (c_M_at hT p5 p6 p7 p8 )) (fun r9 P10 g11 => mpp 125 rfl ?_)
    obtain ⟨⟨x12, rfl, g13⟩, e14⟩ := g11
    have e14 := e14.symm
    subst e14
    have wx12 := ti_full x12
    have g13 : x12.toInt = 3 + 19 * t1.toInt + z2.toInt := g13
    show MEvP _ none q_151 125 [(0, .ref 301), (1, .int t1), (2, .int t2), (3, .int v3), (4, .int v4), (5, .int v5)] [.int x12, .ref 302] _ _ _ _
    refine mp_a (a_aload_n dX7_rotates_125 rfl) (mpp 126 rfl ?_)
    refine mt_getU (i := 22) (k := 9) (A := 306) hT dX7_rotates_126 rfl rl_301 (by decide) rfl (by decide) rfl un_22 (mpp 129 rfl ?_)
    refine mp_a (a_iload dX7_rotates_129 rfl) (mpp 131 rfl ?_)
    refine mt_ial (n := 8) hT dX7_rotates_131 rl_306 (by decide) rfl rfl (by omega) (by omega) rfl (fun g15 g16 => mpp 132 rfl ?_)
    refine mt_iasX (n := 155) hT dX7_rotates_132 rl_302 (by decide) rfl rfl (by omega) (by omega) ssp_0 (okS_mk (by omega) (fun _ => ⟨by omega, by omega⟩) (fun _ => ⟨by omega, by omega⟩)) (fun P17 hT18 f19 f20 f21 => mpp 133 rfl ?_)
    have k22 : KW [1093, 1094, 1152, 1408, 1472] Po P17 := KW.step hK rl_302 rfl f20 f21
    have R23 := Rel.oth hR f20 (by omega)
    refine mp_a (a_aload_n dX7_rotates_133 rfl) (mpp 134 rfl ?_)
    refine mt_getU (i := 9) (k := 0) (A := 302) hT18 dX7_rotates_134 rfl rl_301 (by decide) rfl (by decide) rfl un_18 (mpp 137 rfl ?_)
    refine mp_a (a_iload_n dX7_rotates_137 rfl) (mpp 138 rfl ?_)
    refine mp_a (a_bipush (v := 11) dX7_rotates_138 rfl) (mpp 140 rfl ?_)
    refine mp_a (a_iload dX7_rotates_140 rfl) (mpp 142 rfl ?_)
    obtain ⟨z24, h25⟩ := ti_ex (11 + v5 : Int32)
    have wz24 := ti_full z24
    refine mp_t (s_iadd (v := z24) dX7_rotates_142 h25) (mpp 143 rfl ?_)
    try have e26 : z24.toInt = 11 + v5.toInt := ti_addz h25 rfl rfl (by omega) (by omega)
    have p27 : 0 ≤ t1.toInt := by omega
    have p28 : t1.toInt ≤ 8 := by omega
    have p29 : 0 ≤ z24.toInt := by omega
    have p30 : z24.toInt ≤ 20 := by omega
    refine mp_calls (i := 74) (q' := q_135) (As := [.int t1, .int z24]) (rest := [.ref 302]) dX7_rotates_143 rfl qm_135 (by decide) rfl (Nat.le_of_ble_eq_true rfl) rfl ⟨rfl, rfl⟩ ⟨Nat.le_of_ble_eq_true rfl, Nat.le_of_ble_eq_true rfl⟩ (EvP.mono (by decide) (c_M_at hT18 p27 p28 p29 p30 )) (fun r31 P32 g33 => mpp 146 rfl ?_)
    obtain ⟨⟨x34, rfl, g35⟩, e36⟩ := g33
    have e36 := e36.symm
    subst e36
    have wx34 := ti_full x34
    have g35 : x34.toInt = 3 + 19 * t1.toInt + z24.toInt := g35
    show MEvP _ none q_151 146 [(0, .ref 301), (1, .int t1), (2, .int t2), (3, .int v3), (4, .int v4), (5, .int v5)] [.int x34, .ref 302] _ _ _ _
    refine mp_a (a_aload_n dX7_rotates_146 rfl) (mpp 147 rfl ?_)
    refine mt_getU (i := 25) (k := 10) (A := 307) hT18 dX7_rotates_147 rfl rl_301 (by decide) rfl (by decide) rfl un_23 (mpp 150 rfl ?_)
    refine mp_a (a_iload dX7_rotates_150 rfl) (mpp 152 rfl ?_)
    refine mt_ial (n := 8) hT18 dX7_rotates_152 rl_307 (by decide) rfl rfl (by omega) (by omega) rfl (fun g37 g38 => mpp 153 rfl ?_)
    refine mt_iasX (n := 155) hT18 dX7_rotates_153 rl_302 (by decide) rfl rfl (by omega) (by omega) ssp_0 (okS_mk (by omega) (fun _ => ⟨by omega, by omega⟩) (fun _ => ⟨by omega, by omega⟩)) (fun P39 hT40 f41 f42 f43 => mpp 154 rfl ?_)
    have k44 : KW [1093, 1094, 1152, 1408, 1472] Po P39 := KW.step k22 rl_302 rfl f42 f43
    have R45 := Rel.oth R23 f42 (by omega)
    refine mp_a (a_bipush (v := 10) dX7_rotates_154 rfl) (mpp 156 rfl ?_)
    refine mp_a (a_iload dX7_rotates_156 rfl) (mpp 158 rfl ?_)
    obtain ⟨z46, h47⟩ := ti_ex (10 * v4 : Int32)
    have wz46 := ti_full z46
    refine mp_t (s_imul (v := z46) dX7_rotates_158 h47) (mpp 159 rfl ?_)
    try have e48 : z46.toInt = 10 * v4.toInt := ti_mulz h47 rfl rfl (by omega) (by omega)
    refine mp_a (a_aload_n dX7_rotates_159 rfl) (mpp 160 rfl ?_)
    refine mt_getU (i := 22) (k := 9) (A := 306) hT40 dX7_rotates_160 rfl rl_301 (by decide) rfl (by decide) rfl un_22 (mpp 163 rfl ?_)
    refine mp_a (a_iload dX7_rotates_163 rfl) (mpp 165 rfl ?_)
    refine mt_ial (n := 8) hT40 dX7_rotates_165 rl_306 (by decide) rfl rfl (by omega) (by omega) rfl (fun g49 g50 => mpp 166 rfl ?_)
    obtain ⟨z51, h52⟩ := ti_ex (z46 + (fv P39 306 v5.toInt.toNat) : Int32)
    have wz51 := ti_full z51
    refine mp_t (s_iadd (v := z51) dX7_rotates_166 h52) (mpp 167 rfl ?_)
    try have e53 : z51.toInt = z46.toInt + (fv P39 306 v5.toInt.toNat).toInt := ti_addz h52 rfl rfl (by omega) (by omega)
    refine mp_a (a_istore (L' := [(4, .int z51), (0, .ref 301), (1, .int t1), (2, .int t2), (3, .int v3), (5, .int v5)]) dX7_rotates_167 (by decide) rfl) (mpp 169 rfl ?_)
    obtain ⟨z54, h55⟩ := ti_ex (v5 + 1 : Int32)
    have wz54 := ti_full z54
    refine mp_a (a_iinc (v := z54) (L' := [(5, .int z54), (4, .int z51), (0, .ref 301), (1, .int t1), (2, .int t2), (3, .int v3)]) dX7_rotates_169 (by decide) rfl h55 rfl) (mpp 172 rfl ?_)
    try have e56 : z54.toInt = v5.toInt + 1 := ti_addz h55 rfl rfl (by omega) (by omega)
    refine mp_a (a_goto (t := 107) dX7_rotates_172 (by decide)) ?_
    refine MEvP.less (L := [(0, .ref 301), (1, .int t1), (2, .int t2), (3, .int v3), (4, .int z51), (5, .int z54)]) rfl rfl ⟨rfl, rfl, rfl, rfl, rfl, rfl, trivial⟩ ?_
    have i57 : 0 ≤ t1.toInt := by omega
    have i58 : t1.toInt ≤ 7 := by omega
    have i59 : v3.toInt ≤ 8 := by omega
    have i60 : 0 ≤ z54.toInt := by omega
    exact ih _ (by omega) _ _ _ P39 hT40 k44 R45 i57 i58 i59 i60 rfl

