/-! methods on typed pools, 28 (written by a program) -/
set_option maxHeartbeats 4000000 in
theorem c_M_add {Po : mP} {t1 : Int32} {t2 : Int32} {t3 : Int32} (hT : Typ Po) (hR : Rel Po)  : EvP 7 123 [.ref 301, .int t1, .int t2, .int t3] Po (fun r P' => (∃ x : Int32, r = some (.int x) ∧ (TOPM Po P' x.toInt ∧ addsToldM (sr Po) (sr P') x.toInt t1.toInt t2.toInt t3.toInt)) ∧ Typ P' ∧ KW [1092, 1093, 1094, 1095, 1152, 1216, 1344, 1408, 1472] Po P' ∧ Rel P') := by
  refine EvP.of qm_123 (Nat.le_of_ble_eq_true rfl) rfl ?_
  show MEvP _ none q_123 0 [(0, .ref 301), (1, .int t1), (2, .int t2), (3, .int t3)] [] _ 0 0 _
  have w_t1 := ti_full t1
  have w_t2 := ti_full t2
  have w_t3 := ti_full t3
  refine mp_a (a_aload_n dX7_add_0 rfl) (mpp 1 rfl ?_)
  refine mt_callv (i := 117) (q' := q_124) (As := []) (rest := []) hT dX7_add_1 rfl qm_124 (by decide) rfl rl_301 (by decide) rfl (Nat.le_of_ble_eq_true rfl) rfl ⟨rfl, rfl⟩ ⟨Nat.le_of_ble_eq_true rfl, Nat.le_of_ble_eq_true rfl⟩ (EvP.mono (by decide) (c_M_keeps hT hR )) (fun r1 P2 g3 => mpp 4 rfl ?_)
  obtain ⟨⟨rfl, g5⟩, hT6, k7, R8r, R8⟩ := g3
  have k9 : KW [1092, 1093, 1094, 1095, 1152, 1216, 1344, 1408, 1472] Po P2 := KW.trans KW.refl k7 rfl
  show MEvP _ none q_123 4 [(0, .ref 301), (1, .int t1), (2, .int t2), (3, .int t3)] [] _ _ _ _
  refine mp_a (a_aload_n dX7_add_4 rfl) (mpp 5 rfl ?_)
  refine mp_a (a_aload_n dX7_add_5 rfl) (mpp 6 rfl ?_)
  refine mp_a (a_iload_n dX7_add_6 rfl) (mpp 7 rfl ?_)
  refine mp_a (a_iload_n dX7_add_7 rfl) (mpp 8 rfl ?_)
  refine mp_a (a_iload_n dX7_add_8 rfl) (mpp 9 rfl ?_)
  refine mt_callv (i := 120) (q' := q_126) (As := [.int t1, .int t2, .int t3]) (rest := [.ref 301]) hT6 dX7_add_9 rfl qm_126 (by decide) rfl rl_301 (by decide) rfl (Nat.le_of_ble_eq_true rfl) rfl ⟨rfl, rfl⟩ ⟨Nat.le_of_ble_eq_true rfl, Nat.le_of_ble_eq_true rfl⟩ (EvP.mono (by decide) (c_M_addsTold hT6 R8r )) (fun r11 P12 g13 => mpp 12 rfl ?_)
  obtain ⟨⟨x14, rfl, g15⟩, hT16, k17, R18⟩ := g13
  have k19 : KW [1092, 1093, 1094, 1095, 1152, 1216, 1344, 1408, 1472] Po P12 := KW.trans k9 k17 rfl
  have wx14 := ti_full x14
  replace g15 : addsToldM (sr P2) (sr P12) x14.toInt t1.toInt t2.toInt t3.toInt := g15
  show MEvP _ none q_123 12 [(0, .ref 301), (1, .int t1), (2, .int t2), (3, .int t3)] [.int x14, .ref 301] _ _ _ _
  refine mt_callv (i := 124) (q' := q_139) (As := [.int x14]) (rest := []) hT16 dX7_add_12 rfl qm_139 (by decide) rfl rl_301 (by decide) rfl (Nat.le_of_ble_eq_true rfl) rfl ⟨rfl, rfl⟩ ⟨Nat.le_of_ble_eq_true rfl, Nat.le_of_ble_eq_true rfl⟩ (EvP.mono (by decide) (c_M_ends hT16 R18 )) (fun r21 P22 g23 => mpp 15 rfl ?_)
  obtain ⟨⟨x24, rfl, g25⟩, hT26, k27, R28r, R28⟩ := g23
  have k29 : KW [1092, 1093, 1094, 1095, 1152, 1216, 1344, 1408, 1472] Po P22 := KW.trans k19 k27 rfl
  have wx24 := ti_full x24
  replace g25 : x24.toInt = x14.toInt := g25
  show MEvP _ none q_123 15 [(0, .ref 301), (1, .int t1), (2, .int t2), (3, .int t3)] [.int x24] _ _ _ _
  have w32_a : sr P2 = sr Po := funext (fun j => R8.2 302 j (by omega))
  have w32_b : sr P12 = sr P22 := funext (fun j => (R28.2.2.1 302 j (by omega) (by omega) (by omega)).symm)
  have w32_g := g15
  rw [w32_a, w32_b] at w32_g
  have w32_x : x24.toInt = x14.toInt := by omega
  rw [← w32_x] at w32_g
  have w32_t : TOPM Po P22 x24.toInt := TOPM.mk R8.1 (fun j => KW.at k17 j rl_303 rfl) (fun j => KW.at k17 j rl_304 rfl) (fun j => KW.at k17 j rl_305 rfl) (fun j => KW.at k17 j rl_314 rfl) (KW.at k17 8 rl_301 rfl) (KW.at k17 4 rl_301 rfl) (KW.at k17 23 rl_301 rfl) (by rw [w32_x]; exact R28.1) (by rw [w32_x]; exact R28.2.1) R28.2.2.1
  have u31 : TOPM Po P22 x24.toInt ∧ addsToldM (sr Po) (sr P22) x24.toInt t1.toInt t2.toInt t3.toInt := ⟨w32_t, w32_g⟩
  exact mp_iret ⟨⟨_, rfl, u31⟩, hT26, k29, R28r⟩ dX7_add_15 (Or.inl rfl)

set_option maxHeartbeats 4000000 in
theorem c_M_isPiece {Po : mP} {t1 : Int32} (hT : Typ Po)   : EvP 2 144 [.ref 301, .int t1] Po (fun r P' => (∃ x : Int32, r = some (.int x) ∧ (0 ≤ x.toInt ∧ x.toInt ≤ 1 ∧ ((x.toInt = 1 ∧ 0 ≤ t1.toInt ∧ t1.toInt + 1 ≤ (fv Po 302 0).toInt ∧ t1.toInt ≤ 7) ∨ (x.toInt = 0 ∧ (t1.toInt < 0 ∨ (fv Po 302 0).toInt ≤ t1.toInt))))) ∧ P' = Po) := by
  refine EvP.of qm_144 (Nat.le_of_ble_eq_true rfl) rfl ?_
  show MEvP _ none q_144 0 [(0, .ref 301), (1, .int t1)] [] _ 0 0 _
  have w_t1 := ti_full t1
  have g1 : (0 : Int) ≤ (fv Po 302 0).toInt ∧ (fv Po 302 0).toInt ≤ 8 := Typ.rng hT rl_302 (by decide) (by decide) rfl
  refine mp_a (a_iload_n dX7_isPiece_0 rfl) (mpp 1 rfl ?_)
  refine mp_a (a_iconst (v := 0) dX7_isPiece_1 rfl) (mpp 2 rfl ?_)
  refine mp_a (a_aload_n dX7_isPiece_2 rfl) (mpp 3 rfl ?_)
  refine mt_getU (i := 9) (k := 0) (A := 302) hT dX7_isPiece_3 rfl rl_301 (by decide) rfl (by decide) rfl un_18 (mpp 6 rfl ?_)
  refine mp_a (a_iconst (v := 0) dX7_isPiece_6 rfl) (mpp 7 rfl ?_)
  refine mt_ialX (n := 155) hT dX7_isPiece_7 rl_302 (by decide) rfl rfl (by decide) (by decide) ssp_0 (fun g2 => mpp 8 rfl ?_)
  have we4 := ti_full (fv Po 302 0)
  refine mp_a (a_iconst (v := 1) dX7_isPiece_8 rfl) (mpp 9 rfl ?_)
  obtain ⟨z5, h6⟩ := ti_ex ((fv Po 302 0) - 1 : Int32)
  have wz5 := ti_full z5
  refine mp_t (s_isub (v := z5) dX7_isPiece_9 h6) (mpp 10 rfl ?_)
  try have e7 : z5.toInt = (fv Po 302 0).toInt - 1 := ti_subz h6 rfl rfl (by omega) (by omega)
  refine mp_calls (i := 61) (q' := q_127) (As := [.int t1, .int 0, .int z5]) (rest := []) dX7_isPiece_10 rfl qm_127 (by decide) rfl (Nat.le_of_ble_eq_true rfl) rfl ⟨rfl, rfl⟩ ⟨Nat.le_of_ble_eq_true rfl, Nat.le_of_ble_eq_true rfl⟩ (EvP.mono (by decide) (c_M_isIn hT )) (fun r8 P9 g10 => mpp 13 rfl ?_)
  obtain ⟨⟨x11, rfl, g12⟩, e13⟩ := g10
  have e13 := e13.symm
  subst e13
  have wx11 := ti_full x11
  replace g12 : 0 ≤ x11.toInt ∧ x11.toInt ≤ 1 ∧ ((x11.toInt = 1 ∧ (0 : Int) ≤ t1.toInt ∧ t1.toInt ≤ z5.toInt) ∨ (x11.toInt = 0 ∧ (t1.toInt < (0 : Int) ∨ z5.toInt < t1.toInt))) := g12
  show MEvP _ none q_144 13 [(0, .ref 301), (1, .int t1)] [.int x11] _ _ _ _
  have u14 : 0 ≤ x11.toInt ∧ x11.toInt ≤ 1 ∧ ((x11.toInt = 1 ∧ 0 ≤ t1.toInt ∧ t1.toInt + 1 ≤ (fv Po 302 0).toInt ∧ t1.toInt ≤ 7) ∨ (x11.toInt = 0 ∧ (t1.toInt < 0 ∨ (fv Po 302 0).toInt ≤ t1.toInt))) := by omega
  exact mp_iret ⟨⟨_, rfl, u14⟩, rfl⟩ dX7_isPiece_13 (Or.inr ⟨rfl, ti_01 (by omega)⟩)

set_option maxHeartbeats 4000000 in
theorem c_M_isCrease {Po : mP} {t1 : Int32} {t2 : Int32} (hT : Typ Po)   : EvP 5 143 [.ref 301, .int t1, .int t2] Po (fun r P' => (∃ x : Int32, r = some (.int x) ∧ (0 ≤ x.toInt ∧ x.toInt ≤ 1 ∧ ((x.toInt = 0 ∧ (t1.toInt < 0 ∨ (fv Po 302 0).toInt ≤ t1.toInt ∨ t2.toInt < 0 ∨ ((fv Po 302 (3 + 19 * t1.toInt.toNat)).toInt = 1 ∧ (fv Po 302 (4 + 19 * t1.toInt.toNat)).toInt ≤ t2.toInt) ∨ ((fv Po 302 (3 + 19 * t1.toInt.toNat)).toInt = 0 ∧ (fv Po 302 (4 + 19 * t1.toInt.toNat)).toInt - 1 ≤ t2.toInt))) ∨ (x.toInt = 1 ∧ 0 ≤ t1.toInt ∧ t1.toInt + 1 ≤ (fv Po 302 0).toInt ∧ t1.toInt ≤ 7 ∧ 0 ≤ t2.toInt ∧ t2.toInt ≤ 7 ∧ t2.toInt + 1 ≤ (fv Po 302 (4 + 19 * t1.toInt.toNat)).toInt ∧ (((fv Po 302 (3 + 19 * t1.toInt.toNat)).toInt = 1 ∧ t2.toInt < (fv Po 302 (4 + 19 * t1.toInt.toNat)).toInt) ∨ ((fv Po 302 (3 + 19 * t1.toInt.toNat)).toInt = 0 ∧ t2.toInt < (fv Po 302 (4 + 19 * t1.toInt.toNat)).toInt - 1)))))) ∧ P' = Po) := by
  refine EvP.of qm_143 (Nat.le_of_ble_eq_true rfl) rfl ?_
  show MEvP _ none q_143 0 [(0, .ref 301), (1, .int t1), (2, .int t2)] [] _ 0 0 _
  have w_t1 := ti_full t1
  have w_t2 := ti_full t2
  have g1 : (0 : Int) ≤ (fv Po 302 0).toInt ∧ (fv Po 302 0).toInt ≤ 8 := Typ.rng hT rl_302 (by decide) (by decide) rfl
  try have g2 : (0 : Int) ≤ (fv Po 302 (3 + 19 * t1.toInt.toNat)).toInt ∧ (fv Po 302 (3 + 19 * t1.toInt.toNat)).toInt ≤ 1 := s3_rng hT (by omega)
  try have g3 : (0 : Int) ≤ (fv Po 302 (4 + 19 * t1.toInt.toNat)).toInt ∧ (fv Po 302 (4 + 19 * t1.toInt.toNat)).toInt ≤ 8 := s4_rng hT (by omega)
  refine mp_a (a_aload_n dX7_isCrease_0 rfl) (mpp 1 rfl ?_)
  refine mp_a (a_iload_n dX7_isCrease_1 rfl) (mpp 2 rfl ?_)
  refine mt_callv (i := 85) (q' := q_144) (As := [.int t1]) (rest := []) hT dX7_isCrease_2 rfl qm_144 (by decide) rfl rl_301 (by decide) rfl (Nat.le_of_ble_eq_true rfl) rfl ⟨rfl, rfl⟩ ⟨Nat.le_of_ble_eq_true rfl, Nat.le_of_ble_eq_true rfl⟩ (EvP.mono (by decide) (c_M_isPiece hT )) (fun r4 P5 g6 => mpp 5 rfl ?_)
  obtain ⟨⟨x7, rfl, g8⟩, e9⟩ := g6
  have e9 := e9.symm
  subst e9
  have wx7 := ti_full x7
  replace g8 : 0 ≤ x7.toInt ∧ x7.toInt ≤ 1 ∧ ((x7.toInt = 1 ∧ 0 ≤ t1.toInt ∧ t1.toInt + 1 ≤ (fv Po 302 0).toInt ∧ t1.toInt ≤ 7) ∨ (x7.toInt = 0 ∧ (t1.toInt < 0 ∨ (fv Po 302 0).toInt ≤ t1.toInt))) := g8
  show MEvP _ none q_143 5 [(0, .ref 301), (1, .int t1), (2, .int t2)] [.int x7] _ _ _ _
  refine mp_Tb (t := 27) (j_if_eq dX7_isCrease_5) (by decide) (fun c10 => ?_) (fun c10 => mpp 8 rfl ?_)
  · have c10 : x7.toInt = 0 := ti_eq c10
    refine mp_a (a_iconst (v := 0) dX7_isCrease_27 rfl) (mpp 28 rfl ?_)
    have u11 : 0 ≤ (0 : Int) ∧ (0 : Int) ≤ 1 ∧ (((0 : Int) = 0 ∧ (t1.toInt < 0 ∨ (fv Po 302 0).toInt ≤ t1.toInt ∨ t2.toInt < 0 ∨ ((fv Po 302 (3 + 19 * t1.toInt.toNat)).toInt = 1 ∧ (fv Po 302 (4 + 19 * t1.toInt.toNat)).toInt ≤ t2.toInt) ∨ ((fv Po 302 (3 + 19 * t1.toInt.toNat)).toInt = 0 ∧ (fv Po 302 (4 + 19 * t1.toInt.toNat)).toInt - 1 ≤ t2.toInt))) ∨ ((0 : Int) = 1 ∧ 0 ≤ t1.toInt ∧ t1.toInt + 1 ≤ (fv Po 302 0).toInt ∧ t1.toInt ≤ 7 ∧ 0 ≤ t2.toInt ∧ t2.toInt ≤ 7 ∧ t2.toInt + 1 ≤ (fv Po 302 (4 + 19 * t1.toInt.toNat)).toInt ∧ (((fv Po 302 (3 + 19 * t1.toInt.toNat)).toInt = 1 ∧ t2.toInt < (fv Po 302 (4 + 19 * t1.toInt.toNat)).toInt) ∨ ((fv Po 302 (3 + 19 * t1.toInt.toNat)).toInt = 0 ∧ t2.toInt < (fv Po 302 (4 + 19 * t1.toInt.toNat)).toInt - 1)))) := by omega
    exact mp_iret ⟨⟨_, rfl, u11⟩, rfl⟩ dX7_isCrease_28 (Or.inr ⟨rfl, by decide⟩)
  · have c10 : x7.toInt ≠ 0 := ti_eq_n c10
    refine mp_a (a_iload_n dX7_isCrease_8 rfl) (mpp 9 rfl ?_)
    refine mp_a (a_iconst (v := 0) dX7_isCrease_9 rfl) (mpp 10 rfl ?_)
    refine mp_a (a_aload_n dX7_isCrease_10 rfl) (mpp 11 rfl ?_)
    refine mp_a (a_iload_n dX7_isCrease_11 rfl) (mpp 12 rfl ?_)
    have p12 : 0 ≤ t1.toInt := by omega
    have p13 : t1.toInt ≤ 7 := by omega
    refine mt_callv (i := 88) (q' := q_136) (As := [.int t1]) (rest := [.int 0, .int t2]) hT dX7_isCrease_12 rfl qm_136 (by decide) rfl rl_301 (by decide) rfl (Nat.le_of_ble_eq_true rfl) rfl ⟨rfl, rfl⟩ ⟨Nat.le_of_ble_eq_true rfl, Nat.le_of_ble_eq_true rfl⟩ (EvP.mono (by decide) (c_M_creases hT p12 p13 )) (fun r14 P15 g16 => mpp 15 rfl ?_)
    obtain ⟨⟨x17, rfl, g18⟩, e19⟩ := g16
    have e19 := e19.symm
    subst e19
    have wx17 := ti_full x17
    replace g18 : -1 ≤ x17.toInt ∧ x17.toInt ≤ 8 ∧ (((fv Po 302 (3 + 19 * t1.toInt.toNat)).toInt = 1 ∧ x17.toInt = (fv Po 302 (4 + 19 * t1.toInt.toNat)).toInt) ∨ ((fv Po 302 (3 + 19 * t1.toInt.toNat)).toInt = 0 ∧ x17.toInt = (fv Po 302 (4 + 19 * t1.toInt.toNat)).toInt - 1)) := g18
    show MEvP _ none q_143 15 [(0, .ref 301), (1, .int t1), (2, .int t2)] [.int x17, .int 0, .int t2] _ _ _ _
    refine mp_a (a_iconst (v := 1) dX7_isCrease_15 rfl) (mpp 16 rfl ?_)
    obtain ⟨z20, h21⟩ := ti_ex (x17 - 1 : Int32)
    have wz20 := ti_full z20
    refine mp_t (s_isub (v := z20) dX7_isCrease_16 h21) (mpp 17 rfl ?_)
    try have e22 : z20.toInt = x17.toInt - 1 := ti_subz h21 rfl rfl (by omega) (by omega)
    refine mp_calls (i := 61) (q' := q_127) (As := [.int t2, .int 0, .int z20]) (rest := []) dX7_isCrease_17 rfl qm_127 (by decide) rfl (Nat.le_of_ble_eq_true rfl) rfl ⟨rfl, rfl⟩ ⟨Nat.le_of_ble_eq_true rfl, Nat.le_of_ble_eq_true rfl⟩ (EvP.mono (by decide) (c_M_isIn hT )) (fun r23 P24 g25 => mpp 20 rfl ?_)
    obtain ⟨⟨x26, rfl, g27⟩, e28⟩ := g25
    have e28 := e28.symm
    subst e28
    have wx26 := ti_full x26
    replace g27 : 0 ≤ x26.toInt ∧ x26.toInt ≤ 1 ∧ ((x26.toInt = 1 ∧ (0 : Int) ≤ t2.toInt ∧ t2.toInt ≤ z20.toInt) ∨ (x26.toInt = 0 ∧ (t2.toInt < (0 : Int) ∨ z20.toInt < t2.toInt))) := g27
    show MEvP _ none q_143 20 [(0, .ref 301), (1, .int t1), (2, .int t2)] [.int x26] _ _ _ _
    refine mp_Tb (t := 27) (j_if_eq dX7_isCrease_20) (by decide) (fun c29 => ?_) (fun c29 => mpp 23 rfl ?_)
    · have c29 : x26.toInt = 0 := ti_eq c29
      refine mp_a (a_iconst (v := 0) dX7_isCrease_27 rfl) (mpp 28 rfl ?_)
      have u30 : 0 ≤ (0 : Int) ∧ (0 : Int) ≤ 1 ∧ (((0 : Int) = 0 ∧ (t1.toInt < 0 ∨ (fv Po 302 0).toInt ≤ t1.toInt ∨ t2.toInt < 0 ∨ ((fv Po 302 (3 + 19 * t1.toInt.toNat)).toInt = 1 ∧ (fv Po 302 (4 + 19 * t1.toInt.toNat)).toInt ≤ t2.toInt) ∨ ((fv Po 302 (3 + 19 * t1.toInt.toNat)).toInt = 0 ∧ (fv Po 302 (4 + 19 * t1.toInt.toNat)).toInt - 1 ≤ t2.toInt))) ∨ ((0 : Int) = 1 ∧ 0 ≤ t1.toInt ∧ t1.toInt + 1 ≤ (fv Po 302 0).toInt ∧ t1.toInt ≤ 7 ∧ 0 ≤ t2.toInt ∧ t2.toInt ≤ 7 ∧ t2.toInt + 1 ≤ (fv Po 302 (4 + 19 * t1.toInt.toNat)).toInt ∧ (((fv Po 302 (3 + 19 * t1.toInt.toNat)).toInt = 1 ∧ t2.toInt < (fv Po 302 (4 + 19 * t1.toInt.toNat)).toInt) ∨ ((fv Po 302 (3 + 19 * t1.toInt.toNat)).toInt = 0 ∧ t2.toInt < (fv Po 302 (4 + 19 * t1.toInt.toNat)).toInt - 1)))) := by omega
      exact mp_iret ⟨⟨_, rfl, u30⟩, rfl⟩ dX7_isCrease_28 (Or.inr ⟨rfl, by decide⟩)
    · have c29 : x26.toInt ≠ 0 := ti_eq_n c29
      refine mp_a (a_iconst (v := 1) dX7_isCrease_23 rfl) (mpp 24 rfl ?_)
      refine mp_a (a_goto (t := 28) dX7_isCrease_24 (by decide)) ?_
      have u31 : 0 ≤ (1 : Int) ∧ (1 : Int) ≤ 1 ∧ (((1 : Int) = 0 ∧ (t1.toInt < 0 ∨ (fv Po 302 0).toInt ≤ t1.toInt ∨ t2.toInt < 0 ∨ ((fv Po 302 (3 + 19 * t1.toInt.toNat)).toInt = 1 ∧ (fv Po 302 (4 + 19 * t1.toInt.toNat)).toInt ≤ t2.toInt) ∨ ((fv Po 302 (3 + 19 * t1.toInt.toNat)).toInt = 0 ∧ (fv Po 302 (4 + 19 * t1.toInt.toNat)).toInt - 1 ≤ t2.toInt))) ∨ ((1 : Int) = 1 ∧ 0 ≤ t1.toInt ∧ t1.toInt + 1 ≤ (fv Po 302 0).toInt ∧ t1.toInt ≤ 7 ∧ 0 ≤ t2.toInt ∧ t2.toInt ≤ 7 ∧ t2.toInt + 1 ≤ (fv Po 302 (4 + 19 * t1.toInt.toNat)).toInt ∧ (((fv Po 302 (3 + 19 * t1.toInt.toNat)).toInt = 1 ∧ t2.toInt < (fv Po 302 (4 + 19 * t1.toInt.toNat)).toInt) ∨ ((fv Po 302 (3 + 19 * t1.toInt.toNat)).toInt = 0 ∧ t2.toInt < (fv Po 302 (4 + 19 * t1.toInt.toNat)).toInt - 1)))) := by omega
      exact mp_iret ⟨⟨_, rfl, u31⟩, rfl⟩ dX7_isCrease_28 (Or.inr ⟨rfl, by decide⟩)

set_option maxHeartbeats 4000000 in
theorem c_M_creaseOf {Po : mP} {t1 : Int32} {t2 : Int32} (hT : Typ Po)  (hp0 : 0 ≤ t1.toInt) (hp1 : t1.toInt ≤ 7) (hp2 : 0 ≤ t2.toInt) (hp3 : t2.toInt ≤ 7)  : EvP 3 146 [.ref 301, .int t1, .int t2] Po (fun r P' => (∃ x : Int32, r = some (.int x) ∧ (x.toInt = (fv Po 302 (14 + 19 * t1.toInt.toNat + t2.toInt.toNat)).toInt)) ∧ P' = Po) := by
  refine EvP.of qm_146 (Nat.le_of_ble_eq_true rfl) rfl ?_
  show MEvP _ none q_146 0 [(0, .ref 301), (1, .int t1), (2, .int t2)] [] _ 0 0 _
  have w_t1 := ti_full t1
  have w_t2 := ti_full t2
  refine mp_a (a_aload_n dX7_creaseOf_0 rfl) (mpp 1 rfl ?_)
  refine mp_a (a_iload_n dX7_creaseOf_1 rfl) (mpp 2 rfl ?_)
  refine mp_a (a_bipush (v := 11) dX7_creaseOf_2 rfl) (mpp 4 rfl ?_)
  refine mp_a (a_iload_n dX7_creaseOf_4 rfl) (mpp 5 rfl ?_)
  obtain ⟨z1, h2⟩ := ti_ex (11 + t2 : Int32)
  have wz1 := ti_full z1
  refine mp_t (s_iadd (v := z1) dX7_creaseOf_5 h2) (mpp 6 rfl ?_)
  try have e3 : z1.toInt = 11 + t2.toInt := ti_addz h2 rfl rfl (by omega) (by omega)
  have p4 : 0 ≤ t1.toInt := by omega
  have p5 : t1.toInt ≤ 7 := by omega
  have p6 : 0 ≤ z1.toInt := by omega
  have p7 : z1.toInt ≤ 18 := by omega
  refine mt_callv (i := 78) (q' := q_137) (As := [.int t1, .int z1]) (rest := []) hT dX7_creaseOf_6 rfl qm_137 (by decide) rfl rl_301 (by decide) rfl (Nat.le_of_ble_eq_true rfl) rfl ⟨rfl, rfl⟩ ⟨Nat.le_of_ble_eq_true rfl, Nat.le_of_ble_eq_true rfl⟩ (EvP.mono (by decide) (c_M_of hT p4 p5 p6 p7 )) (fun r8 P9 g10 => mpp 9 rfl ?_)
  obtain ⟨⟨x11, rfl, g12⟩, e13⟩ := g10
  have e13 := e13.symm
  subst e13
  have wx11 := ti_full x11
  replace g12 : x11.toInt = (fv Po 302 (3 + 19 * t1.toInt.toNat + z1.toInt.toNat)).toInt := g12
  show MEvP _ none q_146 9 [(0, .ref 301), (1, .int t1), (2, .int t2)] [.int x11] _ _ _ _
  have u14 : x11.toInt = (fv Po 302 (14 + 19 * t1.toInt.toNat + t2.toInt.toNat)).toInt := g12.trans (congrArg (fun k => (fv Po 302 k).toInt) (by omega))
  exact mp_iret ⟨⟨_, rfl, u14⟩, rfl⟩ dX7_creaseOf_9 (Or.inl rfl)

set_option maxHeartbeats 4000000 in
theorem c_M_marks {Po : mP} {t1 : Int32} {t2 : Int32} {t3 : Int32} (hT : Typ Po) (hR : Rel Po)  : EvP 6 142 [.ref 301, .int t1, .int t2, .int t3] Po (fun r P' => (∃ x : Int32, r = some (.int x) ∧ (marksM (sr Po) (sr P') x.toInt t1.toInt t2.toInt t3.toInt)) ∧ Typ P' ∧ KW [1093, 1094, 1152] Po P' ∧ Rel P') := by
  refine EvP.of qm_142 (Nat.le_of_ble_eq_true rfl) rfl ?_
  show MEvP _ none q_142 0 [(0, .ref 301), (1, .int t1), (2, .int t2), (3, .int t3)] [] _ 0 0 _
  have w_t1 := ti_full t1
  have w_t2 := ti_full t2
  have w_t3 := ti_full t3
  refine mp_a (a_aload_n dX7_marks_0 rfl) (mpp 1 rfl ?_)
  refine mp_a (a_iload_n dX7_marks_1 rfl) (mpp 2 rfl ?_)
  refine mp_a (a_iload_n dX7_marks_2 rfl) (mpp 3 rfl ?_)
  refine mt_callv (i := 127) (q' := q_143) (As := [.int t1, .int t2]) (rest := []) hT dX7_marks_3 rfl qm_143 (by decide) rfl rl_301 (by decide) rfl (Nat.le_of_ble_eq_true rfl) rfl ⟨rfl, rfl⟩ ⟨Nat.le_of_ble_eq_true rfl, Nat.le_of_ble_eq_true rfl⟩ (EvP.mono (by decide) (c_M_isCrease hT )) (fun r1 P2 g3 => mpp 6 rfl ?_)
  obtain ⟨⟨x4, rfl, g5⟩, e6⟩ := g3
  have e6 := e6.symm
  subst e6
  have wx4 := ti_full x4
  replace g5 : 0 ≤ x4.toInt ∧ x4.toInt ≤ 1 ∧ ((x4.toInt = 0 ∧ (t1.toInt < 0 ∨ (fv Po 302 0).toInt ≤ t1.toInt ∨ t2.toInt < 0 ∨ ((fv Po 302 (3 + 19 * t1.toInt.toNat)).toInt = 1 ∧ (fv Po 302 (4 + 19 * t1.toInt.toNat)).toInt ≤ t2.toInt) ∨ ((fv Po 302 (3 + 19 * t1.toInt.toNat)).toInt = 0 ∧ (fv Po 302 (4 + 19 * t1.toInt.toNat)).toInt - 1 ≤ t2.toInt))) ∨ (x4.toInt = 1 ∧ 0 ≤ t1.toInt ∧ t1.toInt + 1 ≤ (fv Po 302 0).toInt ∧ t1.toInt ≤ 7 ∧ 0 ≤ t2.toInt ∧ t2.toInt ≤ 7 ∧ t2.toInt + 1 ≤ (fv Po 302 (4 + 19 * t1.toInt.toNat)).toInt ∧ (((fv Po 302 (3 + 19 * t1.toInt.toNat)).toInt = 1 ∧ t2.toInt < (fv Po 302 (4 + 19 * t1.toInt.toNat)).toInt) ∨ ((fv Po 302 (3 + 19 * t1.toInt.toNat)).toInt = 0 ∧ t2.toInt < (fv Po 302 (4 + 19 * t1.toInt.toNat)).toInt - 1)))) := g5
  have g7 : (0 : Int) ≤ (fv Po 302 0).toInt ∧ (fv Po 302 0).toInt ≤ 8 := Typ.rng hT rl_302 (by decide) (by decide) rfl
  try have g8 : (0 : Int) ≤ (fv Po 302 (3 + 19 * t1.toInt.toNat)).toInt ∧ (fv Po 302 (3 + 19 * t1.toInt.toNat)).toInt ≤ 1 := s3_rng hT (by omega)
  try have g9 : (0 : Int) ≤ (fv Po 302 (4 + 19 * t1.toInt.toNat)).toInt ∧ (fv Po 302 (4 + 19 * t1.toInt.toNat)).toInt ≤ 8 := s4_rng hT (by omega)
  show MEvP _ none q_142 6 [(0, .ref 301), (1, .int t1), (2, .int t2), (3, .int t3)] [.int x4] _ _ _ _
  refine mp_Tb (t := 13) (j_if_ne dX7_marks_6) (by decide) (fun c10 => ?_) (fun c10 => mpp 9 rfl ?_)
  · have c10 : x4.toInt ≠ 0 := ti_ne c10
    refine mp_a (a_iload_n dX7_marks_13 rfl) (mpp 14 rfl ?_)
    refine mp_a (a_iconst (v := 0) dX7_marks_14 rfl) (mpp 15 rfl ?_)
    refine mp_a (a_iconst (v := 2) dX7_marks_15 rfl) (mpp 16 rfl ?_)
    refine mp_calls (i := 61) (q' := q_127) (As := [.int t3, .int 0, .int 2]) (rest := []) dX7_marks_16 rfl qm_127 (by decide) rfl (Nat.le_of_ble_eq_true rfl) rfl ⟨rfl, rfl⟩ ⟨Nat.le_of_ble_eq_true rfl, Nat.le_of_ble_eq_true rfl⟩ (EvP.mono (by decide) (c_M_isIn hT )) (fun r11 P12 g13 => mpp 19 rfl ?_)
    obtain ⟨⟨x14, rfl, g15⟩, e16⟩ := g13
    have e16 := e16.symm
    subst e16
    have wx14 := ti_full x14
    replace g15 : 0 ≤ x14.toInt ∧ x14.toInt ≤ 1 ∧ ((x14.toInt = 1 ∧ (0 : Int) ≤ t3.toInt ∧ t3.toInt ≤ (2 : Int)) ∨ (x14.toInt = 0 ∧ (t3.toInt < (0 : Int) ∨ (2 : Int) < t3.toInt))) := g15
    show MEvP _ none q_142 19 [(0, .ref 301), (1, .int t1), (2, .int t2), (3, .int t3)] [.int x14] _ _ _ _
    refine mp_Tb (t := 26) (j_if_ne dX7_marks_19) (by decide) (fun c17 => ?_) (fun c17 => mpp 22 rfl ?_)
    · have c17 : x14.toInt ≠ 0 := ti_ne c17
      refine mp_a (a_aload_n dX7_marks_26 rfl) (mpp 27 rfl ?_)
      refine mp_a (a_iload_n dX7_marks_27 rfl) (mpp 28 rfl ?_)
      have p18 : 0 ≤ t1.toInt := by omega
      have p19 : t1.toInt ≤ 7 := by omega
      refine mt_callv (i := 130) (q' := q_145) (As := [.int t1]) (rest := []) hT dX7_marks_28 rfl qm_145 (by decide) rfl rl_301 (by decide) rfl (Nat.le_of_ble_eq_true rfl) rfl ⟨rfl, rfl⟩ ⟨Nat.le_of_ble_eq_true rfl, Nat.le_of_ble_eq_true rfl⟩ (EvP.mono (by decide) (c_M_isFolded hT p18 p19 )) (fun r20 P21 g22 => mpp 31 rfl ?_)
      obtain ⟨⟨x23, rfl, g24⟩, e25⟩ := g22
      have e25 := e25.symm
      subst e25
      have wx23 := ti_full x23
      replace g24 : 0 ≤ x23.toInt ∧ x23.toInt ≤ 1 ∧ ((x23.toInt = 1 ∧ (fv Po 302 (5 + 19 * t1.toInt.toNat)).toInt = 1) ∨ (x23.toInt = 0 ∧ (fv Po 302 (5 + 19 * t1.toInt.toNat)).toInt ≠ 1)) := g24
      have g26 := ti_full (fv Po 302 (5 + 19 * t1.toInt.toNat))
      show MEvP _ none q_142 31 [(0, .ref 301), (1, .int t1), (2, .int t2), (3, .int t3)] [.int x23] _ _ _ _
      refine mp_Tb (t := 41) (j_if_eq dX7_marks_31) (by decide) (fun c27 => ?_) (fun c27 => mpp 34 rfl ?_)
      · have c27 : x23.toInt = 0 := ti_eq c27
        refine mp_a (a_aload_n dX7_marks_41 rfl) (mpp 42 rfl ?_)
        refine mp_a (a_iload_n dX7_marks_42 rfl) (mpp 43 rfl ?_)
        refine mp_a (a_iload_n dX7_marks_43 rfl) (mpp 44 rfl ?_)
        have p28 : 0 ≤ t1.toInt := by omega
        have p29 : t1.toInt ≤ 7 := by omega
        have p30 : 0 ≤ t2.toInt := by omega
        have p31 : t2.toInt ≤ 7 := by omega
        refine mt_callv (i := 92) (q' := q_146) (As := [.int t1, .int t2]) (rest := []) hT dX7_marks_44 rfl qm_146 (by decide) rfl rl_301 (by decide) rfl (Nat.le_of_ble_eq_true rfl) rfl ⟨rfl, rfl⟩ ⟨Nat.le_of_ble_eq_true rfl, Nat.le_of_ble_eq_true rfl⟩ (EvP.mono (by decide) (c_M_creaseOf hT p28 p29 p30 p31 )) (fun r32 P33 g34 => mpp 47 rfl ?_)
        obtain ⟨⟨x35, rfl, g36⟩, e37⟩ := g34
        have e37 := e37.symm
        subst e37
        have wx35 := ti_full x35
        replace g36 : x35.toInt = (fv Po 302 (14 + 19 * t1.toInt.toNat + t2.toInt.toNat)).toInt := g36
        show MEvP _ none q_142 47 [(0, .ref 301), (1, .int t1), (2, .int t2), (3, .int t3)] [.int x35] _ _ _ _
        refine mp_a (a_istore (L' := [(4, .int x35), (0, .ref 301), (1, .int t1), (2, .int t2), (3, .int t3)]) dX7_marks_47 (by decide) rfl) (mpp 49 rfl ?_)
        refine mp_a (a_aload_n dX7_marks_49 rfl) (mpp 50 rfl ?_)
        refine mt_getU (i := 9) (k := 0) (A := 302) hT dX7_marks_50 rfl rl_301 (by decide) rfl (by decide) rfl un_18 (mpp 53 rfl ?_)
        refine mp_a (a_iload_n dX7_marks_53 rfl) (mpp 54 rfl ?_)
        refine mp_a (a_bipush (v := 11) dX7_marks_54 rfl) (mpp 56 rfl ?_)
        refine mp_a (a_iload_n dX7_marks_56 rfl) (mpp 57 rfl ?_)
        obtain ⟨z38, h39⟩ := ti_ex (11 + t2 : Int32)
        have wz38 := ti_full z38
        refine mp_t (s_iadd (v := z38) dX7_marks_57 h39) (mpp 58 rfl ?_)
        try have e40 : z38.toInt = 11 + t2.toInt := ti_addz h39 rfl rfl (by omega) (by omega)
        have p41 : 0 ≤ t1.toInt := by omega
        have p42 : t1.toInt ≤ 8 := by omega
        have p43 : 0 ≤ z38.toInt := by omega
        have p44 : z38.toInt ≤ 20 := by omega
        refine mp_calls (i := 74) (q' := q_135) (As := [.int t1, .int z38]) (rest := [.ref 302]) dX7_marks_58 rfl qm_135 (by decide) rfl (Nat.le_of_ble_eq_true rfl) rfl ⟨rfl, rfl⟩ ⟨Nat.le_of_ble_eq_true rfl, Nat.le_of_ble_eq_true rfl⟩ (EvP.mono (by decide) (c_M_at hT p41 p42 p43 p44 )) (fun r45 P46 g47 => mpp 61 rfl ?_)
        obtain ⟨⟨x48, rfl, g49⟩, e50⟩ := g47
        have e50 := e50.symm
        subst e50
        have wx48 := ti_full x48
        replace g49 : x48.toInt = 3 + 19 * t1.toInt + z38.toInt := g49
        show MEvP _ none q_142 61 [(4, .int x35), (0, .ref 301), (1, .int t1), (2, .int t2), (3, .int t3)] [.int x48, .ref 302] _ _ _ _
        refine mp_a (a_iload_n dX7_marks_61 rfl) (mpp 62 rfl ?_)
        refine mt_iasX (n := 155) hT dX7_marks_62 rl_302 (by decide) rfl rfl (by omega) (by omega) ssp_0 (okS_mk (by omega) (fun _ => ⟨by omega, by omega⟩) (fun _ => ⟨by omega, by omega⟩)) (fun P51 hT52 f53 f54 f55 => mpp 63 rfl ?_)
        have k56 : KW [1093, 1094, 1152] Po P51 := KW.step KW.refl rl_302 rfl f54 f55
        have R57 := Rel.oth hR f54 (by omega)
        refine mp_a (a_iload dX7_marks_63 rfl) (mpp 65 rfl ?_)
        have e59 : (fv P51 302 0).toInt = (fv Po 302 0).toInt := congrArg Int32.toInt (f54 302 0 (by omega))
        have e60 : (fv P51 302 1).toInt = (fv Po 302 1).toInt := congrArg Int32.toInt (f54 302 1 (by omega))
        have e61 : (fv P51 302 2).toInt = (fv Po 302 2).toInt := congrArg Int32.toInt (f54 302 2 (by omega))
        have u58 : marksM (sr Po) (sr P51) x35.toInt t1.toInt t2.toInt t3.toInt := (show (x35.toInt = -1001 ∧ ((t1.toInt < 0 ∨ (fv Po 302 (0)).toInt ≤ t1.toInt) ∨ ((0 ≤ t1.toInt ∧ t1.toInt + 1 ≤ (fv Po 302 (0)).toInt ∧ t1.toInt ≤ 7) ∧ (t2.toInt < 0 ∨ ((fv Po 302 (3 + 19 * t1.toInt.toNat)).toInt = 1 ∧ (fv Po 302 (4 + 19 * t1.toInt.toNat)).toInt ≤ t2.toInt) ∨ ((fv Po 302 (3 + 19 * t1.toInt.toNat)).toInt = 0 ∧ (fv Po 302 (4 + 19 * t1.toInt.toNat)).toInt - 1 ≤ t2.toInt)))) ∧ (∀ j : Nat, fv P51 302 j = fv Po 302 j)) ∨ (x35.toInt = -1002 ∧ (0 ≤ t1.toInt ∧ t1.toInt + 1 ≤ (fv Po 302 (0)).toInt ∧ t1.toInt ≤ 7) ∧ (0 ≤ t2.toInt ∧ t2.toInt ≤ 7 ∧ (((fv Po 302 (3 + 19 * t1.toInt.toNat)).toInt = 1 ∧ t2.toInt < (fv Po 302 (4 + 19 * t1.toInt.toNat)).toInt) ∨ ((fv Po 302 (3 + 19 * t1.toInt.toNat)).toInt = 0 ∧ t2.toInt < (fv Po 302 (4 + 19 * t1.toInt.toNat)).toInt - 1))) ∧ (t3.toInt < 0 ∨ 2 < t3.toInt) ∧ (∀ j : Nat, fv P51 302 j = fv Po 302 j)) ∨ (x35.toInt = -1003 ∧ (0 ≤ t1.toInt ∧ t1.toInt + 1 ≤ (fv Po 302 (0)).toInt ∧ t1.toInt ≤ 7) ∧ (0 ≤ t2.toInt ∧ t2.toInt ≤ 7 ∧ (((fv Po 302 (3 + 19 * t1.toInt.toNat)).toInt = 1 ∧ t2.toInt < (fv Po 302 (4 + 19 * t1.toInt.toNat)).toInt) ∨ ((fv Po 302 (3 + 19 * t1.toInt.toNat)).toInt = 0 ∧ t2.toInt < (fv Po 302 (4 + 19 * t1.toInt.toNat)).toInt - 1))) ∧ (0 ≤ t3.toInt ∧ t3.toInt ≤ 2) ∧ (fv Po 302 (5 + 19 * t1.toInt.toNat)).toInt = 1 ∧ (∀ j : Nat, fv P51 302 j = fv Po 302 j)) ∨ ((0 ≤ t1.toInt ∧ t1.toInt + 1 ≤ (fv Po 302 (0)).toInt ∧ t1.toInt ≤ 7) ∧ (0 ≤ t2.toInt ∧ t2.toInt ≤ 7 ∧ (((fv Po 302 (3 + 19 * t1.toInt.toNat)).toInt = 1 ∧ t2.toInt < (fv Po 302 (4 + 19 * t1.toInt.toNat)).toInt) ∨ ((fv Po 302 (3 + 19 * t1.toInt.toNat)).toInt = 0 ∧ t2.toInt < (fv Po 302 (4 + 19 * t1.toInt.toNat)).toInt - 1))) ∧ (0 ≤ t3.toInt ∧ t3.toInt ≤ 2) ∧ ¬ (fv Po 302 (5 + 19 * t1.toInt.toNat)).toInt = 1 ∧ x35.toInt = (fv Po 302 (14 + 19 * t1.toInt.toNat + t2.toInt.toNat)).toInt ∧ (fv P51 302 (14 + 19 * t1.toInt.toNat + t2.toInt.toNat)).toInt = t3.toInt ∧ (∀ j : Nat, ¬ j = 14 + 19 * t1.toInt.toNat + t2.toInt.toNat → fv P51 302 j = fv Po 302 j)) from Or.inr (Or.inr (Or.inr (⟨by omega, by omega, by omega, by omega, by omega, (congrArg (fun k => (fv P51 302 k).toInt) (show (14 + 19 * t1.toInt.toNat + t2.toInt.toNat) = x48.toInt.toNat from by omega)).trans (congrArg Int32.toInt f53), fun j h => by rw [f54 302 j (by omega)]⟩))))
        exact mp_iret ⟨⟨_, rfl, u58⟩, hT52, k56, R57⟩ dX7_marks_65 (Or.inl rfl)
      · have c27 : x23.toInt ≠ 0 := ti_eq_n c27
        refine mp_a (a_aload_n dX7_marks_34 rfl) (mpp 35 rfl ?_)
        refine mp_a (a_iconst (v := 2) dX7_marks_35 rfl) (mpp 36 rfl ?_)
        refine mp_a (a_iload_n dX7_marks_36 rfl) (mpp 37 rfl ?_)
        refine mt_callv (i := 101) (q' := q_134) (As := [.int 2, .int t1]) (rest := []) hT dX7_marks_37 rfl qm_134 (by decide) rfl rl_301 (by decide) rfl (Nat.le_of_ble_eq_true rfl) rfl ⟨rfl, rfl⟩ ⟨Nat.le_of_ble_eq_true rfl, Nat.le_of_ble_eq_true rfl⟩ (EvP.mono (by decide) (c_M_refuses hT )) (fun r62 P63 g64 => mpp 40 rfl ?_)
        obtain ⟨⟨x65, rfl, g66⟩, hT67, k68, R69⟩ := g64
        have k70 : KW [1093, 1094, 1152] Po P63 := KW.trans KW.refl k68 rfl
        have R72 := Rel.kw hR k68 rfl
        have wx65 := ti_full x65
        replace g66 : x65.toInt = -1003 := g66
        show MEvP _ none q_142 40 [(0, .ref 301), (1, .int t1), (2, .int t2), (3, .int t3)] [.int x65] _ _ _ _
        have e74 : (fv P63 302 0).toInt = (fv Po 302 0).toInt := congrArg Int32.toInt (R69 302 0 (by omega))
        have e75 : (fv P63 302 1).toInt = (fv Po 302 1).toInt := congrArg Int32.toInt (R69 302 1 (by omega))
        have e76 : (fv P63 302 2).toInt = (fv Po 302 2).toInt := congrArg Int32.toInt (R69 302 2 (by omega))
        have u73 : marksM (sr Po) (sr P63) x65.toInt t1.toInt t2.toInt t3.toInt := (show (x65.toInt = -1001 ∧ ((t1.toInt < 0 ∨ (fv Po 302 (0)).toInt ≤ t1.toInt) ∨ ((0 ≤ t1.toInt ∧ t1.toInt + 1 ≤ (fv Po 302 (0)).toInt ∧ t1.toInt ≤ 7) ∧ (t2.toInt < 0 ∨ ((fv Po 302 (3 + 19 * t1.toInt.toNat)).toInt = 1 ∧ (fv Po 302 (4 + 19 * t1.toInt.toNat)).toInt ≤ t2.toInt) ∨ ((fv Po 302 (3 + 19 * t1.toInt.toNat)).toInt = 0 ∧ (fv Po 302 (4 + 19 * t1.toInt.toNat)).toInt - 1 ≤ t2.toInt)))) ∧ (∀ j : Nat, fv P63 302 j = fv Po 302 j)) ∨ (x65.toInt = -1002 ∧ (0 ≤ t1.toInt ∧ t1.toInt + 1 ≤ (fv Po 302 (0)).toInt ∧ t1.toInt ≤ 7) ∧ (0 ≤ t2.toInt ∧ t2.toInt ≤ 7 ∧ (((fv Po 302 (3 + 19 * t1.toInt.toNat)).toInt = 1 ∧ t2.toInt < (fv Po 302 (4 + 19 * t1.toInt.toNat)).toInt) ∨ ((fv Po 302 (3 + 19 * t1.toInt.toNat)).toInt = 0 ∧ t2.toInt < (fv Po 302 (4 + 19 * t1.toInt.toNat)).toInt - 1))) ∧ (t3.toInt < 0 ∨ 2 < t3.toInt) ∧ (∀ j : Nat, fv P63 302 j = fv Po 302 j)) ∨ (x65.toInt = -1003 ∧ (0 ≤ t1.toInt ∧ t1.toInt + 1 ≤ (fv Po 302 (0)).toInt ∧ t1.toInt ≤ 7) ∧ (0 ≤ t2.toInt ∧ t2.toInt ≤ 7 ∧ (((fv Po 302 (3 + 19 * t1.toInt.toNat)).toInt = 1 ∧ t2.toInt < (fv Po 302 (4 + 19 * t1.toInt.toNat)).toInt) ∨ ((fv Po 302 (3 + 19 * t1.toInt.toNat)).toInt = 0 ∧ t2.toInt < (fv Po 302 (4 + 19 * t1.toInt.toNat)).toInt - 1))) ∧ (0 ≤ t3.toInt ∧ t3.toInt ≤ 2) ∧ (fv Po 302 (5 + 19 * t1.toInt.toNat)).toInt = 1 ∧ (∀ j : Nat, fv P63 302 j = fv Po 302 j)) ∨ ((0 ≤ t1.toInt ∧ t1.toInt + 1 ≤ (fv Po 302 (0)).toInt ∧ t1.toInt ≤ 7) ∧ (0 ≤ t2.toInt ∧ t2.toInt ≤ 7 ∧ (((fv Po 302 (3 + 19 * t1.toInt.toNat)).toInt = 1 ∧ t2.toInt < (fv Po 302 (4 + 19 * t1.toInt.toNat)).toInt) ∨ ((fv Po 302 (3 + 19 * t1.toInt.toNat)).toInt = 0 ∧ t2.toInt < (fv Po 302 (4 + 19 * t1.toInt.toNat)).toInt - 1))) ∧ (0 ≤ t3.toInt ∧ t3.toInt ≤ 2) ∧ ¬ (fv Po 302 (5 + 19 * t1.toInt.toNat)).toInt = 1 ∧ x65.toInt = (fv Po 302 (14 + 19 * t1.toInt.toNat + t2.toInt.toNat)).toInt ∧ (fv P63 302 (14 + 19 * t1.toInt.toNat + t2.toInt.toNat)).toInt = t3.toInt ∧ (∀ j : Nat, ¬ j = 14 + 19 * t1.toInt.toNat + t2.toInt.toNat → fv P63 302 j = fv Po 302 j)) from Or.inr (Or.inr (Or.inl (⟨by omega, by omega, by omega, by omega, by omega, fun j => by rw [R69 302 j (by omega)]⟩))))
        exact mp_iret ⟨⟨_, rfl, u73⟩, hT67, k70, R72⟩ dX7_marks_40 (Or.inl rfl)
    · have c17 : x14.toInt = 0 := ti_ne_n c17
      refine mp_a (a_sipush (v := -1002) dX7_marks_22 rfl) (mpp 25 rfl ?_)
      have u77 : marksM (sr Po) (sr Po) (-1002 : Int) t1.toInt t2.toInt t3.toInt := (show ((-1002 : Int) = -1001 ∧ ((t1.toInt < 0 ∨ (fv Po 302 (0)).toInt ≤ t1.toInt) ∨ ((0 ≤ t1.toInt ∧ t1.toInt + 1 ≤ (fv Po 302 (0)).toInt ∧ t1.toInt ≤ 7) ∧ (t2.toInt < 0 ∨ ((fv Po 302 (3 + 19 * t1.toInt.toNat)).toInt = 1 ∧ (fv Po 302 (4 + 19 * t1.toInt.toNat)).toInt ≤ t2.toInt) ∨ ((fv Po 302 (3 + 19 * t1.toInt.toNat)).toInt = 0 ∧ (fv Po 302 (4 + 19 * t1.toInt.toNat)).toInt - 1 ≤ t2.toInt)))) ∧ (∀ j : Nat, fv Po 302 j = fv Po 302 j)) ∨ ((-1002 : Int) = -1002 ∧ (0 ≤ t1.toInt ∧ t1.toInt + 1 ≤ (fv Po 302 (0)).toInt ∧ t1.toInt ≤ 7) ∧ (0 ≤ t2.toInt ∧ t2.toInt ≤ 7 ∧ (((fv Po 302 (3 + 19 * t1.toInt.toNat)).toInt = 1 ∧ t2.toInt < (fv Po 302 (4 + 19 * t1.toInt.toNat)).toInt) ∨ ((fv Po 302 (3 + 19 * t1.toInt.toNat)).toInt = 0 ∧ t2.toInt < (fv Po 302 (4 + 19 * t1.toInt.toNat)).toInt - 1))) ∧ (t3.toInt < 0 ∨ 2 < t3.toInt) ∧ (∀ j : Nat, fv Po 302 j = fv Po 302 j)) ∨ ((-1002 : Int) = -1003 ∧ (0 ≤ t1.toInt ∧ t1.toInt + 1 ≤ (fv Po 302 (0)).toInt ∧ t1.toInt ≤ 7) ∧ (0 ≤ t2.toInt ∧ t2.toInt ≤ 7 ∧ (((fv Po 302 (3 + 19 * t1.toInt.toNat)).toInt = 1 ∧ t2.toInt < (fv Po 302 (4 + 19 * t1.toInt.toNat)).toInt) ∨ ((fv Po 302 (3 + 19 * t1.toInt.toNat)).toInt = 0 ∧ t2.toInt < (fv Po 302 (4 + 19 * t1.toInt.toNat)).toInt - 1))) ∧ (0 ≤ t3.toInt ∧ t3.toInt ≤ 2) ∧ (fv Po 302 (5 + 19 * t1.toInt.toNat)).toInt = 1 ∧ (∀ j : Nat, fv Po 302 j = fv Po 302 j)) ∨ ((0 ≤ t1.toInt ∧ t1.toInt + 1 ≤ (fv Po 302 (0)).toInt ∧ t1.toInt ≤ 7) ∧ (0 ≤ t2.toInt ∧ t2.toInt ≤ 7 ∧ (((fv Po 302 (3 + 19 * t1.toInt.toNat)).toInt = 1 ∧ t2.toInt < (fv Po 302 (4 + 19 * t1.toInt.toNat)).toInt) ∨ ((fv Po 302 (3 + 19 * t1.toInt.toNat)).toInt = 0 ∧ t2.toInt < (fv Po 302 (4 + 19 * t1.toInt.toNat)).toInt - 1))) ∧ (0 ≤ t3.toInt ∧ t3.toInt ≤ 2) ∧ ¬ (fv Po 302 (5 + 19 * t1.toInt.toNat)).toInt = 1 ∧ (-1002 : Int) = (fv Po 302 (14 + 19 * t1.toInt.toNat + t2.toInt.toNat)).toInt ∧ (fv Po 302 (14 + 19 * t1.toInt.toNat + t2.toInt.toNat)).toInt = t3.toInt ∧ (∀ j : Nat, ¬ j = 14 + 19 * t1.toInt.toNat + t2.toInt.toNat → fv Po 302 j = fv Po 302 j)) from Or.inr (Or.inl (⟨by omega, by omega, by omega, by omega, fun j => rfl⟩)))
      exact mp_iret ⟨⟨_, rfl, u77⟩, hT, KW.refl, hR⟩ dX7_marks_25 (Or.inl rfl)
  · have c10 : x4.toInt = 0 := ti_ne_n c10
    refine mp_a (a_sipush (v := -1001) dX7_marks_9 rfl) (mpp 12 rfl ?_)
    have u78 : marksM (sr Po) (sr Po) (-1001 : Int) t1.toInt t2.toInt t3.toInt := (show ((-1001 : Int) = -1001 ∧ ((t1.toInt < 0 ∨ (fv Po 302 (0)).toInt ≤ t1.toInt) ∨ ((0 ≤ t1.toInt ∧ t1.toInt + 1 ≤ (fv Po 302 (0)).toInt ∧ t1.toInt ≤ 7) ∧ (t2.toInt < 0 ∨ ((fv Po 302 (3 + 19 * t1.toInt.toNat)).toInt = 1 ∧ (fv Po 302 (4 + 19 * t1.toInt.toNat)).toInt ≤ t2.toInt) ∨ ((fv Po 302 (3 + 19 * t1.toInt.toNat)).toInt = 0 ∧ (fv Po 302 (4 + 19 * t1.toInt.toNat)).toInt - 1 ≤ t2.toInt)))) ∧ (∀ j : Nat, fv Po 302 j = fv Po 302 j)) ∨ ((-1001 : Int) = -1002 ∧ (0 ≤ t1.toInt ∧ t1.toInt + 1 ≤ (fv Po 302 (0)).toInt ∧ t1.toInt ≤ 7) ∧ (0 ≤ t2.toInt ∧ t2.toInt ≤ 7 ∧ (((fv Po 302 (3 + 19 * t1.toInt.toNat)).toInt = 1 ∧ t2.toInt < (fv Po 302 (4 + 19 * t1.toInt.toNat)).toInt) ∨ ((fv Po 302 (3 + 19 * t1.toInt.toNat)).toInt = 0 ∧ t2.toInt < (fv Po 302 (4 + 19 * t1.toInt.toNat)).toInt - 1))) ∧ (t3.toInt < 0 ∨ 2 < t3.toInt) ∧ (∀ j : Nat, fv Po 302 j = fv Po 302 j)) ∨ ((-1001 : Int) = -1003 ∧ (0 ≤ t1.toInt ∧ t1.toInt + 1 ≤ (fv Po 302 (0)).toInt ∧ t1.toInt ≤ 7) ∧ (0 ≤ t2.toInt ∧ t2.toInt ≤ 7 ∧ (((fv Po 302 (3 + 19 * t1.toInt.toNat)).toInt = 1 ∧ t2.toInt < (fv Po 302 (4 + 19 * t1.toInt.toNat)).toInt) ∨ ((fv Po 302 (3 + 19 * t1.toInt.toNat)).toInt = 0 ∧ t2.toInt < (fv Po 302 (4 + 19 * t1.toInt.toNat)).toInt - 1))) ∧ (0 ≤ t3.toInt ∧ t3.toInt ≤ 2) ∧ (fv Po 302 (5 + 19 * t1.toInt.toNat)).toInt = 1 ∧ (∀ j : Nat, fv Po 302 j = fv Po 302 j)) ∨ ((0 ≤ t1.toInt ∧ t1.toInt + 1 ≤ (fv Po 302 (0)).toInt ∧ t1.toInt ≤ 7) ∧ (0 ≤ t2.toInt ∧ t2.toInt ≤ 7 ∧ (((fv Po 302 (3 + 19 * t1.toInt.toNat)).toInt = 1 ∧ t2.toInt < (fv Po 302 (4 + 19 * t1.toInt.toNat)).toInt) ∨ ((fv Po 302 (3 + 19 * t1.toInt.toNat)).toInt = 0 ∧ t2.toInt < (fv Po 302 (4 + 19 * t1.toInt.toNat)).toInt - 1))) ∧ (0 ≤ t3.toInt ∧ t3.toInt ≤ 2) ∧ ¬ (fv Po 302 (5 + 19 * t1.toInt.toNat)).toInt = 1 ∧ (-1001 : Int) = (fv Po 302 (14 + 19 * t1.toInt.toNat + t2.toInt.toNat)).toInt ∧ (fv Po 302 (14 + 19 * t1.toInt.toNat + t2.toInt.toNat)).toInt = t3.toInt ∧ (∀ j : Nat, ¬ j = 14 + 19 * t1.toInt.toNat + t2.toInt.toNat → fv Po 302 j = fv Po 302 j)) from Or.inl (⟨by omega, by omega, fun j => rfl⟩))
    exact mp_iret ⟨⟨_, rfl, u78⟩, hT, KW.refl, hR⟩ dX7_marks_12 (Or.inl rfl)

set_option maxHeartbeats 4000000 in
theorem c_M_mark {Po : mP} {t1 : Int32} {t2 : Int32} {t3 : Int32} (hT : Typ Po) (hR : Rel Po)  : EvP 7 141 [.ref 301, .int t1, .int t2, .int t3] Po (fun r P' => (∃ x : Int32, r = some (.int x) ∧ (TOPM Po P' x.toInt ∧ marksM (sr Po) (sr P') x.toInt t1.toInt t2.toInt t3.toInt)) ∧ Typ P' ∧ KW [1092, 1093, 1094, 1095, 1152, 1216, 1344] Po P' ∧ Rel P') := by
  refine EvP.of qm_141 (Nat.le_of_ble_eq_true rfl) rfl ?_
  show MEvP _ none q_141 0 [(0, .ref 301), (1, .int t1), (2, .int t2), (3, .int t3)] [] _ 0 0 _
  have w_t1 := ti_full t1
  have w_t2 := ti_full t2
  have w_t3 := ti_full t3
  refine mp_a (a_aload_n dX7_mark_0 rfl) (mpp 1 rfl ?_)
  refine mt_callv (i := 117) (q' := q_124) (As := []) (rest := []) hT dX7_mark_1 rfl qm_124 (by decide) rfl rl_301 (by decide) rfl (Nat.le_of_ble_eq_true rfl) rfl ⟨rfl, rfl⟩ ⟨Nat.le_of_ble_eq_true rfl, Nat.le_of_ble_eq_true rfl⟩ (EvP.mono (by decide) (c_M_keeps hT hR )) (fun r1 P2 g3 => mpp 4 rfl ?_)
  obtain ⟨⟨rfl, g5⟩, hT6, k7, R8r, R8⟩ := g3
  have k9 : KW [1092, 1093, 1094, 1095, 1152, 1216, 1344] Po P2 := KW.trans KW.refl k7 rfl
  show MEvP _ none q_141 4 [(0, .ref 301), (1, .int t1), (2, .int t2), (3, .int t3)] [] _ _ _ _
  refine mp_a (a_aload_n dX7_mark_4 rfl) (mpp 5 rfl ?_)
  refine mp_a (a_aload_n dX7_mark_5 rfl) (mpp 6 rfl ?_)
  refine mp_a (a_iload_n dX7_mark_6 rfl) (mpp 7 rfl ?_)
  refine mp_a (a_iload_n dX7_mark_7 rfl) (mpp 8 rfl ?_)
  refine mp_a (a_iload_n dX7_mark_8 rfl) (mpp 9 rfl ?_)
  refine mt_callv (i := 133) (q' := q_142) (As := [.int t1, .int t2, .int t3]) (rest := [.ref 301]) hT6 dX7_mark_9 rfl qm_142 (by decide) rfl rl_301 (by decide) rfl (Nat.le_of_ble_eq_true rfl) rfl ⟨rfl, rfl⟩ ⟨Nat.le_of_ble_eq_true rfl, Nat.le_of_ble_eq_true rfl⟩ (EvP.mono (by decide) (c_M_marks hT6 R8r )) (fun r11 P12 g13 => mpp 12 rfl ?_)
  obtain ⟨⟨x14, rfl, g15⟩, hT16, k17, R18⟩ := g13
  have k19 : KW [1092, 1093, 1094, 1095, 1152, 1216, 1344] Po P12 := KW.trans k9 k17 rfl
  have wx14 := ti_full x14
  replace g15 : marksM (sr P2) (sr P12) x14.toInt t1.toInt t2.toInt t3.toInt := g15
  show MEvP _ none q_141 12 [(0, .ref 301), (1, .int t1), (2, .int t2), (3, .int t3)] [.int x14, .ref 301] _ _ _ _
  refine mt_callv (i := 124) (q' := q_139) (As := [.int x14]) (rest := []) hT16 dX7_mark_12 rfl qm_139 (by decide) rfl rl_301 (by decide) rfl (Nat.le_of_ble_eq_true rfl) rfl ⟨rfl, rfl⟩ ⟨Nat.le_of_ble_eq_true rfl, Nat.le_of_ble_eq_true rfl⟩ (EvP.mono (by decide) (c_M_ends hT16 R18 )) (fun r21 P22 g23 => mpp 15 rfl ?_)
  obtain ⟨⟨x24, rfl, g25⟩, hT26, k27, R28r, R28⟩ := g23
  have k29 : KW [1092, 1093, 1094, 1095, 1152, 1216, 1344] Po P22 := KW.trans k19 k27 rfl
  have wx24 := ti_full x24
  replace g25 : x24.toInt = x14.toInt := g25
  show MEvP _ none q_141 15 [(0, .ref 301), (1, .int t1), (2, .int t2), (3, .int t3)] [.int x24] _ _ _ _
  have w32_a : sr P2 = sr Po := funext (fun j => R8.2 302 j (by omega))
  have w32_b : sr P12 = sr P22 := funext (fun j => (R28.2.2.1 302 j (by omega) (by omega) (by omega)).symm)
  have w32_g := g15
  rw [w32_a, w32_b] at w32_g
  have w32_x : x24.toInt = x14.toInt := by omega
  rw [← w32_x] at w32_g
  have w32_t : TOPM Po P22 x24.toInt := TOPM.mk R8.1 (fun j => KW.at k17 j rl_303 rfl) (fun j => KW.at k17 j rl_304 rfl) (fun j => KW.at k17 j rl_305 rfl) (fun j => KW.at k17 j rl_314 rfl) (KW.at k17 8 rl_301 rfl) (KW.at k17 4 rl_301 rfl) (KW.at k17 23 rl_301 rfl) (by rw [w32_x]; exact R28.1) (by rw [w32_x]; exact R28.2.1) R28.2.2.1
  have u31 : TOPM Po P22 x24.toInt ∧ marksM (sr Po) (sr P22) x24.toInt t1.toInt t2.toInt t3.toInt := ⟨w32_t, w32_g⟩
  exact mp_iret ⟨⟨_, rfl, u31⟩, hT26, k29, R28r⟩ dX7_mark_15 (Or.inl rfl)

set_option maxHeartbeats 4000000 in
theorem c_M_countOf_l5 {Po : mP} {t1 : Int32} {t2 : Int32} (hT : Typ Po)  (hp0 : 0 ≤ t1.toInt) (hp1 : t1.toInt ≤ 7)  : ∀ (n : Nat) (v3 : Int32) (v4 : Int32), (v3.toInt ≤ 0 ∨ UD Po t1.toInt.toNat t2.toInt) → (0 ≤ v3.toInt) → (v3.toInt ≤ v4.toInt) → (v4.toInt ≤ 8) → (v3.toInt = cntF (fun j : Nat => fv Po 302 (14 + 19 * t1.toInt.toNat + j)) t2.toInt v4.toInt.toNat) → (((fv Po 302 (3 + 19 * t1.toInt.toNat)).toInt = 0 ∧ (v4.toInt ≤ (fv Po 302 (4 + 19 * t1.toInt.toNat)).toInt - 1 ∨ v4.toInt = 0)) ∨ ((fv Po 302 (3 + 19 * t1.toInt.toNat)).toInt = 1 ∧ v4.toInt ≤ (fv Po 302 (4 + 19 * t1.toInt.toNat)).toInt)) → (0 ≤ v4.toInt) → (2147483647 - v4.toInt).toNat = n → MEvP 4 none q_149 5 [(0, .ref 301), (1, .int t1), (2, .int t2), (3, .int v3), (4, .int v4)] [] Po 0 0 (fun r P' => (∃ x : Int32, r = some (.int x) ∧ ((x.toInt ≤ 0 ∨ UD Po t1.toInt.toNat t2.toInt) ∧ 0 ≤ x.toInt ∧ x.toInt ≤ 8 ∧ x.toInt = cntF (fun j : Nat => fv Po 302 (14 + 19 * t1.toInt.toNat + j)) t2.toInt (nC (fv Po 302 (3 + 19 * t1.toInt.toNat)).toInt (fv Po 302 (4 + 19 * t1.toInt.toNat)).toInt))) ∧ P' = Po) := by
  intro n
  induction n using Nat.strongRecOn with | _ n ih => ?_
  intro v3 v4 i_0 i_1 i_2 i_3 i_4 i_5 i_6 hm
  have w_t1 := ti_full t1
  have w_t2 := ti_full t2
  have w_v3 := ti_full v3
  have w_v4 := ti_full v4
  try have g1 : (0 : Int) ≤ (fv Po 302 (3 + 19 * t1.toInt.toNat)).toInt ∧ (fv Po 302 (3 + 19 * t1.toInt.toNat)).toInt ≤ 1 := s3_rng hT (by omega)
  try have g2 : (0 : Int) ≤ (fv Po 302 (4 + 19 * t1.toInt.toNat)).toInt ∧ (fv Po 302 (4 + 19 * t1.toInt.toNat)).toInt ≤ 8 := s4_rng hT (by omega)
  refine mp_a (a_iload dX7_countOf_5 rfl) (mpp 7 rfl ?_)
  refine mp_a (a_aload_n dX7_countOf_7 rfl) (mpp 8 rfl ?_)
  refine mp_a (a_iload_n dX7_countOf_8 rfl) (mpp 9 rfl ?_)
  have p3 : 0 ≤ t1.toInt := by omega
  have p4 : t1.toInt ≤ 7 := by omega
  refine mt_callv (i := 88) (q' := q_136) (As := [.int t1]) (rest := [.int v4]) hT dX7_countOf_9 rfl qm_136 (by decide) rfl rl_301 (by decide) rfl (Nat.le_of_ble_eq_true rfl) rfl ⟨rfl, rfl⟩ ⟨Nat.le_of_ble_eq_true rfl, Nat.le_of_ble_eq_true rfl⟩ (EvP.mono (by decide) (c_M_creases hT p3 p4 )) (fun r5 P6 g7 => mpp 12 rfl ?_)
  obtain ⟨⟨x8, rfl, g9⟩, e10⟩ := g7
  have e10 := e10.symm
  subst e10
  have wx8 := ti_full x8
  replace g9 : -1 ≤ x8.toInt ∧ x8.toInt ≤ 8 ∧ (((fv Po 302 (3 + 19 * t1.toInt.toNat)).toInt = 1 ∧ x8.toInt = (fv Po 302 (4 + 19 * t1.toInt.toNat)).toInt) ∨ ((fv Po 302 (3 + 19 * t1.toInt.toNat)).toInt = 0 ∧ x8.toInt = (fv Po 302 (4 + 19 * t1.toInt.toNat)).toInt - 1)) := g9
  show MEvP _ none q_149 12 [(0, .ref 301), (1, .int t1), (2, .int t2), (3, .int v3), (4, .int v4)] [.int x8, .int v4] _ _ _ _
  refine mp_Tb (t := 40) (j_icmp_ge dX7_countOf_12) (by decide) (fun c11 => ?_) (fun c11 => mpp 15 rfl ?_)
  · have c11 : v4.toInt ≥ x8.toInt := ti_ge c11
    refine mp_a (a_iload_n dX7_countOf_40 rfl) (mpp 41 rfl ?_)
    have u12 : (v3.toInt ≤ 0 ∨ UD Po t1.toInt.toNat t2.toInt) ∧ 0 ≤ v3.toInt ∧ v3.toInt ≤ 8 ∧ v3.toInt = cntF (fun j : Nat => fv Po 302 (14 + 19 * t1.toInt.toNat + j)) t2.toInt (nC (fv Po 302 (3 + 19 * t1.toInt.toNat)).toInt (fv Po 302 (4 + 19 * t1.toInt.toNat)).toInt) := ⟨i_0, by omega, by omega, i_4.trans (congrArg (cntF _ _) (by unfold nC; split <;> omega))⟩
    exact mp_iret ⟨⟨_, rfl, u12⟩, rfl⟩ dX7_countOf_41 (Or.inl rfl)
  · have c11 : v4.toInt < x8.toInt := ti_ge_n c11
    refine mp_a (a_iload_n dX7_countOf_15 rfl) (mpp 16 rfl ?_)
    refine mp_a (a_aload_n dX7_countOf_16 rfl) (mpp 17 rfl ?_)
    refine mp_a (a_iload_n dX7_countOf_17 rfl) (mpp 18 rfl ?_)
    refine mp_a (a_iload dX7_countOf_18 rfl) (mpp 20 rfl ?_)
    have p13 : 0 ≤ t1.toInt := by omega
    have p14 : t1.toInt ≤ 7 := by omega
    have p15 : 0 ≤ v4.toInt := by omega
    have p16 : v4.toInt ≤ 7 := by omega
    refine mt_callv (i := 92) (q' := q_146) (As := [.int t1, .int v4]) (rest := [.int v3]) hT dX7_countOf_20 rfl qm_146 (by decide) rfl rl_301 (by decide) rfl (Nat.le_of_ble_eq_true rfl) rfl ⟨rfl, rfl⟩ ⟨Nat.le_of_ble_eq_true rfl, Nat.le_of_ble_eq_true rfl⟩ (EvP.mono (by decide) (c_M_creaseOf hT p13 p14 p15 p16 )) (fun r17 P18 g19 => mpp 23 rfl ?_)
    obtain ⟨⟨x20, rfl, g21⟩, e22⟩ := g19
    have e22 := e22.symm
    subst e22
    have wx20 := ti_full x20
    replace g21 : x20.toInt = (fv Po 302 (14 + 19 * t1.toInt.toNat + v4.toInt.toNat)).toInt := g21
    show MEvP _ none q_149 23 [(0, .ref 301), (1, .int t1), (2, .int t2), (3, .int v3), (4, .int v4)] [.int x20, .int v3] _ _ _ _
    refine mp_a (a_iload_n dX7_countOf_23 rfl) (mpp 24 rfl ?_)
    refine mp_Tb (t := 31) (j_icmp_ne dX7_countOf_24) (by decide) (fun c23 => ?_) (fun c23 => mpp 27 rfl ?_)
    · have c23 : x20.toInt ≠ t2.toInt := ti_ne c23
      refine mp_a (a_iconst (v := 0) dX7_countOf_31 rfl) (mpp 32 rfl ?_)
      obtain ⟨z24, h25⟩ := ti_ex (v3 + 0 : Int32)
      have wz24 := ti_full z24
      refine mp_t (s_iadd (v := z24) dX7_countOf_32 h25) (mpp 33 rfl ?_)
      try have e26 : z24.toInt = v3.toInt + 0 := ti_addz h25 rfl rfl (by omega) (by omega)
      refine mp_a (a_istore_n (L' := [(3, .int z24), (0, .ref 301), (1, .int t1), (2, .int t2), (4, .int v4)]) dX7_countOf_33 (by decide) rfl) (mpp 34 rfl ?_)
      obtain ⟨z27, h28⟩ := ti_ex (v4 + 1 : Int32)
      have wz27 := ti_full z27
      refine mp_a (a_iinc (v := z27) (L' := [(4, .int z27), (3, .int z24), (0, .ref 301), (1, .int t1), (2, .int t2)]) dX7_countOf_34 (by decide) rfl h28 rfl) (mpp 37 rfl ?_)
      try have e29 : z27.toInt = v4.toInt + 1 := ti_addz h28 rfl rfl (by omega) (by omega)
      refine mp_a (a_goto (t := 5) dX7_countOf_37 (by decide)) ?_
      refine MEvP.less (L := [(0, .ref 301), (1, .int t1), (2, .int t2), (3, .int z24), (4, .int z27)]) rfl rfl ⟨rfl, rfl, rfl, rfl, rfl, trivial⟩ ?_
      have i30 : z24.toInt ≤ 0 ∨ UD Po t1.toInt.toNat t2.toInt := by first | exact Or.inl (by omega) | exact Or.inr ⟨v4.toInt.toNat, by omega, by omega⟩ | exact i_0.imp (fun h => by omega) id
      have i31 : 0 ≤ z24.toInt := by omega
      have i32 : z24.toInt ≤ z27.toInt := by omega
      have i33 : z27.toInt ≤ 8 := by omega
      have i34 : z24.toInt = cntF (fun j : Nat => fv Po 302 (14 + 19 * t1.toInt.toNat + j)) t2.toInt z27.toInt.toNat := cntF.no i_4 (by omega) (by show ¬ (fv Po 302 (14 + 19 * t1.toInt.toNat + v4.toInt.toNat)).toInt = t2.toInt; omega) (by omega)
      have i35 : ((fv Po 302 (3 + 19 * t1.toInt.toNat)).toInt = 0 ∧ (z27.toInt ≤ (fv Po 302 (4 + 19 * t1.toInt.toNat)).toInt - 1 ∨ z27.toInt = 0)) ∨ ((fv Po 302 (3 + 19 * t1.toInt.toNat)).toInt = 1 ∧ z27.toInt ≤ (fv Po 302 (4 + 19 * t1.toInt.toNat)).toInt) := by omega
      have i36 : 0 ≤ z27.toInt := by omega
      exact ih _ (by omega) _ _ i30 i31 i32 i33 i34 i35 i36 rfl
    · have c23 : x20.toInt = t2.toInt := ti_ne_n c23
      refine mp_a (a_iconst (v := 1) dX7_countOf_27 rfl) (mpp 28 rfl ?_)
      refine mp_a (a_goto (t := 32) dX7_countOf_28 (by decide)) ?_
      obtain ⟨z37, h38⟩ := ti_ex (v3 + 1 : Int32)
      have wz37 := ti_full z37
      refine mp_t (s_iadd (v := z37) dX7_countOf_32 h38) (mpp 33 rfl ?_)
      try have e39 : z37.toInt = v3.toInt + 1 := ti_addz h38 rfl rfl (by omega) (by omega)
      refine mp_a (a_istore_n (L' := [(3, .int z37), (0, .ref 301), (1, .int t1), (2, .int t2), (4, .int v4)]) dX7_countOf_33 (by decide) rfl) (mpp 34 rfl ?_)
      obtain ⟨z40, h41⟩ := ti_ex (v4 + 1 : Int32)
      have wz40 := ti_full z40
      refine mp_a (a_iinc (v := z40) (L' := [(4, .int z40), (3, .int z37), (0, .ref 301), (1, .int t1), (2, .int t2)]) dX7_countOf_34 (by decide) rfl h41 rfl) (mpp 37 rfl ?_)
      try have e42 : z40.toInt = v4.toInt + 1 := ti_addz h41 rfl rfl (by omega) (by omega)
      refine mp_a (a_goto (t := 5) dX7_countOf_37 (by decide)) ?_
      refine MEvP.less (L := [(0, .ref 301), (1, .int t1), (2, .int t2), (3, .int z37), (4, .int z40)]) rfl rfl ⟨rfl, rfl, rfl, rfl, rfl, trivial⟩ ?_
      have i43 : z37.toInt ≤ 0 ∨ UD Po t1.toInt.toNat t2.toInt := by first | exact Or.inl (by omega) | exact Or.inr ⟨v4.toInt.toNat, by omega, by omega⟩ | exact i_0.imp (fun h => by omega) id
      have i44 : 0 ≤ z37.toInt := by omega
      have i45 : z37.toInt ≤ z40.toInt := by omega
      have i46 : z40.toInt ≤ 8 := by omega
      have i47 : z37.toInt = cntF (fun j : Nat => fv Po 302 (14 + 19 * t1.toInt.toNat + j)) t2.toInt z40.toInt.toNat := cntF.yes i_4 (by omega) (by show (fv Po 302 (14 + 19 * t1.toInt.toNat + v4.toInt.toNat)).toInt = t2.toInt; omega) (by omega)
      have i48 : ((fv Po 302 (3 + 19 * t1.toInt.toNat)).toInt = 0 ∧ (z40.toInt ≤ (fv Po 302 (4 + 19 * t1.toInt.toNat)).toInt - 1 ∨ z40.toInt = 0)) ∨ ((fv Po 302 (3 + 19 * t1.toInt.toNat)).toInt = 1 ∧ z40.toInt ≤ (fv Po 302 (4 + 19 * t1.toInt.toNat)).toInt) := by omega
      have i49 : 0 ≤ z40.toInt := by omega
      exact ih _ (by omega) _ _ i43 i44 i45 i46 i47 i48 i49 rfl

set_option maxHeartbeats 4000000 in
theorem c_M_countOf {Po : mP} {t1 : Int32} {t2 : Int32} (hT : Typ Po)  (hp0 : 0 ≤ t1.toInt) (hp1 : t1.toInt ≤ 7)  : EvP 5 149 [.ref 301, .int t1, .int t2] Po (fun r P' => (∃ x : Int32, r = some (.int x) ∧ ((x.toInt ≤ 0 ∨ UD Po t1.toInt.toNat t2.toInt) ∧ 0 ≤ x.toInt ∧ x.toInt ≤ 8 ∧ x.toInt = cntF (fun j : Nat => fv Po 302 (14 + 19 * t1.toInt.toNat + j)) t2.toInt (nC (fv Po 302 (3 + 19 * t1.toInt.toNat)).toInt (fv Po 302 (4 + 19 * t1.toInt.toNat)).toInt))) ∧ P' = Po) := by
  refine EvP.of qm_149 (Nat.le_of_ble_eq_true rfl) rfl ?_
  show MEvP _ none q_149 0 [(0, .ref 301), (1, .int t1), (2, .int t2)] [] _ 0 0 _
  have w_t1 := ti_full t1
  have w_t2 := ti_full t2
  try have g1 : (0 : Int) ≤ (fv Po 302 (3 + 19 * t1.toInt.toNat)).toInt ∧ (fv Po 302 (3 + 19 * t1.toInt.toNat)).toInt ≤ 1 := s3_rng hT (by omega)
  try have g2 : (0 : Int) ≤ (fv Po 302 (4 + 19 * t1.toInt.toNat)).toInt ∧ (fv Po 302 (4 + 19 * t1.toInt.toNat)).toInt ≤ 8 := s4_rng hT (by omega)
  refine mp_a (a_iconst (v := 0) dX7_countOf_0 rfl) (mpp 1 rfl ?_)
  refine mp_a (a_istore_n (L' := [(3, .int 0), (0, .ref 301), (1, .int t1), (2, .int t2)]) dX7_countOf_1 (by decide) rfl) (mpp 2 rfl ?_)
  refine mp_a (a_iconst (v := 0) dX7_countOf_2 rfl) (mpp 3 rfl ?_)
  refine mp_a (a_istore (L' := [(4, .int 0), (3, .int 0), (0, .ref 301), (1, .int t1), (2, .int t2)]) dX7_countOf_3 (by decide) rfl) (mpp 5 rfl ?_)
  refine MEvP.less (L := [(0, .ref 301), (1, .int t1), (2, .int t2), (3, .int 0), (4, .int 0)]) rfl rfl ⟨rfl, rfl, rfl, rfl, rfl, trivial⟩ ?_
  have i3 : (0 : Int) ≤ 0 ∨ UD Po t1.toInt.toNat t2.toInt := Or.inl (by omega)
  have i4 : 0 ≤ (0 : Int) := by omega
  have i5 : (0 : Int) ≤ (0 : Int) := by omega
  have i6 : (0 : Int) ≤ 8 := by omega
  have i7 : (0 : Int) = cntF (fun j : Nat => fv Po 302 (14 + 19 * t1.toInt.toNat + j)) t2.toInt (0 : Int).toNat := rfl
  have i8 : ((fv Po 302 (3 + 19 * t1.toInt.toNat)).toInt = 0 ∧ ((0 : Int) ≤ (fv Po 302 (4 + 19 * t1.toInt.toNat)).toInt - 1 ∨ (0 : Int) = 0)) ∨ ((fv Po 302 (3 + 19 * t1.toInt.toNat)).toInt = 1 ∧ (0 : Int) ≤ (fv Po 302 (4 + 19 * t1.toInt.toNat)).toInt) := by omega
  have i9 : 0 ≤ (0 : Int) := by omega
  exact c_M_countOf_l5 hT  hp0 hp1 _ _ _ i3 i4 i5 i6 i7 i8 i9 rfl

set_option maxHeartbeats 4000000 in
theorem c_M_turns_l29 {Po : mP} {t1 : Int32}  : ∀ (n : Nat) (v2 : Int32), ∀ (P : mP), Typ P → KW [1093, 1094, 1152] Po P → Rel P → (W2 Po P (fun _ => False) (14 + 19 * t1.toInt.toNat) 0 (fun j : Nat => flM (fv Po 302 (14 + 19 * t1.toInt.toNat + j))) (fun _ => 0) v2.toInt.toNat 0) → (0 ≤ t1.toInt) → (t1.toInt ≤ 7) → ((fv P 302 (3 + 19 * t1.toInt.toNat)).toInt = (fv Po 302 (3 + 19 * t1.toInt.toNat)).toInt ∧ (fv P 302 (4 + 19 * t1.toInt.toNat)).toInt = (fv Po 302 (4 + 19 * t1.toInt.toNat)).toInt ∧ (fv P 302 0).toInt = (fv Po 302 0).toInt ∧ t1.toInt + 1 ≤ (fv Po 302 0).toInt ∧ (fv Po 302 (5 + 19 * t1.toInt.toNat)).toInt ≠ 1) → (((fv Po 302 (3 + 19 * t1.toInt.toNat)).toInt = 0 ∧ (v2.toInt ≤ (fv Po 302 (4 + 19 * t1.toInt.toNat)).toInt - 1 ∨ v2.toInt = 0)) ∨ ((fv Po 302 (3 + 19 * t1.toInt.toNat)).toInt = 1 ∧ v2.toInt ≤ (fv Po 302 (4 + 19 * t1.toInt.toNat)).toInt)) → (0 ≤ v2.toInt) → (2147483647 - v2.toInt).toNat = n → MEvP 5 none q_148 29 [(0, .ref 301), (1, .int t1), (2, .int v2)] [] P 0 0 (fun r P' => (∃ x : Int32, r = some (.int x) ∧ (turnsM (sr Po) (sr P') x.toInt t1.toInt)) ∧ Typ P' ∧ KW [1093, 1094, 1152] Po P' ∧ Rel P') := by
  intro n
  induction n using Nat.strongRecOn with | _ n ih => ?_
  intro v2 P hT hK hR i_0 i_1 i_2 i_3 i_4 i_5 hm
  have w_t1 := ti_full t1
  have w_v2 := ti_full v2
  try have g1 : (0 : Int) ≤ (fv P 302 (3 + 19 * t1.toInt.toNat)).toInt ∧ (fv P 302 (3 + 19 * t1.toInt.toNat)).toInt ≤ 1 := s3_rng hT (by omega)
  try have g2 : (0 : Int) ≤ (fv P 302 (3 + 19 * t1.toInt.toNat)).toInt ∧ (fv P 302 (3 + 19 * t1.toInt.toNat)).toInt ≤ 1 := s3_rng hT (by omega)
  try have g3 : (0 : Int) ≤ (fv P 302 (4 + 19 * t1.toInt.toNat)).toInt ∧ (fv P 302 (4 + 19 * t1.toInt.toNat)).toInt ≤ 8 := s4_rng hT (by omega)
  try have g4 : (0 : Int) ≤ (fv P 302 (4 + 19 * t1.toInt.toNat)).toInt ∧ (fv P 302 (4 + 19 * t1.toInt.toNat)).toInt ≤ 8 := s4_rng hT (by omega)
  have g5 : (0 : Int) ≤ (fv P 302 0).toInt ∧ (fv P 302 0).toInt ≤ 8 := Typ.rng hT rl_302 (by decide) (by decide) rfl
  have g6 : (0 : Int) ≤ (fv P 302 0).toInt ∧ (fv P 302 0).toInt ≤ 8 := Typ.rng hT rl_302 (by decide) (by decide) rfl
  refine mp_a (a_iload_n dX7_turns_29 rfl) (mpp 30 rfl ?_)
  refine mp_a (a_aload_n dX7_turns_30 rfl) (mpp 31 rfl ?_)
  refine mp_a (a_iload_n dX7_turns_31 rfl) (mpp 32 rfl ?_)
  have p7 : 0 ≤ t1.toInt := by omega
  have p8 : t1.toInt ≤ 7 := by omega
  refine mt_callv (i := 88) (q' := q_136) (As := [.int t1]) (rest := [.int v2]) hT dX7_turns_32 rfl qm_136 (by decide) rfl rl_301 (by decide) rfl (Nat.le_of_ble_eq_true rfl) rfl ⟨rfl, rfl⟩ ⟨Nat.le_of_ble_eq_true rfl, Nat.le_of_ble_eq_true rfl⟩ (EvP.mono (by decide) (c_M_creases hT p7 p8 )) (fun r9 P10 g11 => mpp 35 rfl ?_)
  obtain ⟨⟨x12, rfl, g13⟩, e14⟩ := g11
  have e14 := e14.symm
  subst e14
  have wx12 := ti_full x12
  replace g13 : -1 ≤ x12.toInt ∧ x12.toInt ≤ 8 ∧ (((fv P 302 (3 + 19 * t1.toInt.toNat)).toInt = 1 ∧ x12.toInt = (fv P 302 (4 + 19 * t1.toInt.toNat)).toInt) ∨ ((fv P 302 (3 + 19 * t1.toInt.toNat)).toInt = 0 ∧ x12.toInt = (fv P 302 (4 + 19 * t1.toInt.toNat)).toInt - 1)) := g13
  show MEvP _ none q_148 35 [(0, .ref 301), (1, .int t1), (2, .int v2)] [.int x12, .int v2] _ _ _ _
  refine mp_Tb (t := 75) (j_icmp_ge dX7_turns_35) (by decide) (fun c15 => ?_) (fun c15 => mpp 38 rfl ?_)
  · have c15 : v2.toInt ≥ x12.toInt := ti_ge c15
    refine mp_a (a_aload_n dX7_turns_75 rfl) (mpp 76 rfl ?_)
    refine mp_a (a_iload_n dX7_turns_76 rfl) (mpp 77 rfl ?_)
    have p16 : 0 ≤ t1.toInt := by omega
    have p17 : t1.toInt ≤ 7 := by omega
    refine mt_callv (i := 88) (q' := q_136) (As := [.int t1]) (rest := []) hT dX7_turns_77 rfl qm_136 (by decide) rfl rl_301 (by decide) rfl (Nat.le_of_ble_eq_true rfl) rfl ⟨rfl, rfl⟩ ⟨Nat.le_of_ble_eq_true rfl, Nat.le_of_ble_eq_true rfl⟩ (EvP.mono (by decide) (c_M_creases hT p16 p17 )) (fun r18 P19 g20 => mpp 80 rfl ?_)
    obtain ⟨⟨x21, rfl, g22⟩, e23⟩ := g20
    have e23 := e23.symm
    subst e23
    have wx21 := ti_full x21
    replace g22 : -1 ≤ x21.toInt ∧ x21.toInt ≤ 8 ∧ (((fv P 302 (3 + 19 * t1.toInt.toNat)).toInt = 1 ∧ x21.toInt = (fv P 302 (4 + 19 * t1.toInt.toNat)).toInt) ∨ ((fv P 302 (3 + 19 * t1.toInt.toNat)).toInt = 0 ∧ x21.toInt = (fv P 302 (4 + 19 * t1.toInt.toNat)).toInt - 1)) := g22
    show MEvP _ none q_148 80 [(0, .ref 301), (1, .int t1), (2, .int v2)] [.int x21] _ _ _ _
    refine mp_a (a_aload_n dX7_turns_80 rfl) (mpp 81 rfl ?_)
    refine mp_a (a_iload_n dX7_turns_81 rfl) (mpp 82 rfl ?_)
    refine mp_a (a_iconst (v := 0) dX7_turns_82 rfl) (mpp 83 rfl ?_)
    have p24 : 0 ≤ t1.toInt := by omega
    have p25 : t1.toInt ≤ 7 := by omega
    refine mt_callv (i := 136) (q' := q_149) (As := [.int t1, .int 0]) (rest := [.int x21]) hT dX7_turns_83 rfl qm_149 (by decide) rfl rl_301 (by decide) rfl (Nat.le_of_ble_eq_true rfl) rfl ⟨rfl, rfl⟩ ⟨Nat.le_of_ble_eq_true rfl, Nat.le_of_ble_eq_true rfl⟩ (EvP.mono (by decide) (c_M_countOf hT p24 p25 )) (fun r26 P27 g28 => mpp 86 rfl ?_)
    obtain ⟨⟨x29, rfl, g30⟩, e31⟩ := g28
    have e31 := e31.symm
    subst e31
    have wx29 := ti_full x29
    replace g30 : (x29.toInt ≤ 0 ∨ UD P t1.toInt.toNat (0 : Int)) ∧ 0 ≤ x29.toInt ∧ x29.toInt ≤ 8 ∧ x29.toInt = cntF (fun j : Nat => fv P 302 (14 + 19 * t1.toInt.toNat + j)) (0 : Int) (nC (fv P 302 (3 + 19 * t1.toInt.toNat)).toInt (fv P 302 (4 + 19 * t1.toInt.toNat)).toInt) := g30
    show MEvP _ none q_148 86 [(0, .ref 301), (1, .int t1), (2, .int v2)] [.int x29, .int x21] _ _ _ _
    obtain ⟨z32, h33⟩ := ti_ex (x21 - x29 : Int32)
    have wz32 := ti_full z32
    refine mp_t (s_isub (v := z32) dX7_turns_86 h33) (mpp 87 rfl ?_)
    try have e34 : z32.toInt = x21.toInt - x29.toInt := ti_subz h33 rfl rfl (by omega) (by omega)
    have w37_ := g30.2.2.2
    rw [show (fv P 302 (3 + 19 * t1.toInt.toNat)).toInt = (fv Po 302 (3 + 19 * t1.toInt.toNat)).toInt from by omega, show (fv P 302 (4 + 19 * t1.toInt.toNat)).toInt = (fv Po 302 (4 + 19 * t1.toInt.toNat)).toInt from by omega] at w37_
    have u35 : turnsM (sr Po) (sr P) z32.toInt t1.toInt := (show (z32.toInt = -1001 ∧ (t1.toInt < 0 ∨ (fv Po 302 (0)).toInt ≤ t1.toInt) ∧ (∀ j : Nat, fv P 302 j = fv Po 302 j)) ∨ (z32.toInt = -1003 ∧ (0 ≤ t1.toInt ∧ t1.toInt + 1 ≤ (fv Po 302 (0)).toInt ∧ t1.toInt ≤ 7) ∧ (fv Po 302 (5 + 19 * t1.toInt.toNat)).toInt = 1 ∧ (∀ j : Nat, fv P 302 j = fv Po 302 j)) ∨ ((0 ≤ t1.toInt ∧ t1.toInt + 1 ≤ (fv Po 302 (0)).toInt ∧ t1.toInt ≤ 7) ∧ ¬ (fv Po 302 (5 + 19 * t1.toInt.toNat)).toInt = 1 ∧ z32.toInt = (if (fv Po 302 (3 + 19 * t1.toInt.toNat)).toInt = 0 then (fv Po 302 (4 + 19 * t1.toInt.toNat)).toInt - 1 else (fv Po 302 (4 + 19 * t1.toInt.toNat)).toInt) - cntF (fun j : Nat => fv P 302 (14 + 19 * t1.toInt.toNat + j)) 0 (nC ((fv Po 302 (3 + 19 * t1.toInt.toNat)).toInt) ((fv Po 302 (4 + 19 * t1.toInt.toNat)).toInt)) ∧ (∀ j : Nat, j < nC ((fv Po 302 (3 + 19 * t1.toInt.toNat)).toInt) ((fv Po 302 (4 + 19 * t1.toInt.toNat)).toInt) → fv P 302 (14 + 19 * t1.toInt.toNat + j) = flM (fv Po 302 (14 + 19 * t1.toInt.toNat + j))) ∧ (∀ j : Nat, ¬ (14 + 19 * t1.toInt.toNat ≤ j ∧ j < 14 + 19 * t1.toInt.toNat + nC ((fv Po 302 (3 + 19 * t1.toInt.toNat)).toInt) ((fv Po 302 (4 + 19 * t1.toInt.toNat)).toInt)) → fv P 302 j = fv Po 302 j)) from Or.inr (Or.inr (⟨by omega, by omega, by rw [← w37_]; split <;> omega, fun j hj => i_0.1 j (by have e : v2.toInt.toNat = nC (fv Po 302 (3 + 19 * t1.toInt.toNat)).toInt (fv Po 302 (4 + 19 * t1.toInt.toNat)).toInt := (by unfold nC; split <;> omega); exact e ▸ hj), fun j hj => i_0.2.2 j (fun h => h) (by have e : v2.toInt.toNat = nC (fv Po 302 (3 + 19 * t1.toInt.toNat)).toInt (fv Po 302 (4 + 19 * t1.toInt.toNat)).toInt := (by unfold nC; split <;> omega); exact e ▸ hj) (by omega)⟩)))
    exact mp_iret ⟨⟨_, rfl, u35⟩, hT, hK, hR⟩ dX7_turns_87 (Or.inl rfl)
  · have c15 : v2.toInt < x12.toInt := ti_ge_n c15
    refine mp_a (a_aload_n dX7_turns_38 rfl) (mpp 39 rfl ?_)
    refine mp_a (a_iload_n dX7_turns_39 rfl) (mpp 40 rfl ?_)
    refine mp_a (a_iload_n dX7_turns_40 rfl) (mpp 41 rfl ?_)
    have p38 : 0 ≤ t1.toInt := by omega
    have p39 : t1.toInt ≤ 7 := by omega
    have p40 : 0 ≤ v2.toInt := by omega
    have p41 : v2.toInt ≤ 7 := by omega
    refine mt_callv (i := 92) (q' := q_146) (As := [.int t1, .int v2]) (rest := []) hT dX7_turns_41 rfl qm_146 (by decide) rfl rl_301 (by decide) rfl (Nat.le_of_ble_eq_true rfl) rfl ⟨rfl, rfl⟩ ⟨Nat.le_of_ble_eq_true rfl, Nat.le_of_ble_eq_true rfl⟩ (EvP.mono (by decide) (c_M_creaseOf hT p38 p39 p40 p41 )) (fun r42 P43 g44 => mpp 44 rfl ?_)
    obtain ⟨⟨x45, rfl, g46⟩, e47⟩ := g44
    have e47 := e47.symm
    subst e47
    have wx45 := ti_full x45
    replace g46 : x45.toInt = (fv P 302 (14 + 19 * t1.toInt.toNat + v2.toInt.toNat)).toInt := g46
    show MEvP _ none q_148 44 [(0, .ref 301), (1, .int t1), (2, .int v2)] [.int x45] _ _ _ _
    refine mp_a (a_istore_n (L' := [(3, .int x45), (0, .ref 301), (1, .int t1), (2, .int v2)]) dX7_turns_44 (by decide) rfl) (mpp 45 rfl ?_)
    refine mp_a (a_aload_n dX7_turns_45 rfl) (mpp 46 rfl ?_)
    refine mt_getU (i := 9) (k := 0) (A := 302) hT dX7_turns_46 rfl rl_301 (by decide) rfl (by decide) rfl un_18 (mpp 49 rfl ?_)
    refine mp_a (a_iload_n dX7_turns_49 rfl) (mpp 50 rfl ?_)
    refine mp_a (a_bipush (v := 11) dX7_turns_50 rfl) (mpp 52 rfl ?_)
    refine mp_a (a_iload_n dX7_turns_52 rfl) (mpp 53 rfl ?_)
    obtain ⟨z48, h49⟩ := ti_ex (11 + v2 : Int32)
    have wz48 := ti_full z48
    refine mp_t (s_iadd (v := z48) dX7_turns_53 h49) (mpp 54 rfl ?_)
    try have e50 : z48.toInt = 11 + v2.toInt := ti_addz h49 rfl rfl (by omega) (by omega)
    have p51 : 0 ≤ t1.toInt := by omega
    have p52 : t1.toInt ≤ 8 := by omega
    have p53 : 0 ≤ z48.toInt := by omega
    have p54 : z48.toInt ≤ 20 := by omega
    refine mp_calls (i := 74) (q' := q_135) (As := [.int t1, .int z48]) (rest := [.ref 302]) dX7_turns_54 rfl qm_135 (by decide) rfl (Nat.le_of_ble_eq_true rfl) rfl ⟨rfl, rfl⟩ ⟨Nat.le_of_ble_eq_true rfl, Nat.le_of_ble_eq_true rfl⟩ (EvP.mono (by decide) (c_M_at hT p51 p52 p53 p54 )) (fun r55 P56 g57 => mpp 57 rfl ?_)
    obtain ⟨⟨x58, rfl, g59⟩, e60⟩ := g57
    have e60 := e60.symm
    subst e60
    have wx58 := ti_full x58
    replace g59 : x58.toInt = 3 + 19 * t1.toInt + z48.toInt := g59
    show MEvP _ none q_148 57 [(3, .int x45), (0, .ref 301), (1, .int t1), (2, .int v2)] [.int x58, .ref 302] _ _ _ _
    refine mp_a (a_iload_n dX7_turns_57 rfl) (mpp 58 rfl ?_)
    refine mp_Tb (t := 65) (j_if_ne dX7_turns_58) (by decide) (fun c61 => ?_) (fun c61 => mpp 61 rfl ?_)
    · have c61 : x45.toInt ≠ 0 := ti_ne c61
      refine mp_a (a_iconst (v := 3) dX7_turns_65 rfl) (mpp 66 rfl ?_)
      refine mp_a (a_iload_n dX7_turns_66 rfl) (mpp 67 rfl ?_)
      obtain ⟨z62, h63⟩ := ti_ex (3 - x45 : Int32)
      have wz62 := ti_full z62
      refine mp_t (s_isub (v := z62) dX7_turns_67 h63) (mpp 68 rfl ?_)
      try have e64 : z62.toInt = 3 - x45.toInt := ti_subz h63 rfl rfl (by omega) (by omega)
      refine mt_iasX (n := 155) hT dX7_turns_68 rl_302 (by decide) rfl rfl (by omega) (by omega) ssp_0 (okS_mk (by omega) (fun _ => ⟨by omega, by omega⟩) (fun _ => ⟨by omega, by omega⟩)) (fun P65 hT66 f67 f68 f69 => mpp 69 rfl ?_)
      have k70 : KW [1093, 1094, 1152] Po P65 := KW.step hK rl_302 rfl f68 f69
      have R71 := Rel.oth hR f68 (by omega)
      obtain ⟨z72, h73⟩ := ti_ex (v2 + 1 : Int32)
      have wz72 := ti_full z72
      refine mp_a (a_iinc (v := z72) (L' := [(2, .int z72), (3, .int x45), (0, .ref 301), (1, .int t1)]) dX7_turns_69 (by decide) rfl h73 rfl) (mpp 72 rfl ?_)
      try have e74 : z72.toInt = v2.toInt + 1 := ti_addz h73 rfl rfl (by omega) (by omega)
      refine mp_a (a_goto (t := 29) dX7_turns_72 (by decide)) ?_
      refine MEvP.less (L := [(0, .ref 301), (1, .int t1), (2, .int z72)]) rfl rfl ⟨rfl, rfl, rfl, trivial⟩ ?_
      have w76_ := (show x45.toInt = (fv Po 302 (14 + 19 * t1.toInt.toNat + v2.toInt.toNat)).toInt from g46.trans (congrArg Int32.toInt (i_0.2.2 _ (fun h => h) (by omega) (by omega))))
      have i75 : W2 Po P65 (fun _ => False) (14 + 19 * t1.toInt.toNat) 0 (fun j : Nat => flM (fv Po 302 (14 + 19 * t1.toInt.toNat + j))) (fun _ => 0) z72.toInt.toNat 0 := W2.one i_0 (by omega) (n := x58.toInt.toNat) (by omega) (congrArg Int32.toInt f67) (flM.ne (x := x45) w76_ (by omega) h63) (fun j hj => f68 302 j (fun e => hj e.2)) (Or.inr (by omega))
      have i77 : 0 ≤ t1.toInt := by omega
      have i78 : t1.toInt ≤ 7 := by omega
      try have g79 : (0 : Int) ≤ (fv P65 302 (3 + 19 * t1.toInt.toNat)).toInt ∧ (fv P65 302 (3 + 19 * t1.toInt.toNat)).toInt ≤ 1 := s3_rng hT66 (by omega)
      try have e80 : (fv P65 302 (3 + 19 * t1.toInt.toNat)).toInt = (fv P 302 (3 + 19 * t1.toInt.toNat)).toInt := congrArg Int32.toInt (f68 302 (3 + 19 * t1.toInt.toNat) (ne_i (by omega)))
      try have g81 : (0 : Int) ≤ (fv P65 302 (4 + 19 * t1.toInt.toNat)).toInt ∧ (fv P65 302 (4 + 19 * t1.toInt.toNat)).toInt ≤ 8 := s4_rng hT66 (by omega)
      try have e82 : (fv P65 302 (4 + 19 * t1.toInt.toNat)).toInt = (fv P 302 (4 + 19 * t1.toInt.toNat)).toInt := congrArg Int32.toInt (f68 302 (4 + 19 * t1.toInt.toNat) (ne_i (by omega)))
      have e83 : (fv P65 302 0).toInt = (fv P 302 0).toInt := congrArg Int32.toInt (f68 302 0 (ne_i (by omega)))
      have i84 : (fv P65 302 (3 + 19 * t1.toInt.toNat)).toInt = (fv Po 302 (3 + 19 * t1.toInt.toNat)).toInt ∧ (fv P65 302 (4 + 19 * t1.toInt.toNat)).toInt = (fv Po 302 (4 + 19 * t1.toInt.toNat)).toInt ∧ (fv P65 302 0).toInt = (fv Po 302 0).toInt ∧ t1.toInt + 1 ≤ (fv Po 302 0).toInt ∧ (fv Po 302 (5 + 19 * t1.toInt.toNat)).toInt ≠ 1 := by omega
      have i85 : ((fv Po 302 (3 + 19 * t1.toInt.toNat)).toInt = 0 ∧ (z72.toInt ≤ (fv Po 302 (4 + 19 * t1.toInt.toNat)).toInt - 1 ∨ z72.toInt = 0)) ∨ ((fv Po 302 (3 + 19 * t1.toInt.toNat)).toInt = 1 ∧ z72.toInt ≤ (fv Po 302 (4 + 19 * t1.toInt.toNat)).toInt) := by omega
      have i86 : 0 ≤ z72.toInt := by omega
      exact ih _ (by omega) _ P65 hT66 k70 R71 i75 i77 i78 i84 i85 i86 rfl
    · have c61 : x45.toInt = 0 := ti_ne_n c61
      refine mp_a (a_iconst (v := 0) dX7_turns_61 rfl) (mpp 62 rfl ?_)
      refine mp_a (a_goto (t := 68) dX7_turns_62 (by decide)) ?_
      refine mt_iasX (n := 155) hT dX7_turns_68 rl_302 (by decide) rfl rfl (by omega) (by omega) ssp_0 (okS_mk (by omega) (fun _ => ⟨by omega, by omega⟩) (fun _ => ⟨by omega, by omega⟩)) (fun P87 hT88 f89 f90 f91 => mpp 69 rfl ?_)
      have k92 : KW [1093, 1094, 1152] Po P87 := KW.step hK rl_302 rfl f90 f91
      have R93 := Rel.oth hR f90 (by omega)
      obtain ⟨z94, h95⟩ := ti_ex (v2 + 1 : Int32)
      have wz94 := ti_full z94
      refine mp_a (a_iinc (v := z94) (L' := [(2, .int z94), (3, .int x45), (0, .ref 301), (1, .int t1)]) dX7_turns_69 (by decide) rfl h95 rfl) (mpp 72 rfl ?_)
      try have e96 : z94.toInt = v2.toInt + 1 := ti_addz h95 rfl rfl (by omega) (by omega)
      refine mp_a (a_goto (t := 29) dX7_turns_72 (by decide)) ?_
      refine MEvP.less (L := [(0, .ref 301), (1, .int t1), (2, .int z94)]) rfl rfl ⟨rfl, rfl, rfl, trivial⟩ ?_
      have w98_ := (show x45.toInt = (fv Po 302 (14 + 19 * t1.toInt.toNat + v2.toInt.toNat)).toInt from g46.trans (congrArg Int32.toInt (i_0.2.2 _ (fun h => h) (by omega) (by omega))))
      have i97 : W2 Po P87 (fun _ => False) (14 + 19 * t1.toInt.toNat) 0 (fun j : Nat => flM (fv Po 302 (14 + 19 * t1.toInt.toNat + j))) (fun _ => 0) z94.toInt.toNat 0 := W2.one i_0 (by omega) (n := x58.toInt.toNat) (by omega) (congrArg Int32.toInt f89) (flM.zero (by omega) rfl) (fun j hj => f90 302 j (fun e => hj e.2)) (Or.inr (by omega))
      have i99 : 0 ≤ t1.toInt := by omega
      have i100 : t1.toInt ≤ 7 := by omega
      try have g101 : (0 : Int) ≤ (fv P87 302 (3 + 19 * t1.toInt.toNat)).toInt ∧ (fv P87 302 (3 + 19 * t1.toInt.toNat)).toInt ≤ 1 := s3_rng hT88 (by omega)
      try have e102 : (fv P87 302 (3 + 19 * t1.toInt.toNat)).toInt = (fv P 302 (3 + 19 * t1.toInt.toNat)).toInt := congrArg Int32.toInt (f90 302 (3 + 19 * t1.toInt.toNat) (ne_i (by omega)))
      try have g103 : (0 : Int) ≤ (fv P87 302 (4 + 19 * t1.toInt.toNat)).toInt ∧ (fv P87 302 (4 + 19 * t1.toInt.toNat)).toInt ≤ 8 := s4_rng hT88 (by omega)
      try have e104 : (fv P87 302 (4 + 19 * t1.toInt.toNat)).toInt = (fv P 302 (4 + 19 * t1.toInt.toNat)).toInt := congrArg Int32.toInt (f90 302 (4 + 19 * t1.toInt.toNat) (ne_i (by omega)))
      have e105 : (fv P87 302 0).toInt = (fv P 302 0).toInt := congrArg Int32.toInt (f90 302 0 (ne_i (by omega)))
      have i106 : (fv P87 302 (3 + 19 * t1.toInt.toNat)).toInt = (fv Po 302 (3 + 19 * t1.toInt.toNat)).toInt ∧ (fv P87 302 (4 + 19 * t1.toInt.toNat)).toInt = (fv Po 302 (4 + 19 * t1.toInt.toNat)).toInt ∧ (fv P87 302 0).toInt = (fv Po 302 0).toInt ∧ t1.toInt + 1 ≤ (fv Po 302 0).toInt ∧ (fv Po 302 (5 + 19 * t1.toInt.toNat)).toInt ≠ 1 := by omega
      have i107 : ((fv Po 302 (3 + 19 * t1.toInt.toNat)).toInt = 0 ∧ (z94.toInt ≤ (fv Po 302 (4 + 19 * t1.toInt.toNat)).toInt - 1 ∨ z94.toInt = 0)) ∨ ((fv Po 302 (3 + 19 * t1.toInt.toNat)).toInt = 1 ∧ z94.toInt ≤ (fv Po 302 (4 + 19 * t1.toInt.toNat)).toInt) := by omega
      have i108 : 0 ≤ z94.toInt := by omega
      exact ih _ (by omega) _ P87 hT88 k92 R93 i97 i99 i100 i106 i107 i108 rfl

set_option maxHeartbeats 4000000 in
theorem c_M_turns {Po : mP} {t1 : Int32} (hT : Typ Po) (hR : Rel Po)  : EvP 6 148 [.ref 301, .int t1] Po (fun r P' => (∃ x : Int32, r = some (.int x) ∧ (turnsM (sr Po) (sr P') x.toInt t1.toInt)) ∧ Typ P' ∧ KW [1093, 1094, 1152] Po P' ∧ Rel P') := by
  refine EvP.of qm_148 (Nat.le_of_ble_eq_true rfl) rfl ?_
  show MEvP _ none q_148 0 [(0, .ref 301), (1, .int t1)] [] _ 0 0 _
  have w_t1 := ti_full t1
  refine mp_a (a_aload_n dX7_turns_0 rfl) (mpp 1 rfl ?_)
  refine mp_a (a_iload_n dX7_turns_1 rfl) (mpp 2 rfl ?_)
  refine mt_callv (i := 85) (q' := q_144) (As := [.int t1]) (rest := []) hT dX7_turns_2 rfl qm_144 (by decide) rfl rl_301 (by decide) rfl (Nat.le_of_ble_eq_true rfl) rfl ⟨rfl, rfl⟩ ⟨Nat.le_of_ble_eq_true rfl, Nat.le_of_ble_eq_true rfl⟩ (EvP.mono (by decide) (c_M_isPiece hT )) (fun r1 P2 g3 => mpp 5 rfl ?_)
  obtain ⟨⟨x4, rfl, g5⟩, e6⟩ := g3
  have e6 := e6.symm
  subst e6
  have wx4 := ti_full x4
  replace g5 : 0 ≤ x4.toInt ∧ x4.toInt ≤ 1 ∧ ((x4.toInt = 1 ∧ 0 ≤ t1.toInt ∧ t1.toInt + 1 ≤ (fv Po 302 0).toInt ∧ t1.toInt ≤ 7) ∨ (x4.toInt = 0 ∧ (t1.toInt < 0 ∨ (fv Po 302 0).toInt ≤ t1.toInt))) := g5
  have g7 : (0 : Int) ≤ (fv Po 302 0).toInt ∧ (fv Po 302 0).toInt ≤ 8 := Typ.rng hT rl_302 (by decide) (by decide) rfl
  show MEvP _ none q_148 5 [(0, .ref 301), (1, .int t1)] [.int x4] _ _ _ _
  refine mp_Tb (t := 12) (j_if_ne dX7_turns_5) (by decide) (fun c8 => ?_) (fun c8 => mpp 8 rfl ?_)
  · have c8 : x4.toInt ≠ 0 := ti_ne c8
    refine mp_a (a_aload_n dX7_turns_12 rfl) (mpp 13 rfl ?_)
    refine mp_a (a_iload_n dX7_turns_13 rfl) (mpp 14 rfl ?_)
    have p9 : 0 ≤ t1.toInt := by omega
    have p10 : t1.toInt ≤ 7 := by omega
    refine mt_callv (i := 130) (q' := q_145) (As := [.int t1]) (rest := []) hT dX7_turns_14 rfl qm_145 (by decide) rfl rl_301 (by decide) rfl (Nat.le_of_ble_eq_true rfl) rfl ⟨rfl, rfl⟩ ⟨Nat.le_of_ble_eq_true rfl, Nat.le_of_ble_eq_true rfl⟩ (EvP.mono (by decide) (c_M_isFolded hT p9 p10 )) (fun r11 P12 g13 => mpp 17 rfl ?_)
    obtain ⟨⟨x14, rfl, g15⟩, e16⟩ := g13
    have e16 := e16.symm
    subst e16
    have wx14 := ti_full x14
    replace g15 : 0 ≤ x14.toInt ∧ x14.toInt ≤ 1 ∧ ((x14.toInt = 1 ∧ (fv Po 302 (5 + 19 * t1.toInt.toNat)).toInt = 1) ∨ (x14.toInt = 0 ∧ (fv Po 302 (5 + 19 * t1.toInt.toNat)).toInt ≠ 1)) := g15
    have g17 := ti_full (fv Po 302 (5 + 19 * t1.toInt.toNat))
    show MEvP _ none q_148 17 [(0, .ref 301), (1, .int t1)] [.int x14] _ _ _ _
    refine mp_Tb (t := 27) (j_if_eq dX7_turns_17) (by decide) (fun c18 => ?_) (fun c18 => mpp 20 rfl ?_)
    · have c18 : x14.toInt = 0 := ti_eq c18
      refine mp_a (a_iconst (v := 0) dX7_turns_27 rfl) (mpp 28 rfl ?_)
      refine mp_a (a_istore_n (L' := [(2, .int 0), (0, .ref 301), (1, .int t1)]) dX7_turns_28 (by decide) rfl) (mpp 29 rfl ?_)
      refine MEvP.less (L := [(0, .ref 301), (1, .int t1), (2, .int 0)]) rfl rfl ⟨rfl, rfl, rfl, trivial⟩ ?_
      have i19 : W2 Po Po (fun _ => False) (14 + 19 * t1.toInt.toNat) 0 (fun j : Nat => flM (fv Po 302 (14 + 19 * t1.toInt.toNat + j))) (fun _ => 0) (0 : Int).toNat 0 := W2.start rfl rfl (fun j h => rfl)
      have i20 : 0 ≤ t1.toInt := by omega
      have i21 : t1.toInt ≤ 7 := by omega
      try have g22 : (0 : Int) ≤ (fv Po 302 (3 + 19 * t1.toInt.toNat)).toInt ∧ (fv Po 302 (3 + 19 * t1.toInt.toNat)).toInt ≤ 1 := s3_rng hT (by omega)
      try have g23 : (0 : Int) ≤ (fv Po 302 (4 + 19 * t1.toInt.toNat)).toInt ∧ (fv Po 302 (4 + 19 * t1.toInt.toNat)).toInt ≤ 8 := s4_rng hT (by omega)
      have i24 : (fv Po 302 (3 + 19 * t1.toInt.toNat)).toInt = (fv Po 302 (3 + 19 * t1.toInt.toNat)).toInt ∧ (fv Po 302 (4 + 19 * t1.toInt.toNat)).toInt = (fv Po 302 (4 + 19 * t1.toInt.toNat)).toInt ∧ (fv Po 302 0).toInt = (fv Po 302 0).toInt ∧ t1.toInt + 1 ≤ (fv Po 302 0).toInt ∧ (fv Po 302 (5 + 19 * t1.toInt.toNat)).toInt ≠ 1 := by omega
      have i25 : ((fv Po 302 (3 + 19 * t1.toInt.toNat)).toInt = 0 ∧ ((0 : Int) ≤ (fv Po 302 (4 + 19 * t1.toInt.toNat)).toInt - 1 ∨ (0 : Int) = 0)) ∨ ((fv Po 302 (3 + 19 * t1.toInt.toNat)).toInt = 1 ∧ (0 : Int) ≤ (fv Po 302 (4 + 19 * t1.toInt.toNat)).toInt) := by omega
      have i26 : 0 ≤ (0 : Int) := by omega
      exact c_M_turns_l29    _ _ Po hT KW.refl hR i19 i20 i21 i24 i25 i26 rfl
    · have c18 : x14.toInt ≠ 0 := ti_eq_n c18
      refine mp_a (a_aload_n dX7_turns_20 rfl) (mpp 21 rfl ?_)
      refine mp_a (a_iconst (v := 2) dX7_turns_21 rfl) (mpp 22 rfl ?_)
      refine mp_a (a_iload_n dX7_turns_22 rfl) (mpp 23 rfl ?_)
      refine mt_callv (i := 101) (q' := q_134) (As := [.int 2, .int t1]) (rest := []) hT dX7_turns_23 rfl qm_134 (by decide) rfl rl_301 (by decide) rfl (Nat.le_of_ble_eq_true rfl) rfl ⟨rfl, rfl⟩ ⟨Nat.le_of_ble_eq_true rfl, Nat.le_of_ble_eq_true rfl⟩ (EvP.mono (by decide) (c_M_refuses hT )) (fun r27 P28 g29 => mpp 26 rfl ?_)
      obtain ⟨⟨x30, rfl, g31⟩, hT32, k33, R34⟩ := g29
      have k35 : KW [1093, 1094, 1152] Po P28 := KW.trans KW.refl k33 rfl
      have R37 := Rel.kw hR k33 rfl
      have wx30 := ti_full x30
      replace g31 : x30.toInt = -1003 := g31
      show MEvP _ none q_148 26 [(0, .ref 301), (1, .int t1)] [.int x30] _ _ _ _
      have e39 : (fv P28 302 0).toInt = (fv Po 302 0).toInt := congrArg Int32.toInt (R34 302 0 (by omega))
      have e40 : (fv P28 302 1).toInt = (fv Po 302 1).toInt := congrArg Int32.toInt (R34 302 1 (by omega))
      have e41 : (fv P28 302 2).toInt = (fv Po 302 2).toInt := congrArg Int32.toInt (R34 302 2 (by omega))
      have u38 : turnsM (sr Po) (sr P28) x30.toInt t1.toInt := (show (x30.toInt = -1001 ∧ (t1.toInt < 0 ∨ (fv Po 302 (0)).toInt ≤ t1.toInt) ∧ (∀ j : Nat, fv P28 302 j = fv Po 302 j)) ∨ (x30.toInt = -1003 ∧ (0 ≤ t1.toInt ∧ t1.toInt + 1 ≤ (fv Po 302 (0)).toInt ∧ t1.toInt ≤ 7) ∧ (fv Po 302 (5 + 19 * t1.toInt.toNat)).toInt = 1 ∧ (∀ j : Nat, fv P28 302 j = fv Po 302 j)) ∨ ((0 ≤ t1.toInt ∧ t1.toInt + 1 ≤ (fv Po 302 (0)).toInt ∧ t1.toInt ≤ 7) ∧ ¬ (fv Po 302 (5 + 19 * t1.toInt.toNat)).toInt = 1 ∧ x30.toInt = (if (fv Po 302 (3 + 19 * t1.toInt.toNat)).toInt = 0 then (fv Po 302 (4 + 19 * t1.toInt.toNat)).toInt - 1 else (fv Po 302 (4 + 19 * t1.toInt.toNat)).toInt) - cntF (fun j : Nat => fv P28 302 (14 + 19 * t1.toInt.toNat + j)) 0 (nC ((fv Po 302 (3 + 19 * t1.toInt.toNat)).toInt) ((fv Po 302 (4 + 19 * t1.toInt.toNat)).toInt)) ∧ (∀ j : Nat, j < nC ((fv Po 302 (3 + 19 * t1.toInt.toNat)).toInt) ((fv Po 302 (4 + 19 * t1.toInt.toNat)).toInt) → fv P28 302 (14 + 19 * t1.toInt.toNat + j) = flM (fv Po 302 (14 + 19 * t1.toInt.toNat + j))) ∧ (∀ j : Nat, ¬ (14 + 19 * t1.toInt.toNat ≤ j ∧ j < 14 + 19 * t1.toInt.toNat + nC ((fv Po 302 (3 + 19 * t1.toInt.toNat)).toInt) ((fv Po 302 (4 + 19 * t1.toInt.toNat)).toInt)) → fv P28 302 j = fv Po 302 j)) from Or.inr (Or.inl (⟨by omega, by omega, by omega, fun j => by rw [R34 302 j (by omega)]⟩)))
      exact mp_iret ⟨⟨_, rfl, u38⟩, hT32, k35, R37⟩ dX7_turns_26 (Or.inl rfl)
  · have c8 : x4.toInt = 0 := ti_ne_n c8
    refine mp_a (a_sipush (v := -1001) dX7_turns_8 rfl) (mpp 11 rfl ?_)
    have u42 : turnsM (sr Po) (sr Po) (-1001 : Int) t1.toInt := (show ((-1001 : Int) = -1001 ∧ (t1.toInt < 0 ∨ (fv Po 302 (0)).toInt ≤ t1.toInt) ∧ (∀ j : Nat, fv Po 302 j = fv Po 302 j)) ∨ ((-1001 : Int) = -1003 ∧ (0 ≤ t1.toInt ∧ t1.toInt + 1 ≤ (fv Po 302 (0)).toInt ∧ t1.toInt ≤ 7) ∧ (fv Po 302 (5 + 19 * t1.toInt.toNat)).toInt = 1 ∧ (∀ j : Nat, fv Po 302 j = fv Po 302 j)) ∨ ((0 ≤ t1.toInt ∧ t1.toInt + 1 ≤ (fv Po 302 (0)).toInt ∧ t1.toInt ≤ 7) ∧ ¬ (fv Po 302 (5 + 19 * t1.toInt.toNat)).toInt = 1 ∧ (-1001 : Int) = (if (fv Po 302 (3 + 19 * t1.toInt.toNat)).toInt = 0 then (fv Po 302 (4 + 19 * t1.toInt.toNat)).toInt - 1 else (fv Po 302 (4 + 19 * t1.toInt.toNat)).toInt) - cntF (fun j : Nat => fv Po 302 (14 + 19 * t1.toInt.toNat + j)) 0 (nC ((fv Po 302 (3 + 19 * t1.toInt.toNat)).toInt) ((fv Po 302 (4 + 19 * t1.toInt.toNat)).toInt)) ∧ (∀ j : Nat, j < nC ((fv Po 302 (3 + 19 * t1.toInt.toNat)).toInt) ((fv Po 302 (4 + 19 * t1.toInt.toNat)).toInt) → fv Po 302 (14 + 19 * t1.toInt.toNat + j) = flM (fv Po 302 (14 + 19 * t1.toInt.toNat + j))) ∧ (∀ j : Nat, ¬ (14 + 19 * t1.toInt.toNat ≤ j ∧ j < 14 + 19 * t1.toInt.toNat + nC ((fv Po 302 (3 + 19 * t1.toInt.toNat)).toInt) ((fv Po 302 (4 + 19 * t1.toInt.toNat)).toInt)) → fv Po 302 j = fv Po 302 j)) from Or.inl (⟨by omega, by omega, fun j => rfl⟩))
    exact mp_iret ⟨⟨_, rfl, u42⟩, hT, KW.refl, hR⟩ dX7_turns_11 (Or.inl rfl)

set_option maxHeartbeats 4000000 in
theorem c_M_turn {Po : mP} {t1 : Int32} (hT : Typ Po) (hR : Rel Po)  : EvP 7 147 [.ref 301, .int t1] Po (fun r P' => (∃ x : Int32, r = some (.int x) ∧ (TOPM Po P' x.toInt ∧ turnsM (sr Po) (sr P') x.toInt t1.toInt)) ∧ Typ P' ∧ KW [1092, 1093, 1094, 1095, 1152, 1216, 1344] Po P' ∧ Rel P') := by
  refine EvP.of qm_147 (Nat.le_of_ble_eq_true rfl) rfl ?_
  show MEvP _ none q_147 0 [(0, .ref 301), (1, .int t1)] [] _ 0 0 _
  have w_t1 := ti_full t1
  refine mp_a (a_aload_n dX7_turn_0 rfl) (mpp 1 rfl ?_)
  refine mt_callv (i := 117) (q' := q_124) (As := []) (rest := []) hT dX7_turn_1 rfl qm_124 (by decide) rfl rl_301 (by decide) rfl (Nat.le_of_ble_eq_true rfl) rfl ⟨rfl, rfl⟩ ⟨Nat.le_of_ble_eq_true rfl, Nat.le_of_ble_eq_true rfl⟩ (EvP.mono (by decide) (c_M_keeps hT hR )) (fun r1 P2 g3 => mpp 4 rfl ?_)
  obtain ⟨⟨rfl, g5⟩, hT6, k7, R8r, R8⟩ := g3
  have k9 : KW [1092, 1093, 1094, 1095, 1152, 1216, 1344] Po P2 := KW.trans KW.refl k7 rfl
  show MEvP _ none q_147 4 [(0, .ref 301), (1, .int t1)] [] _ _ _ _
  refine mp_a (a_aload_n dX7_turn_4 rfl) (mpp 5 rfl ?_)
  refine mp_a (a_aload_n dX7_turn_5 rfl) (mpp 6 rfl ?_)
  refine mp_a (a_iload_n dX7_turn_6 rfl) (mpp 7 rfl ?_)
  refine mt_callv (i := 139) (q' := q_148) (As := [.int t1]) (rest := [.ref 301]) hT6 dX7_turn_7 rfl qm_148 (by decide) rfl rl_301 (by decide) rfl (Nat.le_of_ble_eq_true rfl) rfl ⟨rfl, rfl⟩ ⟨Nat.le_of_ble_eq_true rfl, Nat.le_of_ble_eq_true rfl⟩ (EvP.mono (by decide) (c_M_turns hT6 R8r )) (fun r11 P12 g13 => mpp 10 rfl ?_)
  obtain ⟨⟨x14, rfl, g15⟩, hT16, k17, R18⟩ := g13
  have k19 : KW [1092, 1093, 1094, 1095, 1152, 1216, 1344] Po P12 := KW.trans k9 k17 rfl
  have wx14 := ti_full x14
  replace g15 : turnsM (sr P2) (sr P12) x14.toInt t1.toInt := g15
  show MEvP _ none q_147 10 [(0, .ref 301), (1, .int t1)] [.int x14, .ref 301] _ _ _ _
  refine mt_callv (i := 124) (q' := q_139) (As := [.int x14]) (rest := []) hT16 dX7_turn_10 rfl qm_139 (by decide) rfl rl_301 (by decide) rfl (Nat.le_of_ble_eq_true rfl) rfl ⟨rfl, rfl⟩ ⟨Nat.le_of_ble_eq_true rfl, Nat.le_of_ble_eq_true rfl⟩ (EvP.mono (by decide) (c_M_ends hT16 R18 )) (fun r21 P22 g23 => mpp 13 rfl ?_)
  obtain ⟨⟨x24, rfl, g25⟩, hT26, k27, R28r, R28⟩ := g23
  have k29 : KW [1092, 1093, 1094, 1095, 1152, 1216, 1344] Po P22 := KW.trans k19 k27 rfl
  have wx24 := ti_full x24
  replace g25 : x24.toInt = x14.toInt := g25
  show MEvP _ none q_147 13 [(0, .ref 301), (1, .int t1)] [.int x24] _ _ _ _
  have w32_a : sr P2 = sr Po := funext (fun j => R8.2 302 j (by omega))
  have w32_b : sr P12 = sr P22 := funext (fun j => (R28.2.2.1 302 j (by omega) (by omega) (by omega)).symm)
  have w32_g := g15
  rw [w32_a, w32_b] at w32_g
  have w32_x : x24.toInt = x14.toInt := by omega
  rw [← w32_x] at w32_g
  have w32_t : TOPM Po P22 x24.toInt := TOPM.mk R8.1 (fun j => KW.at k17 j rl_303 rfl) (fun j => KW.at k17 j rl_304 rfl) (fun j => KW.at k17 j rl_305 rfl) (fun j => KW.at k17 j rl_314 rfl) (KW.at k17 8 rl_301 rfl) (KW.at k17 4 rl_301 rfl) (KW.at k17 23 rl_301 rfl) (by rw [w32_x]; exact R28.1) (by rw [w32_x]; exact R28.2.1) R28.2.2.1
  have u31 : TOPM Po P22 x24.toInt ∧ turnsM (sr Po) (sr P22) x24.toInt t1.toInt := ⟨w32_t, w32_g⟩
  exact mp_iret ⟨⟨_, rfl, u31⟩, hT26, k29, R28r⟩ dX7_turn_13 (Or.inl rfl)

