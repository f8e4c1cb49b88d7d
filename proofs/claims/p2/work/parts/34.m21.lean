/-! methods on typed pools, 21 (written by a program) -/
set_option maxHeartbeats 4000000 in
theorem c_M_isCrease {Po : mP} {t1 : Int32} {t2 : Int32} (hT : Typ Po)   : EvP 5 143 [.ref 301, .int t1, .int t2] Po (fun r P' => (∃ x : Int32, r = some (.int x) ∧ (0 ≤ x.toInt ∧ x.toInt ≤ 1 ∧ (x.toInt = 0 ∨ (0 ≤ t1.toInt ∧ t1.toInt + 1 ≤ (fv Po 302 0).toInt ∧ t1.toInt ≤ 7 ∧ 0 ≤ t2.toInt ∧ t2.toInt ≤ 7 ∧ t2.toInt + 1 ≤ (fv Po 302 (4 + 19 * t1.toInt.toNat)).toInt)))) ∧ P' = Po) := by
  refine EvP.of qm_143 (Nat.le_of_ble_eq_true rfl) rfl ?_
  show MEvP _ none q_143 0 [(0, .ref 301), (1, .int t1), (2, .int t2)] [] _ 0 0 _
  have g1 : (0 : Int) ≤ (fv Po 302 0).toInt ∧ (fv Po 302 0).toInt ≤ 8 := Typ.rng hT rl_302 (by decide) (by decide) rfl
  have g2 := ti_full (fv Po 302 (4 + 19 * t1.toInt.toNat))
  refine mp_a (a_aload_n dX7_isCrease_0 rfl) (mpp 1 rfl ?_)
  refine mp_a (a_iload_n dX7_isCrease_1 rfl) (mpp 2 rfl ?_)
  refine mt_callv (i := 85) (q' := q_144) (As := [.int t1]) (rest := []) hT dX7_isCrease_2 rfl qm_144 (by decide) rfl rl_301 (by decide) rfl (Nat.le_of_ble_eq_true rfl) rfl ⟨rfl, rfl⟩ ⟨Nat.le_of_ble_eq_true rfl, Nat.le_of_ble_eq_true rfl⟩ (EvP.mono (by decide) (c_M_isPiece hT )) (fun r3 P4 g5 => mpp 5 rfl ?_)
  obtain ⟨⟨x6, rfl, g7⟩, e8⟩ := g5
  have e8 := e8.symm
  subst e8
  have wx6 := ti_full x6
  have g7 : 0 ≤ x6.toInt ∧ x6.toInt ≤ 1 ∧ ((x6.toInt = 1 ∧ 0 ≤ t1.toInt ∧ t1.toInt + 1 ≤ (fv Po 302 0).toInt ∧ t1.toInt ≤ 7) ∨ (x6.toInt = 0 ∧ (t1.toInt < 0 ∨ (fv Po 302 0).toInt ≤ t1.toInt))) := g7
  show MEvP _ none q_143 5 [(0, .ref 301), (1, .int t1), (2, .int t2)] [.int x6] _ _ _ _
  refine mp_Tb (t := 27) (j_if_eq dX7_isCrease_5) (by decide) (fun c9 => ?_) (fun c9 => mpp 8 rfl ?_)
  · have c9 : x6.toInt = 0 := ti_eq c9
    refine mp_a (a_iconst (v := 0) dX7_isCrease_27 rfl) (mpp 28 rfl ?_)
    have u10 : 0 ≤ (0 : Int) ∧ (0 : Int) ≤ 1 ∧ ((0 : Int) = 0 ∨ (0 ≤ t1.toInt ∧ t1.toInt + 1 ≤ (fv Po 302 0).toInt ∧ t1.toInt ≤ 7 ∧ 0 ≤ t2.toInt ∧ t2.toInt ≤ 7 ∧ t2.toInt + 1 ≤ (fv Po 302 (4 + 19 * t1.toInt.toNat)).toInt)) := by omega
    exact mp_iret ⟨⟨_, rfl, u10⟩, rfl⟩ dX7_isCrease_28 (Or.inr ⟨rfl, by decide⟩)
  · have c9 : x6.toInt ≠ 0 := ti_eq_n c9
    refine mp_a (a_iload_n dX7_isCrease_8 rfl) (mpp 9 rfl ?_)
    refine mp_a (a_iconst (v := 0) dX7_isCrease_9 rfl) (mpp 10 rfl ?_)
    refine mp_a (a_aload_n dX7_isCrease_10 rfl) (mpp 11 rfl ?_)
    refine mp_a (a_iload_n dX7_isCrease_11 rfl) (mpp 12 rfl ?_)
    have p11 : 0 ≤ t1.toInt := by omega
    have p12 : t1.toInt ≤ 7 := by omega
    refine mt_callv (i := 88) (q' := q_136) (As := [.int t1]) (rest := [.int 0, .int t2]) hT dX7_isCrease_12 rfl qm_136 (by decide) rfl rl_301 (by decide) rfl (Nat.le_of_ble_eq_true rfl) rfl ⟨rfl, rfl⟩ ⟨Nat.le_of_ble_eq_true rfl, Nat.le_of_ble_eq_true rfl⟩ (EvP.mono (by decide) (c_M_creases hT p11 p12 )) (fun r13 P14 g15 => mpp 15 rfl ?_)
    obtain ⟨⟨x16, rfl, g17⟩, e18⟩ := g15
    have e18 := e18.symm
    subst e18
    have wx16 := ti_full x16
    have g17 : -1 ≤ x16.toInt ∧ x16.toInt ≤ 8 ∧ x16.toInt ≤ (fv Po 302 (4 + 19 * t1.toInt.toNat)).toInt ∧ (fv Po 302 (4 + 19 * t1.toInt.toNat)).toInt - 1 ≤ x16.toInt := g17
    show MEvP _ none q_143 15 [(0, .ref 301), (1, .int t1), (2, .int t2)] [.int x16, .int 0, .int t2] _ _ _ _
    refine mp_a (a_iconst (v := 1) dX7_isCrease_15 rfl) (mpp 16 rfl ?_)
    obtain ⟨z19, h20⟩ := ti_ex (x16 - 1 : Int32)
    have wz19 := ti_full z19
    refine mp_t (s_isub (v := z19) dX7_isCrease_16 h20) (mpp 17 rfl ?_)
    try have e21 : z19.toInt = x16.toInt - 1 := ti_subz h20 rfl rfl (by omega) (by omega)
    refine mp_calls (i := 61) (q' := q_127) (As := [.int t2, .int 0, .int z19]) (rest := []) dX7_isCrease_17 rfl qm_127 (by decide) rfl (Nat.le_of_ble_eq_true rfl) rfl ⟨rfl, rfl⟩ ⟨Nat.le_of_ble_eq_true rfl, Nat.le_of_ble_eq_true rfl⟩ (EvP.mono (by decide) (c_M_isIn hT )) (fun r22 P23 g24 => mpp 20 rfl ?_)
    obtain ⟨⟨x25, rfl, g26⟩, e27⟩ := g24
    have e27 := e27.symm
    subst e27
    have wx25 := ti_full x25
    have g26 : 0 ≤ x25.toInt ∧ x25.toInt ≤ 1 ∧ ((x25.toInt = 1 ∧ (0 : Int) ≤ t2.toInt ∧ t2.toInt ≤ z19.toInt) ∨ (x25.toInt = 0 ∧ (t2.toInt < (0 : Int) ∨ z19.toInt < t2.toInt))) := g26
    show MEvP _ none q_143 20 [(0, .ref 301), (1, .int t1), (2, .int t2)] [.int x25] _ _ _ _
    refine mp_Tb (t := 27) (j_if_eq dX7_isCrease_20) (by decide) (fun c28 => ?_) (fun c28 => mpp 23 rfl ?_)
    · have c28 : x25.toInt = 0 := ti_eq c28
      refine mp_a (a_iconst (v := 0) dX7_isCrease_27 rfl) (mpp 28 rfl ?_)
      have u29 : 0 ≤ (0 : Int) ∧ (0 : Int) ≤ 1 ∧ ((0 : Int) = 0 ∨ (0 ≤ t1.toInt ∧ t1.toInt + 1 ≤ (fv Po 302 0).toInt ∧ t1.toInt ≤ 7 ∧ 0 ≤ t2.toInt ∧ t2.toInt ≤ 7 ∧ t2.toInt + 1 ≤ (fv Po 302 (4 + 19 * t1.toInt.toNat)).toInt)) := by omega
      exact mp_iret ⟨⟨_, rfl, u29⟩, rfl⟩ dX7_isCrease_28 (Or.inr ⟨rfl, by decide⟩)
    · have c28 : x25.toInt ≠ 0 := ti_eq_n c28
      refine mp_a (a_iconst (v := 1) dX7_isCrease_23 rfl) (mpp 24 rfl ?_)
      refine mp_a (a_goto (t := 28) dX7_isCrease_24 (by decide)) ?_
      have u30 : 0 ≤ (1 : Int) ∧ (1 : Int) ≤ 1 ∧ ((1 : Int) = 0 ∨ (0 ≤ t1.toInt ∧ t1.toInt + 1 ≤ (fv Po 302 0).toInt ∧ t1.toInt ≤ 7 ∧ 0 ≤ t2.toInt ∧ t2.toInt ≤ 7 ∧ t2.toInt + 1 ≤ (fv Po 302 (4 + 19 * t1.toInt.toNat)).toInt)) := by omega
      exact mp_iret ⟨⟨_, rfl, u30⟩, rfl⟩ dX7_isCrease_28 (Or.inr ⟨rfl, by decide⟩)

set_option maxHeartbeats 4000000 in
theorem c_M_creaseOf {Po : mP} {t1 : Int32} {t2 : Int32} (hT : Typ Po)  (hp0 : 0 ≤ t1.toInt) (hp1 : t1.toInt ≤ 7) (hp2 : 0 ≤ t2.toInt) (hp3 : t2.toInt ≤ 7)  : EvP 3 146 [.ref 301, .int t1, .int t2] Po (fun r P' => (∃ x : Int32, r = some (.int x) ∧ (x.toInt = (fv Po 302 (14 + 19 * t1.toInt.toNat + t2.toInt.toNat)).toInt)) ∧ P' = Po) := by
  refine EvP.of qm_146 (Nat.le_of_ble_eq_true rfl) rfl ?_
  show MEvP _ none q_146 0 [(0, .ref 301), (1, .int t1), (2, .int t2)] [] _ 0 0 _
  refine mp_a (a_aload_n dX7_creaseOf_0 rfl) (mpp 1 rfl ?_)
  refine mp_a (a_iload_n dX7_creaseOf_1 rfl) (mpp 2 rfl ?_)
  refine mp_a (a_bipush (v := 11) dX7_creaseOf_2 rfl) (mpp 4 rfl ?_)
  refine mp_a (a_iload_n dX7_creaseOf_4 rfl) (mpp 5 rfl ?_)
  obtain ⟨z1, h2⟩ := ti_ex (11 + t2 : Int32)
  have wz1 := ti_full z1
  refine mp_t (s_iadd (v := z1) dX7_creaseOf_5 h2) (mpp 6 rfl ?_)
  try have e3 : z1.toInt = 11 + t2.toInt := ti_addz h2 rfl rfl (by omega) (by omega)
  have p4 : 0 ≤ t1.toInt := by omega
  have p5 : t1.toInt ≤ 7 := by omega
  have p6 : 0 ≤ z1.toInt := by omega
  have p7 : z1.toInt ≤ 18 := by omega
  refine mt_callv (i := 78) (q' := q_137) (As := [.int t1, .int z1]) (rest := []) hT dX7_creaseOf_6 rfl qm_137 (by decide) rfl rl_301 (by decide) rfl (Nat.le_of_ble_eq_true rfl) rfl ⟨rfl, rfl⟩ ⟨Nat.le_of_ble_eq_true rfl, Nat.le_of_ble_eq_true rfl⟩ (EvP.mono (by decide) (c_M_of hT p4 p5 p6 p7 )) (fun r8 P9 g10 => mpp 9 rfl ?_)
  obtain ⟨⟨x11, rfl, g12⟩, e13⟩ := g10
  have e13 := e13.symm
  subst e13
  have wx11 := ti_full x11
  have g12 : x11.toInt = (fv Po 302 (3 + 19 * t1.toInt.toNat + z1.toInt.toNat)).toInt := g12
  show MEvP _ none q_146 9 [(0, .ref 301), (1, .int t1), (2, .int t2)] [.int x11] _ _ _ _
  have u14 : x11.toInt = (fv Po 302 (14 + 19 * t1.toInt.toNat + t2.toInt.toNat)).toInt := g12.trans (congrArg (fun k => (fv Po 302 k).toInt) (by omega))
  exact mp_iret ⟨⟨_, rfl, u14⟩, rfl⟩ dX7_creaseOf_9 (Or.inl rfl)

set_option maxHeartbeats 4000000 in
theorem c_M_marks {Po : mP} {t1 : Int32} {t2 : Int32} {t3 : Int32} (hT : Typ Po) (hR : Rel Po)  : EvP 6 142 [.ref 301, .int t1, .int t2, .int t3] Po (fun r P' => (∃ x : Int32, r = some (.int x) ∧ (True)) ∧ Typ P' ∧ KW [1093, 1094, 1152] Po P' ∧ Rel P') := by
  refine EvP.of qm_142 (Nat.le_of_ble_eq_true rfl) rfl ?_
  show MEvP _ none q_142 0 [(0, .ref 301), (1, .int t1), (2, .int t2), (3, .int t3)] [] _ 0 0 _
  refine mp_a (a_aload_n dX7_marks_0 rfl) (mpp 1 rfl ?_)
  refine mp_a (a_iload_n dX7_marks_1 rfl) (mpp 2 rfl ?_)
  refine mp_a (a_iload_n dX7_marks_2 rfl) (mpp 3 rfl ?_)
  refine mt_callv (i := 127) (q' := q_143) (As := [.int t1, .int t2]) (rest := []) hT dX7_marks_3 rfl qm_143 (by decide) rfl rl_301 (by decide) rfl (Nat.le_of_ble_eq_true rfl) rfl ⟨rfl, rfl⟩ ⟨Nat.le_of_ble_eq_true rfl, Nat.le_of_ble_eq_true rfl⟩ (EvP.mono (by decide) (c_M_isCrease hT )) (fun r1 P2 g3 => mpp 6 rfl ?_)
  obtain ⟨⟨x4, rfl, g5⟩, e6⟩ := g3
  have e6 := e6.symm
  subst e6
  have wx4 := ti_full x4
  have g5 : 0 ≤ x4.toInt ∧ x4.toInt ≤ 1 ∧ (x4.toInt = 0 ∨ (0 ≤ t1.toInt ∧ t1.toInt + 1 ≤ (fv Po 302 0).toInt ∧ t1.toInt ≤ 7 ∧ 0 ≤ t2.toInt ∧ t2.toInt ≤ 7 ∧ t2.toInt + 1 ≤ (fv Po 302 (4 + 19 * t1.toInt.toNat)).toInt)) := g5
  have g7 : (0 : Int) ≤ (fv Po 302 0).toInt ∧ (fv Po 302 0).toInt ≤ 8 := Typ.rng hT rl_302 (by decide) (by decide) rfl
  have g8 := ti_full (fv Po 302 (4 + 19 * t1.toInt.toNat))
  show MEvP _ none q_142 6 [(0, .ref 301), (1, .int t1), (2, .int t2), (3, .int t3)] [.int x4] _ _ _ _
  refine mp_Tb (t := 13) (j_if_ne dX7_marks_6) (by decide) (fun c9 => ?_) (fun c9 => mpp 9 rfl ?_)
  · have c9 : x4.toInt ≠ 0 := ti_ne c9
    refine mp_a (a_iload_n dX7_marks_13 rfl) (mpp 14 rfl ?_)
    refine mp_a (a_iconst (v := 0) dX7_marks_14 rfl) (mpp 15 rfl ?_)
    refine mp_a (a_iconst (v := 2) dX7_marks_15 rfl) (mpp 16 rfl ?_)
    refine mp_calls (i := 61) (q' := q_127) (As := [.int t3, .int 0, .int 2]) (rest := []) dX7_marks_16 rfl qm_127 (by decide) rfl (Nat.le_of_ble_eq_true rfl) rfl ⟨rfl, rfl⟩ ⟨Nat.le_of_ble_eq_true rfl, Nat.le_of_ble_eq_true rfl⟩ (EvP.mono (by decide) (c_M_isIn hT )) (fun r10 P11 g12 => mpp 19 rfl ?_)
    obtain ⟨⟨x13, rfl, g14⟩, e15⟩ := g12
    have e15 := e15.symm
    subst e15
    have wx13 := ti_full x13
    have g14 : 0 ≤ x13.toInt ∧ x13.toInt ≤ 1 ∧ ((x13.toInt = 1 ∧ (0 : Int) ≤ t3.toInt ∧ t3.toInt ≤ (2 : Int)) ∨ (x13.toInt = 0 ∧ (t3.toInt < (0 : Int) ∨ (2 : Int) < t3.toInt))) := g14
    show MEvP _ none q_142 19 [(0, .ref 301), (1, .int t1), (2, .int t2), (3, .int t3)] [.int x13] _ _ _ _
    refine mp_Tb (t := 26) (j_if_ne dX7_marks_19) (by decide) (fun c16 => ?_) (fun c16 => mpp 22 rfl ?_)
    · have c16 : x13.toInt ≠ 0 := ti_ne c16
      refine mp_a (a_aload_n dX7_marks_26 rfl) (mpp 27 rfl ?_)
      refine mp_a (a_iload_n dX7_marks_27 rfl) (mpp 28 rfl ?_)
      have p17 : 0 ≤ t1.toInt := by omega
      have p18 : t1.toInt ≤ 7 := by omega
      refine mt_callv (i := 130) (q' := q_145) (As := [.int t1]) (rest := []) hT dX7_marks_28 rfl qm_145 (by decide) rfl rl_301 (by decide) rfl (Nat.le_of_ble_eq_true rfl) rfl ⟨rfl, rfl⟩ ⟨Nat.le_of_ble_eq_true rfl, Nat.le_of_ble_eq_true rfl⟩ (EvP.mono (by decide) (c_M_isFolded hT p17 p18 )) (fun r19 P20 g21 => mpp 31 rfl ?_)
      obtain ⟨⟨x22, rfl, g23⟩, e24⟩ := g21
      have e24 := e24.symm
      subst e24
      have wx22 := ti_full x22
      have g23 : 0 ≤ x22.toInt ∧ x22.toInt ≤ 1 := g23
      show MEvP _ none q_142 31 [(0, .ref 301), (1, .int t1), (2, .int t2), (3, .int t3)] [.int x22] _ _ _ _
      refine mp_Tb (t := 41) (j_if_eq dX7_marks_31) (by decide) (fun c25 => ?_) (fun c25 => mpp 34 rfl ?_)
      · have c25 : x22.toInt = 0 := ti_eq c25
        refine mp_a (a_aload_n dX7_marks_41 rfl) (mpp 42 rfl ?_)
        refine mp_a (a_iload_n dX7_marks_42 rfl) (mpp 43 rfl ?_)
        refine mp_a (a_iload_n dX7_marks_43 rfl) (mpp 44 rfl ?_)
        have p26 : 0 ≤ t1.toInt := by omega
        have p27 : t1.toInt ≤ 7 := by omega
        have p28 : 0 ≤ t2.toInt := by omega
        have p29 : t2.toInt ≤ 7 := by omega
        refine mt_callv (i := 92) (q' := q_146) (As := [.int t1, .int t2]) (rest := []) hT dX7_marks_44 rfl qm_146 (by decide) rfl rl_301 (by decide) rfl (Nat.le_of_ble_eq_true rfl) rfl ⟨rfl, rfl⟩ ⟨Nat.le_of_ble_eq_true rfl, Nat.le_of_ble_eq_true rfl⟩ (EvP.mono (by decide) (c_M_creaseOf hT p26 p27 p28 p29 )) (fun r30 P31 g32 => mpp 47 rfl ?_)
        obtain ⟨⟨x33, rfl, g34⟩, e35⟩ := g32
        have e35 := e35.symm
        subst e35
        have wx33 := ti_full x33
        have g34 : x33.toInt = (fv Po 302 (14 + 19 * t1.toInt.toNat + t2.toInt.toNat)).toInt := g34
        show MEvP _ none q_142 47 [(0, .ref 301), (1, .int t1), (2, .int t2), (3, .int t3)] [.int x33] _ _ _ _
        refine mp_a (a_istore (L' := [(4, .int x33), (0, .ref 301), (1, .int t1), (2, .int t2), (3, .int t3)]) dX7_marks_47 (by decide) rfl) (mpp 49 rfl ?_)
        refine mp_a (a_aload_n dX7_marks_49 rfl) (mpp 50 rfl ?_)
        refine mt_getU (i := 9) (k := 0) (A := 302) hT dX7_marks_50 rfl rl_301 (by decide) rfl (by decide) rfl un_18 (mpp 53 rfl ?_)
        refine mp_a (a_iload_n dX7_marks_53 rfl) (mpp 54 rfl ?_)
        refine mp_a (a_bipush (v := 11) dX7_marks_54 rfl) (mpp 56 rfl ?_)
        refine mp_a (a_iload_n dX7_marks_56 rfl) (mpp 57 rfl ?_)
        obtain ⟨z36, h37⟩ := ti_ex (11 + t2 : Int32)
        have wz36 := ti_full z36
        refine mp_t (s_iadd (v := z36) dX7_marks_57 h37) (mpp 58 rfl ?_)
        try have e38 : z36.toInt = 11 + t2.toInt := ti_addz h37 rfl rfl (by omega) (by omega)
        have p39 : 0 ≤ t1.toInt := by omega
        have p40 : t1.toInt ≤ 8 := by omega
        have p41 : 0 ≤ z36.toInt := by omega
        have p42 : z36.toInt ≤ 20 := by omega
        refine mp_calls (i := 74) (q' := q_135) (As := [.int t1, .int z36]) (rest := [.ref 302]) dX7_marks_58 rfl qm_135 (by decide) rfl (Nat.le_of_ble_eq_true rfl) rfl ⟨rfl, rfl⟩ ⟨Nat.le_of_ble_eq_true rfl, Nat.le_of_ble_eq_true rfl⟩ (EvP.mono (by decide) (c_M_at hT p39 p40 p41 p42 )) (fun r43 P44 g45 => mpp 61 rfl ?_)
        obtain ⟨⟨x46, rfl, g47⟩, e48⟩ := g45
        have e48 := e48.symm
        subst e48
        have wx46 := ti_full x46
        have g47 : x46.toInt = 3 + 19 * t1.toInt + z36.toInt := g47
        show MEvP _ none q_142 61 [(4, .int x33), (0, .ref 301), (1, .int t1), (2, .int t2), (3, .int t3)] [.int x46, .ref 302] _ _ _ _
        refine mp_a (a_iload_n dX7_marks_61 rfl) (mpp 62 rfl ?_)
        refine mt_iasX (n := 155) hT dX7_marks_62 rl_302 (by decide) rfl rfl (by omega) (by omega) ssp_0 (okS_mk (by omega) (fun _ => ⟨by omega, by omega⟩) (fun _ => ⟨by omega, by omega⟩)) (fun P49 hT50 f51 f52 f53 => mpp 63 rfl ?_)
        have k54 : KW [1093, 1094, 1152] Po P49 := KW.step KW.refl rl_302 rfl f52 f53
        have R55 := Rel.oth hR f52 (by omega)
        refine mp_a (a_iload dX7_marks_63 rfl) (mpp 65 rfl ?_)
        exact mp_iret ⟨⟨_, rfl, trivial⟩, hT50, k54, R55⟩ dX7_marks_65 (Or.inl rfl)
      · have c25 : x22.toInt ≠ 0 := ti_eq_n c25
        refine mp_a (a_aload_n dX7_marks_34 rfl) (mpp 35 rfl ?_)
        refine mp_a (a_iconst (v := 2) dX7_marks_35 rfl) (mpp 36 rfl ?_)
        refine mp_a (a_iload_n dX7_marks_36 rfl) (mpp 37 rfl ?_)
        refine mt_callv (i := 101) (q' := q_134) (As := [.int 2, .int t1]) (rest := []) hT dX7_marks_37 rfl qm_134 (by decide) rfl rl_301 (by decide) rfl (Nat.le_of_ble_eq_true rfl) rfl ⟨rfl, rfl⟩ ⟨Nat.le_of_ble_eq_true rfl, Nat.le_of_ble_eq_true rfl⟩ (EvP.mono (by decide) (c_M_refuses hT )) (fun r56 P57 g58 => mpp 40 rfl ?_)
        obtain ⟨⟨x59, rfl, g60⟩, hT61, k62, R63⟩ := g58
        have k64 : KW [1093, 1094, 1152] Po P57 := KW.trans KW.refl k62 rfl
        have R66 := Rel.kw hR k62 rfl
        have wx59 := ti_full x59
        show MEvP _ none q_142 40 [(0, .ref 301), (1, .int t1), (2, .int t2), (3, .int t3)] [.int x59] _ _ _ _
        exact mp_iret ⟨⟨_, rfl, trivial⟩, hT61, k64, R66⟩ dX7_marks_40 (Or.inl rfl)
    · have c16 : x13.toInt = 0 := ti_ne_n c16
      refine mp_a (a_sipush (v := -1002) dX7_marks_22 rfl) (mpp 25 rfl ?_)
      exact mp_iret ⟨⟨_, rfl, trivial⟩, hT, KW.refl, hR⟩ dX7_marks_25 (Or.inl rfl)
  · have c9 : x4.toInt = 0 := ti_ne_n c9
    refine mp_a (a_sipush (v := -1001) dX7_marks_9 rfl) (mpp 12 rfl ?_)
    exact mp_iret ⟨⟨_, rfl, trivial⟩, hT, KW.refl, hR⟩ dX7_marks_12 (Or.inl rfl)

set_option maxHeartbeats 4000000 in
theorem c_M_mark {Po : mP} {t1 : Int32} {t2 : Int32} {t3 : Int32} (hT : Typ Po) (hR : Rel Po)  : EvP 7 141 [.ref 301, .int t1, .int t2, .int t3] Po (fun r P' => (∃ x : Int32, r = some (.int x) ∧ (True)) ∧ Typ P' ∧ KW [1092, 1093, 1094, 1095, 1152, 1216, 1344] Po P' ∧ Rel P') := by
  refine EvP.of qm_141 (Nat.le_of_ble_eq_true rfl) rfl ?_
  show MEvP _ none q_141 0 [(0, .ref 301), (1, .int t1), (2, .int t2), (3, .int t3)] [] _ 0 0 _
  refine mp_a (a_aload_n dX7_mark_0 rfl) (mpp 1 rfl ?_)
  refine mt_callv (i := 117) (q' := q_124) (As := []) (rest := []) hT dX7_mark_1 rfl qm_124 (by decide) rfl rl_301 (by decide) rfl (Nat.le_of_ble_eq_true rfl) rfl ⟨rfl, rfl⟩ ⟨Nat.le_of_ble_eq_true rfl, Nat.le_of_ble_eq_true rfl⟩ (EvP.mono (by decide) (c_M_keeps hT hR )) (fun r1 P2 g3 => mpp 4 rfl ?_)
  obtain ⟨⟨rfl, g5⟩, hT6, k7, R8⟩ := g3
  have k9 : KW [1092, 1093, 1094, 1095, 1152, 1216, 1344] Po P2 := KW.trans KW.refl k7 rfl
  show MEvP _ none q_141 4 [(0, .ref 301), (1, .int t1), (2, .int t2), (3, .int t3)] [] _ _ _ _
  refine mp_a (a_aload_n dX7_mark_4 rfl) (mpp 5 rfl ?_)
  refine mp_a (a_aload_n dX7_mark_5 rfl) (mpp 6 rfl ?_)
  refine mp_a (a_iload_n dX7_mark_6 rfl) (mpp 7 rfl ?_)
  refine mp_a (a_iload_n dX7_mark_7 rfl) (mpp 8 rfl ?_)
  refine mp_a (a_iload_n dX7_mark_8 rfl) (mpp 9 rfl ?_)
  refine mt_callv (i := 133) (q' := q_142) (As := [.int t1, .int t2, .int t3]) (rest := [.ref 301]) hT6 dX7_mark_9 rfl qm_142 (by decide) rfl rl_301 (by decide) rfl (Nat.le_of_ble_eq_true rfl) rfl ⟨rfl, rfl⟩ ⟨Nat.le_of_ble_eq_true rfl, Nat.le_of_ble_eq_true rfl⟩ (EvP.mono (by decide) (c_M_marks hT6 R8 )) (fun r11 P12 g13 => mpp 12 rfl ?_)
  obtain ⟨⟨x14, rfl, g15⟩, hT16, k17, R18⟩ := g13
  have k19 : KW [1092, 1093, 1094, 1095, 1152, 1216, 1344] Po P12 := KW.trans k9 k17 rfl
  have wx14 := ti_full x14
  show MEvP _ none q_141 12 [(0, .ref 301), (1, .int t1), (2, .int t2), (3, .int t3)] [.int x14, .ref 301] _ _ _ _
  refine mt_callv (i := 124) (q' := q_139) (As := [.int x14]) (rest := []) hT16 dX7_mark_12 rfl qm_139 (by decide) rfl rl_301 (by decide) rfl (Nat.le_of_ble_eq_true rfl) rfl ⟨rfl, rfl⟩ ⟨Nat.le_of_ble_eq_true rfl, Nat.le_of_ble_eq_true rfl⟩ (EvP.mono (by decide) (c_M_ends hT16 R18 )) (fun r21 P22 g23 => mpp 15 rfl ?_)
  obtain ⟨⟨x24, rfl, g25⟩, hT26, k27, R28⟩ := g23
  have k29 : KW [1092, 1093, 1094, 1095, 1152, 1216, 1344] Po P22 := KW.trans k19 k27 rfl
  have wx24 := ti_full x24
  show MEvP _ none q_141 15 [(0, .ref 301), (1, .int t1), (2, .int t2), (3, .int t3)] [.int x24] _ _ _ _
  exact mp_iret ⟨⟨_, rfl, trivial⟩, hT26, k29, R28⟩ dX7_mark_15 (Or.inl rfl)

set_option maxHeartbeats 4000000 in
theorem c_M_countOf_l5 {Po : mP} {t1 : Int32} {t2 : Int32} (hT : Typ Po)  (hp0 : 0 ≤ t1.toInt) (hp1 : t1.toInt ≤ 7)  : ∀ (n : Nat) (v3 : Int32) (v4 : Int32), (v3.toInt ≤ 0 ∨ UD Po t1.toInt.toNat t2.toInt) → (0 ≤ v3.toInt) → (v3.toInt ≤ v4.toInt) → (v4.toInt ≤ 8) → (0 ≤ v4.toInt) → (2147483647 - v4.toInt).toNat = n → MEvP 4 none q_149 5 [(0, .ref 301), (1, .int t1), (2, .int t2), (3, .int v3), (4, .int v4)] [] Po 0 0 (fun r P' => (∃ x : Int32, r = some (.int x) ∧ ((x.toInt ≤ 0 ∨ UD Po t1.toInt.toNat t2.toInt) ∧ 0 ≤ x.toInt ∧ x.toInt ≤ 8)) ∧ P' = Po) := by
  intro n
  induction n using Nat.strongRecOn with | _ n ih => ?_
  intro v3 v4 i_0 i_1 i_2 i_3 i_4 hm
  have w_t1 := ti_full t1
  have w_t2 := ti_full t2
  have w_v3 := ti_full v3
  have w_v4 := ti_full v4
  refine mp_a (a_iload dX7_countOf_5 rfl) (mpp 7 rfl ?_)
  refine mp_a (a_aload_n dX7_countOf_7 rfl) (mpp 8 rfl ?_)
  refine mp_a (a_iload_n dX7_countOf_8 rfl) (mpp 9 rfl ?_)
  have p1 : 0 ≤ t1.toInt := by omega
  have p2 : t1.toInt ≤ 7 := by omega
  refine mt_callv (i := 88) (q' := q_136) (As := [.int t1]) (rest := [.int v4]) hT dX7_countOf_9 rfl qm_136 (by decide) rfl rl_301 (by decide) rfl (Nat.le_of_ble_eq_true rfl) rfl ⟨rfl, rfl⟩ ⟨Nat.le_of_ble_eq_true rfl, Nat.le_of_ble_eq_true rfl⟩ (EvP.mono (by decide) (c_M_creases hT p1 p2 )) (fun r3 P4 g5 => mpp 12 rfl ?_)
  obtain ⟨⟨x6, rfl, g7⟩, e8⟩ := g5
  have e8 := e8.symm
  subst e8
  have wx6 := ti_full x6
  have g7 : -1 ≤ x6.toInt ∧ x6.toInt ≤ 8 ∧ x6.toInt ≤ (fv Po 302 (4 + 19 * t1.toInt.toNat)).toInt ∧ (fv Po 302 (4 + 19 * t1.toInt.toNat)).toInt - 1 ≤ x6.toInt := g7
  have g9 := ti_full (fv Po 302 (4 + 19 * t1.toInt.toNat))
  show MEvP _ none q_149 12 [(0, .ref 301), (1, .int t1), (2, .int t2), (3, .int v3), (4, .int v4)] [.int x6, .int v4] _ _ _ _
  refine mp_Tb (t := 40) (j_icmp_ge dX7_countOf_12) (by decide) (fun c10 => ?_) (fun c10 => mpp 15 rfl ?_)
  · have c10 : v4.toInt ≥ x6.toInt := ti_ge c10
    refine mp_a (a_iload_n dX7_countOf_40 rfl) (mpp 41 rfl ?_)
    have u11 : (v3.toInt ≤ 0 ∨ UD Po t1.toInt.toNat t2.toInt) ∧ 0 ≤ v3.toInt ∧ v3.toInt ≤ 8 := ⟨i_0, by omega, by omega⟩
    exact mp_iret ⟨⟨_, rfl, u11⟩, rfl⟩ dX7_countOf_41 (Or.inl rfl)
  · have c10 : v4.toInt < x6.toInt := ti_ge_n c10
    refine mp_a (a_iload_n dX7_countOf_15 rfl) (mpp 16 rfl ?_)
    refine mp_a (a_aload_n dX7_countOf_16 rfl) (mpp 17 rfl ?_)
    refine mp_a (a_iload_n dX7_countOf_17 rfl) (mpp 18 rfl ?_)
    refine mp_a (a_iload dX7_countOf_18 rfl) (mpp 20 rfl ?_)
    have p12 : 0 ≤ t1.toInt := by omega
    have p13 : t1.toInt ≤ 7 := by omega
    have p14 : 0 ≤ v4.toInt := by omega
    have p15 : v4.toInt ≤ 7 := by omega
    refine mt_callv (i := 92) (q' := q_146) (As := [.int t1, .int v4]) (rest := [.int v3]) hT dX7_countOf_20 rfl qm_146 (by decide) rfl rl_301 (by decide) rfl (Nat.le_of_ble_eq_true rfl) rfl ⟨rfl, rfl⟩ ⟨Nat.le_of_ble_eq_true rfl, Nat.le_of_ble_eq_true rfl⟩ (EvP.mono (by decide) (c_M_creaseOf hT p12 p13 p14 p15 )) (fun r16 P17 g18 => mpp 23 rfl ?_)
    obtain ⟨⟨x19, rfl, g20⟩, e21⟩ := g18
    have e21 := e21.symm
    subst e21
    have wx19 := ti_full x19
    have g20 : x19.toInt = (fv Po 302 (14 + 19 * t1.toInt.toNat + v4.toInt.toNat)).toInt := g20
    show MEvP _ none q_149 23 [(0, .ref 301), (1, .int t1), (2, .int t2), (3, .int v3), (4, .int v4)] [.int x19, .int v3] _ _ _ _
    refine mp_a (a_iload_n dX7_countOf_23 rfl) (mpp 24 rfl ?_)
    refine mp_Tb (t := 31) (j_icmp_ne dX7_countOf_24) (by decide) (fun c22 => ?_) (fun c22 => mpp 27 rfl ?_)
    · have c22 : x19.toInt ≠ t2.toInt := ti_ne c22
      refine mp_a (a_iconst (v := 0) dX7_countOf_31 rfl) (mpp 32 rfl ?_)
      obtain ⟨z23, h24⟩ := ti_ex (v3 + 0 : Int32)
      have wz23 := ti_full z23
      refine mp_t (s_iadd (v := z23) dX7_countOf_32 h24) (mpp 33 rfl ?_)
      try have e25 : z23.toInt = v3.toInt + 0 := ti_addz h24 rfl rfl (by omega) (by omega)
      refine mp_a (a_istore_n (L' := [(3, .int z23), (0, .ref 301), (1, .int t1), (2, .int t2), (4, .int v4)]) dX7_countOf_33 (by decide) rfl) (mpp 34 rfl ?_)
      obtain ⟨z26, h27⟩ := ti_ex (v4 + 1 : Int32)
      have wz26 := ti_full z26
      refine mp_a (a_iinc (v := z26) (L' := [(4, .int z26), (3, .int z23), (0, .ref 301), (1, .int t1), (2, .int t2)]) dX7_countOf_34 (by decide) rfl h27 rfl) (mpp 37 rfl ?_)
      try have e28 : z26.toInt = v4.toInt + 1 := ti_addz h27 rfl rfl (by omega) (by omega)
      refine mp_a (a_goto (t := 5) dX7_countOf_37 (by decide)) ?_
      refine MEvP.less (L := [(0, .ref 301), (1, .int t1), (2, .int t2), (3, .int z23), (4, .int z26)]) rfl rfl ⟨rfl, rfl, rfl, rfl, rfl, trivial⟩ ?_
      have i29 : z23.toInt ≤ 0 ∨ UD Po t1.toInt.toNat t2.toInt := by first | exact Or.inl (by omega) | exact Or.inr ⟨v4.toInt.toNat, by omega, by omega⟩ | exact i_0.imp (fun h => by omega) id
      have i30 : 0 ≤ z23.toInt := by omega
      have i31 : z23.toInt ≤ z26.toInt := by omega
      have i32 : z26.toInt ≤ 8 := by omega
      have i33 : 0 ≤ z26.toInt := by omega
      exact ih _ (by omega) _ _ i29 i30 i31 i32 i33 rfl
    · have c22 : x19.toInt = t2.toInt := ti_ne_n c22
      refine mp_a (a_iconst (v := 1) dX7_countOf_27 rfl) (mpp 28 rfl ?_)
      refine mp_a (a_goto (t := 32) dX7_countOf_28 (by decide)) ?_
      obtain ⟨z34, h35⟩ := ti_ex (v3 + 1 : Int32)
      have wz34 := ti_full z34
      refine mp_t (s_iadd (v := z34) dX7_countOf_32 h35) (mpp 33 rfl ?_)
      try have e36 : z34.toInt = v3.toInt + 1 := ti_addz h35 rfl rfl (by omega) (by omega)
      refine mp_a (a_istore_n (L' := [(3, .int z34), (0, .ref 301), (1, .int t1), (2, .int t2), (4, .int v4)]) dX7_countOf_33 (by decide) rfl) (mpp 34 rfl ?_)
      obtain ⟨z37, h38⟩ := ti_ex (v4 + 1 : Int32)
      have wz37 := ti_full z37
      refine mp_a (a_iinc (v := z37) (L' := [(4, .int z37), (3, .int z34), (0, .ref 301), (1, .int t1), (2, .int t2)]) dX7_countOf_34 (by decide) rfl h38 rfl) (mpp 37 rfl ?_)
      try have e39 : z37.toInt = v4.toInt + 1 := ti_addz h38 rfl rfl (by omega) (by omega)
      refine mp_a (a_goto (t := 5) dX7_countOf_37 (by decide)) ?_
      refine MEvP.less (L := [(0, .ref 301), (1, .int t1), (2, .int t2), (3, .int z34), (4, .int z37)]) rfl rfl ⟨rfl, rfl, rfl, rfl, rfl, trivial⟩ ?_
      have i40 : z34.toInt ≤ 0 ∨ UD Po t1.toInt.toNat t2.toInt := by first | exact Or.inl (by omega) | exact Or.inr ⟨v4.toInt.toNat, by omega, by omega⟩ | exact i_0.imp (fun h => by omega) id
      have i41 : 0 ≤ z34.toInt := by omega
      have i42 : z34.toInt ≤ z37.toInt := by omega
      have i43 : z37.toInt ≤ 8 := by omega
      have i44 : 0 ≤ z37.toInt := by omega
      exact ih _ (by omega) _ _ i40 i41 i42 i43 i44 rfl

set_option maxHeartbeats 4000000 in
theorem c_M_countOf {Po : mP} {t1 : Int32} {t2 : Int32} (hT : Typ Po)  (hp0 : 0 ≤ t1.toInt) (hp1 : t1.toInt ≤ 7)  : EvP 5 149 [.ref 301, .int t1, .int t2] Po (fun r P' => (∃ x : Int32, r = some (.int x) ∧ ((x.toInt ≤ 0 ∨ UD Po t1.toInt.toNat t2.toInt) ∧ 0 ≤ x.toInt ∧ x.toInt ≤ 8)) ∧ P' = Po) := by
  refine EvP.of qm_149 (Nat.le_of_ble_eq_true rfl) rfl ?_
  show MEvP _ none q_149 0 [(0, .ref 301), (1, .int t1), (2, .int t2)] [] _ 0 0 _
  refine mp_a (a_iconst (v := 0) dX7_countOf_0 rfl) (mpp 1 rfl ?_)
  refine mp_a (a_istore_n (L' := [(3, .int 0), (0, .ref 301), (1, .int t1), (2, .int t2)]) dX7_countOf_1 (by decide) rfl) (mpp 2 rfl ?_)
  refine mp_a (a_iconst (v := 0) dX7_countOf_2 rfl) (mpp 3 rfl ?_)
  refine mp_a (a_istore (L' := [(4, .int 0), (3, .int 0), (0, .ref 301), (1, .int t1), (2, .int t2)]) dX7_countOf_3 (by decide) rfl) (mpp 5 rfl ?_)
  refine MEvP.less (L := [(0, .ref 301), (1, .int t1), (2, .int t2), (3, .int 0), (4, .int 0)]) rfl rfl ⟨rfl, rfl, rfl, rfl, rfl, trivial⟩ ?_
  have i1 : (0 : Int) ≤ 0 ∨ UD Po t1.toInt.toNat t2.toInt := Or.inl (by omega)
  have i2 : 0 ≤ (0 : Int) := by omega
  have i3 : (0 : Int) ≤ (0 : Int) := by omega
  have i4 : (0 : Int) ≤ 8 := by omega
  have i5 : 0 ≤ (0 : Int) := by omega
  exact c_M_countOf_l5 hT  hp0 hp1 _ _ _ i1 i2 i3 i4 i5 rfl

set_option maxHeartbeats 4000000 in
theorem c_M_turns_l29 {Po : mP} {t1 : Int32}  : ∀ (n : Nat) (v2 : Int32), ∀ (P : mP), Typ P → KW [1093, 1094, 1152] Po P → Rel P → (0 ≤ t1.toInt) → (t1.toInt ≤ 7) → (0 ≤ v2.toInt) → (2147483647 - v2.toInt).toNat = n → MEvP 5 none q_148 29 [(0, .ref 301), (1, .int t1), (2, .int v2)] [] P 0 0 (fun r P' => (∃ x : Int32, r = some (.int x) ∧ (True)) ∧ Typ P' ∧ KW [1093, 1094, 1152] Po P' ∧ Rel P') := by
  intro n
  induction n using Nat.strongRecOn with | _ n ih => ?_
  intro v2 P hT hK hR i_0 i_1 i_2 hm
  have w_t1 := ti_full t1
  have w_v2 := ti_full v2
  refine mp_a (a_iload_n dX7_turns_29 rfl) (mpp 30 rfl ?_)
  refine mp_a (a_aload_n dX7_turns_30 rfl) (mpp 31 rfl ?_)
  refine mp_a (a_iload_n dX7_turns_31 rfl) (mpp 32 rfl ?_)
  have p1 : 0 ≤ t1.toInt := by omega
  have p2 : t1.toInt ≤ 7 := by omega
  refine mt_callv (i := 88) (q' := q_136) (As := [.int t1]) (rest := [.int v2]) hT dX7_turns_32 rfl qm_136 (by decide) rfl rl_301 (by decide) rfl (Nat.le_of_ble_eq_true rfl) rfl ⟨rfl, rfl⟩ ⟨Nat.le_of_ble_eq_true rfl, Nat.le_of_ble_eq_true rfl⟩ (EvP.mono (by decide) (c_M_creases hT p1 p2 )) (fun r3 P4 g5 => mpp 35 rfl ?_)
  obtain ⟨⟨x6, rfl, g7⟩, e8⟩ := g5
  have e8 := e8.symm
  subst e8
  have wx6 := ti_full x6
  have g7 : -1 ≤ x6.toInt ∧ x6.toInt ≤ 8 ∧ x6.toInt ≤ (fv P 302 (4 + 19 * t1.toInt.toNat)).toInt ∧ (fv P 302 (4 + 19 * t1.toInt.toNat)).toInt - 1 ≤ x6.toInt := g7
  have g9 := ti_full (fv P 302 (4 + 19 * t1.toInt.toNat))
  show MEvP _ none q_148 35 [(0, .ref 301), (1, .int t1), (2, .int v2)] [.int x6, .int v2] _ _ _ _
  refine mp_Tb (t := 75) (j_icmp_ge dX7_turns_35) (by decide) (fun c10 => ?_) (fun c10 => mpp 38 rfl ?_)
  · have c10 : v2.toInt ≥ x6.toInt := ti_ge c10
    refine mp_a (a_aload_n dX7_turns_75 rfl) (mpp 76 rfl ?_)
    refine mp_a (a_iload_n dX7_turns_76 rfl) (mpp 77 rfl ?_)
    have p11 : 0 ≤ t1.toInt := by omega
    have p12 : t1.toInt ≤ 7 := by omega
    refine mt_callv (i := 88) (q' := q_136) (As := [.int t1]) (rest := []) hT dX7_turns_77 rfl qm_136 (by decide) rfl rl_301 (by decide) rfl (Nat.le_of_ble_eq_true rfl) rfl ⟨rfl, rfl⟩ ⟨Nat.le_of_ble_eq_true rfl, Nat.le_of_ble_eq_true rfl⟩ (EvP.mono (by decide) (c_M_creases hT p11 p12 )) (fun r13 P14 g15 => mpp 80 rfl ?_)
    obtain ⟨⟨x16, rfl, g17⟩, e18⟩ := g15
    have e18 := e18.symm
    subst e18
    have wx16 := ti_full x16
    have g17 : -1 ≤ x16.toInt ∧ x16.toInt ≤ 8 ∧ x16.toInt ≤ (fv P 302 (4 + 19 * t1.toInt.toNat)).toInt ∧ (fv P 302 (4 + 19 * t1.toInt.toNat)).toInt - 1 ≤ x16.toInt := g17
    show MEvP _ none q_148 80 [(0, .ref 301), (1, .int t1), (2, .int v2)] [.int x16] _ _ _ _
    refine mp_a (a_aload_n dX7_turns_80 rfl) (mpp 81 rfl ?_)
    refine mp_a (a_iload_n dX7_turns_81 rfl) (mpp 82 rfl ?_)
    refine mp_a (a_iconst (v := 0) dX7_turns_82 rfl) (mpp 83 rfl ?_)
    have p19 : 0 ≤ t1.toInt := by omega
    have p20 : t1.toInt ≤ 7 := by omega
    refine mt_callv (i := 136) (q' := q_149) (As := [.int t1, .int 0]) (rest := [.int x16]) hT dX7_turns_83 rfl qm_149 (by decide) rfl rl_301 (by decide) rfl (Nat.le_of_ble_eq_true rfl) rfl ⟨rfl, rfl⟩ ⟨Nat.le_of_ble_eq_true rfl, Nat.le_of_ble_eq_true rfl⟩ (EvP.mono (by decide) (c_M_countOf hT p19 p20 )) (fun r21 P22 g23 => mpp 86 rfl ?_)
    obtain ⟨⟨x24, rfl, g25⟩, e26⟩ := g23
    have e26 := e26.symm
    subst e26
    have wx24 := ti_full x24
    have g25 : (x24.toInt ≤ 0 ∨ UD P t1.toInt.toNat (0 : Int)) ∧ 0 ≤ x24.toInt ∧ x24.toInt ≤ 8 := g25
    show MEvP _ none q_148 86 [(0, .ref 301), (1, .int t1), (2, .int v2)] [.int x24, .int x16] _ _ _ _
    obtain ⟨z27, h28⟩ := ti_ex (x16 - x24 : Int32)
    have wz27 := ti_full z27
    refine mp_t (s_isub (v := z27) dX7_turns_86 h28) (mpp 87 rfl ?_)
    try have e29 : z27.toInt = x16.toInt - x24.toInt := ti_subz h28 rfl rfl (by omega) (by omega)
    exact mp_iret ⟨⟨_, rfl, trivial⟩, hT, hK, hR⟩ dX7_turns_87 (Or.inl rfl)
  · have c10 : v2.toInt < x6.toInt := ti_ge_n c10
    refine mp_a (a_aload_n dX7_turns_38 rfl) (mpp 39 rfl ?_)
    refine mp_a (a_iload_n dX7_turns_39 rfl) (mpp 40 rfl ?_)
    refine mp_a (a_iload_n dX7_turns_40 rfl) (mpp 41 rfl ?_)
    have p30 : 0 ≤ t1.toInt := by omega
    have p31 : t1.toInt ≤ 7 := by omega
    have p32 : 0 ≤ v2.toInt := by omega
    have p33 : v2.toInt ≤ 7 := by omega
    refine mt_callv (i := 92) (q' := q_146) (As := [.int t1, .int v2]) (rest := []) hT dX7_turns_41 rfl qm_146 (by decide) rfl rl_301 (by decide) rfl (Nat.le_of_ble_eq_true rfl) rfl ⟨rfl, rfl⟩ ⟨Nat.le_of_ble_eq_true rfl, Nat.le_of_ble_eq_true rfl⟩ (EvP.mono (by decide) (c_M_creaseOf hT p30 p31 p32 p33 )) (fun r34 P35 g36 => mpp 44 rfl ?_)
    obtain ⟨⟨x37, rfl, g38⟩, e39⟩ := g36
    have e39 := e39.symm
    subst e39
    have wx37 := ti_full x37
    have g38 : x37.toInt = (fv P 302 (14 + 19 * t1.toInt.toNat + v2.toInt.toNat)).toInt := g38
    show MEvP _ none q_148 44 [(0, .ref 301), (1, .int t1), (2, .int v2)] [.int x37] _ _ _ _
    refine mp_a (a_istore_n (L' := [(3, .int x37), (0, .ref 301), (1, .int t1), (2, .int v2)]) dX7_turns_44 (by decide) rfl) (mpp 45 rfl ?_)
    refine mp_a (a_aload_n dX7_turns_45 rfl) (mpp 46 rfl ?_)
    refine mt_getU (i := 9) (k := 0) (A := 302) hT dX7_turns_46 rfl rl_301 (by decide) rfl (by decide) rfl un_18 (mpp 49 rfl ?_)
    refine mp_a (a_iload_n dX7_turns_49 rfl) (mpp 50 rfl ?_)
    refine mp_a (a_bipush (v := 11) dX7_turns_50 rfl) (mpp 52 rfl ?_)
    refine mp_a (a_iload_n dX7_turns_52 rfl) (mpp 53 rfl ?_)
    obtain ⟨z40, h41⟩ := ti_ex (11 + v2 : Int32)
    have wz40 := ti_full z40
    refine mp_t (s_iadd (v := z40) dX7_turns_53 h41) (mpp 54 rfl ?_)
    try have e42 : z40.toInt = 11 + v2.toInt := ti_addz h41 rfl rfl (by omega) (by omega)
    have p43 : 0 ≤ t1.toInt := by omega
    have p44 : t1.toInt ≤ 8 := by omega
    have p45 : 0 ≤ z40.toInt := by omega
    have p46 : z40.toInt ≤ 20 := by omega
    refine mp_calls (i := 74) (q' := q_135) (As := [.int t1, .int z40]) (rest := [.ref 302]) dX7_turns_54 rfl qm_135 (by decide) rfl (Nat.le_of_ble_eq_true rfl) rfl ⟨rfl, rfl⟩ ⟨Nat.le_of_ble_eq_true rfl, Nat.le_of_ble_eq_true rfl⟩ (EvP.mono (by decide) (c_M_at hT p43 p44 p45 p46 )) (fun r47 P48 g49 => mpp 57 rfl ?_)
    obtain ⟨⟨x50, rfl, g51⟩, e52⟩ := g49
    have e52 := e52.symm
    subst e52
    have wx50 := ti_full x50
    have g51 : x50.toInt = 3 + 19 * t1.toInt + z40.toInt := g51
    show MEvP _ none q_148 57 [(3, .int x37), (0, .ref 301), (1, .int t1), (2, .int v2)] [.int x50, .ref 302] _ _ _ _
    refine mp_a (a_iload_n dX7_turns_57 rfl) (mpp 58 rfl ?_)
    refine mp_Tb (t := 65) (j_if_ne dX7_turns_58) (by decide) (fun c53 => ?_) (fun c53 => mpp 61 rfl ?_)
    · have c53 : x37.toInt ≠ 0 := ti_ne c53
      refine mp_a (a_iconst (v := 3) dX7_turns_65 rfl) (mpp 66 rfl ?_)
      refine mp_a (a_iload_n dX7_turns_66 rfl) (mpp 67 rfl ?_)
      obtain ⟨z54, h55⟩ := ti_ex (3 - x37 : Int32)
      have wz54 := ti_full z54
      refine mp_t (s_isub (v := z54) dX7_turns_67 h55) (mpp 68 rfl ?_)
      try have e56 : z54.toInt = 3 - x37.toInt := ti_subz h55 rfl rfl (by omega) (by omega)
      refine mt_iasX (n := 155) hT dX7_turns_68 rl_302 (by decide) rfl rfl (by omega) (by omega) ssp_0 (okS_mk (by omega) (fun _ => ⟨by omega, by omega⟩) (fun _ => ⟨by omega, by omega⟩)) (fun P57 hT58 f59 f60 f61 => mpp 69 rfl ?_)
      have k62 : KW [1093, 1094, 1152] Po P57 := KW.step hK rl_302 rfl f60 f61
      have R63 := Rel.oth hR f60 (by omega)
      obtain ⟨z64, h65⟩ := ti_ex (v2 + 1 : Int32)
      have wz64 := ti_full z64
      refine mp_a (a_iinc (v := z64) (L' := [(2, .int z64), (3, .int x37), (0, .ref 301), (1, .int t1)]) dX7_turns_69 (by decide) rfl h65 rfl) (mpp 72 rfl ?_)
      try have e66 : z64.toInt = v2.toInt + 1 := ti_addz h65 rfl rfl (by omega) (by omega)
      refine mp_a (a_goto (t := 29) dX7_turns_72 (by decide)) ?_
      refine MEvP.less (L := [(0, .ref 301), (1, .int t1), (2, .int z64)]) rfl rfl ⟨rfl, rfl, rfl, trivial⟩ ?_
      have i67 : 0 ≤ t1.toInt := by omega
      have i68 : t1.toInt ≤ 7 := by omega
      have i69 : 0 ≤ z64.toInt := by omega
      exact ih _ (by omega) _ P57 hT58 k62 R63 i67 i68 i69 rfl
    · have c53 : x37.toInt = 0 := ti_ne_n c53
      refine mp_a (a_iconst (v := 0) dX7_turns_61 rfl) (mpp 62 rfl ?_)
      refine mp_a (a_goto (t := 68) dX7_turns_62 (by decide)) ?_
      refine mt_iasX (n := 155) hT dX7_turns_68 rl_302 (by decide) rfl rfl (by omega) (by omega) ssp_0 (okS_mk (by omega) (fun _ => ⟨by omega, by omega⟩) (fun _ => ⟨by omega, by omega⟩)) (fun P70 hT71 f72 f73 f74 => mpp 69 rfl ?_)
      have k75 : KW [1093, 1094, 1152] Po P70 := KW.step hK rl_302 rfl f73 f74
      have R76 := Rel.oth hR f73 (by omega)
      obtain ⟨z77, h78⟩ := ti_ex (v2 + 1 : Int32)
      have wz77 := ti_full z77
      refine mp_a (a_iinc (v := z77) (L' := [(2, .int z77), (3, .int x37), (0, .ref 301), (1, .int t1)]) dX7_turns_69 (by decide) rfl h78 rfl) (mpp 72 rfl ?_)
      try have e79 : z77.toInt = v2.toInt + 1 := ti_addz h78 rfl rfl (by omega) (by omega)
      refine mp_a (a_goto (t := 29) dX7_turns_72 (by decide)) ?_
      refine MEvP.less (L := [(0, .ref 301), (1, .int t1), (2, .int z77)]) rfl rfl ⟨rfl, rfl, rfl, trivial⟩ ?_
      have i80 : 0 ≤ t1.toInt := by omega
      have i81 : t1.toInt ≤ 7 := by omega
      have i82 : 0 ≤ z77.toInt := by omega
      exact ih _ (by omega) _ P70 hT71 k75 R76 i80 i81 i82 rfl

set_option maxHeartbeats 4000000 in
theorem c_M_turns {Po : mP} {t1 : Int32} (hT : Typ Po) (hR : Rel Po)  : EvP 6 148 [.ref 301, .int t1] Po (fun r P' => (∃ x : Int32, r = some (.int x) ∧ (True)) ∧ Typ P' ∧ KW [1093, 1094, 1152] Po P' ∧ Rel P') := by
  refine EvP.of qm_148 (Nat.le_of_ble_eq_true rfl) rfl ?_
  show MEvP _ none q_148 0 [(0, .ref 301), (1, .int t1)] [] _ 0 0 _
  refine mp_a (a_aload_n dX7_turns_0 rfl) (mpp 1 rfl ?_)
  refine mp_a (a_iload_n dX7_turns_1 rfl) (mpp 2 rfl ?_)
  refine mt_callv (i := 85) (q' := q_144) (As := [.int t1]) (rest := []) hT dX7_turns_2 rfl qm_144 (by decide) rfl rl_301 (by decide) rfl (Nat.le_of_ble_eq_true rfl) rfl ⟨rfl, rfl⟩ ⟨Nat.le_of_ble_eq_true rfl, Nat.le_of_ble_eq_true rfl⟩ (EvP.mono (by decide) (c_M_isPiece hT )) (fun r1 P2 g3 => mpp 5 rfl ?_)
  obtain ⟨⟨x4, rfl, g5⟩, e6⟩ := g3
  have e6 := e6.symm
  subst e6
  have wx4 := ti_full x4
  have g5 : 0 ≤ x4.toInt ∧ x4.toInt ≤ 1 ∧ ((x4.toInt = 1 ∧ 0 ≤ t1.toInt ∧ t1.toInt + 1 ≤ (fv Po 302 0).toInt ∧ t1.toInt ≤ 7) ∨ (x4.toInt = 0 ∧ (t1.toInt < 0 ∨ (fv Po 302 0).toInt ≤ t1.toInt))) := g5
  have g7 : (0 : Int) ≤ (fv Po 302 0).toInt ∧ (fv Po 302 0).toInt ≤ 8 := Typ.rng hT rl_302 (by decide) (by decide) rfl
  show MEvP _ none q_148 5 [(0, .ref 301), (1, .int t1)] [.int x4] _ _ _ _
  refine mp_Tb (t := 12) (j_if_ne dX7_turns_5) (by decide) (fun c8 => ?_) (fun c8 => mpp 8 rfl ?_)
  · have c8 : x4.toInt ≠ 0 := ti_ne c8
    refine mp_a (a_aload_n dX7_turns_12 rfl) (mpp 13 rfl ?_)
    refine mp_a (a_iload_n dX7_turns_13 rfl) (mpp 14 rfl ?_)
    have p9 : 0 ≤ t1.toInt := by omega
    have p10 : t1.toInt ≤ 7 := by omega
    refine mt_callv (i := 130) (q' := q_145) (As := [.int t1]) (rest := []) hT dX7_turns_14 rfl qm_145 (by decide) rfl rl_301 (by decide) rfl (Nat.le_of_ble_eq_true rfl) rfl ⟨rfl, rfl⟩ ⟨Nat.le_of_ble_eq_true rfl, Nat.le_of_ble_eq_true rfl⟩ (EvP.mono (by decide) (c_M_isFolded hT p9 p10 )) (fun r11 P12 g13 => mpp 17 rfl ?_)
    obtain ⟨⟨x14, rfl, g15⟩, e16⟩ := g13
    have e16 := e16.symm
    subst e16
    have wx14 := ti_full x14
    have g15 : 0 ≤ x14.toInt ∧ x14.toInt ≤ 1 := g15
    show MEvP _ none q_148 17 [(0, .ref 301), (1, .int t1)] [.int x14] _ _ _ _
    refine mp_Tb (t := 27) (j_if_eq dX7_turns_17) (by decide) (fun c17 => ?_) (fun c17 => mpp 20 rfl ?_)
    · have c17 : x14.toInt = 0 := ti_eq c17
      refine mp_a (a_iconst (v := 0) dX7_turns_27 rfl) (mpp 28 rfl ?_)
      refine mp_a (a_istore_n (L' := [(2, .int 0), (0, .ref 301), (1, .int t1)]) dX7_turns_28 (by decide) rfl) (mpp 29 rfl ?_)
      refine MEvP.less (L := [(0, .ref 301), (1, .int t1), (2, .int 0)]) rfl rfl ⟨rfl, rfl, rfl, trivial⟩ ?_
      have i18 : 0 ≤ t1.toInt := by omega
      have i19 : t1.toInt ≤ 7 := by omega
      have i20 : 0 ≤ (0 : Int) := by omega
      exact c_M_turns_l29    _ _ Po hT KW.refl hR i18 i19 i20 rfl
    · have c17 : x14.toInt ≠ 0 := ti_eq_n c17
      refine mp_a (a_aload_n dX7_turns_20 rfl) (mpp 21 rfl ?_)
      refine mp_a (a_iconst (v := 2) dX7_turns_21 rfl) (mpp 22 rfl ?_)
      refine mp_a (a_iload_n dX7_turns_22 rfl) (mpp 23 rfl ?_)
      refine mt_callv (i := 101) (q' := q_134) (As := [.int 2, .int t1]) (rest := []) hT dX7_turns_23 rfl qm_134 (by decide) rfl rl_301 (by decide) rfl (Nat.le_of_ble_eq_true rfl) rfl ⟨rfl, rfl⟩ ⟨Nat.le_of_ble_eq_true rfl, Nat.le_of_ble_eq_true rfl⟩ (EvP.mono (by decide) (c_M_refuses hT )) (fun r21 P22 g23 => mpp 26 rfl ?_)
      obtain ⟨⟨x24, rfl, g25⟩, hT26, k27, R28⟩ := g23
      have k29 : KW [1093, 1094, 1152] Po P22 := KW.trans KW.refl k27 rfl
      have R31 := Rel.kw hR k27 rfl
      have wx24 := ti_full x24
      show MEvP _ none q_148 26 [(0, .ref 301), (1, .int t1)] [.int x24] _ _ _ _
      exact mp_iret ⟨⟨_, rfl, trivial⟩, hT26, k29, R31⟩ dX7_turns_26 (Or.inl rfl)
  · have c8 : x4.toInt = 0 := ti_ne_n c8
    refine mp_a (a_sipush (v := -1001) dX7_turns_8 rfl) (mpp 11 rfl ?_)
    exact mp_iret ⟨⟨_, rfl, trivial⟩, hT, KW.refl, hR⟩ dX7_turns_11 (Or.inl rfl)

set_option maxHeartbeats 4000000 in
theorem c_M_turn {Po : mP} {t1 : Int32} (hT : Typ Po) (hR : Rel Po)  : EvP 7 147 [.ref 301, .int t1] Po (fun r P' => (∃ x : Int32, r = some (.int x) ∧ (True)) ∧ Typ P' ∧ KW [1092, 1093, 1094, 1095, 1152, 1216, 1344] Po P' ∧ Rel P') := by
  refine EvP.of qm_147 (Nat.le_of_ble_eq_true rfl) rfl ?_
  show MEvP _ none q_147 0 [(0, .ref 301), (1, .int t1)] [] _ 0 0 _
  refine mp_a (a_aload_n dX7_turn_0 rfl) (mpp 1 rfl ?_)
  refine mt_callv (i := 117) (q' := q_124) (As := []) (rest := []) hT dX7_turn_1 rfl qm_124 (by decide) rfl rl_301 (by decide) rfl (Nat.le_of_ble_eq_true rfl) rfl ⟨rfl, rfl⟩ ⟨Nat.le_of_ble_eq_true rfl, Nat.le_of_ble_eq_true rfl⟩ (EvP.mono (by decide) (c_M_keeps hT hR )) (fun r1 P2 g3 => mpp 4 rfl ?_)
  obtain ⟨⟨rfl, g5⟩, hT6, k7, R8⟩ := g3
  have k9 : KW [1092, 1093, 1094, 1095, 1152, 1216, 1344] Po P2 := KW.trans KW.refl k7 rfl
  show MEvP _ none q_147 4 [(0, .ref 301), (1, .int t1)] [] _ _ _ _
  refine mp_a (a_aload_n dX7_turn_4 rfl) (mpp 5 rfl ?_)
  refine mp_a (a_aload_n dX7_turn_5 rfl) (mpp 6 rfl ?_)
  refine mp_a (a_iload_n dX7_turn_6 rfl) (mpp 7 rfl ?_)
  refine mt_callv (i := 139) (q' := q_148) (As := [.int t1]) (rest := [.ref 301]) hT6 dX7_turn_7 rfl qm_148 (by decide) rfl rl_301 (by decide) rfl (Nat.le_of_ble_eq_true rfl) rfl ⟨rfl, rfl⟩ ⟨Nat.le_of_ble_eq_true rfl, Nat.le_of_ble_eq_true rfl⟩ (EvP.mono (by decide) (c_M_turns hT6 R8 )) (fun r11 P12 g13 => mpp 10 rfl ?_)
  obtain ⟨⟨x14, rfl, g15⟩, hT16, k17, R18⟩ := g13
  have k19 : KW [1092, 1093, 1094, 1095, 1152, 1216, 1344] Po P12 := KW.trans k9 k17 rfl
  have wx14 := ti_full x14
  show MEvP _ none q_147 10 [(0, .ref 301), (1, .int t1)] [.int x14, .ref 301] _ _ _ _
  refine mt_callv (i := 124) (q' := q_139) (As := [.int x14]) (rest := []) hT16 dX7_turn_10 rfl qm_139 (by decide) rfl rl_301 (by decide) rfl (Nat.le_of_ble_eq_true rfl) rfl ⟨rfl, rfl⟩ ⟨Nat.le_of_ble_eq_true rfl, Nat.le_of_ble_eq_true rfl⟩ (EvP.mono (by decide) (c_M_ends hT16 R18 )) (fun r21 P22 g23 => mpp 13 rfl ?_)
  obtain ⟨⟨x24, rfl, g25⟩, hT26, k27, R28⟩ := g23
  have k29 : KW [1092, 1093, 1094, 1095, 1152, 1216, 1344] Po P22 := KW.trans k19 k27 rfl
  have wx24 := ti_full x24
  show MEvP _ none q_147 13 [(0, .ref 301), (1, .int t1)] [.int x24] _ _ _ _
  exact mp_iret ⟨⟨_, rfl, trivial⟩, hT26, k29, R28⟩ dX7_turn_13 (Or.inl rfl)

set_option maxHeartbeats 4000000 in
theorem c_M_rotates_l107 {Po : mP} {t1 : Int32} {t2 : Int32}  : ∀ (n : Nat) (v3 : Int32) (v4 : Int32) (v5 : Int32), ∀ (P : mP), Typ P → KW [1093, 1094, 1152, 1408, 1472] Po P → Rel P → (0 ≤ t1.toInt) → (t1.toInt ≤ 7) → (v3.toInt ≤ 8) → (0 ≤ v5.toInt) → (2147483647 - v5.toInt).toNat = n → MEvP 5 none q_151 107 [(0, .ref 301), (1, .int t1), (2, .int t2), (3, .int v3), (4, .int v4), (5, .int v5)] [] P 0 0 (fun r P' => (∃ x : Int32, r = some (.int x) ∧ (True)) ∧ Typ P' ∧ KW [1093, 1094, 1152, 1408, 1472] Po P' ∧ Rel P') := by
  intro n
  induction n using Nat.strongRecOn with | _ n ih => ?_
  intro v3 v4 v5 P hT hK hR i_0 i_1 i_2 i_3 hm
  have w_t1 := ti_full t1
  have w_t2 := ti_full t2
  have w_v3 := ti_full v3
  have w_v4 := ti_full v4
  have w_v5 := ti_full v5
  refine mp_a (a_iload dX7_rotates_107 rfl) (mpp 109 rfl ?_)
  refine mp_a (a_iload_n dX7_rotates_109 rfl) (mpp 110 rfl ?_)
  refine mp_Tb (t := 175) (j_icmp_ge dX7_rotates_110) (by decide) (fun c1 => ?_) (fun c1 => mpp 113 rfl ?_)
  · have c1 : v5.toInt ≥ v3.toInt := ti_ge c1
    refine mp_a (a_iload dX7_rotates_175 rfl) (mpp 177 rfl ?_)
    exact mp_iret ⟨⟨_, rfl, trivial⟩, hT, hK, hR⟩ dX7_rotates_177 (Or.inl rfl)
  · have c1 : v5.toInt < v3.toInt := ti_ge_n c1
    refine mp_a (a_aload_n dX7_rotates_113 rfl) (mpp 114 rfl ?_)
    refine mt_getU (i := 9) (k := 0) (A := 302) hT dX7_rotates_114 rfl rl_301 (by decide) rfl (by decide) rfl un_18 (mpp 117 rfl ?_)
    refine mp_a (a_iload_n dX7_rotates_117 rfl) (mpp 118 rfl ?_)
    refine mp_a (a_iconst (v := 3) dX7_rotates_118 rfl) (mpp 119 rfl ?_)
    refine mp_a (a_iload dX7_rotates_119 rfl) (mpp 121 rfl ?_)
    obtain ⟨z2, h3⟩ := ti_ex (3 + v5 : Int32)
    have wz2 := ti_full z2
    refine mp_t (s_iadd (v := z2) dX7_rotates_121 h3) (mpp 122 rfl ?_)
    try have e4 : z2.toInt = 3 + v5.toInt := ti_addz h3 rfl rfl (by omega) (by omega)
    have p5 : 0 ≤ t1.toInt := by omega
    have p6 : t1.toInt ≤ 8 := by omega
    have p7 : 0 ≤ z2.toInt := by omega
    have p8 : z2.toInt ≤ 20 := by omega
    refine mp_calls (i := 74) (q' := q_135) (As := [.int t1, .int z2]) (rest := [.ref 302]) dX7_rotates_122 rfl qm_135 (by decide) rfl (Nat.le_of_ble_eq_true rfl) rfl ⟨rfl, rfl⟩ ⟨Nat.le_of_ble_eq_true rfl, Nat.le_of_ble_eq_true rfl⟩ (EvP.mono (by decide) (c_M_at hT p5 p6 p7 p8 )) (fun r9 P10 g11 => mpp 125 rfl ?_)
    obtain ⟨⟨x12, rfl, g13⟩, e14⟩ := g11
    have e14 := e14.symm
    subst e14
    have wx12 := ti_full x12
    have g13 : x12.toInt = 3 + 19 * t1.toInt + z2.toInt := g13
    show MEvP _ none q_151 125 [(0, .ref 301), (1, .int t1), (2, .int t2), (3, .int v3), (4, .int v4), (5, .int v5)] [.int x12, .ref 302] _ _ _ _
    refine mp_a (a_aload_n dX7_rotates_125 rfl) (mpp 126 rfl ?_)
    refine mt_getU (i := 22) (k := 9) (A := 306) hT dX7_rotates_126 rfl rl_301 (by decide) rfl (by decide) rfl un_22 (mpp 129 rfl ?_)
    refine mp_a (a_iload dX7_rotates_129 rfl) (mpp 131 rfl ?_)
    refine mt_ial (n := 8) hT dX7_rotates_131 rl_306 (by decide) rfl rfl (by omega) (by omega) rfl (fun g15 g16 => mpp 132 rfl ?_)
    refine mt_iasX (n := 155) hT dX7_rotates_132 rl_302 (by decide) rfl rfl (by omega) (by omega) ssp_0 (okS_mk (by omega) (fun _ => ⟨by omega, by omega⟩) (fun _ => ⟨by omega, by omega⟩)) (fun P17 hT18 f19 f20 f21 => mpp 133 rfl ?_)
    have k22 : KW [1093, 1094, 1152, 1408, 1472] Po P17 := KW.step hK rl_302 rfl f20 f21
    have R23 := Rel.oth hR f20 (by omega)
    refine mp_a (a_aload_n dX7_rotates_133 rfl) (mpp 134 rfl ?_)
    refine mt_getU (i := 9) (k := 0) (A := 302) hT18 dX7_rotates_134 rfl rl_301 (by decide) rfl (by decide) rfl un_18 (mpp 137 rfl ?_)
    refine mp_a (a_iload_n dX7_rotates_137 rfl) (mpp 138 rfl ?_)
    refine mp_a (a_bipush (v := 11) dX7_rotates_138 rfl) (mpp 140 rfl ?_)
    refine mp_a (a_iload dX7_rotates_140 rfl) (mpp 142 rfl ?_)
    obtain ⟨z24, h25⟩ := ti_ex (11 + v5 : Int32)
    have wz24 := ti_full z24
    refine mp_t (s_iadd (v := z24) dX7_rotates_142 h25) (mpp 143 rfl ?_)
    try have e26 : z24.toInt = 11 + v5.toInt := ti_addz h25 rfl rfl (by omega) (by omega)
    have p27 : 0 ≤ t1.toInt := by omega
    have p28 : t1.toInt ≤ 8 := by omega
    have p29 : 0 ≤ z24.toInt := by omega
    have p30 : z24.toInt ≤ 20 := by omega
    refine mp_calls (i := 74) (q' := q_135) (As := [.int t1, .int z24]) (rest := [.ref 302]) dX7_rotates_143 rfl qm_135 (by decide) rfl (Nat.le_of_ble_eq_true rfl) rfl ⟨rfl, rfl⟩ ⟨Nat.le_of_ble_eq_true rfl, Nat.le_of_ble_eq_true rfl⟩ (EvP.mono (by decide) (c_M_at hT18 p27 p28 p29 p30 )) (fun r31 P32 g33 => mpp 146 rfl ?_)
    obtain ⟨⟨x34, rfl, g35⟩, e36⟩ := g33
    have e36 := e36.symm
    subst e36
    have wx34 := ti_full x34
    have g35 : x34.toInt = 3 + 19 * t1.toInt + z24.toInt := g35
    show MEvP _ none q_151 146 [(0, .ref 301), (1, .int t1), (2, .int t2), (3, .int v3), (4, .int v4), (5, .int v5)] [.int x34, .ref 302] _ _ _ _
    refine mp_a (a_aload_n dX7_rotates_146 rfl) (mpp 147 rfl ?_)
    refine mt_getU (i := 25) (k := 10) (A := 307) hT18 dX7_rotates_147 rfl rl_301 (by decide) rfl (by decide) rfl un_23 (mpp 150 rfl ?_)
    refine mp_a (a_iload dX7_rotates_150 rfl) (mpp 152 rfl ?_)
    refine mt_ial (n := 8) hT18 dX7_rotates_152 rl_307 (by decide) rfl rfl (by omega) (by omega) rfl (fun g37 g38 => mpp 153 rfl ?_)
    refine mt_iasX (n := 155) hT18 dX7_rotates_153 rl_302 (by decide) rfl rfl (by omega) (by omega) ssp_0 (okS_mk (by omega) (fun _ => ⟨by omega, by omega⟩) (fun _ => ⟨by omega, by omega⟩)) (fun P39 hT40 f41 f42 f43 => mpp 154 rfl ?_)
    have k44 : KW [1093, 1094, 1152, 1408, 1472] Po P39 := KW.step k22 rl_302 rfl f42 f43
    have R45 := Rel.oth R23 f42 (by omega)
    refine mp_a (a_bipush (v := 10) dX7_rotates_154 rfl) (mpp 156 rfl ?_)
    refine mp_a (a_iload dX7_rotates_156 rfl) (mpp 158 rfl ?_)
    obtain ⟨z46, h47⟩ := ti_ex (10 * v4 : Int32)
    have wz46 := ti_full z46
    refine mp_t (s_imul (v := z46) dX7_rotates_158 h47) (mpp 159 rfl ?_)
    try have e48 : z46.toInt = 10 * v4.toInt := ti_mulz h47 rfl rfl (by omega) (by omega)
    refine mp_a (a_aload_n dX7_rotates_159 rfl) (mpp 160 rfl ?_)
    refine mt_getU (i := 22) (k := 9) (A := 306) hT40 dX7_rotates_160 rfl rl_301 (by decide) rfl (by decide) rfl un_22 (mpp 163 rfl ?_)
    refine mp_a (a_iload dX7_rotates_163 rfl) (mpp 165 rfl ?_)
    refine mt_ial (n := 8) hT40 dX7_rotates_165 rl_306 (by decide) rfl rfl (by omega) (by omega) rfl (fun g49 g50 => mpp 166 rfl ?_)
    obtain ⟨z51, h52⟩ := ti_ex (z46 + (fv P39 306 v5.toInt.toNat) : Int32)
    have wz51 := ti_full z51
    refine mp_t (s_iadd (v := z51) dX7_rotates_166 h52) (mpp 167 rfl ?_)
    try have e53 : z51.toInt = z46.toInt + (fv P39 306 v5.toInt.toNat).toInt := ti_addz h52 rfl rfl (by omega) (by omega)
    refine mp_a (a_istore (L' := [(4, .int z51), (0, .ref 301), (1, .int t1), (2, .int t2), (3, .int v3), (5, .int v5)]) dX7_rotates_167 (by decide) rfl) (mpp 169 rfl ?_)
    obtain ⟨z54, h55⟩ := ti_ex (v5 + 1 : Int32)
    have wz54 := ti_full z54
    refine mp_a (a_iinc (v := z54) (L' := [(5, .int z54), (4, .int z51), (0, .ref 301), (1, .int t1), (2, .int t2), (3, .int v3)]) dX7_rotates_169 (by decide) rfl h55 rfl) (mpp 172 rfl ?_)
    try have e56 : z54.toInt = v5.toInt + 1 := ti_addz h55 rfl rfl (by omega) (by omega)
    refine mp_a (a_goto (t := 107) dX7_rotates_172 (by decide)) ?_
    refine MEvP.less (L := [(0, .ref 301), (1, .int t1), (2, .int t2), (3, .int v3), (4, .int z51), (5, .int z54)]) rfl rfl ⟨rfl, rfl, rfl, rfl, rfl, rfl, trivial⟩ ?_
    have i57 : 0 ≤ t1.toInt := by omega
    have i58 : t1.toInt ≤ 7 := by omega
    have i59 : v3.toInt ≤ 8 := by omega
    have i60 : 0 ≤ z54.toInt := by omega
    exact ih _ (by omega) _ _ _ P39 hT40 k44 R45 i57 i58 i59 i60 rfl

set_option maxHeartbeats 4000000 in
theorem c_M_rotates_l53 {Po : mP} {t1 : Int32} {t2 : Int32}  : ∀ (n : Nat) (v3 : Int32) (v4 : Int32), ∀ (P : mP), Typ P → KW [1093, 1094, 1152, 1408, 1472] Po P → Rel P → (0 ≤ t1.toInt) → (t1.toInt ≤ 7) → (0 ≤ t2.toInt) → (t2.toInt ≤ 7) → (v3.toInt ≤ 8) → (0 ≤ v4.toInt) → (2147483647 - v4.toInt).toNat = n → MEvP 5 none q_151 53 [(0, .ref 301), (1, .int t1), (2, .int t2), (3, .int v3), (4, .int v4)] [] P 0 0 (fun r P' => (∃ x : Int32, r = some (.int x) ∧ (True)) ∧ Typ P' ∧ KW [1093, 1094, 1152, 1408, 1472] Po P' ∧ Rel P') := by
  intro n
  induction n using Nat.strongRecOn with | _ n ih => ?_
  intro v3 v4 P hT hK hR i_0 i_1 i_2 i_3 i_4 i_5 hm
  have w_t1 := ti_full t1
  have w_t2 := ti_full t2
  have w_v3 := ti_full v3
  have w_v4 := ti_full v4
  refine mp_a (a_iload dX7_rotates_53 rfl) (mpp 55 rfl ?_)
  refine mp_a (a_iload_n dX7_rotates_55 rfl) (mpp 56 rfl ?_)
  refine mp_Tb (t := 101) (j_icmp_ge dX7_rotates_56) (by decide) (fun c1 => ?_) (fun c1 => mpp 59 rfl ?_)
  · have c1 : v4.toInt ≥ v3.toInt := ti_ge c1
    refine mp_a (a_iconst (v := 0) dX7_rotates_101 rfl) (mpp 102 rfl ?_)
    refine mp_a (a_istore (L' := [(4, .int 0), (0, .ref 301), (1, .int t1), (2, .int t2), (3, .int v3)]) dX7_rotates_102 (by decide) rfl) (mpp 104 rfl ?_)
    refine mp_a (a_iconst (v := 0) dX7_rotates_104 rfl) (mpp 105 rfl ?_)
    refine mp_a (a_istore (L' := [(5, .int 0), (4, .int 0), (0, .ref 301), (1, .int t1), (2, .int t2), (3, .int v3)]) dX7_rotates_105 (by decide) rfl) (mpp 107 rfl ?_)
    refine MEvP.less (L := [(0, .ref 301), (1, .int t1), (2, .int t2), (3, .int v3), (4, .int 0), (5, .int 0)]) rfl rfl ⟨rfl, rfl, rfl, rfl, rfl, rfl, trivial⟩ ?_
    have i2 : 0 ≤ t1.toInt := by omega
    have i3 : t1.toInt ≤ 7 := by omega
    have i4 : v3.toInt ≤ 8 := by omega
    have i5 : 0 ≤ (0 : Int) := by omega
    exact c_M_rotates_l107    _ _ _ _ P hT hK hR i2 i3 i4 i5 rfl
  · have c1 : v4.toInt < v3.toInt := ti_ge_n c1
    refine mp_a (a_aload_n dX7_rotates_59 rfl) (mpp 60 rfl ?_)
    refine mt_getU (i := 22) (k := 9) (A := 306) hT dX7_rotates_60 rfl rl_301 (by decide) rfl (by decide) rfl un_22 (mpp 63 rfl ?_)
    refine mp_a (a_iload dX7_rotates_63 rfl) (mpp 65 rfl ?_)
    refine mp_a (a_aload_n dX7_rotates_65 rfl) (mpp 66 rfl ?_)
    refine mp_a (a_iload_n dX7_rotates_66 rfl) (mpp 67 rfl ?_)
    refine mp_a (a_iload_n dX7_rotates_67 rfl) (mpp 68 rfl ?_)
    refine mp_a (a_iload dX7_rotates_68 rfl) (mpp 70 rfl ?_)
    obtain ⟨z6, h7⟩ := ti_ex (t2 + v4 : Int32)
    have wz6 := ti_full z6
    refine mp_t (s_iadd (v := z6) dX7_rotates_70 h7) (mpp 71 rfl ?_)
    try have e8 : z6.toInt = t2.toInt + v4.toInt := ti_addz h7 rfl rfl (by omega) (by omega)
    refine mp_a (a_iload_n dX7_rotates_71 rfl) (mpp 72 rfl ?_)
    obtain ⟨z9, h10⟩ := ti_ex (z6 - z6 / v3 * v3 : Int32)
    have wz9 := ti_full z9
    have n11 : ¬ v3 = 0 := ti_n0 (by omega)
    try have e12 : 0 ≤ z9.toInt ∧ z9.toInt < v3.toInt := ti_rem h10 (show (0 : Int) ≤ z6.toInt by omega) (show (0 : Int) < v3.toInt by omega)
    refine mp_t (s_irem (v := z9) dX7_rotates_72 n11 h10) (mpp 73 rfl ?_)
    have p13 : 0 ≤ t1.toInt := by omega
    have p14 : t1.toInt ≤ 7 := by omega
    have p15 : 0 ≤ z9.toInt := by omega
    have p16 : z9.toInt ≤ 7 := by omega
    refine mt_callv (i := 142) (q' := q_152) (As := [.int t1, .int z9]) (rest := [.int v4, .ref 306]) hT dX7_rotates_73 rfl qm_152 (by decide) rfl rl_301 (by decide) rfl (Nat.le_of_ble_eq_true rfl) rfl ⟨rfl, rfl⟩ ⟨Nat.le_of_ble_eq_true rfl, Nat.le_of_ble_eq_true rfl⟩ (EvP.mono (by decide) (c_M_sizeOf hT p13 p14 p15 p16 )) (fun r17 P18 g19 => mpp 76 rfl ?_)
    obtain ⟨⟨x20, rfl, g21⟩, e22⟩ := g19
    have e22 := e22.symm
    subst e22
    have wx20 := ti_full x20
    show MEvP _ none q_151 76 [(0, .ref 301), (1, .int t1), (2, .int t2), (3, .int v3), (4, .int v4)] [.int x20, .int v4, .ref 306] _ _ _ _
    refine mt_ias (n := 8) hT dX7_rotates_76 rl_306 (by decide) rfl rfl (by omega) (by omega) rfl (ti_full x20) (fun P23 hT24 f25 f26 f27 => mpp 77 rfl ?_)
    have k28 : KW [1093, 1094, 1152, 1408, 1472] Po P23 := KW.step hK rl_306 rfl f26 f27
    have R29 := Rel.ne hR rl_306 rfl f26
    refine mp_a (a_aload_n dX7_rotates_77 rfl) (mpp 78 rfl ?_)
    refine mt_getU (i := 25) (k := 10) (A := 307) hT24 dX7_rotates_78 rfl rl_301 (by decide) rfl (by decide) rfl un_23 (mpp 81 rfl ?_)
    refine mp_a (a_iload dX7_rotates_81 rfl) (mpp 83 rfl ?_)
    refine mp_a (a_aload_n dX7_rotates_83 rfl) (mpp 84 rfl ?_)
    refine mp_a (a_iload_n dX7_rotates_84 rfl) (mpp 85 rfl ?_)
    refine mp_a (a_iload_n dX7_rotates_85 rfl) (mpp 86 rfl ?_)
    refine mp_a (a_iload dX7_rotates_86 rfl) (mpp 88 rfl ?_)
    obtain ⟨z30, h31⟩ := ti_ex (t2 + v4 : Int32)
    have wz30 := ti_full z30
    refine mp_t (s_iadd (v := z30) dX7_rotates_88 h31) (mpp 89 rfl ?_)
    try have e32 : z30.toInt = t2.toInt + v4.toInt := ti_addz h31 rfl rfl (by omega) (by omega)
    refine mp_a (a_iload_n dX7_rotates_89 rfl) (mpp 90 rfl ?_)
    obtain ⟨z33, h34⟩ := ti_ex (z30 - z30 / v3 * v3 : Int32)
    have wz33 := ti_full z33
    have n35 : ¬ v3 = 0 := ti_n0 (by omega)
    try have e36 : 0 ≤ z33.toInt ∧ z33.toInt < v3.toInt := ti_rem h34 (show (0 : Int) ≤ z30.toInt by omega) (show (0 : Int) < v3.toInt by omega)
    refine mp_t (s_irem (v := z33) dX7_rotates_90 n35 h34) (mpp 91 rfl ?_)
    have p37 : 0 ≤ t1.toInt := by omega
    have p38 : t1.toInt ≤ 7 := by omega
    have p39 : 0 ≤ z33.toInt := by omega
    have p40 : z33.toInt ≤ 7 := by omega
    refine mt_callv (i := 92) (q' := q_146) (As := [.int t1, .int z33]) (rest := [.int v4, .ref 307]) hT24 dX7_rotates_91 rfl qm_146 (by decide) rfl rl_301 (by decide) rfl (Nat.le_of_ble_eq_true rfl) rfl ⟨rfl, rfl⟩ ⟨Nat.le_of_ble_eq_true rfl, Nat.le_of_ble_eq_true rfl⟩ (EvP.mono (by decide) (c_M_creaseOf hT24 p37 p38 p39 p40 )) (fun r41 P42 g43 => mpp 94 rfl ?_)
    obtain ⟨⟨x44, rfl, g45⟩, e46⟩ := g43
    have e46 := e46.symm
    subst e46
    have wx44 := ti_full x44
    have g45 : x44.toInt = (fv P23 302 (14 + 19 * t1.toInt.toNat + z33.toInt.toNat)).toInt := g45
    show MEvP _ none q_151 94 [(0, .ref 301), (1, .int t1), (2, .int t2), (3, .int v3), (4, .int v4)] [.int x44, .int v4, .ref 307] _ _ _ _
    refine mt_ias (n := 8) hT24 dX7_rotates_94 rl_307 (by decide) rfl rfl (by omega) (by omega) rfl (ti_full x44) (fun P47 hT48 f49 f50 f51 => mpp 95 rfl ?_)
    have k52 : KW [1093, 1094, 1152, 1408, 1472] Po P47 := KW.step k28 rl_307 rfl f50 f51
    have R53 := Rel.ne R29 rl_307 rfl f50
    obtain ⟨z54, h55⟩ := ti_ex (v4 + 1 : Int32)
    have wz54 := ti_full z54
    refine mp_a (a_iinc (v := z54) (L' := [(4, .int z54), (0, .ref 301), (1, .int t1), (2, .int t2), (3, .int v3)]) dX7_rotates_95 (by decide) rfl h55 rfl) (mpp 98 rfl ?_)
    try have e56 : z54.toInt = v4.toInt + 1 := ti_addz h55 rfl rfl (by omega) (by omega)
    refine mp_a (a_goto (t := 53) dX7_rotates_98 (by decide)) ?_
    refine MEvP.less (L := [(0, .ref 301), (1, .int t1), (2, .int t2), (3, .int v3), (4, .int z54)]) rfl rfl ⟨rfl, rfl, rfl, rfl, rfl, trivial⟩ ?_
    have i57 : 0 ≤ t1.toInt := by omega
    have i58 : t1.toInt ≤ 7 := by omega
    have i59 : 0 ≤ t2.toInt := by omega
    have i60 : t2.toInt ≤ 7 := by omega
    have i61 : v3.toInt ≤ 8 := by omega
    have i62 : 0 ≤ z54.toInt := by omega
    exact ih _ (by omega) _ _ P47 hT48 k52 R53 i57 i58 i59 i60 i61 i62 rfl

