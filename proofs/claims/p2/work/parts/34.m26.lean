/-! methods on typed pools, 26 (written by a program) -/
set_option maxHeartbeats 4000000 in
theorem c_M_crimped {Po : mP}  (hT : Typ Po)   : EvP 1 168 [.ref 301] Po (fun r P' => (∃ x : Int32, r = some (.int x) ∧ (x.toInt = -1 ∨ ((fv Po 301 14).toInt = 1 ∧ 3 ≤ (fv Po 301 13).toInt ∧ 0 ≤ x.toInt ∧ x.toInt + 1 ≤ (fv Po 301 13).toInt) ∨ ((fv Po 301 14).toInt = 0 ∧ 1 ≤ x.toInt ∧ x.toInt + 2 ≤ (fv Po 301 13).toInt))) ∧ P' = Po) := by
  refine EvP.of qm_168 (Nat.le_of_ble_eq_true rfl) rfl ?_
  show MEvP _ none q_168 0 [(0, .ref 301)] [] _ 0 0 _
  have g1 : (0 : Int) ≤ (fv Po 301 14).toInt ∧ (fv Po 301 14).toInt ≤ 1 := Typ.rng hT rl_301 (by decide) (by decide) rfl
  have g2 : (0 : Int) ≤ (fv Po 301 13).toInt ∧ (fv Po 301 13).toInt ≤ 8 := Typ.rng hT rl_301 (by decide) (by decide) rfl
  refine mp_a (a_aload_n dX7_crimped_0 rfl) (mpp 1 rfl ?_)
  refine mt_getI (i := 161) (k := 14) hT dX7_crimped_1 rfl rl_301 (by decide) rfl (by decide) rfl (fun g3 g4 => mpp 4 rfl ?_)
  refine mp_Tb (t := 17) (j_if_eq dX7_crimped_4) (by decide) (fun c5 => ?_) (fun c5 => mpp 7 rfl ?_)
  · have c5 : (fv Po 301 14).toInt = 0 := ti_eq c5
    refine mp_a (a_aload_n dX7_crimped_17 rfl) (mpp 18 rfl ?_)
    refine mt_getI (i := 161) (k := 14) hT dX7_crimped_18 rfl rl_301 (by decide) rfl (by decide) rfl (fun g6 g7 => mpp 21 rfl ?_)
    refine mp_Tb (t := 28) (j_if_eq dX7_crimped_21) (by decide) (fun c8 => ?_) (fun c8 => mpp 24 rfl ?_)
    · have c8 : (fv Po 301 14).toInt = 0 := ti_eq c8
      refine mp_a (a_iconst (v := 1) dX7_crimped_28 rfl) (mpp 29 rfl ?_)
      refine mp_a (a_istore_n (L' := [(1, .int 1), (0, .ref 301)]) dX7_crimped_29 (by decide) rfl) (mpp 30 rfl ?_)
      refine MEvP.less (L := [(0, .ref 301), (1, .int 1)]) rfl rfl ⟨rfl, rfl, trivial⟩ ?_
      have i9 : (fv Po 301 14).toInt ≠ 0 ∨ 1 ≤ (1 : Int) := by omega
      have i10 : 0 ≤ (1 : Int) := by omega
      have i11 : (fv Po 301 14).toInt = 0 ∨ 3 ≤ (fv Po 301 13).toInt := by omega
      exact c_M_crimped_l30 hT   _ _ i9 i10 i11 rfl
    · have c8 : (fv Po 301 14).toInt ≠ 0 := ti_eq_n c8
      refine mp_a (a_iconst (v := 0) dX7_crimped_24 rfl) (mpp 25 rfl ?_)
      refine mp_a (a_goto (t := 29) dX7_crimped_25 (by decide)) ?_
      refine mp_a (a_istore_n (L' := [(1, .int 0), (0, .ref 301)]) dX7_crimped_29 (by decide) rfl) (mpp 30 rfl ?_)
      refine MEvP.less (L := [(0, .ref 301), (1, .int 0)]) rfl rfl ⟨rfl, rfl, trivial⟩ ?_
      have i12 : (fv Po 301 14).toInt ≠ 0 ∨ 1 ≤ (0 : Int) := by omega
      have i13 : 0 ≤ (0 : Int) := by omega
      have i14 : (fv Po 301 14).toInt = 0 ∨ 3 ≤ (fv Po 301 13).toInt := by omega
      exact c_M_crimped_l30 hT   _ _ i12 i13 i14 rfl
  · have c5 : (fv Po 301 14).toInt ≠ 0 := ti_eq_n c5
    refine mp_a (a_aload_n dX7_crimped_7 rfl) (mpp 8 rfl ?_)
    refine mt_getI (i := 165) (k := 13) hT dX7_crimped_8 rfl rl_301 (by decide) rfl (by decide) rfl (fun g15 g16 => mpp 11 rfl ?_)
    refine mp_a (a_iconst (v := 2) dX7_crimped_11 rfl) (mpp 12 rfl ?_)
    refine mp_Tb (t := 17) (j_icmp_gt dX7_crimped_12) (by decide) (fun c17 => ?_) (fun c17 => mpp 15 rfl ?_)
    · have c17 : (fv Po 301 13).toInt > 2 := ti_gt c17
      refine mp_a (a_aload_n dX7_crimped_17 rfl) (mpp 18 rfl ?_)
      refine mt_getI (i := 161) (k := 14) hT dX7_crimped_18 rfl rl_301 (by decide) rfl (by decide) rfl (fun g18 g19 => mpp 21 rfl ?_)
      refine mp_Tb (t := 28) (j_if_eq dX7_crimped_21) (by decide) (fun c20 => ?_) (fun c20 => mpp 24 rfl ?_)
      · have c20 : (fv Po 301 14).toInt = 0 := ti_eq c20
        refine mp_a (a_iconst (v := 1) dX7_crimped_28 rfl) (mpp 29 rfl ?_)
        refine mp_a (a_istore_n (L' := [(1, .int 1), (0, .ref 301)]) dX7_crimped_29 (by decide) rfl) (mpp 30 rfl ?_)
        refine MEvP.less (L := [(0, .ref 301), (1, .int 1)]) rfl rfl ⟨rfl, rfl, trivial⟩ ?_
        have i21 : (fv Po 301 14).toInt ≠ 0 ∨ 1 ≤ (1 : Int) := by omega
        have i22 : 0 ≤ (1 : Int) := by omega
        have i23 : (fv Po 301 14).toInt = 0 ∨ 3 ≤ (fv Po 301 13).toInt := by omega
        exact c_M_crimped_l30 hT   _ _ i21 i22 i23 rfl
      · have c20 : (fv Po 301 14).toInt ≠ 0 := ti_eq_n c20
        refine mp_a (a_iconst (v := 0) dX7_crimped_24 rfl) (mpp 25 rfl ?_)
        refine mp_a (a_goto (t := 29) dX7_crimped_25 (by decide)) ?_
        refine mp_a (a_istore_n (L' := [(1, .int 0), (0, .ref 301)]) dX7_crimped_29 (by decide) rfl) (mpp 30 rfl ?_)
        refine MEvP.less (L := [(0, .ref 301), (1, .int 0)]) rfl rfl ⟨rfl, rfl, trivial⟩ ?_
        have i24 : (fv Po 301 14).toInt ≠ 0 ∨ 1 ≤ (0 : Int) := by omega
        have i25 : 0 ≤ (0 : Int) := by omega
        have i26 : (fv Po 301 14).toInt = 0 ∨ 3 ≤ (fv Po 301 13).toInt := by omega
        exact c_M_crimped_l30 hT   _ _ i24 i25 i26 rfl
    · have c17 : (fv Po 301 13).toInt ≤ 2 := ti_gt_n c17
      refine mp_a (a_iconst (v := -1) dX7_crimped_15 rfl) (mpp 16 rfl ?_)
      have u27 : (-1 : Int) = -1 ∨ ((fv Po 301 14).toInt = 1 ∧ 3 ≤ (fv Po 301 13).toInt ∧ 0 ≤ (-1 : Int) ∧ (-1 : Int) + 1 ≤ (fv Po 301 13).toInt) ∨ ((fv Po 301 14).toInt = 0 ∧ 1 ≤ (-1 : Int) ∧ (-1 : Int) + 2 ≤ (fv Po 301 13).toInt) := by omega
      exact mp_iret ⟨⟨_, rfl, u27⟩, rfl⟩ dX7_crimped_16 (Or.inl rfl)

set_option maxHeartbeats 4000000 in
theorem c_M_stepNow {Po : mP}  (hT : Typ Po)   : EvP 2 167 [.ref 301] Po (fun r P' => (∃ x : Int32, r = some (.int x) ∧ (x.toInt = 0 ∨ (x.toInt = 1 ∧ (fv Po 301 14).toInt = 0 ∧ 2 ≤ (fv Po 301 13).toInt) ∨ (x.toInt = 2 ∧ (fv Po 301 14).toInt = 0 ∧ 2 ≤ (fv Po 301 13).toInt) ∨ ((fv Po 301 14).toInt = 1 ∧ 3 ≤ (fv Po 301 13).toInt ∧ 10 ≤ x.toInt ∧ x.toInt + 1 ≤ (fv Po 301 13).toInt + 10) ∨ ((fv Po 301 14).toInt = 0 ∧ 11 ≤ x.toInt ∧ x.toInt + 2 ≤ (fv Po 301 13).toInt + 10))) ∧ P' = Po) := by
  refine EvP.of qm_167 (Nat.le_of_ble_eq_true rfl) rfl ?_
  show MEvP _ none q_167 0 [(0, .ref 301)] [] _ 0 0 _
  have g1 : (0 : Int) ≤ (fv Po 301 14).toInt ∧ (fv Po 301 14).toInt ≤ 1 := Typ.rng hT rl_301 (by decide) (by decide) rfl
  have g2 : (0 : Int) ≤ (fv Po 301 13).toInt ∧ (fv Po 301 13).toInt ≤ 8 := Typ.rng hT rl_301 (by decide) (by decide) rfl
  refine mp_a (a_aload_n dX7_stepNow_0 rfl) (mpp 1 rfl ?_)
  refine mt_getI (i := 161) (k := 14) hT dX7_stepNow_1 rfl rl_301 (by decide) rfl (by decide) rfl (fun g3 g4 => mpp 4 rfl ?_)
  refine mp_Tb (t := 59) (j_if_ne dX7_stepNow_4) (by decide) (fun c5 => ?_) (fun c5 => mpp 7 rfl ?_)
  · have c5 : (fv Po 301 14).toInt ≠ 0 := ti_ne c5
    refine mp_a (a_aload_n dX7_stepNow_59 rfl) (mpp 60 rfl ?_)
    refine mt_callv (i := 168) (q' := q_168) (As := []) (rest := []) hT dX7_stepNow_60 rfl qm_168 (by decide) rfl rl_301 (by decide) rfl (Nat.le_of_ble_eq_true rfl) rfl ⟨rfl, rfl⟩ ⟨Nat.le_of_ble_eq_true rfl, Nat.le_of_ble_eq_true rfl⟩ (EvP.mono (by decide) (c_M_crimped hT )) (fun r6 P7 g8 => mpp 63 rfl ?_)
    obtain ⟨⟨x9, rfl, g10⟩, e11⟩ := g8
    have e11 := e11.symm
    subst e11
    have wx9 := ti_full x9
    have g10 : x9.toInt = -1 ∨ ((fv Po 301 14).toInt = 1 ∧ 3 ≤ (fv Po 301 13).toInt ∧ 0 ≤ x9.toInt ∧ x9.toInt + 1 ≤ (fv Po 301 13).toInt) ∨ ((fv Po 301 14).toInt = 0 ∧ 1 ≤ x9.toInt ∧ x9.toInt + 2 ≤ (fv Po 301 13).toInt) := g10
    show MEvP _ none q_167 63 [(0, .ref 301)] [.int x9] _ _ _ _
    refine mp_a (a_istore_n (L' := [(1, .int x9), (0, .ref 301)]) dX7_stepNow_63 (by decide) rfl) (mpp 64 rfl ?_)
    refine mp_a (a_iload_n dX7_stepNow_64 rfl) (mpp 65 rfl ?_)
    refine mp_Tb (t := 72) (j_if_ge dX7_stepNow_65) (by decide) (fun c12 => ?_) (fun c12 => mpp 68 rfl ?_)
    · have c12 : x9.toInt ≥ 0 := ti_ge c12
      refine mp_a (a_bipush (v := 10) dX7_stepNow_72 rfl) (mpp 74 rfl ?_)
      refine mp_a (a_iload_n dX7_stepNow_74 rfl) (mpp 75 rfl ?_)
      obtain ⟨z13, h14⟩ := ti_ex (10 + x9 : Int32)
      have wz13 := ti_full z13
      refine mp_t (s_iadd (v := z13) dX7_stepNow_75 h14) (mpp 76 rfl ?_)
      try have e15 : z13.toInt = 10 + x9.toInt := ti_addz h14 rfl rfl (by omega) (by omega)
      have u16 : z13.toInt = 0 ∨ (z13.toInt = 1 ∧ (fv Po 301 14).toInt = 0 ∧ 2 ≤ (fv Po 301 13).toInt) ∨ (z13.toInt = 2 ∧ (fv Po 301 14).toInt = 0 ∧ 2 ≤ (fv Po 301 13).toInt) ∨ ((fv Po 301 14).toInt = 1 ∧ 3 ≤ (fv Po 301 13).toInt ∧ 10 ≤ z13.toInt ∧ z13.toInt + 1 ≤ (fv Po 301 13).toInt + 10) ∨ ((fv Po 301 14).toInt = 0 ∧ 11 ≤ z13.toInt ∧ z13.toInt + 2 ≤ (fv Po 301 13).toInt + 10) := by omega
      exact mp_iret ⟨⟨_, rfl, u16⟩, rfl⟩ dX7_stepNow_76 (Or.inl rfl)
    · have c12 : x9.toInt < 0 := ti_ge_n c12
      refine mp_a (a_iconst (v := 0) dX7_stepNow_68 rfl) (mpp 69 rfl ?_)
      refine mp_a (a_goto (t := 76) dX7_stepNow_69 (by decide)) ?_
      have u17 : (0 : Int) = 0 ∨ ((0 : Int) = 1 ∧ (fv Po 301 14).toInt = 0 ∧ 2 ≤ (fv Po 301 13).toInt) ∨ ((0 : Int) = 2 ∧ (fv Po 301 14).toInt = 0 ∧ 2 ≤ (fv Po 301 13).toInt) ∨ ((fv Po 301 14).toInt = 1 ∧ 3 ≤ (fv Po 301 13).toInt ∧ 10 ≤ (0 : Int) ∧ (0 : Int) + 1 ≤ (fv Po 301 13).toInt + 10) ∨ ((fv Po 301 14).toInt = 0 ∧ 11 ≤ (0 : Int) ∧ (0 : Int) + 2 ≤ (fv Po 301 13).toInt + 10) := by omega
      exact mp_iret ⟨⟨_, rfl, u17⟩, rfl⟩ dX7_stepNow_76 (Or.inl rfl)
  · have c5 : (fv Po 301 14).toInt = 0 := ti_ne_n c5
    refine mp_a (a_aload_n dX7_stepNow_7 rfl) (mpp 8 rfl ?_)
    refine mt_getI (i := 165) (k := 13) hT dX7_stepNow_8 rfl rl_301 (by decide) rfl (by decide) rfl (fun g18 g19 => mpp 11 rfl ?_)
    refine mp_a (a_iconst (v := 1) dX7_stepNow_11 rfl) (mpp 12 rfl ?_)
    refine mp_Tb (t := 59) (j_icmp_le dX7_stepNow_12) (by decide) (fun c20 => ?_) (fun c20 => mpp 15 rfl ?_)
    · have c20 : (fv Po 301 13).toInt ≤ 1 := ti_le c20
      refine mp_a (a_aload_n dX7_stepNow_59 rfl) (mpp 60 rfl ?_)
      refine mt_callv (i := 168) (q' := q_168) (As := []) (rest := []) hT dX7_stepNow_60 rfl qm_168 (by decide) rfl rl_301 (by decide) rfl (Nat.le_of_ble_eq_true rfl) rfl ⟨rfl, rfl⟩ ⟨Nat.le_of_ble_eq_true rfl, Nat.le_of_ble_eq_true rfl⟩ (EvP.mono (by decide) (c_M_crimped hT )) (fun r21 P22 g23 => mpp 63 rfl ?_)
      obtain ⟨⟨x24, rfl, g25⟩, e26⟩ := g23
      have e26 := e26.symm
      subst e26
      have wx24 := ti_full x24
      have g25 : x24.toInt = -1 ∨ ((fv Po 301 14).toInt = 1 ∧ 3 ≤ (fv Po 301 13).toInt ∧ 0 ≤ x24.toInt ∧ x24.toInt + 1 ≤ (fv Po 301 13).toInt) ∨ ((fv Po 301 14).toInt = 0 ∧ 1 ≤ x24.toInt ∧ x24.toInt + 2 ≤ (fv Po 301 13).toInt) := g25
      show MEvP _ none q_167 63 [(0, .ref 301)] [.int x24] _ _ _ _
      refine mp_a (a_istore_n (L' := [(1, .int x24), (0, .ref 301)]) dX7_stepNow_63 (by decide) rfl) (mpp 64 rfl ?_)
      refine mp_a (a_iload_n dX7_stepNow_64 rfl) (mpp 65 rfl ?_)
      refine mp_Tb (t := 72) (j_if_ge dX7_stepNow_65) (by decide) (fun c27 => ?_) (fun c27 => mpp 68 rfl ?_)
      · have c27 : x24.toInt ≥ 0 := ti_ge c27
        refine mp_a (a_bipush (v := 10) dX7_stepNow_72 rfl) (mpp 74 rfl ?_)
        refine mp_a (a_iload_n dX7_stepNow_74 rfl) (mpp 75 rfl ?_)
        obtain ⟨z28, h29⟩ := ti_ex (10 + x24 : Int32)
        have wz28 := ti_full z28
        refine mp_t (s_iadd (v := z28) dX7_stepNow_75 h29) (mpp 76 rfl ?_)
        try have e30 : z28.toInt = 10 + x24.toInt := ti_addz h29 rfl rfl (by omega) (by omega)
        have u31 : z28.toInt = 0 ∨ (z28.toInt = 1 ∧ (fv Po 301 14).toInt = 0 ∧ 2 ≤ (fv Po 301 13).toInt) ∨ (z28.toInt = 2 ∧ (fv Po 301 14).toInt = 0 ∧ 2 ≤ (fv Po 301 13).toInt) ∨ ((fv Po 301 14).toInt = 1 ∧ 3 ≤ (fv Po 301 13).toInt ∧ 10 ≤ z28.toInt ∧ z28.toInt + 1 ≤ (fv Po 301 13).toInt + 10) ∨ ((fv Po 301 14).toInt = 0 ∧ 11 ≤ z28.toInt ∧ z28.toInt + 2 ≤ (fv Po 301 13).toInt + 10) := by omega
        exact mp_iret ⟨⟨_, rfl, u31⟩, rfl⟩ dX7_stepNow_76 (Or.inl rfl)
      · have c27 : x24.toInt < 0 := ti_ge_n c27
        refine mp_a (a_iconst (v := 0) dX7_stepNow_68 rfl) (mpp 69 rfl ?_)
        refine mp_a (a_goto (t := 76) dX7_stepNow_69 (by decide)) ?_
        have u32 : (0 : Int) = 0 ∨ ((0 : Int) = 1 ∧ (fv Po 301 14).toInt = 0 ∧ 2 ≤ (fv Po 301 13).toInt) ∨ ((0 : Int) = 2 ∧ (fv Po 301 14).toInt = 0 ∧ 2 ≤ (fv Po 301 13).toInt) ∨ ((fv Po 301 14).toInt = 1 ∧ 3 ≤ (fv Po 301 13).toInt ∧ 10 ≤ (0 : Int) ∧ (0 : Int) + 1 ≤ (fv Po 301 13).toInt + 10) ∨ ((fv Po 301 14).toInt = 0 ∧ 11 ≤ (0 : Int) ∧ (0 : Int) + 2 ≤ (fv Po 301 13).toInt + 10) := by omega
        exact mp_iret ⟨⟨_, rfl, u32⟩, rfl⟩ dX7_stepNow_76 (Or.inl rfl)
    · have c20 : (fv Po 301 13).toInt > 1 := ti_le_n c20
      refine mp_a (a_aload_n dX7_stepNow_15 rfl) (mpp 16 rfl ?_)
      refine mt_getU (i := 28) (k := 11) (A := 308) hT dX7_stepNow_16 rfl rl_301 (by decide) rfl (by decide) rfl un_24 (mpp 19 rfl ?_)
      refine mp_a (a_iconst (v := 0) dX7_stepNow_19 rfl) (mpp 20 rfl ?_)
      refine mt_ial (n := 8) hT dX7_stepNow_20 rl_308 (by decide) rfl rfl (by decide) (by decide) rfl (fun g33 g34 => mpp 21 rfl ?_)
      refine mp_a (a_aload_n dX7_stepNow_21 rfl) (mpp 22 rfl ?_)
      refine mt_getU (i := 28) (k := 11) (A := 308) hT dX7_stepNow_22 rfl rl_301 (by decide) rfl (by decide) rfl un_24 (mpp 25 rfl ?_)
      refine mp_a (a_iconst (v := 1) dX7_stepNow_25 rfl) (mpp 26 rfl ?_)
      refine mt_ial (n := 8) hT dX7_stepNow_26 rl_308 (by decide) rfl rfl (by decide) (by decide) rfl (fun g35 g36 => mpp 27 rfl ?_)
      refine mp_Tb (t := 32) (j_icmp_gt dX7_stepNow_27) (by decide) (fun c37 => ?_) (fun c37 => mpp 30 rfl ?_)
      · have c37 : (fv Po 308 0).toInt > (fv Po 308 1).toInt := ti_gt c37
        refine mp_a (a_aload_n dX7_stepNow_32 rfl) (mpp 33 rfl ?_)
        refine mt_getU (i := 28) (k := 11) (A := 308) hT dX7_stepNow_33 rfl rl_301 (by decide) rfl (by decide) rfl un_24 (mpp 36 rfl ?_)
        refine mp_a (a_aload_n dX7_stepNow_36 rfl) (mpp 37 rfl ?_)
        refine mt_getI (i := 165) (k := 13) hT dX7_stepNow_37 rfl rl_301 (by decide) rfl (by decide) rfl (fun g38 g39 => mpp 40 rfl ?_)
        refine mp_a (a_iconst (v := 1) dX7_stepNow_40 rfl) (mpp 41 rfl ?_)
        obtain ⟨z40, h41⟩ := ti_ex ((fv Po 301 13) - 1 : Int32)
        have wz40 := ti_full z40
        refine mp_t (s_isub (v := z40) dX7_stepNow_41 h41) (mpp 42 rfl ?_)
        try have e42 : z40.toInt = (fv Po 301 13).toInt - 1 := ti_subz h41 rfl rfl (by omega) (by omega)
        refine mt_ial (n := 8) hT dX7_stepNow_42 rl_308 (by decide) rfl rfl (by omega) (by omega) rfl (fun g43 g44 => mpp 43 rfl ?_)
        refine mp_a (a_aload_n dX7_stepNow_43 rfl) (mpp 44 rfl ?_)
        refine mt_getU (i := 28) (k := 11) (A := 308) hT dX7_stepNow_44 rfl rl_301 (by decide) rfl (by decide) rfl un_24 (mpp 47 rfl ?_)
        refine mp_a (a_aload_n dX7_stepNow_47 rfl) (mpp 48 rfl ?_)
        refine mt_getI (i := 165) (k := 13) hT dX7_stepNow_48 rfl rl_301 (by decide) rfl (by decide) rfl (fun g45 g46 => mpp 51 rfl ?_)
        refine mp_a (a_iconst (v := 2) dX7_stepNow_51 rfl) (mpp 52 rfl ?_)
        obtain ⟨z47, h48⟩ := ti_ex ((fv Po 301 13) - 2 : Int32)
        have wz47 := ti_full z47
        refine mp_t (s_isub (v := z47) dX7_stepNow_52 h48) (mpp 53 rfl ?_)
        try have e49 : z47.toInt = (fv Po 301 13).toInt - 2 := ti_subz h48 rfl rfl (by omega) (by omega)
        refine mt_ial (n := 8) hT dX7_stepNow_53 rl_308 (by decide) rfl rfl (by omega) (by omega) rfl (fun g50 g51 => mpp 54 rfl ?_)
        refine mp_Tb (t := 59) (j_icmp_gt dX7_stepNow_54) (by decide) (fun c52 => ?_) (fun c52 => mpp 57 rfl ?_)
        · have c52 : (fv Po 308 z40.toInt.toNat).toInt > (fv Po 308 z47.toInt.toNat).toInt := ti_gt c52
          refine mp_a (a_aload_n dX7_stepNow_59 rfl) (mpp 60 rfl ?_)
          refine mt_callv (i := 168) (q' := q_168) (As := []) (rest := []) hT dX7_stepNow_60 rfl qm_168 (by decide) rfl rl_301 (by decide) rfl (Nat.le_of_ble_eq_true rfl) rfl ⟨rfl, rfl⟩ ⟨Nat.le_of_ble_eq_true rfl, Nat.le_of_ble_eq_true rfl⟩ (EvP.mono (by decide) (c_M_crimped hT )) (fun r53 P54 g55 => mpp 63 rfl ?_)
          obtain ⟨⟨x56, rfl, g57⟩, e58⟩ := g55
          have e58 := e58.symm
          subst e58
          have wx56 := ti_full x56
          have g57 : x56.toInt = -1 ∨ ((fv Po 301 14).toInt = 1 ∧ 3 ≤ (fv Po 301 13).toInt ∧ 0 ≤ x56.toInt ∧ x56.toInt + 1 ≤ (fv Po 301 13).toInt) ∨ ((fv Po 301 14).toInt = 0 ∧ 1 ≤ x56.toInt ∧ x56.toInt + 2 ≤ (fv Po 301 13).toInt) := g57
          show MEvP _ none q_167 63 [(0, .ref 301)] [.int x56] _ _ _ _
          refine mp_a (a_istore_n (L' := [(1, .int x56), (0, .ref 301)]) dX7_stepNow_63 (by decide) rfl) (mpp 64 rfl ?_)
          refine mp_a (a_iload_n dX7_stepNow_64 rfl) (mpp 65 rfl ?_)
          refine mp_Tb (t := 72) (j_if_ge dX7_stepNow_65) (by decide) (fun c59 => ?_) (fun c59 => mpp 68 rfl ?_)
          · have c59 : x56.toInt ≥ 0 := ti_ge c59
            refine mp_a (a_bipush (v := 10) dX7_stepNow_72 rfl) (mpp 74 rfl ?_)
            refine mp_a (a_iload_n dX7_stepNow_74 rfl) (mpp 75 rfl ?_)
            obtain ⟨z60, h61⟩ := ti_ex (10 + x56 : Int32)
            have wz60 := ti_full z60
            refine mp_t (s_iadd (v := z60) dX7_stepNow_75 h61) (mpp 76 rfl ?_)
            try have e62 : z60.toInt = 10 + x56.toInt := ti_addz h61 rfl rfl (by omega) (by omega)
            have u63 : z60.toInt = 0 ∨ (z60.toInt = 1 ∧ (fv Po 301 14).toInt = 0 ∧ 2 ≤ (fv Po 301 13).toInt) ∨ (z60.toInt = 2 ∧ (fv Po 301 14).toInt = 0 ∧ 2 ≤ (fv Po 301 13).toInt) ∨ ((fv Po 301 14).toInt = 1 ∧ 3 ≤ (fv Po 301 13).toInt ∧ 10 ≤ z60.toInt ∧ z60.toInt + 1 ≤ (fv Po 301 13).toInt + 10) ∨ ((fv Po 301 14).toInt = 0 ∧ 11 ≤ z60.toInt ∧ z60.toInt + 2 ≤ (fv Po 301 13).toInt + 10) := by omega
            exact mp_iret ⟨⟨_, rfl, u63⟩, rfl⟩ dX7_stepNow_76 (Or.inl rfl)
          · have c59 : x56.toInt < 0 := ti_ge_n c59
            refine mp_a (a_iconst (v := 0) dX7_stepNow_68 rfl) (mpp 69 rfl ?_)
            refine mp_a (a_goto (t := 76) dX7_stepNow_69 (by decide)) ?_
            have u64 : (0 : Int) = 0 ∨ ((0 : Int) = 1 ∧ (fv Po 301 14).toInt = 0 ∧ 2 ≤ (fv Po 301 13).toInt) ∨ ((0 : Int) = 2 ∧ (fv Po 301 14).toInt = 0 ∧ 2 ≤ (fv Po 301 13).toInt) ∨ ((fv Po 301 14).toInt = 1 ∧ 3 ≤ (fv Po 301 13).toInt ∧ 10 ≤ (0 : Int) ∧ (0 : Int) + 1 ≤ (fv Po 301 13).toInt + 10) ∨ ((fv Po 301 14).toInt = 0 ∧ 11 ≤ (0 : Int) ∧ (0 : Int) + 2 ≤ (fv Po 301 13).toInt + 10) := by omega
            exact mp_iret ⟨⟨_, rfl, u64⟩, rfl⟩ dX7_stepNow_76 (Or.inl rfl)
        · have c52 : (fv Po 308 z40.toInt.toNat).toInt ≤ (fv Po 308 z47.toInt.toNat).toInt := ti_gt_n c52
          refine mp_a (a_iconst (v := 2) dX7_stepNow_57 rfl) (mpp 58 rfl ?_)
          have u65 : (2 : Int) = 0 ∨ ((2 : Int) = 1 ∧ (fv Po 301 14).toInt = 0 ∧ 2 ≤ (fv Po 301 13).toInt) ∨ ((2 : Int) = 2 ∧ (fv Po 301 14).toInt = 0 ∧ 2 ≤ (fv Po 301 13).toInt) ∨ ((fv Po 301 14).toInt = 1 ∧ 3 ≤ (fv Po 301 13).toInt ∧ 10 ≤ (2 : Int) ∧ (2 : Int) + 1 ≤ (fv Po 301 13).toInt + 10) ∨ ((fv Po 301 14).toInt = 0 ∧ 11 ≤ (2 : Int) ∧ (2 : Int) + 2 ≤ (fv Po 301 13).toInt + 10) := by omega
          exact mp_iret ⟨⟨_, rfl, u65⟩, rfl⟩ dX7_stepNow_58 (Or.inl rfl)
      · have c37 : (fv Po 308 0).toInt ≤ (fv Po 308 1).toInt := ti_gt_n c37
        refine mp_a (a_iconst (v := 1) dX7_stepNow_30 rfl) (mpp 31 rfl ?_)
        have u66 : (1 : Int) = 0 ∨ ((1 : Int) = 1 ∧ (fv Po 301 14).toInt = 0 ∧ 2 ≤ (fv Po 301 13).toInt) ∨ ((1 : Int) = 2 ∧ (fv Po 301 14).toInt = 0 ∧ 2 ≤ (fv Po 301 13).toInt) ∨ ((fv Po 301 14).toInt = 1 ∧ 3 ≤ (fv Po 301 13).toInt ∧ 10 ≤ (1 : Int) ∧ (1 : Int) + 1 ≤ (fv Po 301 13).toInt + 10) ∨ ((fv Po 301 14).toInt = 0 ∧ 11 ≤ (1 : Int) ∧ (1 : Int) + 2 ≤ (fv Po 301 13).toInt + 10) := by omega
        exact mp_iret ⟨⟨_, rfl, u66⟩, rfl⟩ dX7_stepNow_31 (Or.inl rfl)

set_option maxHeartbeats 4000000 in
theorem c_M_dropsSize_l2 {Po : mP} {t1 : Int32} (hp0 : 0 ≤ t1.toInt) (hp1 : t1.toInt ≤ 8)  : ∀ (n : Nat) (v2 : Int32), ∀ (P : mP), Typ P → KW [1536] Po P → (0 ≤ v2.toInt) → (v2.toInt ≤ 8) → (2147483647 - v2.toInt).toNat = n → MEvP 0 none q_170 2 [(0, .ref 301), (1, .int t1), (2, .int v2)] [] P 0 0 (fun r P' => (r = none ∧ (True)) ∧ Typ P' ∧ KW [1536] Po P' ∧ True) := by
  intro n
  induction n using Nat.strongRecOn with | _ n ih => ?_
  intro v2 P hT hK i_0 i_1 hm
  have w_t1 := ti_full t1
  have w_v2 := ti_full v2
  refine mp_a (a_iload_n dX7_dropsSize_2 rfl) (mpp 3 rfl ?_)
  refine mp_a (a_iconst (v := 1) dX7_dropsSize_3 rfl) (mpp 4 rfl ?_)
  obtain ⟨z1, h2⟩ := ti_ex (v2 + 1 : Int32)
  have wz1 := ti_full z1
  refine mp_t (s_iadd (v := z1) dX7_dropsSize_4 h2) (mpp 5 rfl ?_)
  try have e3 : z1.toInt = v2.toInt + 1 := ti_addz h2 rfl rfl (by omega) (by omega)
  refine mp_a (a_aload_n dX7_dropsSize_5 rfl) (mpp 6 rfl ?_)
  have g4 : (0 : Int) ≤ (fv P 301 13).toInt ∧ (fv P 301 13).toInt ≤ 8 := Typ.rng hT rl_301 (by decide) (by decide) rfl
  refine mt_getI (i := 165) (k := 13) hT dX7_dropsSize_6 rfl rl_301 (by decide) rfl (by decide) rfl (fun g5 g6 => mpp 9 rfl ?_)
  refine mp_Tb (t := 32) (j_icmp_ge dX7_dropsSize_9) (by decide) (fun c7 => ?_) (fun c7 => mpp 12 rfl ?_)
  · have c7 : z1.toInt ≥ (fv P 301 13).toInt := ti_ge c7
    exact mp_ret ⟨⟨rfl, trivial⟩, hT, hK, trivial⟩ dX7_dropsSize_32 rfl
  · have c7 : z1.toInt < (fv P 301 13).toInt := ti_ge_n c7
    refine mp_a (a_aload_n dX7_dropsSize_12 rfl) (mpp 13 rfl ?_)
    refine mt_getU (i := 28) (k := 11) (A := 308) hT dX7_dropsSize_13 rfl rl_301 (by decide) rfl (by decide) rfl un_24 (mpp 16 rfl ?_)
    refine mp_a (a_iload_n dX7_dropsSize_16 rfl) (mpp 17 rfl ?_)
    refine mp_a (a_aload_n dX7_dropsSize_17 rfl) (mpp 18 rfl ?_)
    refine mt_getU (i := 28) (k := 11) (A := 308) hT dX7_dropsSize_18 rfl rl_301 (by decide) rfl (by decide) rfl un_24 (mpp 21 rfl ?_)
    refine mp_a (a_iload_n dX7_dropsSize_21 rfl) (mpp 22 rfl ?_)
    refine mp_a (a_iconst (v := 1) dX7_dropsSize_22 rfl) (mpp 23 rfl ?_)
    obtain ⟨z8, h9⟩ := ti_ex (v2 + 1 : Int32)
    have wz8 := ti_full z8
    refine mp_t (s_iadd (v := z8) dX7_dropsSize_23 h9) (mpp 24 rfl ?_)
    try have e10 : z8.toInt = v2.toInt + 1 := ti_addz h9 rfl rfl (by omega) (by omega)
    refine mt_ial (n := 8) hT dX7_dropsSize_24 rl_308 (by decide) rfl rfl (by omega) (by omega) rfl (fun g11 g12 => mpp 25 rfl ?_)
    refine mt_ias (n := 8) hT dX7_dropsSize_25 rl_308 (by decide) rfl rfl (by omega) (by omega) rfl (ti_full (fv P 308 z8.toInt.toNat)) (fun P13 hT14 f15 f16 f17 => mpp 26 rfl ?_)
    have k18 : KW [1536] Po P13 := KW.step hK rl_308 rfl f16 f17
    obtain ⟨z19, h20⟩ := ti_ex (v2 + 1 : Int32)
    have wz19 := ti_full z19
    refine mp_a (a_iinc (v := z19) (L' := [(2, .int z19), (0, .ref 301), (1, .int t1)]) dX7_dropsSize_26 (by decide) rfl h20 rfl) (mpp 29 rfl ?_)
    try have e21 : z19.toInt = v2.toInt + 1 := ti_addz h20 rfl rfl (by omega) (by omega)
    refine mp_a (a_goto (t := 2) dX7_dropsSize_29 (by decide)) ?_
    refine MEvP.less (L := [(0, .ref 301), (1, .int t1), (2, .int z19)]) rfl rfl ⟨rfl, rfl, rfl, trivial⟩ ?_
    have i22 : 0 ≤ z19.toInt := by omega
    have i23 : z19.toInt ≤ 8 := by omega
    exact ih _ (by omega) _ P13 hT14 k18 i22 i23 rfl

set_option maxHeartbeats 4000000 in
theorem c_M_dropsSize {Po : mP} {t1 : Int32} (hT : Typ Po)  (hp0 : 0 ≤ t1.toInt) (hp1 : t1.toInt ≤ 8)  : EvP 1 170 [.ref 301, .int t1] Po (fun r P' => (r = none ∧ (True)) ∧ Typ P' ∧ KW [1536] Po P' ∧ True) := by
  refine EvP.of qm_170 (Nat.le_of_ble_eq_true rfl) rfl ?_
  show MEvP _ none q_170 0 [(0, .ref 301), (1, .int t1)] [] _ 0 0 _
  refine mp_a (a_iload_n dX7_dropsSize_0 rfl) (mpp 1 rfl ?_)
  refine mp_a (a_istore_n (L' := [(2, .int t1), (0, .ref 301), (1, .int t1)]) dX7_dropsSize_1 (by decide) rfl) (mpp 2 rfl ?_)
  refine MEvP.less (L := [(0, .ref 301), (1, .int t1), (2, .int t1)]) rfl rfl ⟨rfl, rfl, rfl, trivial⟩ ?_
  have i1 : 0 ≤ t1.toInt := by omega
  have i2 : t1.toInt ≤ 8 := by omega
  exact c_M_dropsSize_l2   hp0 hp1 _ _ Po hT KW.refl i1 i2 rfl

set_option maxHeartbeats 4000000 in
theorem c_M_dropsCrease_l2 {Po : mP} {t1 : Int32} (hp0 : 0 ≤ t1.toInt) (hp1 : t1.toInt ≤ 8)  : ∀ (n : Nat) (v2 : Int32), ∀ (P : mP), Typ P → KW [1600] Po P → (0 ≤ v2.toInt) → (v2.toInt ≤ 8) → (2147483647 - v2.toInt).toNat = n → MEvP 0 none q_171 2 [(0, .ref 301), (1, .int t1), (2, .int v2)] [] P 0 0 (fun r P' => (r = none ∧ (True)) ∧ Typ P' ∧ KW [1600] Po P' ∧ True) := by
  intro n
  induction n using Nat.strongRecOn with | _ n ih => ?_
  intro v2 P hT hK i_0 i_1 hm
  have w_t1 := ti_full t1
  have w_v2 := ti_full v2
  refine mp_a (a_iload_n dX7_dropsCrease_2 rfl) (mpp 3 rfl ?_)
  refine mp_a (a_iconst (v := 1) dX7_dropsCrease_3 rfl) (mpp 4 rfl ?_)
  obtain ⟨z1, h2⟩ := ti_ex (v2 + 1 : Int32)
  have wz1 := ti_full z1
  refine mp_t (s_iadd (v := z1) dX7_dropsCrease_4 h2) (mpp 5 rfl ?_)
  try have e3 : z1.toInt = v2.toInt + 1 := ti_addz h2 rfl rfl (by omega) (by omega)
  refine mp_a (a_bipush (v := 8) dX7_dropsCrease_5 rfl) (mpp 7 rfl ?_)
  refine mp_Tb (t := 30) (j_icmp_ge dX7_dropsCrease_7) (by decide) (fun c4 => ?_) (fun c4 => mpp 10 rfl ?_)
  · have c4 : z1.toInt ≥ 8 := ti_ge c4
    exact mp_ret ⟨⟨rfl, trivial⟩, hT, hK, trivial⟩ dX7_dropsCrease_30 rfl
  · have c4 : z1.toInt < 8 := ti_ge_n c4
    refine mp_a (a_aload_n dX7_dropsCrease_10 rfl) (mpp 11 rfl ?_)
    refine mt_getU (i := 31) (k := 12) (A := 309) hT dX7_dropsCrease_11 rfl rl_301 (by decide) rfl (by decide) rfl un_25 (mpp 14 rfl ?_)
    refine mp_a (a_iload_n dX7_dropsCrease_14 rfl) (mpp 15 rfl ?_)
    refine mp_a (a_aload_n dX7_dropsCrease_15 rfl) (mpp 16 rfl ?_)
    refine mt_getU (i := 31) (k := 12) (A := 309) hT dX7_dropsCrease_16 rfl rl_301 (by decide) rfl (by decide) rfl un_25 (mpp 19 rfl ?_)
    refine mp_a (a_iload_n dX7_dropsCrease_19 rfl) (mpp 20 rfl ?_)
    refine mp_a (a_iconst (v := 1) dX7_dropsCrease_20 rfl) (mpp 21 rfl ?_)
    obtain ⟨z5, h6⟩ := ti_ex (v2 + 1 : Int32)
    have wz5 := ti_full z5
    refine mp_t (s_iadd (v := z5) dX7_dropsCrease_21 h6) (mpp 22 rfl ?_)
    try have e7 : z5.toInt = v2.toInt + 1 := ti_addz h6 rfl rfl (by omega) (by omega)
    refine mt_ial (n := 8) hT dX7_dropsCrease_22 rl_309 (by decide) rfl rfl (by omega) (by omega) rfl (fun g8 g9 => mpp 23 rfl ?_)
    refine mt_ias (n := 8) hT dX7_dropsCrease_23 rl_309 (by decide) rfl rfl (by omega) (by omega) rfl (ti_full (fv P 309 z5.toInt.toNat)) (fun P10 hT11 f12 f13 f14 => mpp 24 rfl ?_)
    have k15 : KW [1600] Po P10 := KW.step hK rl_309 rfl f13 f14
    obtain ⟨z16, h17⟩ := ti_ex (v2 + 1 : Int32)
    have wz16 := ti_full z16
    refine mp_a (a_iinc (v := z16) (L' := [(2, .int z16), (0, .ref 301), (1, .int t1)]) dX7_dropsCrease_24 (by decide) rfl h17 rfl) (mpp 27 rfl ?_)
    try have e18 : z16.toInt = v2.toInt + 1 := ti_addz h17 rfl rfl (by omega) (by omega)
    refine mp_a (a_goto (t := 2) dX7_dropsCrease_27 (by decide)) ?_
    refine MEvP.less (L := [(0, .ref 301), (1, .int t1), (2, .int z16)]) rfl rfl ⟨rfl, rfl, rfl, trivial⟩ ?_
    have i19 : 0 ≤ z16.toInt := by omega
    have i20 : z16.toInt ≤ 8 := by omega
    exact ih _ (by omega) _ P10 hT11 k15 i19 i20 rfl

set_option maxHeartbeats 4000000 in
theorem c_M_dropsCrease {Po : mP} {t1 : Int32} (hT : Typ Po)  (hp0 : 0 ≤ t1.toInt) (hp1 : t1.toInt ≤ 8)  : EvP 1 171 [.ref 301, .int t1] Po (fun r P' => (r = none ∧ (True)) ∧ Typ P' ∧ KW [1600] Po P' ∧ True) := by
  refine EvP.of qm_171 (Nat.le_of_ble_eq_true rfl) rfl ?_
  show MEvP _ none q_171 0 [(0, .ref 301), (1, .int t1)] [] _ 0 0 _
  refine mp_a (a_iload_n dX7_dropsCrease_0 rfl) (mpp 1 rfl ?_)
  refine mp_a (a_istore_n (L' := [(2, .int t1), (0, .ref 301), (1, .int t1)]) dX7_dropsCrease_1 (by decide) rfl) (mpp 2 rfl ?_)
  refine MEvP.less (L := [(0, .ref 301), (1, .int t1), (2, .int t1)]) rfl rfl ⟨rfl, rfl, rfl, trivial⟩ ?_
  have i1 : 0 ≤ t1.toInt := by omega
  have i2 : t1.toInt ≤ 8 := by omega
  exact c_M_dropsCrease_l2   hp0 hp1 _ _ Po hT KW.refl i1 i2 rfl

set_option maxHeartbeats 4000000 in
theorem c_M_crimpsStrip {Po : mP} {t1 : Int32} (hT : Typ Po)  (hp0 : 1 ≤ t1.toInt) (hp1 : t1.toInt + 2 ≤ (fv Po 301 13).toInt)  : EvP 2 174 [.ref 301, .int t1] Po (fun r P' => (r = none ∧ ((fv P' 301 13).toInt = (fv Po 301 13).toInt - 2)) ∧ Typ P' ∧ KW [1101, 1536, 1600] Po P' ∧ True) := by
  refine EvP.of qm_174 (Nat.le_of_ble_eq_true rfl) rfl ?_
  show MEvP _ none q_174 0 [(0, .ref 301), (1, .int t1)] [] _ 0 0 _
  have g1 : (0 : Int) ≤ (fv Po 301 13).toInt ∧ (fv Po 301 13).toInt ≤ 8 := Typ.rng hT rl_301 (by decide) (by decide) rfl
  refine mp_a (a_aload_n dX7_crimpsStrip_0 rfl) (mpp 1 rfl ?_)
  refine mt_getU (i := 28) (k := 11) (A := 308) hT dX7_crimpsStrip_1 rfl rl_301 (by decide) rfl (by decide) rfl un_24 (mpp 4 rfl ?_)
  refine mp_a (a_iload_n dX7_crimpsStrip_4 rfl) (mpp 5 rfl ?_)
  refine mp_a (a_iconst (v := 1) dX7_crimpsStrip_5 rfl) (mpp 6 rfl ?_)
  obtain ⟨z2, h3⟩ := ti_ex (t1 - 1 : Int32)
  have wz2 := ti_full z2
  refine mp_t (s_isub (v := z2) dX7_crimpsStrip_6 h3) (mpp 7 rfl ?_)
  try have e4 : z2.toInt = t1.toInt - 1 := ti_subz h3 rfl rfl (by omega) (by omega)
  refine mp_a (a_aload_n dX7_crimpsStrip_7 rfl) (mpp 8 rfl ?_)
  refine mt_getU (i := 28) (k := 11) (A := 308) hT dX7_crimpsStrip_8 rfl rl_301 (by decide) rfl (by decide) rfl un_24 (mpp 11 rfl ?_)
  refine mp_a (a_iload_n dX7_crimpsStrip_11 rfl) (mpp 12 rfl ?_)
  refine mp_a (a_iconst (v := 1) dX7_crimpsStrip_12 rfl) (mpp 13 rfl ?_)
  obtain ⟨z5, h6⟩ := ti_ex (t1 - 1 : Int32)
  have wz5 := ti_full z5
  refine mp_t (s_isub (v := z5) dX7_crimpsStrip_13 h6) (mpp 14 rfl ?_)
  try have e7 : z5.toInt = t1.toInt - 1 := ti_subz h6 rfl rfl (by omega) (by omega)
  refine mt_ial (n := 8) hT dX7_crimpsStrip_14 rl_308 (by decide) rfl rfl (by omega) (by omega) rfl (fun g8 g9 => mpp 15 rfl ?_)
  refine mp_a (a_aload_n dX7_crimpsStrip_15 rfl) (mpp 16 rfl ?_)
  refine mt_getU (i := 28) (k := 11) (A := 308) hT dX7_crimpsStrip_16 rfl rl_301 (by decide) rfl (by decide) rfl un_24 (mpp 19 rfl ?_)
  refine mp_a (a_iload_n dX7_crimpsStrip_19 rfl) (mpp 20 rfl ?_)
  refine mp_a (a_iconst (v := 1) dX7_crimpsStrip_20 rfl) (mpp 21 rfl ?_)
  obtain ⟨z10, h11⟩ := ti_ex (t1 + 1 : Int32)
  have wz10 := ti_full z10
  refine mp_t (s_iadd (v := z10) dX7_crimpsStrip_21 h11) (mpp 22 rfl ?_)
  try have e12 : z10.toInt = t1.toInt + 1 := ti_addz h11 rfl rfl (by omega) (by omega)
  refine mt_ial (n := 8) hT dX7_crimpsStrip_22 rl_308 (by decide) rfl rfl (by omega) (by omega) rfl (fun g13 g14 => mpp 23 rfl ?_)
  obtain ⟨z15, h16⟩ := ti_ex ((fv Po 308 z5.toInt.toNat) + (fv Po 308 z10.toInt.toNat) : Int32)
  have wz15 := ti_full z15
  refine mp_t (s_iadd (v := z15) dX7_crimpsStrip_23 h16) (mpp 24 rfl ?_)
  try have e17 : z15.toInt = (fv Po 308 z5.toInt.toNat).toInt + (fv Po 308 z10.toInt.toNat).toInt := ti_addz h16 rfl rfl (by omega) (by omega)
  refine mp_a (a_aload_n dX7_crimpsStrip_24 rfl) (mpp 25 rfl ?_)
  refine mt_getU (i := 28) (k := 11) (A := 308) hT dX7_crimpsStrip_25 rfl rl_301 (by decide) rfl (by decide) rfl un_24 (mpp 28 rfl ?_)
  refine mp_a (a_iload_n dX7_crimpsStrip_28 rfl) (mpp 29 rfl ?_)
  refine mt_ial (n := 8) hT dX7_crimpsStrip_29 rl_308 (by decide) rfl rfl (by omega) (by omega) rfl (fun g18 g19 => mpp 30 rfl ?_)
  obtain ⟨z20, h21⟩ := ti_ex (z15 - (fv Po 308 t1.toInt.toNat) : Int32)
  have wz20 := ti_full z20
  refine mp_t (s_isub (v := z20) dX7_crimpsStrip_30 h21) (mpp 31 rfl ?_)
  try have e22 : z20.toInt = z15.toInt - (fv Po 308 t1.toInt.toNat).toInt := ti_subz h21 rfl rfl (by omega) (by omega)
  refine mt_ias (n := 8) hT dX7_crimpsStrip_31 rl_308 (by decide) rfl rfl (by omega) (by omega) rfl (ti_full z20) (fun P23 hT24 f25 f26 f27 => mpp 32 rfl ?_)
  have k28 : KW [1101, 1536, 1600] Po P23 := KW.step KW.refl rl_308 rfl f26 f27
  refine mp_a (a_aload_n dX7_crimpsStrip_32 rfl) (mpp 33 rfl ?_)
  refine mp_a (a_iload_n dX7_crimpsStrip_33 rfl) (mpp 34 rfl ?_)
  have p29 : 0 ≤ t1.toInt := by omega
  have p30 : t1.toInt ≤ 8 := by omega
  refine mt_callv (i := 172) (q' := q_170) (As := [.int t1]) (rest := []) hT24 dX7_crimpsStrip_34 rfl qm_170 (by decide) rfl rl_301 (by decide) rfl (Nat.le_of_ble_eq_true rfl) rfl ⟨rfl, rfl⟩ ⟨Nat.le_of_ble_eq_true rfl, Nat.le_of_ble_eq_true rfl⟩ (EvP.mono (by decide) (c_M_dropsSize hT24 p29 p30 )) (fun r31 P32 g33 => mpp 37 rfl ?_)
  obtain ⟨⟨rfl, g35⟩, hT36, k37, R38⟩ := g33
  have k39 : KW [1101, 1536, 1600] Po P32 := KW.trans k28 k37 rfl
  show MEvP _ none q_174 37 [(0, .ref 301), (1, .int t1)] [] _ _ _ _
  refine mp_a (a_aload_n dX7_crimpsStrip_37 rfl) (mpp 38 rfl ?_)
  refine mp_t (s_dup dX7_crimpsStrip_38 rfl) (mpp 39 rfl ?_)
  have e41 : (fv P32 301 13).toInt = (fv Po 301 13).toInt := congrArg Int32.toInt ((KW.at k37 13 rl_301 rfl).trans (f26 301 13 (ne_r rl_301 rl_308 rfl)))
  refine mt_getI (i := 165) (k := 13) hT36 dX7_crimpsStrip_39 rfl rl_301 (by decide) rfl (by decide) rfl (fun g42 g43 => mpp 42 rfl ?_)
  refine mp_a (a_iconst (v := 1) dX7_crimpsStrip_42 rfl) (mpp 43 rfl ?_)
  obtain ⟨z44, h45⟩ := ti_ex ((fv P32 301 13) - 1 : Int32)
  have wz44 := ti_full z44
  refine mp_t (s_isub (v := z44) dX7_crimpsStrip_43 h45) (mpp 44 rfl ?_)
  try have e46 : z44.toInt = (fv P32 301 13).toInt - 1 := ti_subz h45 rfl rfl (by omega) (by omega)
  refine mt_putI (i := 165) (k := 13) (x := z44) hT36 dX7_crimpsStrip_44 rfl rl_301 (by decide) rfl (by decide) rfl ⟨by omega, by omega⟩ rfl rfl (fun P47 hT48 f49 f50 f51 => mpp 47 rfl ?_)
  have k52 : KW [1101, 1536, 1600] Po P47 := KW.step k39 rl_301 rfl f50 f51
  have e53 : (fv P47 301 13).toInt = z44.toInt := congrArg Int32.toInt f49
  refine mp_a (a_aload_n dX7_crimpsStrip_47 rfl) (mpp 48 rfl ?_)
  refine mp_a (a_iload_n dX7_crimpsStrip_48 rfl) (mpp 49 rfl ?_)
  have p54 : 0 ≤ t1.toInt := by omega
  have p55 : t1.toInt ≤ 8 := by omega
  refine mt_callv (i := 172) (q' := q_170) (As := [.int t1]) (rest := []) hT48 dX7_crimpsStrip_49 rfl qm_170 (by decide) rfl rl_301 (by decide) rfl (Nat.le_of_ble_eq_true rfl) rfl ⟨rfl, rfl⟩ ⟨Nat.le_of_ble_eq_true rfl, Nat.le_of_ble_eq_true rfl⟩ (EvP.mono (by decide) (c_M_dropsSize hT48 p54 p55 )) (fun r56 P57 g58 => mpp 52 rfl ?_)
  obtain ⟨⟨rfl, g60⟩, hT61, k62, R63⟩ := g58
  have k64 : KW [1101, 1536, 1600] Po P57 := KW.trans k52 k62 rfl
  show MEvP _ none q_174 52 [(0, .ref 301), (1, .int t1)] [] _ _ _ _
  refine mp_a (a_aload_n dX7_crimpsStrip_52 rfl) (mpp 53 rfl ?_)
  refine mp_t (s_dup dX7_crimpsStrip_53 rfl) (mpp 54 rfl ?_)
  have e66 : (fv P57 301 13).toInt = (fv P47 301 13).toInt := congrArg Int32.toInt (KW.at k62 13 rl_301 rfl)
  refine mt_getI (i := 165) (k := 13) hT61 dX7_crimpsStrip_54 rfl rl_301 (by decide) rfl (by decide) rfl (fun g67 g68 => mpp 57 rfl ?_)
  refine mp_a (a_iconst (v := 1) dX7_crimpsStrip_57 rfl) (mpp 58 rfl ?_)
  obtain ⟨z69, h70⟩ := ti_ex ((fv P57 301 13) - 1 : Int32)
  have wz69 := ti_full z69
  refine mp_t (s_isub (v := z69) dX7_crimpsStrip_58 h70) (mpp 59 rfl ?_)
  try have e71 : z69.toInt = (fv P57 301 13).toInt - 1 := ti_subz h70 rfl rfl (by omega) (by omega)
  refine mt_putI (i := 165) (k := 13) (x := z69) hT61 dX7_crimpsStrip_59 rfl rl_301 (by decide) rfl (by decide) rfl ⟨by omega, by omega⟩ rfl rfl (fun P72 hT73 f74 f75 f76 => mpp 62 rfl ?_)
  have k77 : KW [1101, 1536, 1600] Po P72 := KW.step k64 rl_301 rfl f75 f76
  have e78 : (fv P72 301 13).toInt = z69.toInt := congrArg Int32.toInt f74
  refine mp_a (a_aload_n dX7_crimpsStrip_62 rfl) (mpp 63 rfl ?_)
  refine mp_a (a_iload_n dX7_crimpsStrip_63 rfl) (mpp 64 rfl ?_)
  refine mp_a (a_iconst (v := 1) dX7_crimpsStrip_64 rfl) (mpp 65 rfl ?_)
  obtain ⟨z79, h80⟩ := ti_ex (t1 - 1 : Int32)
  have wz79 := ti_full z79
  refine mp_t (s_isub (v := z79) dX7_crimpsStrip_65 h80) (mpp 66 rfl ?_)
  try have e81 : z79.toInt = t1.toInt - 1 := ti_subz h80 rfl rfl (by omega) (by omega)
  have p82 : 0 ≤ z79.toInt := by omega
  have p83 : z79.toInt ≤ 8 := by omega
  refine mt_callv (i := 175) (q' := q_171) (As := [.int z79]) (rest := []) hT73 dX7_crimpsStrip_66 rfl qm_171 (by decide) rfl rl_301 (by decide) rfl (Nat.le_of_ble_eq_true rfl) rfl ⟨rfl, rfl⟩ ⟨Nat.le_of_ble_eq_true rfl, Nat.le_of_ble_eq_true rfl⟩ (EvP.mono (by decide) (c_M_dropsCrease hT73 p82 p83 )) (fun r84 P85 g86 => mpp 69 rfl ?_)
  obtain ⟨⟨rfl, g88⟩, hT89, k90, R91⟩ := g86
  have k92 : KW [1101, 1536, 1600] Po P85 := KW.trans k77 k90 rfl
  show MEvP _ none q_174 69 [(0, .ref 301), (1, .int t1)] [] _ _ _ _
  refine mp_a (a_aload_n dX7_crimpsStrip_69 rfl) (mpp 70 rfl ?_)
  refine mp_a (a_iload_n dX7_crimpsStrip_70 rfl) (mpp 71 rfl ?_)
  refine mp_a (a_iconst (v := 1) dX7_crimpsStrip_71 rfl) (mpp 72 rfl ?_)
  obtain ⟨z94, h95⟩ := ti_ex (t1 - 1 : Int32)
  have wz94 := ti_full z94
  refine mp_t (s_isub (v := z94) dX7_crimpsStrip_72 h95) (mpp 73 rfl ?_)
  try have e96 : z94.toInt = t1.toInt - 1 := ti_subz h95 rfl rfl (by omega) (by omega)
  have p97 : 0 ≤ z94.toInt := by omega
  have p98 : z94.toInt ≤ 8 := by omega
  refine mt_callv (i := 175) (q' := q_171) (As := [.int z94]) (rest := []) hT89 dX7_crimpsStrip_73 rfl qm_171 (by decide) rfl rl_301 (by decide) rfl (Nat.le_of_ble_eq_true rfl) rfl ⟨rfl, rfl⟩ ⟨Nat.le_of_ble_eq_true rfl, Nat.le_of_ble_eq_true rfl⟩ (EvP.mono (by decide) (c_M_dropsCrease hT89 p97 p98 )) (fun r99 P100 g101 => mpp 76 rfl ?_)
  obtain ⟨⟨rfl, g103⟩, hT104, k105, R106⟩ := g101
  have k107 : KW [1101, 1536, 1600] Po P100 := KW.trans k92 k105 rfl
  show MEvP _ none q_174 76 [(0, .ref 301), (1, .int t1)] [] _ _ _ _
  have e109 : (fv P100 301 13).toInt = (fv P72 301 13).toInt := congrArg Int32.toInt ((KW.at k105 13 rl_301 rfl).trans (KW.at k90 13 rl_301 rfl))
  have u110 : (fv P100 301 13).toInt = (fv Po 301 13).toInt - 2 := by omega
  exact mp_ret ⟨⟨rfl, u110⟩, hT104, k107, trivial⟩ dX7_crimpsStrip_76 rfl

set_option maxHeartbeats 4000000 in
theorem c_M_crimpsCorner {Po : mP} {t1 : Int32} (hT : Typ Po)  (hp0 : 0 ≤ t1.toInt) (hp1 : t1.toInt + 1 ≤ (fv Po 301 13).toInt) (hp2 : 3 ≤ (fv Po 301 13).toInt)  : EvP 2 172 [.ref 301, .int t1] Po (fun r P' => (r = none ∧ ((fv P' 301 13).toInt = (fv Po 301 13).toInt - 2)) ∧ Typ P' ∧ KW [1101, 1536, 1600] Po P' ∧ True) := by
  refine EvP.of qm_172 (Nat.le_of_ble_eq_true rfl) rfl ?_
  show MEvP _ none q_172 0 [(0, .ref 301), (1, .int t1)] [] _ 0 0 _
  have g1 : (0 : Int) ≤ (fv Po 301 13).toInt ∧ (fv Po 301 13).toInt ≤ 8 := Typ.rng hT rl_301 (by decide) (by decide) rfl
  refine mp_a (a_iload_n dX7_crimpsCorner_0 rfl) (mpp 1 rfl ?_)
  refine mp_a (a_aload_n dX7_crimpsCorner_1 rfl) (mpp 2 rfl ?_)
  refine mt_getI (i := 165) (k := 13) hT dX7_crimpsCorner_2 rfl rl_301 (by decide) rfl (by decide) rfl (fun g2 g3 => mpp 5 rfl ?_)
  obtain ⟨z4, h5⟩ := ti_ex (t1 + (fv Po 301 13) : Int32)
  have wz4 := ti_full z4
  refine mp_t (s_iadd (v := z4) dX7_crimpsCorner_5 h5) (mpp 6 rfl ?_)
  try have e6 : z4.toInt = t1.toInt + (fv Po 301 13).toInt := ti_addz h5 rfl rfl (by omega) (by omega)
  refine mp_a (a_iconst (v := 1) dX7_crimpsCorner_6 rfl) (mpp 7 rfl ?_)
  obtain ⟨z7, h8⟩ := ti_ex (z4 - 1 : Int32)
  have wz7 := ti_full z7
  refine mp_t (s_isub (v := z7) dX7_crimpsCorner_7 h8) (mpp 8 rfl ?_)
  try have e9 : z7.toInt = z4.toInt - 1 := ti_subz h8 rfl rfl (by omega) (by omega)
  refine mp_a (a_aload_n dX7_crimpsCorner_8 rfl) (mpp 9 rfl ?_)
  refine mt_getI (i := 165) (k := 13) hT dX7_crimpsCorner_9 rfl rl_301 (by decide) rfl (by decide) rfl (fun g10 g11 => mpp 12 rfl ?_)
  obtain ⟨z12, h13⟩ := ti_ex (z7 - z7 / (fv Po 301 13) * (fv Po 301 13) : Int32)
  have wz12 := ti_full z12
  have n14 : ¬ (fv Po 301 13) = 0 := ti_n0 (by omega)
  try have e15 : 0 ≤ z12.toInt ∧ z12.toInt < (fv Po 301 13).toInt := ti_rem h13 (show (0 : Int) ≤ z7.toInt by omega) (show (0 : Int) < (fv Po 301 13).toInt by omega)
  refine mp_t (s_irem (v := z12) dX7_crimpsCorner_12 n14 h13) (mpp 13 rfl ?_)
  refine mp_a (a_istore_n (L' := [(2, .int z12), (0, .ref 301), (1, .int t1)]) dX7_crimpsCorner_13 (by decide) rfl) (mpp 14 rfl ?_)
  refine mp_a (a_iload_n dX7_crimpsCorner_14 rfl) (mpp 15 rfl ?_)
  refine mp_a (a_iconst (v := 1) dX7_crimpsCorner_15 rfl) (mpp 16 rfl ?_)
  obtain ⟨z16, h17⟩ := ti_ex (t1 + 1 : Int32)
  have wz16 := ti_full z16
  refine mp_t (s_iadd (v := z16) dX7_crimpsCorner_16 h17) (mpp 17 rfl ?_)
  try have e18 : z16.toInt = t1.toInt + 1 := ti_addz h17 rfl rfl (by omega) (by omega)
  refine mp_a (a_aload_n dX7_crimpsCorner_17 rfl) (mpp 18 rfl ?_)
  refine mt_getI (i := 165) (k := 13) hT dX7_crimpsCorner_18 rfl rl_301 (by decide) rfl (by decide) rfl (fun g19 g20 => mpp 21 rfl ?_)
  obtain ⟨z21, h22⟩ := ti_ex (z16 - z16 / (fv Po 301 13) * (fv Po 301 13) : Int32)
  have wz21 := ti_full z21
  have n23 : ¬ (fv Po 301 13) = 0 := ti_n0 (by omega)
  try have e24 : 0 ≤ z21.toInt ∧ z21.toInt < (fv Po 301 13).toInt := ti_rem h22 (show (0 : Int) ≤ z16.toInt by omega) (show (0 : Int) < (fv Po 301 13).toInt by omega)
  refine mp_t (s_irem (v := z21) dX7_crimpsCorner_21 n23 h22) (mpp 22 rfl ?_)
  refine mp_a (a_istore_n (L' := [(3, .int z21), (2, .int z12), (0, .ref 301), (1, .int t1)]) dX7_crimpsCorner_22 (by decide) rfl) (mpp 23 rfl ?_)
  refine mp_a (a_aload_n dX7_crimpsCorner_23 rfl) (mpp 24 rfl ?_)
  refine mt_getU (i := 28) (k := 11) (A := 308) hT dX7_crimpsCorner_24 rfl rl_301 (by decide) rfl (by decide) rfl un_24 (mpp 27 rfl ?_)
  refine mp_a (a_iload_n dX7_crimpsCorner_27 rfl) (mpp 28 rfl ?_)
  refine mp_a (a_aload_n dX7_crimpsCorner_28 rfl) (mpp 29 rfl ?_)
  refine mt_getU (i := 28) (k := 11) (A := 308) hT dX7_crimpsCorner_29 rfl rl_301 (by decide) rfl (by decide) rfl un_24 (mpp 32 rfl ?_)
  refine mp_a (a_iload_n dX7_crimpsCorner_32 rfl) (mpp 33 rfl ?_)
  refine mt_ial (n := 8) hT dX7_crimpsCorner_33 rl_308 (by decide) rfl rfl (by omega) (by omega) rfl (fun g25 g26 => mpp 34 rfl ?_)
  refine mp_a (a_aload_n dX7_crimpsCorner_34 rfl) (mpp 35 rfl ?_)
  refine mt_getU (i := 28) (k := 11) (A := 308) hT dX7_crimpsCorner_35 rfl rl_301 (by decide) rfl (by decide) rfl un_24 (mpp 38 rfl ?_)
  refine mp_a (a_iload_n dX7_crimpsCorner_38 rfl) (mpp 39 rfl ?_)
  refine mt_ial (n := 8) hT dX7_crimpsCorner_39 rl_308 (by decide) rfl rfl (by omega) (by omega) rfl (fun g27 g28 => mpp 40 rfl ?_)
  obtain ⟨z29, h30⟩ := ti_ex ((fv Po 308 z12.toInt.toNat) + (fv Po 308 z21.toInt.toNat) : Int32)
  have wz29 := ti_full z29
  refine mp_t (s_iadd (v := z29) dX7_crimpsCorner_40 h30) (mpp 41 rfl ?_)
  try have e31 : z29.toInt = (fv Po 308 z12.toInt.toNat).toInt + (fv Po 308 z21.toInt.toNat).toInt := ti_addz h30 rfl rfl (by omega) (by omega)
  refine mp_a (a_aload_n dX7_crimpsCorner_41 rfl) (mpp 42 rfl ?_)
  refine mt_getU (i := 28) (k := 11) (A := 308) hT dX7_crimpsCorner_42 rfl rl_301 (by decide) rfl (by decide) rfl un_24 (mpp 45 rfl ?_)
  refine mp_a (a_iload_n dX7_crimpsCorner_45 rfl) (mpp 46 rfl ?_)
  refine mt_ial (n := 8) hT dX7_crimpsCorner_46 rl_308 (by decide) rfl rfl (by omega) (by omega) rfl (fun g32 g33 => mpp 47 rfl ?_)
  obtain ⟨z34, h35⟩ := ti_ex (z29 - (fv Po 308 t1.toInt.toNat) : Int32)
  have wz34 := ti_full z34
  refine mp_t (s_isub (v := z34) dX7_crimpsCorner_47 h35) (mpp 48 rfl ?_)
  try have e36 : z34.toInt = z29.toInt - (fv Po 308 t1.toInt.toNat).toInt := ti_subz h35 rfl rfl (by omega) (by omega)
  refine mt_ias (n := 8) hT dX7_crimpsCorner_48 rl_308 (by decide) rfl rfl (by omega) (by omega) rfl (ti_full z34) (fun P37 hT38 f39 f40 f41 => mpp 49 rfl ?_)
  have k42 : KW [1101, 1536, 1600] Po P37 := KW.step KW.refl rl_308 rfl f40 f41
  refine mp_a (a_iload_n dX7_crimpsCorner_49 rfl) (mpp 50 rfl ?_)
  refine mp_a (a_iload_n dX7_crimpsCorner_50 rfl) (mpp 51 rfl ?_)
  refine mp_calls (i := 178) (q' := q_173) (As := [.int t1, .int z21]) (rest := []) dX7_crimpsCorner_51 rfl qm_173 (by decide) rfl (Nat.le_of_ble_eq_true rfl) rfl ⟨rfl, rfl⟩ ⟨Nat.le_of_ble_eq_true rfl, Nat.le_of_ble_eq_true rfl⟩ (EvP.mono (by decide) (c_M_greater hT38 )) (fun r43 P44 g45 => mpp 54 rfl ?_)
  obtain ⟨⟨x46, rfl, g47⟩, e48⟩ := g45
  have e48 := e48.symm
  subst e48
  have wx46 := ti_full x46
  have g47 : (x46.toInt = t1.toInt ∧ z21.toInt ≤ t1.toInt) ∨ (x46.toInt = z21.toInt ∧ t1.toInt ≤ z21.toInt) := g47
  show MEvP _ none q_172 54 [(3, .int z21), (2, .int z12), (0, .ref 301), (1, .int t1)] [.int x46] _ _ _ _
  refine mp_a (a_istore (L' := [(4, .int x46), (3, .int z21), (2, .int z12), (0, .ref 301), (1, .int t1)]) dX7_crimpsCorner_54 (by decide) rfl) (mpp 56 rfl ?_)
  refine mp_a (a_iload_n dX7_crimpsCorner_56 rfl) (mpp 57 rfl ?_)
  refine mp_a (a_iload_n dX7_crimpsCorner_57 rfl) (mpp 58 rfl ?_)
  refine mp_calls (i := 155) (q' := q_158) (As := [.int t1, .int z21]) (rest := []) dX7_crimpsCorner_58 rfl qm_158 (by decide) rfl (Nat.le_of_ble_eq_true rfl) rfl ⟨rfl, rfl⟩ ⟨Nat.le_of_ble_eq_true rfl, Nat.le_of_ble_eq_true rfl⟩ (EvP.mono (by decide) (c_M_lesser hT38 )) (fun r49 P50 g51 => mpp 61 rfl ?_)
  obtain ⟨⟨x52, rfl, g53⟩, e54⟩ := g51
  have e54 := e54.symm
  subst e54
  have wx52 := ti_full x52
  have g53 : (x52.toInt = t1.toInt ∧ t1.toInt ≤ z21.toInt) ∨ (x52.toInt = z21.toInt ∧ z21.toInt ≤ t1.toInt) := g53
  show MEvP _ none q_172 61 [(4, .int x46), (3, .int z21), (2, .int z12), (0, .ref 301), (1, .int t1)] [.int x52] _ _ _ _
  refine mp_a (a_istore (L' := [(5, .int x52), (4, .int x46), (3, .int z21), (2, .int z12), (0, .ref 301), (1, .int t1)]) dX7_crimpsCorner_61 (by decide) rfl) (mpp 63 rfl ?_)
  refine mp_a (a_aload_n dX7_crimpsCorner_63 rfl) (mpp 64 rfl ?_)
  refine mp_a (a_iload dX7_crimpsCorner_64 rfl) (mpp 66 rfl ?_)
  have p55 : 0 ≤ x46.toInt := by omega
  have p56 : x46.toInt ≤ 8 := by omega
  refine mt_callv (i := 175) (q' := q_171) (As := [.int x46]) (rest := []) hT38 dX7_crimpsCorner_66 rfl qm_171 (by decide) rfl rl_301 (by decide) rfl (Nat.le_of_ble_eq_true rfl) rfl ⟨rfl, rfl⟩ ⟨Nat.le_of_ble_eq_true rfl, Nat.le_of_ble_eq_true rfl⟩ (EvP.mono (by decide) (c_M_dropsCrease hT38 p55 p56 )) (fun r57 P58 g59 => mpp 69 rfl ?_)
  obtain ⟨⟨rfl, g61⟩, hT62, k63, R64⟩ := g59
  have k65 : KW [1101, 1536, 1600] Po P58 := KW.trans k42 k63 rfl
  show MEvP _ none q_172 69 [(5, .int x52), (4, .int x46), (3, .int z21), (2, .int z12), (0, .ref 301), (1, .int t1)] [] _ _ _ _
  refine mp_a (a_aload_n dX7_crimpsCorner_69 rfl) (mpp 70 rfl ?_)
  refine mp_a (a_iload dX7_crimpsCorner_70 rfl) (mpp 72 rfl ?_)
  have p67 : 0 ≤ x46.toInt := by omega
  have p68 : x46.toInt ≤ 8 := by omega
  refine mt_callv (i := 172) (q' := q_170) (As := [.int x46]) (rest := []) hT62 dX7_crimpsCorner_72 rfl qm_170 (by decide) rfl rl_301 (by decide) rfl (Nat.le_of_ble_eq_true rfl) rfl ⟨rfl, rfl⟩ ⟨Nat.le_of_ble_eq_true rfl, Nat.le_of_ble_eq_true rfl⟩ (EvP.mono (by decide) (c_M_dropsSize hT62 p67 p68 )) (fun r69 P70 g71 => mpp 75 rfl ?_)
  obtain ⟨⟨rfl, g73⟩, hT74, k75, R76⟩ := g71
  have k77 : KW [1101, 1536, 1600] Po P70 := KW.trans k65 k75 rfl
  show MEvP _ none q_172 75 [(5, .int x52), (4, .int x46), (3, .int z21), (2, .int z12), (0, .ref 301), (1, .int t1)] [] _ _ _ _
  refine mp_a (a_aload_n dX7_crimpsCorner_75 rfl) (mpp 76 rfl ?_)
  refine mp_t (s_dup dX7_crimpsCorner_76 rfl) (mpp 77 rfl ?_)
  have e79 : (fv P70 301 13).toInt = (fv Po 301 13).toInt := congrArg Int32.toInt ((KW.at k75 13 rl_301 rfl).trans ((KW.at k63 13 rl_301 rfl).trans (f40 301 13 (ne_r rl_301 rl_308 rfl))))
  refine mt_getI (i := 165) (k := 13) hT74 dX7_crimpsCorner_77 rfl rl_301 (by decide) rfl (by decide) rfl (fun g80 g81 => mpp 80 rfl ?_)
  refine mp_a (a_iconst (v := 1) dX7_crimpsCorner_80 rfl) (mpp 81 rfl ?_)
  obtain ⟨z82, h83⟩ := ti_ex ((fv P70 301 13) - 1 : Int32)
  have wz82 := ti_full z82
  refine mp_t (s_isub (v := z82) dX7_crimpsCorner_81 h83) (mpp 82 rfl ?_)
  try have e84 : z82.toInt = (fv P70 301 13).toInt - 1 := ti_subz h83 rfl rfl (by omega) (by omega)
  refine mt_putI (i := 165) (k := 13) (x := z82) hT74 dX7_crimpsCorner_82 rfl rl_301 (by decide) rfl (by decide) rfl ⟨by omega, by omega⟩ rfl rfl (fun P85 hT86 f87 f88 f89 => mpp 85 rfl ?_)
  have k90 : KW [1101, 1536, 1600] Po P85 := KW.step k77 rl_301 rfl f88 f89
  have e91 : (fv P85 301 13).toInt = z82.toInt := congrArg Int32.toInt f87
  refine mp_a (a_aload_n dX7_crimpsCorner_85 rfl) (mpp 86 rfl ?_)
  refine mp_a (a_iload dX7_crimpsCorner_86 rfl) (mpp 88 rfl ?_)
  have p92 : 0 ≤ x52.toInt := by omega
  have p93 : x52.toInt ≤ 8 := by omega
  refine mt_callv (i := 175) (q' := q_171) (As := [.int x52]) (rest := []) hT86 dX7_crimpsCorner_88 rfl qm_171 (by decide) rfl rl_301 (by decide) rfl (Nat.le_of_ble_eq_true rfl) rfl ⟨rfl, rfl⟩ ⟨Nat.le_of_ble_eq_true rfl, Nat.le_of_ble_eq_true rfl⟩ (EvP.mono (by decide) (c_M_dropsCrease hT86 p92 p93 )) (fun r94 P95 g96 => mpp 91 rfl ?_)
  obtain ⟨⟨rfl, g98⟩, hT99, k100, R101⟩ := g96
  have k102 : KW [1101, 1536, 1600] Po P95 := KW.trans k90 k100 rfl
  show MEvP _ none q_172 91 [(5, .int x52), (4, .int x46), (3, .int z21), (2, .int z12), (0, .ref 301), (1, .int t1)] [] _ _ _ _
  refine mp_a (a_aload_n dX7_crimpsCorner_91 rfl) (mpp 92 rfl ?_)
  refine mp_a (a_iload dX7_crimpsCorner_92 rfl) (mpp 94 rfl ?_)
  have p104 : 0 ≤ x52.toInt := by omega
  have p105 : x52.toInt ≤ 8 := by omega
  refine mt_callv (i := 172) (q' := q_170) (As := [.int x52]) (rest := []) hT99 dX7_crimpsCorner_94 rfl qm_170 (by decide) rfl rl_301 (by decide) rfl (Nat.le_of_ble_eq_true rfl) rfl ⟨rfl, rfl⟩ ⟨Nat.le_of_ble_eq_true rfl, Nat.le_of_ble_eq_true rfl⟩ (EvP.mono (by decide) (c_M_dropsSize hT99 p104 p105 )) (fun r106 P107 g108 => mpp 97 rfl ?_)
  obtain ⟨⟨rfl, g110⟩, hT111, k112, R113⟩ := g108
  have k114 : KW [1101, 1536, 1600] Po P107 := KW.trans k102 k112 rfl
  show MEvP _ none q_172 97 [(5, .int x52), (4, .int x46), (3, .int z21), (2, .int z12), (0, .ref 301), (1, .int t1)] [] _ _ _ _
  refine mp_a (a_aload_n dX7_crimpsCorner_97 rfl) (mpp 98 rfl ?_)
  refine mp_t (s_dup dX7_crimpsCorner_98 rfl) (mpp 99 rfl ?_)
  have e116 : (fv P107 301 13).toInt = (fv P85 301 13).toInt := congrArg Int32.toInt ((KW.at k112 13 rl_301 rfl).trans (KW.at k100 13 rl_301 rfl))
  refine mt_getI (i := 165) (k := 13) hT111 dX7_crimpsCorner_99 rfl rl_301 (by decide) rfl (by decide) rfl (fun g117 g118 => mpp 102 rfl ?_)
  refine mp_a (a_iconst (v := 1) dX7_crimpsCorner_102 rfl) (mpp 103 rfl ?_)
  obtain ⟨z119, h120⟩ := ti_ex ((fv P107 301 13) - 1 : Int32)
  have wz119 := ti_full z119
  refine mp_t (s_isub (v := z119) dX7_crimpsCorner_103 h120) (mpp 104 rfl ?_)
  try have e121 : z119.toInt = (fv P107 301 13).toInt - 1 := ti_subz h120 rfl rfl (by omega) (by omega)
  refine mt_putI (i := 165) (k := 13) (x := z119) hT111 dX7_crimpsCorner_104 rfl rl_301 (by decide) rfl (by decide) rfl ⟨by omega, by omega⟩ rfl rfl (fun P122 hT123 f124 f125 f126 => mpp 107 rfl ?_)
  have k127 : KW [1101, 1536, 1600] Po P122 := KW.step k114 rl_301 rfl f125 f126
  have e128 : (fv P122 301 13).toInt = z119.toInt := congrArg Int32.toInt f124
  have u129 : (fv P122 301 13).toInt = (fv Po 301 13).toInt - 2 := by omega
  exact mp_ret ⟨⟨rfl, u129⟩, hT123, k127, trivial⟩ dX7_crimpsCorner_107 rfl

set_option maxHeartbeats 4000000 in
theorem c_M_makes {Po : mP} {t1 : Int32} (hT : Typ Po)  (hp0 : (t1.toInt = 1 ∧ (fv Po 301 14).toInt = 0 ∧ 2 ≤ (fv Po 301 13).toInt) ∨ (t1.toInt = 2 ∧ (fv Po 301 14).toInt = 0 ∧ 2 ≤ (fv Po 301 13).toInt) ∨ ((fv Po 301 14).toInt = 1 ∧ 3 ≤ (fv Po 301 13).toInt ∧ 10 ≤ t1.toInt ∧ t1.toInt + 1 ≤ (fv Po 301 13).toInt + 10) ∨ ((fv Po 301 14).toInt = 0 ∧ 11 ≤ t1.toInt ∧ t1.toInt + 2 ≤ (fv Po 301 13).toInt + 10))  : EvP 3 169 [.ref 301, .int t1] Po (fun r P' => (r = none ∧ ((fv P' 301 13).toInt + 1 ≤ (fv Po 301 13).toInt)) ∧ Typ P' ∧ KW [1101, 1536, 1600] Po P' ∧ True) := by
  refine EvP.of qm_169 (Nat.le_of_ble_eq_true rfl) rfl ?_
  show MEvP _ none q_169 0 [(0, .ref 301), (1, .int t1)] [] _ 0 0 _
  have g1 : (0 : Int) ≤ (fv Po 301 14).toInt ∧ (fv Po 301 14).toInt ≤ 1 := Typ.rng hT rl_301 (by decide) (by decide) rfl
  have g2 : (0 : Int) ≤ (fv Po 301 13).toInt ∧ (fv Po 301 13).toInt ≤ 8 := Typ.rng hT rl_301 (by decide) (by decide) rfl
  refine mp_a (a_iload_n dX7_makes_0 rfl) (mpp 1 rfl ?_)
  refine mp_a (a_iconst (v := 1) dX7_makes_1 rfl) (mpp 2 rfl ?_)
  refine mp_Tb (t := 28) (j_icmp_ne dX7_makes_2) (by decide) (fun c3 => ?_) (fun c3 => mpp 5 rfl ?_)
  · have c3 : t1.toInt ≠ 1 := ti_ne c3
    refine mp_a (a_iload_n dX7_makes_28 rfl) (mpp 29 rfl ?_)
    refine mp_a (a_iconst (v := 2) dX7_makes_29 rfl) (mpp 30 rfl ?_)
    refine mp_Tb (t := 46) (j_icmp_ne dX7_makes_30) (by decide) (fun c4 => ?_) (fun c4 => mpp 33 rfl ?_)
    · have c4 : t1.toInt ≠ 2 := ti_ne c4
      refine mp_a (a_aload_n dX7_makes_46 rfl) (mpp 47 rfl ?_)
      refine mt_getI (i := 161) (k := 14) hT dX7_makes_47 rfl rl_301 (by decide) rfl (by decide) rfl (fun g5 g6 => mpp 50 rfl ?_)
      refine mp_Tb (t := 64) (j_if_eq dX7_makes_50) (by decide) (fun c7 => ?_) (fun c7 => mpp 53 rfl ?_)
      · have c7 : (fv Po 301 14).toInt = 0 := ti_eq c7
        refine mp_a (a_aload_n dX7_makes_64 rfl) (mpp 65 rfl ?_)
        refine mp_a (a_iload_n dX7_makes_65 rfl) (mpp 66 rfl ?_)
        refine mp_a (a_bipush (v := 10) dX7_makes_66 rfl) (mpp 68 rfl ?_)
        obtain ⟨z8, h9⟩ := ti_ex (t1 - 10 : Int32)
        have wz8 := ti_full z8
        refine mp_t (s_isub (v := z8) dX7_makes_68 h9) (mpp 69 rfl ?_)
        try have e10 : z8.toInt = t1.toInt - 10 := ti_subz h9 rfl rfl (by omega) (by omega)
        have p11 : 1 ≤ z8.toInt := by omega
        have p12 : z8.toInt + 2 ≤ (fv Po 301 13).toInt := by omega
        refine mt_callv (i := 184) (q' := q_174) (As := [.int z8]) (rest := []) hT dX7_makes_69 rfl qm_174 (by decide) rfl rl_301 (by decide) rfl (Nat.le_of_ble_eq_true rfl) rfl ⟨rfl, rfl⟩ ⟨Nat.le_of_ble_eq_true rfl, Nat.le_of_ble_eq_true rfl⟩ (EvP.mono (by decide) (c_M_crimpsStrip hT p11 p12 )) (fun r13 P14 g15 => mpp 72 rfl ?_)
        obtain ⟨⟨rfl, g17⟩, hT18, k19, R20⟩ := g15
        have k21 : KW [1101, 1536, 1600] Po P14 := KW.trans KW.refl k19 rfl
        have g17 : (fv P14 301 13).toInt = (fv Po 301 13).toInt - 2 := g17
        have g23 : (0 : Int) ≤ (fv P14 301 13).toInt ∧ (fv P14 301 13).toInt ≤ 8 := Typ.rng hT18 rl_301 (by decide) (by decide) rfl
        show MEvP _ none q_169 72 [(0, .ref 301), (1, .int t1)] [] _ _ _ _
        have u24 : (fv P14 301 13).toInt + 1 ≤ (fv Po 301 13).toInt := by omega
        exact mp_ret ⟨⟨rfl, u24⟩, hT18, k21, trivial⟩ dX7_makes_72 rfl
      · have c7 : (fv Po 301 14).toInt ≠ 0 := ti_eq_n c7
        refine mp_a (a_aload_n dX7_makes_53 rfl) (mpp 54 rfl ?_)
        refine mp_a (a_iload_n dX7_makes_54 rfl) (mpp 55 rfl ?_)
        refine mp_a (a_bipush (v := 10) dX7_makes_55 rfl) (mpp 57 rfl ?_)
        obtain ⟨z25, h26⟩ := ti_ex (t1 - 10 : Int32)
        have wz25 := ti_full z25
        refine mp_t (s_isub (v := z25) dX7_makes_57 h26) (mpp 58 rfl ?_)
        try have e27 : z25.toInt = t1.toInt - 10 := ti_subz h26 rfl rfl (by omega) (by omega)
        have p28 : 0 ≤ z25.toInt := by omega
        have p29 : z25.toInt + 1 ≤ (fv Po 301 13).toInt := by omega
        have p30 : 3 ≤ (fv Po 301 13).toInt := by omega
        refine mt_callv (i := 181) (q' := q_172) (As := [.int z25]) (rest := []) hT dX7_makes_58 rfl qm_172 (by decide) rfl rl_301 (by decide) rfl (Nat.le_of_ble_eq_true rfl) rfl ⟨rfl, rfl⟩ ⟨Nat.le_of_ble_eq_true rfl, Nat.le_of_ble_eq_true rfl⟩ (EvP.mono (by decide) (c_M_crimpsCorner hT p28 p29 p30 )) (fun r31 P32 g33 => mpp 61 rfl ?_)
        obtain ⟨⟨rfl, g35⟩, hT36, k37, R38⟩ := g33
        have k39 : KW [1101, 1536, 1600] Po P32 := KW.trans KW.refl k37 rfl
        have g35 : (fv P32 301 13).toInt = (fv Po 301 13).toInt - 2 := g35
        have g41 : (0 : Int) ≤ (fv P32 301 13).toInt ∧ (fv P32 301 13).toInt ≤ 8 := Typ.rng hT36 rl_301 (by decide) (by decide) rfl
        show MEvP _ none q_169 61 [(0, .ref 301), (1, .int t1)] [] _ _ _ _
        refine mp_a (a_goto (t := 72) dX7_makes_61 (by decide)) ?_
        have u42 : (fv P32 301 13).toInt + 1 ≤ (fv Po 301 13).toInt := by omega
        exact mp_ret ⟨⟨rfl, u42⟩, hT36, k39, trivial⟩ dX7_makes_72 rfl
    · have c4 : t1.toInt = 2 := ti_ne_n c4
      refine mp_a (a_aload_n dX7_makes_33 rfl) (mpp 34 rfl ?_)
      refine mp_t (s_dup dX7_makes_34 rfl) (mpp 35 rfl ?_)
      refine mt_getI (i := 165) (k := 13) hT dX7_makes_35 rfl rl_301 (by decide) rfl (by decide) rfl (fun g43 g44 => mpp 38 rfl ?_)
      refine mp_a (a_iconst (v := 1) dX7_makes_38 rfl) (mpp 39 rfl ?_)
      obtain ⟨z45, h46⟩ := ti_ex ((fv Po 301 13) - 1 : Int32)
      have wz45 := ti_full z45
      refine mp_t (s_isub (v := z45) dX7_makes_39 h46) (mpp 40 rfl ?_)
      try have e47 : z45.toInt = (fv Po 301 13).toInt - 1 := ti_subz h46 rfl rfl (by omega) (by omega)
      refine mt_putI (i := 165) (k := 13) (x := z45) hT dX7_makes_40 rfl rl_301 (by decide) rfl (by decide) rfl ⟨by omega, by omega⟩ rfl rfl (fun P48 hT49 f50 f51 f52 => mpp 43 rfl ?_)
      have k53 : KW [1101, 1536, 1600] Po P48 := KW.step KW.refl rl_301 rfl f51 f52
      have e54 : (fv P48 301 13).toInt = z45.toInt := congrArg Int32.toInt f50
      refine mp_a (a_goto (t := 72) dX7_makes_43 (by decide)) ?_
      have u55 : (fv P48 301 13).toInt + 1 ≤ (fv Po 301 13).toInt := by omega
      exact mp_ret ⟨⟨rfl, u55⟩, hT49, k53, trivial⟩ dX7_makes_72 rfl
  · have c3 : t1.toInt = 1 := ti_ne_n c3
    refine mp_a (a_aload_n dX7_makes_5 rfl) (mpp 6 rfl ?_)
    refine mp_a (a_iconst (v := 0) dX7_makes_6 rfl) (mpp 7 rfl ?_)
    have p56 : 0 ≤ (0 : Int) := by omega
    have p57 : (0 : Int) ≤ 8 := by omega
    refine mt_callv (i := 172) (q' := q_170) (As := [.int 0]) (rest := []) hT dX7_makes_7 rfl qm_170 (by decide) rfl rl_301 (by decide) rfl (Nat.le_of_ble_eq_true rfl) rfl ⟨rfl, rfl⟩ ⟨Nat.le_of_ble_eq_true rfl, Nat.le_of_ble_eq_true rfl⟩ (EvP.mono (by decide) (c_M_dropsSize hT p56 p57 )) (fun r58 P59 g60 => mpp 10 rfl ?_)
    obtain ⟨⟨rfl, g62⟩, hT63, k64, R65⟩ := g60
    have k66 : KW [1101, 1536, 1600] Po P59 := KW.trans KW.refl k64 rfl
    show MEvP _ none q_169 10 [(0, .ref 301), (1, .int t1)] [] _ _ _ _
    refine mp_a (a_aload_n dX7_makes_10 rfl) (mpp 11 rfl ?_)
    refine mp_a (a_iconst (v := 0) dX7_makes_11 rfl) (mpp 12 rfl ?_)
    have p68 : 0 ≤ (0 : Int) := by omega
    have p69 : (0 : Int) ≤ 8 := by omega
    refine mt_callv (i := 175) (q' := q_171) (As := [.int 0]) (rest := []) hT63 dX7_makes_12 rfl qm_171 (by decide) rfl rl_301 (by decide) rfl (Nat.le_of_ble_eq_true rfl) rfl ⟨rfl, rfl⟩ ⟨Nat.le_of_ble_eq_true rfl, Nat.le_of_ble_eq_true rfl⟩ (EvP.mono (by decide) (c_M_dropsCrease hT63 p68 p69 )) (fun r70 P71 g72 => mpp 15 rfl ?_)
    obtain ⟨⟨rfl, g74⟩, hT75, k76, R77⟩ := g72
    have k78 : KW [1101, 1536, 1600] Po P71 := KW.trans k66 k76 rfl
    show MEvP _ none q_169 15 [(0, .ref 301), (1, .int t1)] [] _ _ _ _
    refine mp_a (a_aload_n dX7_makes_15 rfl) (mpp 16 rfl ?_)
    refine mp_t (s_dup dX7_makes_16 rfl) (mpp 17 rfl ?_)
    have e80 : (fv P71 301 13).toInt = (fv Po 301 13).toInt := congrArg Int32.toInt ((KW.at k76 13 rl_301 rfl).trans (KW.at k64 13 rl_301 rfl))
    refine mt_getI (i := 165) (k := 13) hT75 dX7_makes_17 rfl rl_301 (by decide) rfl (by decide) rfl (fun g81 g82 => mpp 20 rfl ?_)
    refine mp_a (a_iconst (v := 1) dX7_makes_20 rfl) (mpp 21 rfl ?_)
    obtain ⟨z83, h84⟩ := ti_ex ((fv P71 301 13) - 1 : Int32)
    have wz83 := ti_full z83
    refine mp_t (s_isub (v := z83) dX7_makes_21 h84) (mpp 22 rfl ?_)
    try have e85 : z83.toInt = (fv P71 301 13).toInt - 1 := ti_subz h84 rfl rfl (by omega) (by omega)
    refine mt_putI (i := 165) (k := 13) (x := z83) hT75 dX7_makes_22 rfl rl_301 (by decide) rfl (by decide) rfl ⟨by omega, by omega⟩ rfl rfl (fun P86 hT87 f88 f89 f90 => mpp 25 rfl ?_)
    have k91 : KW [1101, 1536, 1600] Po P86 := KW.step k78 rl_301 rfl f89 f90
    have e92 : (fv P86 301 13).toInt = z83.toInt := congrArg Int32.toInt f88
    refine mp_a (a_goto (t := 72) dX7_makes_25 (by decide)) ?_
    have u93 : (fv P86 301 13).toInt + 1 ≤ (fv Po 301 13).toInt := by omega
    exact mp_ret ⟨⟨rfl, u93⟩, hT87, k91, trivial⟩ dX7_makes_72 rfl

set_option maxHeartbeats 4000000 in
theorem c_M_reduces_l7 {Po : mP}   : ∀ (n : Nat) (v1 : Int32) (v2 : Int32), ∀ (P : mP), Typ P → KW [1101, 1536, 1600] Po P → (v2.toInt = 0 ∨ (v2.toInt = 1 ∧ (fv P 301 14).toInt = 0 ∧ 2 ≤ (fv P 301 13).toInt) ∨ (v2.toInt = 2 ∧ (fv P 301 14).toInt = 0 ∧ 2 ≤ (fv P 301 13).toInt) ∨ ((fv P 301 14).toInt = 1 ∧ 3 ≤ (fv P 301 13).toInt ∧ 10 ≤ v2.toInt ∧ v2.toInt + 1 ≤ (fv P 301 13).toInt + 10) ∨ ((fv P 301 14).toInt = 0 ∧ 11 ≤ v2.toInt ∧ v2.toInt + 2 ≤ (fv P 301 13).toInt + 10)) → (fv P 301 13).toInt.toNat = n → MEvP 3 none q_166 7 [(0, .ref 301), (1, .int v1), (2, .int v2)] [] P 0 0 (fun r P' => (∃ x : Int32, r = some (.int x) ∧ (True)) ∧ Typ P' ∧ KW [1101, 1536, 1600] Po P' ∧ True) := by
  intro n
  induction n using Nat.strongRecOn with | _ n ih => ?_
  intro v1 v2 P hT hK i_0 hm
  have w_v1 := ti_full v1
  have w_v2 := ti_full v2
  have g1 : (0 : Int) ≤ (fv P 301 14).toInt ∧ (fv P 301 14).toInt ≤ 1 := Typ.rng hT rl_301 (by decide) (by decide) rfl
  have g2 : (0 : Int) ≤ (fv P 301 14).toInt ∧ (fv P 301 14).toInt ≤ 1 := Typ.rng hT rl_301 (by decide) (by decide) rfl
  have g3 : (0 : Int) ≤ (fv P 301 13).toInt ∧ (fv P 301 13).toInt ≤ 8 := Typ.rng hT rl_301 (by decide) (by decide) rfl
  have g4 : (0 : Int) ≤ (fv P 301 13).toInt ∧ (fv P 301 13).toInt ≤ 8 := Typ.rng hT rl_301 (by decide) (by decide) rfl
  have g5 : (0 : Int) ≤ (fv P 301 13).toInt ∧ (fv P 301 13).toInt ≤ 8 := Typ.rng hT rl_301 (by decide) (by decide) rfl
  refine mp_a (a_iload_n dX7_reduces_7 rfl) (mpp 8 rfl ?_)
  refine mp_Tb (t := 27) (j_if_le dX7_reduces_8) (by decide) (fun c6 => ?_) (fun c6 => mpp 11 rfl ?_)
  · have c6 : v2.toInt ≤ 0 := ti_le c6
    refine mp_a (a_iload_n dX7_reduces_27 rfl) (mpp 28 rfl ?_)
    exact mp_iret ⟨⟨_, rfl, trivial⟩, hT, hK, trivial⟩ dX7_reduces_28 (Or.inl rfl)
  · have c6 : v2.toInt > 0 := ti_le_n c6
    refine mp_a (a_aload_n dX7_reduces_11 rfl) (mpp 12 rfl ?_)
    refine mp_a (a_iload_n dX7_reduces_12 rfl) (mpp 13 rfl ?_)
    have p7 : (v2.toInt = 1 ∧ (fv P 301 14).toInt = 0 ∧ 2 ≤ (fv P 301 13).toInt) ∨ (v2.toInt = 2 ∧ (fv P 301 14).toInt = 0 ∧ 2 ≤ (fv P 301 13).toInt) ∨ ((fv P 301 14).toInt = 1 ∧ 3 ≤ (fv P 301 13).toInt ∧ 10 ≤ v2.toInt ∧ v2.toInt + 1 ≤ (fv P 301 13).toInt + 10) ∨ ((fv P 301 14).toInt = 0 ∧ 11 ≤ v2.toInt ∧ v2.toInt + 2 ≤ (fv P 301 13).toInt + 10) := by omega
    refine mt_callv (i := 190) (q' := q_169) (As := [.int v2]) (rest := []) hT dX7_reduces_13 rfl qm_169 (by decide) rfl rl_301 (by decide) rfl (Nat.le_of_ble_eq_true rfl) rfl ⟨rfl, rfl⟩ ⟨Nat.le_of_ble_eq_true rfl, Nat.le_of_ble_eq_true rfl⟩ (EvP.mono (by decide) (c_M_makes hT p7 )) (fun r8 P9 g10 => mpp 16 rfl ?_)
    obtain ⟨⟨rfl, g12⟩, hT13, k14, R15⟩ := g10
    have k16 : KW [1101, 1536, 1600] Po P9 := KW.trans hK k14 rfl
    have g12 : (fv P9 301 13).toInt + 1 ≤ (fv P 301 13).toInt := g12
    have g18 : (0 : Int) ≤ (fv P9 301 13).toInt ∧ (fv P9 301 13).toInt ≤ 8 := Typ.rng hT13 rl_301 (by decide) (by decide) rfl
    show MEvP _ none q_166 16 [(0, .ref 301), (1, .int v1), (2, .int v2)] [] _ _ _ _
    obtain ⟨z19, h20⟩ := ti_ex (v1 + 1 : Int32)
    have wz19 := ti_full z19
    refine mp_a (a_iinc (v := z19) (L' := [(1, .int z19), (0, .ref 301), (2, .int v2)]) dX7_reduces_16 (by decide) rfl h20 rfl) (mpp 19 rfl ?_)
    try have e21 : z19.toInt = v1.toInt + 1 := ti_addz h20 rfl rfl (by omega) (by omega)
    refine mp_a (a_aload_n dX7_reduces_19 rfl) (mpp 20 rfl ?_)
    refine mt_callv (i := 187) (q' := q_167) (As := []) (rest := []) hT13 dX7_reduces_20 rfl qm_167 (by decide) rfl rl_301 (by decide) rfl (Nat.le_of_ble_eq_true rfl) rfl ⟨rfl, rfl⟩ ⟨Nat.le_of_ble_eq_true rfl, Nat.le_of_ble_eq_true rfl⟩ (EvP.mono (by decide) (c_M_stepNow hT13 )) (fun r22 P23 g24 => mpp 23 rfl ?_)
    obtain ⟨⟨x25, rfl, g26⟩, e27⟩ := g24
    have e27 := e27.symm
    subst e27
    have wx25 := ti_full x25
    have g26 : x25.toInt = 0 ∨ (x25.toInt = 1 ∧ (fv P9 301 14).toInt = 0 ∧ 2 ≤ (fv P9 301 13).toInt) ∨ (x25.toInt = 2 ∧ (fv P9 301 14).toInt = 0 ∧ 2 ≤ (fv P9 301 13).toInt) ∨ ((fv P9 301 14).toInt = 1 ∧ 3 ≤ (fv P9 301 13).toInt ∧ 10 ≤ x25.toInt ∧ x25.toInt + 1 ≤ (fv P9 301 13).toInt + 10) ∨ ((fv P9 301 14).toInt = 0 ∧ 11 ≤ x25.toInt ∧ x25.toInt + 2 ≤ (fv P9 301 13).toInt + 10) := g26
    have e28 : (fv P9 301 14).toInt = (fv P 301 14).toInt := congrArg Int32.toInt (KW.at k14 14 rl_301 rfl)
    show MEvP _ none q_166 23 [(1, .int z19), (0, .ref 301), (2, .int v2)] [.int x25] _ _ _ _
    refine mp_a (a_istore_n (L' := [(2, .int x25), (1, .int z19), (0, .ref 301)]) dX7_reduces_23 (by decide) rfl) (mpp 24 rfl ?_)
    refine mp_a (a_goto (t := 7) dX7_reduces_24 (by decide)) ?_
    refine MEvP.less (L := [(0, .ref 301), (1, .int z19), (2, .int x25)]) rfl rfl ⟨rfl, rfl, rfl, trivial⟩ ?_
    have i29 : x25.toInt = 0 ∨ (x25.toInt = 1 ∧ (fv P9 301 14).toInt = 0 ∧ 2 ≤ (fv P9 301 13).toInt) ∨ (x25.toInt = 2 ∧ (fv P9 301 14).toInt = 0 ∧ 2 ≤ (fv P9 301 13).toInt) ∨ ((fv P9 301 14).toInt = 1 ∧ 3 ≤ (fv P9 301 13).toInt ∧ 10 ≤ x25.toInt ∧ x25.toInt + 1 ≤ (fv P9 301 13).toInt + 10) ∨ ((fv P9 301 14).toInt = 0 ∧ 11 ≤ x25.toInt ∧ x25.toInt + 2 ≤ (fv P9 301 13).toInt + 10) := by omega
    exact ih _ (by omega) _ _ P9 hT13 k16 i29 rfl

