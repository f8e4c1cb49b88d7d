/-! methods on typed pools, 33 (written by a program) -/
set_option maxHeartbeats 4000000 in
theorem c_M_crimped {Po : mP}  (hT : Typ Po)   : EvP 1 168 [.ref 301] Po (fun r P' => (∃ x : Int32, r = some (.int x) ∧ ((x.toInt = -1 ∨ ((fv Po 301 14).toInt = 1 ∧ 3 ≤ (fv Po 301 13).toInt ∧ 0 ≤ x.toInt ∧ x.toInt + 1 ≤ (fv Po 301 13).toInt) ∨ ((fv Po 301 14).toInt = 0 ∧ 1 ≤ x.toInt ∧ x.toInt + 2 ≤ (fv Po 301 13).toInt)) ∧ CPM (decide ((fv Po 301 14).toInt = 0)) (fv Po 301 13).toInt.toNat (fun j : Nat => fv Po 308 j) (GM Po) x.toInt)) ∧ P' = Po) := by
  refine EvP.of qm_168 (Nat.le_of_ble_eq_true rfl) rfl ?_
  show MEvP _ none q_168 0 [(0, .ref 301)] [] _ 0 0 _
  have g1 : (0 : Int) ≤ (fv Po 301 14).toInt ∧ (fv Po 301 14).toInt ≤ 1 := Typ.rng hT rl_301 (by decide) (by decide) rfl
  have g2 : (0 : Int) ≤ (fv Po 301 13).toInt ∧ (fv Po 301 13).toInt ≤ 8 := Typ.rng hT rl_301 (by decide) (by decide) rfl
  refine mp_a (a_aload_n dX7_crimped_0 rfl) (mpp 1 rfl ?_)
  refine mt_getI (i := 161) (k := 14) hT dX7_crimped_1 rfl rl_301 (by decide) rfl (by decide) rfl (fun g3 g4 => mpp 4 rfl ?_)
  refine mp_Tb (t := 17) (j_if_eq dX7_crimped_4) (by decide) (fun c5 => ?_) (fun c5 => mpp 7 rfl ?_)
  · have c5 : (fv Po 301 14).toInt = 0 := ti_eq c5
    refine mp_a (a_aload_n dX7_crimped_17 rfl) (mpp 18 rfl ?_)
    refine mt_getI (i := 161) (k := 14) hT dX7_crimped_18 rfl rl_301 (by decide) rfl (by decide) rfl (fun g6 g7 => mpp 21 rfl ?_)
    refine mp_Tb (t := 28) (j_if_eq dX7_crimped_21) (by decide) (fun c8 => ?_) (fun c8 => mpp 24 rfl ?_)
    · have c8 : (fv Po 301 14).toInt = 0 := ti_eq c8
      refine mp_a (a_iconst (v := 1) dX7_crimped_28 rfl) (mpp 29 rfl ?_)
      refine mp_a (a_istore_n (L' := [(1, .int 1), (0, .ref 301)]) dX7_crimped_29 (by decide) rfl) (mpp 30 rfl ?_)
      refine MEvP.less (L := [(0, .ref 301), (1, .int 1)]) rfl rfl ⟨rfl, rfl, trivial⟩ ?_
      have i9 : (fv Po 301 14).toInt ≠ 0 ∨ 1 ≤ (1 : Int) := by omega
      have i10 : 0 ≤ (1 : Int) := by omega
      have i11 : (fv Po 301 14).toInt = 0 ∨ 3 ≤ (fv Po 301 13).toInt := by omega
      have i12 : ∀ j : Nat, (1 ≤ (j : Int) ∨ (fv Po 301 14).toInt ≠ 0) → (j : Int) < (1 : Int) → ¬ CRf cM (fv Po 301 13).toInt.toNat (fun j : Nat => fv Po 308 j) (GM Po) j := fun j h1 h2 => absurd h2 (by omega)
      exact c_M_crimped_l30 hT   _ _ i9 i10 i11 i12 rfl
    · have c8 : (fv Po 301 14).toInt ≠ 0 := ti_eq_n c8
      refine mp_a (a_iconst (v := 0) dX7_crimped_24 rfl) (mpp 25 rfl ?_)
      refine mp_a (a_goto (t := 29) dX7_crimped_25 (by decide)) ?_
      refine mp_a (a_istore_n (L' := [(1, .int 0), (0, .ref 301)]) dX7_crimped_29 (by decide) rfl) (mpp 30 rfl ?_)
      refine MEvP.less (L := [(0, .ref 301), (1, .int 0)]) rfl rfl ⟨rfl, rfl, trivial⟩ ?_
      have i13 : (fv Po 301 14).toInt ≠ 0 ∨ 1 ≤ (0 : Int) := by omega
      have i14 : 0 ≤ (0 : Int) := by omega
      have i15 : (fv Po 301 14).toInt = 0 ∨ 3 ≤ (fv Po 301 13).toInt := by omega
      have i16 : ∀ j : Nat, (1 ≤ (j : Int) ∨ (fv Po 301 14).toInt ≠ 0) → (j : Int) < (0 : Int) → ¬ CRf cM (fv Po 301 13).toInt.toNat (fun j : Nat => fv Po 308 j) (GM Po) j := fun j h1 h2 => absurd h2 (by omega)
      exact c_M_crimped_l30 hT   _ _ i13 i14 i15 i16 rfl
  · have c5 : (fv Po 301 14).toInt ≠ 0 := ti_eq_n c5
    refine mp_a (a_aload_n dX7_crimped_7 rfl) (mpp 8 rfl ?_)
    refine mt_getI (i := 165) (k := 13) hT dX7_crimped_8 rfl rl_301 (by decide) rfl (by decide) rfl (fun g17 g18 => mpp 11 rfl ?_)
    refine mp_a (a_iconst (v := 2) dX7_crimped_11 rfl) (mpp 12 rfl ?_)
    refine mp_Tb (t := 17) (j_icmp_gt dX7_crimped_12) (by decide) (fun c19 => ?_) (fun c19 => mpp 15 rfl ?_)
    · have c19 : (fv Po 301 13).toInt > 2 := ti_gt c19
      refine mp_a (a_aload_n dX7_crimped_17 rfl) (mpp 18 rfl ?_)
      refine mt_getI (i := 161) (k := 14) hT dX7_crimped_18 rfl rl_301 (by decide) rfl (by decide) rfl (fun g20 g21 => mpp 21 rfl ?_)
      refine mp_Tb (t := 28) (j_if_eq dX7_crimped_21) (by decide) (fun c22 => ?_) (fun c22 => mpp 24 rfl ?_)
      · have c22 : (fv Po 301 14).toInt = 0 := ti_eq c22
        refine mp_a (a_iconst (v := 1) dX7_crimped_28 rfl) (mpp 29 rfl ?_)
        refine mp_a (a_istore_n (L' := [(1, .int 1), (0, .ref 301)]) dX7_crimped_29 (by decide) rfl) (mpp 30 rfl ?_)
        refine MEvP.less (L := [(0, .ref 301), (1, .int 1)]) rfl rfl ⟨rfl, rfl, trivial⟩ ?_
        have i23 : (fv Po 301 14).toInt ≠ 0 ∨ 1 ≤ (1 : Int) := by omega
        have i24 : 0 ≤ (1 : Int) := by omega
        have i25 : (fv Po 301 14).toInt = 0 ∨ 3 ≤ (fv Po 301 13).toInt := by omega
        have i26 : ∀ j : Nat, (1 ≤ (j : Int) ∨ (fv Po 301 14).toInt ≠ 0) → (j : Int) < (1 : Int) → ¬ CRf cM (fv Po 301 13).toInt.toNat (fun j : Nat => fv Po 308 j) (GM Po) j := fun j h1 h2 => absurd h2 (by omega)
        exact c_M_crimped_l30 hT   _ _ i23 i24 i25 i26 rfl
      · have c22 : (fv Po 301 14).toInt ≠ 0 := ti_eq_n c22
        refine mp_a (a_iconst (v := 0) dX7_crimped_24 rfl) (mpp 25 rfl ?_)
        refine mp_a (a_goto (t := 29) dX7_crimped_25 (by decide)) ?_
        refine mp_a (a_istore_n (L' := [(1, .int 0), (0, .ref 301)]) dX7_crimped_29 (by decide) rfl) (mpp 30 rfl ?_)
        refine MEvP.less (L := [(0, .ref 301), (1, .int 0)]) rfl rfl ⟨rfl, rfl, trivial⟩ ?_
        have i27 : (fv Po 301 14).toInt ≠ 0 ∨ 1 ≤ (0 : Int) := by omega
        have i28 : 0 ≤ (0 : Int) := by omega
        have i29 : (fv Po 301 14).toInt = 0 ∨ 3 ≤ (fv Po 301 13).toInt := by omega
        have i30 : ∀ j : Nat, (1 ≤ (j : Int) ∨ (fv Po 301 14).toInt ≠ 0) → (j : Int) < (0 : Int) → ¬ CRf cM (fv Po 301 13).toInt.toNat (fun j : Nat => fv Po 308 j) (GM Po) j := fun j h1 h2 => absurd h2 (by omega)
        exact c_M_crimped_l30 hT   _ _ i27 i28 i29 i30 rfl
    · have c19 : (fv Po 301 13).toInt ≤ 2 := ti_gt_n c19
      refine mp_a (a_iconst (v := -1) dX7_crimped_15 rfl) (mpp 16 rfl ?_)
      have u31 : ((-1 : Int) = -1 ∨ ((fv Po 301 14).toInt = 1 ∧ 3 ≤ (fv Po 301 13).toInt ∧ 0 ≤ (-1 : Int) ∧ (-1 : Int) + 1 ≤ (fv Po 301 13).toInt) ∨ ((fv Po 301 14).toInt = 0 ∧ 1 ≤ (-1 : Int) ∧ (-1 : Int) + 2 ≤ (fv Po 301 13).toInt)) ∧ CPM (decide ((fv Po 301 14).toInt = 0)) (fv Po 301 13).toInt.toNat (fun j : Nat => fv Po 308 j) (GM Po) (-1 : Int) := ⟨by omega, by rw [decide_eq_false (show ¬ (fv Po 301 14).toInt = 0 from by omega)]; exact Or.inl ⟨rfl, by omega, rfl⟩⟩
      exact mp_iret ⟨⟨_, rfl, u31⟩, rfl⟩ dX7_crimped_16 (Or.inl rfl)

set_option maxHeartbeats 4000000 in
theorem c_M_stepNow {Po : mP}  (hT : Typ Po)   : EvP 2 167 [.ref 301] Po (fun r P' => (∃ x : Int32, r = some (.int x) ∧ ((x.toInt = 0 ∨ (x.toInt = 1 ∧ (fv Po 301 14).toInt = 0 ∧ 2 ≤ (fv Po 301 13).toInt) ∨ (x.toInt = 2 ∧ (fv Po 301 14).toInt = 0 ∧ 2 ≤ (fv Po 301 13).toInt) ∨ ((fv Po 301 14).toInt = 1 ∧ 3 ≤ (fv Po 301 13).toInt ∧ 10 ≤ x.toInt ∧ x.toInt + 1 ≤ (fv Po 301 13).toInt + 10) ∨ ((fv Po 301 14).toInt = 0 ∧ 11 ≤ x.toInt ∧ x.toInt + 2 ≤ (fv Po 301 13).toInt + 10)) ∧ FS cM (rM Po) x.toInt)) ∧ P' = Po) := by
  refine EvP.of qm_167 (Nat.le_of_ble_eq_true rfl) rfl ?_
  show MEvP _ none q_167 0 [(0, .ref 301)] [] _ 0 0 _
  have g1 : (0 : Int) ≤ (fv Po 301 14).toInt ∧ (fv Po 301 14).toInt ≤ 1 := Typ.rng hT rl_301 (by decide) (by decide) rfl
  have g2 : (0 : Int) ≤ (fv Po 301 13).toInt ∧ (fv Po 301 13).toInt ≤ 8 := Typ.rng hT rl_301 (by decide) (by decide) rfl
  refine mp_a (a_aload_n dX7_stepNow_0 rfl) (mpp 1 rfl ?_)
  refine mt_getI (i := 161) (k := 14) hT dX7_stepNow_1 rfl rl_301 (by decide) rfl (by decide) rfl (fun g3 g4 => mpp 4 rfl ?_)
  refine mp_Tb (t := 59) (j_if_ne dX7_stepNow_4) (by decide) (fun c5 => ?_) (fun c5 => mpp 7 rfl ?_)
  · have c5 : (fv Po 301 14).toInt ≠ 0 := ti_ne c5
    refine mp_a (a_aload_n dX7_stepNow_59 rfl) (mpp 60 rfl ?_)
    refine mt_callv (i := 168) (q' := q_168) (As := []) (rest := []) hT dX7_stepNow_60 rfl qm_168 (by decide) rfl rl_301 (by decide) rfl (Nat.le_of_ble_eq_true rfl) rfl ⟨rfl, rfl⟩ ⟨Nat.le_of_ble_eq_true rfl, Nat.le_of_ble_eq_true rfl⟩ (EvP.mono (by decide) (c_M_crimped hT )) (fun r6 P7 g8 => mpp 63 rfl ?_)
    obtain ⟨⟨x9, rfl, g10⟩, e11⟩ := g8
    have e11 := e11.symm
    subst e11
    have wx9 := ti_full x9
    replace g10 : (x9.toInt = -1 ∨ ((fv Po 301 14).toInt = 1 ∧ 3 ≤ (fv Po 301 13).toInt ∧ 0 ≤ x9.toInt ∧ x9.toInt + 1 ≤ (fv Po 301 13).toInt) ∨ ((fv Po 301 14).toInt = 0 ∧ 1 ≤ x9.toInt ∧ x9.toInt + 2 ≤ (fv Po 301 13).toInt)) ∧ CPM (decide ((fv Po 301 14).toInt = 0)) (fv Po 301 13).toInt.toNat (fun j : Nat => fv Po 308 j) (GM Po) x9.toInt := g10
    show MEvP _ none q_167 63 [(0, .ref 301)] [.int x9] _ _ _ _
    refine mp_a (a_istore_n (L' := [(1, .int x9), (0, .ref 301)]) dX7_stepNow_63 (by decide) rfl) (mpp 64 rfl ?_)
    refine mp_a (a_iload_n dX7_stepNow_64 rfl) (mpp 65 rfl ?_)
    refine mp_Tb (t := 72) (j_if_ge dX7_stepNow_65) (by decide) (fun c12 => ?_) (fun c12 => mpp 68 rfl ?_)
    · have c12 : x9.toInt ≥ 0 := ti_ge c12
      refine mp_a (a_bipush (v := 10) dX7_stepNow_72 rfl) (mpp 74 rfl ?_)
      refine mp_a (a_iload_n dX7_stepNow_74 rfl) (mpp 75 rfl ?_)
      obtain ⟨z13, h14⟩ := ti_ex (10 + x9 : Int32)
      have wz13 := ti_full z13
      refine mp_t (s_iadd (v := z13) dX7_stepNow_75 h14) (mpp 76 rfl ?_)
      try have e15 : z13.toInt = 10 + x9.toInt := ti_addz h14 rfl rfl (by omega) (by omega)
      have w17_ := g10.2
      have u16 : (z13.toInt = 0 ∨ (z13.toInt = 1 ∧ (fv Po 301 14).toInt = 0 ∧ 2 ≤ (fv Po 301 13).toInt) ∨ (z13.toInt = 2 ∧ (fv Po 301 14).toInt = 0 ∧ 2 ≤ (fv Po 301 13).toInt) ∨ ((fv Po 301 14).toInt = 1 ∧ 3 ≤ (fv Po 301 13).toInt ∧ 10 ≤ z13.toInt ∧ z13.toInt + 1 ≤ (fv Po 301 13).toInt + 10) ∨ ((fv Po 301 14).toInt = 0 ∧ 11 ≤ z13.toInt ∧ z13.toInt + 2 ≤ (fv Po 301 13).toInt + 10)) ∧ FS cM (rM Po) z13.toInt := ⟨by omega, if hk : (fv Po 301 14).toInt = 0 then (by rw [rM_eq]; rw [decide_eq_true hk] at w17_ ⊢; exact FS_tm (FSf.of_strip w17_ (by have : (fv Po 301 13).toInt.toNat < 2 ∨ (¬ (fv Po 308 0).toInt ≤ (fv Po 308 1).toInt ∧ ¬ (fv Po 308 ((fv Po 301 13).toInt.toNat - 1)).toInt ≤ (fv Po 308 ((fv Po 301 13).toInt.toNat - 2)).toInt) := (by omega); exact this) (by omega))) else (by rw [rM_eq]; rw [decide_eq_false hk] at w17_ ⊢; exact FS_tm (FSf.of_corner w17_ (by omega)))⟩
      exact mp_iret ⟨⟨_, rfl, u16⟩, rfl⟩ dX7_stepNow_76 (Or.inl rfl)
    · have c12 : x9.toInt < 0 := ti_ge_n c12
      refine mp_a (a_iconst (v := 0) dX7_stepNow_68 rfl) (mpp 69 rfl ?_)
      refine mp_a (a_goto (t := 76) dX7_stepNow_69 (by decide)) ?_
      have w19_ := g10.2
      have u18 : ((0 : Int) = 0 ∨ ((0 : Int) = 1 ∧ (fv Po 301 14).toInt = 0 ∧ 2 ≤ (fv Po 301 13).toInt) ∨ ((0 : Int) = 2 ∧ (fv Po 301 14).toInt = 0 ∧ 2 ≤ (fv Po 301 13).toInt) ∨ ((fv Po 301 14).toInt = 1 ∧ 3 ≤ (fv Po 301 13).toInt ∧ 10 ≤ (0 : Int) ∧ (0 : Int) + 1 ≤ (fv Po 301 13).toInt + 10) ∨ ((fv Po 301 14).toInt = 0 ∧ 11 ≤ (0 : Int) ∧ (0 : Int) + 2 ≤ (fv Po 301 13).toInt + 10)) ∧ FS cM (rM Po) (0 : Int) := ⟨by omega, if hk : (fv Po 301 14).toInt = 0 then (by rw [rM_eq]; rw [decide_eq_true hk] at w19_ ⊢; exact FS_tm (FSf.of_strip w19_ (by have : (fv Po 301 13).toInt.toNat < 2 ∨ (¬ (fv Po 308 0).toInt ≤ (fv Po 308 1).toInt ∧ ¬ (fv Po 308 ((fv Po 301 13).toInt.toNat - 1)).toInt ≤ (fv Po 308 ((fv Po 301 13).toInt.toNat - 2)).toInt) := (by omega); exact this) (by omega))) else (by rw [rM_eq]; rw [decide_eq_false hk] at w19_ ⊢; exact FS_tm (FSf.of_corner w19_ (by omega)))⟩
      exact mp_iret ⟨⟨_, rfl, u18⟩, rfl⟩ dX7_stepNow_76 (Or.inl rfl)
  · have c5 : (fv Po 301 14).toInt = 0 := ti_ne_n c5
    refine mp_a (a_aload_n dX7_stepNow_7 rfl) (mpp 8 rfl ?_)
    refine mt_getI (i := 165) (k := 13) hT dX7_stepNow_8 rfl rl_301 (by decide) rfl (by decide) rfl (fun g20 g21 => mpp 11 rfl ?_)
    refine mp_a (a_iconst (v := 1) dX7_stepNow_11 rfl) (mpp 12 rfl ?_)
    refine mp_Tb (t := 59) (j_icmp_le dX7_stepNow_12) (by decide) (fun c22 => ?_) (fun c22 => mpp 15 rfl ?_)
    · have c22 : (fv Po 301 13).toInt ≤ 1 := ti_le c22
      refine mp_a (a_aload_n dX7_stepNow_59 rfl) (mpp 60 rfl ?_)
      refine mt_callv (i := 168) (q' := q_168) (As := []) (rest := []) hT dX7_stepNow_60 rfl qm_168 (by decide) rfl rl_301 (by decide) rfl (Nat.le_of_ble_eq_true rfl) rfl ⟨rfl, rfl⟩ ⟨Nat.le_of_ble_eq_true rfl, Nat.le_of_ble_eq_true rfl⟩ (EvP.mono (by decide) (c_M_crimped hT )) (fun r23 P24 g25 => mpp 63 rfl ?_)
      obtain ⟨⟨x26, rfl, g27⟩, e28⟩ := g25
      have e28 := e28.symm
      subst e28
      have wx26 := ti_full x26
      replace g27 : (x26.toInt = -1 ∨ ((fv Po 301 14).toInt = 1 ∧ 3 ≤ (fv Po 301 13).toInt ∧ 0 ≤ x26.toInt ∧ x26.toInt + 1 ≤ (fv Po 301 13).toInt) ∨ ((fv Po 301 14).toInt = 0 ∧ 1 ≤ x26.toInt ∧ x26.toInt + 2 ≤ (fv Po 301 13).toInt)) ∧ CPM (decide ((fv Po 301 14).toInt = 0)) (fv Po 301 13).toInt.toNat (fun j : Nat => fv Po 308 j) (GM Po) x26.toInt := g27
      show MEvP _ none q_167 63 [(0, .ref 301)] [.int x26] _ _ _ _
      refine mp_a (a_istore_n (L' := [(1, .int x26), (0, .ref 301)]) dX7_stepNow_63 (by decide) rfl) (mpp 64 rfl ?_)
      refine mp_a (a_iload_n dX7_stepNow_64 rfl) (mpp 65 rfl ?_)
      refine mp_Tb (t := 72) (j_if_ge dX7_stepNow_65) (by decide) (fun c29 => ?_) (fun c29 => mpp 68 rfl ?_)
      · have c29 : x26.toInt ≥ 0 := ti_ge c29
        refine mp_a (a_bipush (v := 10) dX7_stepNow_72 rfl) (mpp 74 rfl ?_)
        refine mp_a (a_iload_n dX7_stepNow_74 rfl) (mpp 75 rfl ?_)
        obtain ⟨z30, h31⟩ := ti_ex (10 + x26 : Int32)
        have wz30 := ti_full z30
        refine mp_t (s_iadd (v := z30) dX7_stepNow_75 h31) (mpp 76 rfl ?_)
        try have e32 : z30.toInt = 10 + x26.toInt := ti_addz h31 rfl rfl (by omega) (by omega)
        have w34_ := g27.2
        have u33 : (z30.toInt = 0 ∨ (z30.toInt = 1 ∧ (fv Po 301 14).toInt = 0 ∧ 2 ≤ (fv Po 301 13).toInt) ∨ (z30.toInt = 2 ∧ (fv Po 301 14).toInt = 0 ∧ 2 ≤ (fv Po 301 13).toInt) ∨ ((fv Po 301 14).toInt = 1 ∧ 3 ≤ (fv Po 301 13).toInt ∧ 10 ≤ z30.toInt ∧ z30.toInt + 1 ≤ (fv Po 301 13).toInt + 10) ∨ ((fv Po 301 14).toInt = 0 ∧ 11 ≤ z30.toInt ∧ z30.toInt + 2 ≤ (fv Po 301 13).toInt + 10)) ∧ FS cM (rM Po) z30.toInt := ⟨by omega, if hk : (fv Po 301 14).toInt = 0 then (by rw [rM_eq]; rw [decide_eq_true hk] at w34_ ⊢; exact FS_tm (FSf.of_strip w34_ (by have : (fv Po 301 13).toInt.toNat < 2 ∨ (¬ (fv Po 308 0).toInt ≤ (fv Po 308 1).toInt ∧ ¬ (fv Po 308 ((fv Po 301 13).toInt.toNat - 1)).toInt ≤ (fv Po 308 ((fv Po 301 13).toInt.toNat - 2)).toInt) := (by omega); exact this) (by omega))) else (by rw [rM_eq]; rw [decide_eq_false hk] at w34_ ⊢; exact FS_tm (FSf.of_corner w34_ (by omega)))⟩
        exact mp_iret ⟨⟨_, rfl, u33⟩, rfl⟩ dX7_stepNow_76 (Or.inl rfl)
      · have c29 : x26.toInt < 0 := ti_ge_n c29
        refine mp_a (a_iconst (v := 0) dX7_stepNow_68 rfl) (mpp 69 rfl ?_)
        refine mp_a (a_goto (t := 76) dX7_stepNow_69 (by decide)) ?_
        have w36_ := g27.2
        have u35 : ((0 : Int) = 0 ∨ ((0 : Int) = 1 ∧ (fv Po 301 14).toInt = 0 ∧ 2 ≤ (fv Po 301 13).toInt) ∨ ((0 : Int) = 2 ∧ (fv Po 301 14).toInt = 0 ∧ 2 ≤ (fv Po 301 13).toInt) ∨ ((fv Po 301 14).toInt = 1 ∧ 3 ≤ (fv Po 301 13).toInt ∧ 10 ≤ (0 : Int) ∧ (0 : Int) + 1 ≤ (fv Po 301 13).toInt + 10) ∨ ((fv Po 301 14).toInt = 0 ∧ 11 ≤ (0 : Int) ∧ (0 : Int) + 2 ≤ (fv Po 301 13).toInt + 10)) ∧ FS cM (rM Po) (0 : Int) := ⟨by omega, if hk : (fv Po 301 14).toInt = 0 then (by rw [rM_eq]; rw [decide_eq_true hk] at w36_ ⊢; exact FS_tm (FSf.of_strip w36_ (by have : (fv Po 301 13).toInt.toNat < 2 ∨ (¬ (fv Po 308 0).toInt ≤ (fv Po 308 1).toInt ∧ ¬ (fv Po 308 ((fv Po 301 13).toInt.toNat - 1)).toInt ≤ (fv Po 308 ((fv Po 301 13).toInt.toNat - 2)).toInt) := (by omega); exact this) (by omega))) else (by rw [rM_eq]; rw [decide_eq_false hk] at w36_ ⊢; exact FS_tm (FSf.of_corner w36_ (by omega)))⟩
        exact mp_iret ⟨⟨_, rfl, u35⟩, rfl⟩ dX7_stepNow_76 (Or.inl rfl)
    · have c22 : (fv Po 301 13).toInt > 1 := ti_le_n c22
      refine mp_a (a_aload_n dX7_stepNow_15 rfl) (mpp 16 rfl ?_)
      refine mt_getU (i := 28) (k := 11) (A := 308) hT dX7_stepNow_16 rfl rl_301 (by decide) rfl (by decide) rfl un_24 (mpp 19 rfl ?_)
      refine mp_a (a_iconst (v := 0) dX7_stepNow_19 rfl) (mpp 20 rfl ?_)
      refine mt_ial (n := 8) hT dX7_stepNow_20 rl_308 (by decide) rfl rfl (by decide) (by decide) rfl (fun g37 g38 => mpp 21 rfl ?_)
      refine mp_a (a_aload_n dX7_stepNow_21 rfl) (mpp 22 rfl ?_)
      refine mt_getU (i := 28) (k := 11) (A := 308) hT dX7_stepNow_22 rfl rl_301 (by decide) rfl (by decide) rfl un_24 (mpp 25 rfl ?_)
      refine mp_a (a_iconst (v := 1) dX7_stepNow_25 rfl) (mpp 26 rfl ?_)
      refine mt_ial (n := 8) hT dX7_stepNow_26 rl_308 (by decide) rfl rfl (by decide) (by decide) rfl (fun g39 g40 => mpp 27 rfl ?_)
      refine mp_Tb (t := 32) (j_icmp_gt dX7_stepNow_27) (by decide) (fun c41 => ?_) (fun c41 => mpp 30 rfl ?_)
      · have c41 : (fv Po 308 0).toInt > (fv Po 308 1).toInt := ti_gt c41
        refine mp_a (a_aload_n dX7_stepNow_32 rfl) (mpp 33 rfl ?_)
        refine mt_getU (i := 28) (k := 11) (A := 308) hT dX7_stepNow_33 rfl rl_301 (by decide) rfl (by decide) rfl un_24 (mpp 36 rfl ?_)
        refine mp_a (a_aload_n dX7_stepNow_36 rfl) (mpp 37 rfl ?_)
        refine mt_getI (i := 165) (k := 13) hT dX7_stepNow_37 rfl rl_301 (by decide) rfl (by decide) rfl (fun g42 g43 => mpp 40 rfl ?_)
        refine mp_a (a_iconst (v := 1) dX7_stepNow_40 rfl) (mpp 41 rfl ?_)
        obtain ⟨z44, h45⟩ := ti_ex ((fv Po 301 13) - 1 : Int32)
        have wz44 := ti_full z44
        refine mp_t (s_isub (v := z44) dX7_stepNow_41 h45) (mpp 42 rfl ?_)
        try have e46 : z44.toInt = (fv Po 301 13).toInt - 1 := ti_subz h45 rfl rfl (by omega) (by omega)
        refine mt_ial (n := 8) hT dX7_stepNow_42 rl_308 (by decide) rfl rfl (by omega) (by omega) rfl (fun g47 g48 => mpp 43 rfl ?_)
        refine mp_a (a_aload_n dX7_stepNow_43 rfl) (mpp 44 rfl ?_)
        refine mt_getU (i := 28) (k := 11) (A := 308) hT dX7_stepNow_44 rfl rl_301 (by decide) rfl (by decide) rfl un_24 (mpp 47 rfl ?_)
        refine mp_a (a_aload_n dX7_stepNow_47 rfl) (mpp 48 rfl ?_)
        refine mt_getI (i := 165) (k := 13) hT dX7_stepNow_48 rfl rl_301 (by decide) rfl (by decide) rfl (fun g49 g50 => mpp 51 rfl ?_)
        refine mp_a (a_iconst (v := 2) dX7_stepNow_51 rfl) (mpp 52 rfl ?_)
        obtain ⟨z51, h52⟩ := ti_ex ((fv Po 301 13) - 2 : Int32)
        have wz51 := ti_full z51
        refine mp_t (s_isub (v := z51) dX7_stepNow_52 h52) (mpp 53 rfl ?_)
        try have e53 : z51.toInt = (fv Po 301 13).toInt - 2 := ti_subz h52 rfl rfl (by omega) (by omega)
        refine mt_ial (n := 8) hT dX7_stepNow_53 rl_308 (by decide) rfl rfl (by omega) (by omega) rfl (fun g54 g55 => mpp 54 rfl ?_)
        refine mp_Tb (t := 59) (j_icmp_gt dX7_stepNow_54) (by decide) (fun c56 => ?_) (fun c56 => mpp 57 rfl ?_)
        · have c56 : (fv Po 308 z44.toInt.toNat).toInt > (fv Po 308 z51.toInt.toNat).toInt := ti_gt c56
          refine mp_a (a_aload_n dX7_stepNow_59 rfl) (mpp 60 rfl ?_)
          refine mt_callv (i := 168) (q' := q_168) (As := []) (rest := []) hT dX7_stepNow_60 rfl qm_168 (by decide) rfl rl_301 (by decide) rfl (Nat.le_of_ble_eq_true rfl) rfl ⟨rfl, rfl⟩ ⟨Nat.le_of_ble_eq_true rfl, Nat.le_of_ble_eq_true rfl⟩ (EvP.mono (by decide) (c_M_crimped hT )) (fun r57 P58 g59 => mpp 63 rfl ?_)
          obtain ⟨⟨x60, rfl, g61⟩, e62⟩ := g59
          have e62 := e62.symm
          subst e62
          have wx60 := ti_full x60
          replace g61 : (x60.toInt = -1 ∨ ((fv Po 301 14).toInt = 1 ∧ 3 ≤ (fv Po 301 13).toInt ∧ 0 ≤ x60.toInt ∧ x60.toInt + 1 ≤ (fv Po 301 13).toInt) ∨ ((fv Po 301 14).toInt = 0 ∧ 1 ≤ x60.toInt ∧ x60.toInt + 2 ≤ (fv Po 301 13).toInt)) ∧ CPM (decide ((fv Po 301 14).toInt = 0)) (fv Po 301 13).toInt.toNat (fun j : Nat => fv Po 308 j) (GM Po) x60.toInt := g61
          show MEvP _ none q_167 63 [(0, .ref 301)] [.int x60] _ _ _ _
          refine mp_a (a_istore_n (L' := [(1, .int x60), (0, .ref 301)]) dX7_stepNow_63 (by decide) rfl) (mpp 64 rfl ?_)
          refine mp_a (a_iload_n dX7_stepNow_64 rfl) (mpp 65 rfl ?_)
          refine mp_Tb (t := 72) (j_if_ge dX7_stepNow_65) (by decide) (fun c63 => ?_) (fun c63 => mpp 68 rfl ?_)
          · have c63 : x60.toInt ≥ 0 := ti_ge c63
            refine mp_a (a_bipush (v := 10) dX7_stepNow_72 rfl) (mpp 74 rfl ?_)
            refine mp_a (a_iload_n dX7_stepNow_74 rfl) (mpp 75 rfl ?_)
            obtain ⟨z64, h65⟩ := ti_ex (10 + x60 : Int32)
            have wz64 := ti_full z64
            refine mp_t (s_iadd (v := z64) dX7_stepNow_75 h65) (mpp 76 rfl ?_)
            try have e66 : z64.toInt = 10 + x60.toInt := ti_addz h65 rfl rfl (by omega) (by omega)
            try have q68 : (fv Po 308 z44.toInt.toNat).toInt = (fv Po 308 ((fv Po 301 13).toInt.toNat - 1)).toInt := by rw [show z44.toInt.toNat = (fv Po 301 13).toInt.toNat - 1 from by omega]
            try have q69 : (fv Po 308 z51.toInt.toNat).toInt = (fv Po 308 ((fv Po 301 13).toInt.toNat - 2)).toInt := by rw [show z51.toInt.toNat = (fv Po 301 13).toInt.toNat - 2 from by omega]
            have w70_ := g61.2
            have u67 : (z64.toInt = 0 ∨ (z64.toInt = 1 ∧ (fv Po 301 14).toInt = 0 ∧ 2 ≤ (fv Po 301 13).toInt) ∨ (z64.toInt = 2 ∧ (fv Po 301 14).toInt = 0 ∧ 2 ≤ (fv Po 301 13).toInt) ∨ ((fv Po 301 14).toInt = 1 ∧ 3 ≤ (fv Po 301 13).toInt ∧ 10 ≤ z64.toInt ∧ z64.toInt + 1 ≤ (fv Po 301 13).toInt + 10) ∨ ((fv Po 301 14).toInt = 0 ∧ 11 ≤ z64.toInt ∧ z64.toInt + 2 ≤ (fv Po 301 13).toInt + 10)) ∧ FS cM (rM Po) z64.toInt := ⟨by omega, if hk : (fv Po 301 14).toInt = 0 then (by rw [rM_eq]; rw [decide_eq_true hk] at w70_ ⊢; exact FS_tm (FSf.of_strip w70_ (by have : (fv Po 301 13).toInt.toNat < 2 ∨ (¬ (fv Po 308 0).toInt ≤ (fv Po 308 1).toInt ∧ ¬ (fv Po 308 ((fv Po 301 13).toInt.toNat - 1)).toInt ≤ (fv Po 308 ((fv Po 301 13).toInt.toNat - 2)).toInt) := (by omega); exact this) (by omega))) else (by rw [rM_eq]; rw [decide_eq_false hk] at w70_ ⊢; exact FS_tm (FSf.of_corner w70_ (by omega)))⟩
            exact mp_iret ⟨⟨_, rfl, u67⟩, rfl⟩ dX7_stepNow_76 (Or.inl rfl)
          · have c63 : x60.toInt < 0 := ti_ge_n c63
            refine mp_a (a_iconst (v := 0) dX7_stepNow_68 rfl) (mpp 69 rfl ?_)
            refine mp_a (a_goto (t := 76) dX7_stepNow_69 (by decide)) ?_
            try have q72 : (fv Po 308 z44.toInt.toNat).toInt = (fv Po 308 ((fv Po 301 13).toInt.toNat - 1)).toInt := by rw [show z44.toInt.toNat = (fv Po 301 13).toInt.toNat - 1 from by omega]
            try have q73 : (fv Po 308 z51.toInt.toNat).toInt = (fv Po 308 ((fv Po 301 13).toInt.toNat - 2)).toInt := by rw [show z51.toInt.toNat = (fv Po 301 13).toInt.toNat - 2 from by omega]
            have w74_ := g61.2
            have u71 : ((0 : Int) = 0 ∨ ((0 : Int) = 1 ∧ (fv Po 301 14).toInt = 0 ∧ 2 ≤ (fv Po 301 13).toInt) ∨ ((0 : Int) = 2 ∧ (fv Po 301 14).toInt = 0 ∧ 2 ≤ (fv Po 301 13).toInt) ∨ ((fv Po 301 14).toInt = 1 ∧ 3 ≤ (fv Po 301 13).toInt ∧ 10 ≤ (0 : Int) ∧ (0 : Int) + 1 ≤ (fv Po 301 13).toInt + 10) ∨ ((fv Po 301 14).toInt = 0 ∧ 11 ≤ (0 : Int) ∧ (0 : Int) + 2 ≤ (fv Po 301 13).toInt + 10)) ∧ FS cM (rM Po) (0 : Int) := ⟨by omega, if hk : (fv Po 301 14).toInt = 0 then (by rw [rM_eq]; rw [decide_eq_true hk] at w74_ ⊢; exact FS_tm (FSf.of_strip w74_ (by have : (fv Po 301 13).toInt.toNat < 2 ∨ (¬ (fv Po 308 0).toInt ≤ (fv Po 308 1).toInt ∧ ¬ (fv Po 308 ((fv Po 301 13).toInt.toNat - 1)).toInt ≤ (fv Po 308 ((fv Po 301 13).toInt.toNat - 2)).toInt) := (by omega); exact this) (by omega))) else (by rw [rM_eq]; rw [decide_eq_false hk] at w74_ ⊢; exact FS_tm (FSf.of_corner w74_ (by omega)))⟩
            exact mp_iret ⟨⟨_, rfl, u71⟩, rfl⟩ dX7_stepNow_76 (Or.inl rfl)
        · have c56 : (fv Po 308 z44.toInt.toNat).toInt ≤ (fv Po 308 z51.toInt.toNat).toInt := ti_gt_n c56
          refine mp_a (a_iconst (v := 2) dX7_stepNow_57 rfl) (mpp 58 rfl ?_)
          try have q76 : (fv Po 308 z44.toInt.toNat).toInt = (fv Po 308 ((fv Po 301 13).toInt.toNat - 1)).toInt := by rw [show z44.toInt.toNat = (fv Po 301 13).toInt.toNat - 1 from by omega]
          try have q77 : (fv Po 308 z51.toInt.toNat).toInt = (fv Po 308 ((fv Po 301 13).toInt.toNat - 2)).toInt := by rw [show z51.toInt.toNat = (fv Po 301 13).toInt.toNat - 2 from by omega]
          have u75 : ((2 : Int) = 0 ∨ ((2 : Int) = 1 ∧ (fv Po 301 14).toInt = 0 ∧ 2 ≤ (fv Po 301 13).toInt) ∨ ((2 : Int) = 2 ∧ (fv Po 301 14).toInt = 0 ∧ 2 ≤ (fv Po 301 13).toInt) ∨ ((fv Po 301 14).toInt = 1 ∧ 3 ≤ (fv Po 301 13).toInt ∧ 10 ≤ (2 : Int) ∧ (2 : Int) + 1 ≤ (fv Po 301 13).toInt + 10) ∨ ((fv Po 301 14).toInt = 0 ∧ 11 ≤ (2 : Int) ∧ (2 : Int) + 2 ≤ (fv Po 301 13).toInt + 10)) ∧ FS cM (rM Po) (2 : Int) := ⟨by omega, by rw [rM_eq, decide_eq_true (show (fv Po 301 14).toInt = 0 from by omega)]; exact FS_tm (Or.inr (Or.inr (Or.inl ⟨by omega, rfl, by show ¬ (fv Po 308 0).toInt ≤ (fv Po 308 1).toInt; omega, by show (fv Po 308 ((fv Po 301 13).toInt.toNat - 1)).toInt ≤ (fv Po 308 ((fv Po 301 13).toInt.toNat - 2)).toInt; omega, rfl⟩)))⟩
          exact mp_iret ⟨⟨_, rfl, u75⟩, rfl⟩ dX7_stepNow_58 (Or.inl rfl)
      · have c41 : (fv Po 308 0).toInt ≤ (fv Po 308 1).toInt := ti_gt_n c41
        refine mp_a (a_iconst (v := 1) dX7_stepNow_30 rfl) (mpp 31 rfl ?_)
        try have q79 : (fv Po 308 z44.toInt.toNat).toInt = (fv Po 308 ((fv Po 301 13).toInt.toNat - 1)).toInt := by rw [show z44.toInt.toNat = (fv Po 301 13).toInt.toNat - 1 from by omega]
        try have q80 : (fv Po 308 z51.toInt.toNat).toInt = (fv Po 308 ((fv Po 301 13).toInt.toNat - 2)).toInt := by rw [show z51.toInt.toNat = (fv Po 301 13).toInt.toNat - 2 from by omega]
        have u78 : ((1 : Int) = 0 ∨ ((1 : Int) = 1 ∧ (fv Po 301 14).toInt = 0 ∧ 2 ≤ (fv Po 301 13).toInt) ∨ ((1 : Int) = 2 ∧ (fv Po 301 14).toInt = 0 ∧ 2 ≤ (fv Po 301 13).toInt) ∨ ((fv Po 301 14).toInt = 1 ∧ 3 ≤ (fv Po 301 13).toInt ∧ 10 ≤ (1 : Int) ∧ (1 : Int) + 1 ≤ (fv Po 301 13).toInt + 10) ∨ ((fv Po 301 14).toInt = 0 ∧ 11 ≤ (1 : Int) ∧ (1 : Int) + 2 ≤ (fv Po 301 13).toInt + 10)) ∧ FS cM (rM Po) (1 : Int) := ⟨by omega, by rw [rM_eq, decide_eq_true (show (fv Po 301 14).toInt = 0 from by omega)]; exact FS_tm (Or.inr (Or.inl ⟨by omega, rfl, by show (fv Po 308 0).toInt ≤ (fv Po 308 1).toInt; omega, rfl⟩))⟩
        exact mp_iret ⟨⟨_, rfl, u78⟩, rfl⟩ dX7_stepNow_31 (Or.inl rfl)

set_option maxHeartbeats 4000000 in
theorem c_M_dropsSize_l2 {Po : mP} {t1 : Int32} (hp0 : 0 ≤ t1.toInt) (hp1 : t1.toInt ≤ 8)  : ∀ (n : Nat) (v2 : Int32), ∀ (P : mP), Typ P → KW [1536] Po P → (0 ≤ v2.toInt) → (v2.toInt ≤ 8) → (TKL Po P 308 t1.toInt.toNat v2.toInt.toNat) → (t1.toInt ≤ v2.toInt) → (KI 308 309 Po P) → ((fv P 301 13).toInt = (fv Po 301 13).toInt) → (2147483647 - v2.toInt).toNat = n → MEvP 0 none q_170 2 [(0, .ref 301), (1, .int t1), (2, .int v2)] [] P 0 0 (fun r P' => (r = none ∧ ((∀ j : Nat, (j : Int) + 1 < (fv Po 301 13).toInt → fv P' 308 j = tk t1.toInt.toNat (fun j : Nat => fv Po 308 j) j))) ∧ Typ P' ∧ KW [1536] Po P' ∧ KI 308 309 Po P') := by
  intro n
  induction n using Nat.strongRecOn with | _ n ih => ?_
  intro v2 P hT hK i_0 i_1 i_2 i_3 i_4 i_5 hm
  have w_t1 := ti_full t1
  have w_v2 := ti_full v2
  have e1 : (fv P 301 13).toInt = (fv Po 301 13).toInt := congrArg Int32.toInt (KW.at hK 13 rl_301 rfl)
  have g2 : (0 : Int) ≤ (fv P 301 13).toInt ∧ (fv P 301 13).toInt ≤ 8 := Typ.rng hT rl_301 (by decide) (by decide) rfl
  refine mp_a (a_iload_n dX7_dropsSize_2 rfl) (mpp 3 rfl ?_)
  refine mp_a (a_iconst (v := 1) dX7_dropsSize_3 rfl) (mpp 4 rfl ?_)
  obtain ⟨z3, h4⟩ := ti_ex (v2 + 1 : Int32)
  have wz3 := ti_full z3
  refine mp_t (s_iadd (v := z3) dX7_dropsSize_4 h4) (mpp 5 rfl ?_)
  try have e5 : z3.toInt = v2.toInt + 1 := ti_addz h4 rfl rfl (by omega) (by omega)
  refine mp_a (a_aload_n dX7_dropsSize_5 rfl) (mpp 6 rfl ?_)
  refine mt_getI (i := 165) (k := 13) hT dX7_dropsSize_6 rfl rl_301 (by decide) rfl (by decide) rfl (fun g6 g7 => mpp 9 rfl ?_)
  refine mp_Tb (t := 32) (j_icmp_ge dX7_dropsSize_9) (by decide) (fun c8 => ?_) (fun c8 => mpp 12 rfl ?_)
  · have c8 : z3.toInt ≥ (fv P 301 13).toInt := ti_ge c8
    have u9 : (∀ j : Nat, (j : Int) + 1 < (fv Po 301 13).toInt → fv P 308 j = tk t1.toInt.toNat (fun j : Nat => fv Po 308 j) j) := fun j hj => i_2.upto (by omega)
    have u10 : KI 308 309 Po P := i_4
    exact mp_ret ⟨⟨rfl, u9⟩, hT, hK, u10⟩ dX7_dropsSize_32 rfl
  · have c8 : z3.toInt < (fv P 301 13).toInt := ti_ge_n c8
    refine mp_a (a_aload_n dX7_dropsSize_12 rfl) (mpp 13 rfl ?_)
    refine mt_getU (i := 28) (k := 11) (A := 308) hT dX7_dropsSize_13 rfl rl_301 (by decide) rfl (by decide) rfl un_24 (mpp 16 rfl ?_)
    refine mp_a (a_iload_n dX7_dropsSize_16 rfl) (mpp 17 rfl ?_)
    refine mp_a (a_aload_n dX7_dropsSize_17 rfl) (mpp 18 rfl ?_)
    refine mt_getU (i := 28) (k := 11) (A := 308) hT dX7_dropsSize_18 rfl rl_301 (by decide) rfl (by decide) rfl un_24 (mpp 21 rfl ?_)
    refine mp_a (a_iload_n dX7_dropsSize_21 rfl) (mpp 22 rfl ?_)
    refine mp_a (a_iconst (v := 1) dX7_dropsSize_22 rfl) (mpp 23 rfl ?_)
    obtain ⟨z11, h12⟩ := ti_ex (v2 + 1 : Int32)
    have wz11 := ti_full z11
    refine mp_t (s_iadd (v := z11) dX7_dropsSize_23 h12) (mpp 24 rfl ?_)
    try have e13 : z11.toInt = v2.toInt + 1 := ti_addz h12 rfl rfl (by omega) (by omega)
    refine mt_ial (n := 8) hT dX7_dropsSize_24 rl_308 (by decide) rfl rfl (by omega) (by omega) rfl (fun g14 g15 => mpp 25 rfl ?_)
    refine mt_ias (n := 8) hT dX7_dropsSize_25 rl_308 (by decide) rfl rfl (by omega) (by omega) rfl (ti_full (fv P 308 z11.toInt.toNat)) (fun P16 hT17 f18 f19 f20 => mpp 26 rfl ?_)
    have k21 : KW [1536] Po P16 := KW.step hK rl_308 rfl f19 f20
    obtain ⟨z22, h23⟩ := ti_ex (v2 + 1 : Int32)
    have wz22 := ti_full z22
    refine mp_a (a_iinc (v := z22) (L' := [(2, .int z22), (0, .ref 301), (1, .int t1)]) dX7_dropsSize_26 (by decide) rfl h23 rfl) (mpp 29 rfl ?_)
    try have e24 : z22.toInt = v2.toInt + 1 := ti_addz h23 rfl rfl (by omega) (by omega)
    refine mp_a (a_goto (t := 2) dX7_dropsSize_29 (by decide)) ?_
    refine MEvP.less (L := [(0, .ref 301), (1, .int t1), (2, .int z22)]) rfl rfl ⟨rfl, rfl, rfl, trivial⟩ ?_
    have i25 : 0 ≤ z22.toInt := by omega
    have i26 : z22.toInt ≤ 8 := by omega
    have i27 : TKL Po P16 308 t1.toInt.toNat z22.toInt.toNat := TKL.step (m := z11.toInt.toNat) i_2 (by omega) rfl (by omega) f18 (fun j hj => f19 _ j (fun e => hj e.2))
    have i28 : t1.toInt ≤ z22.toInt := by omega
    have i29 : KI 308 309 Po P16 := fun x j hx => by rw [f19 x j (by omega), i_4 x j (by omega)]
    have e30 : (fv P16 301 13).toInt = (fv P 301 13).toInt := congrArg Int32.toInt (f19 301 13 (ne_r rl_301 rl_308 rfl))
    have i31 : (fv P16 301 13).toInt = (fv Po 301 13).toInt := by omega
    exact ih _ (by omega) _ P16 hT17 k21 i25 i26 i27 i28 i29 i31 rfl

set_option maxHeartbeats 4000000 in
theorem c_M_dropsSize {Po : mP} {t1 : Int32} (hT : Typ Po)  (hp0 : 0 ≤ t1.toInt) (hp1 : t1.toInt ≤ 8)  : EvP 1 170 [.ref 301, .int t1] Po (fun r P' => (r = none ∧ ((∀ j : Nat, (j : Int) + 1 < (fv Po 301 13).toInt → fv P' 308 j = tk t1.toInt.toNat (fun j : Nat => fv Po 308 j) j))) ∧ Typ P' ∧ KW [1536] Po P' ∧ KI 308 309 Po P') := by
  refine EvP.of qm_170 (Nat.le_of_ble_eq_true rfl) rfl ?_
  show MEvP _ none q_170 0 [(0, .ref 301), (1, .int t1)] [] _ 0 0 _
  have w_t1 := ti_full t1
  have g1 : (0 : Int) ≤ (fv Po 301 13).toInt ∧ (fv Po 301 13).toInt ≤ 8 := Typ.rng hT rl_301 (by decide) (by decide) rfl
  refine mp_a (a_iload_n dX7_dropsSize_0 rfl) (mpp 1 rfl ?_)
  refine mp_a (a_istore_n (L' := [(2, .int t1), (0, .ref 301), (1, .int t1)]) dX7_dropsSize_1 (by decide) rfl) (mpp 2 rfl ?_)
  refine MEvP.less (L := [(0, .ref 301), (1, .int t1), (2, .int t1)]) rfl rfl ⟨rfl, rfl, rfl, trivial⟩ ?_
  have i2 : 0 ≤ t1.toInt := by omega
  have i3 : t1.toInt ≤ 8 := by omega
  have i4 : TKL Po Po 308 t1.toInt.toNat t1.toInt.toNat := TKL.start rfl
  have i5 : t1.toInt ≤ t1.toInt := by omega
  have i6 : KI 308 309 Po Po := KI.refl
  have i7 : (fv Po 301 13).toInt = (fv Po 301 13).toInt := by omega
  exact c_M_dropsSize_l2   hp0 hp1 _ _ Po hT KW.refl i2 i3 i4 i5 i6 i7 rfl

set_option maxHeartbeats 4000000 in
theorem c_M_dropsCrease_l2 {Po : mP} {t1 : Int32} (hp0 : 0 ≤ t1.toInt) (hp1 : t1.toInt ≤ 8)  : ∀ (n : Nat) (v2 : Int32), ∀ (P : mP), Typ P → KW [1600] Po P → (0 ≤ v2.toInt) → (v2.toInt ≤ 8) → (TKL Po P 309 t1.toInt.toNat v2.toInt.toNat) → (t1.toInt ≤ v2.toInt) → (KI 309 310 Po P) → (2147483647 - v2.toInt).toNat = n → MEvP 0 none q_171 2 [(0, .ref 301), (1, .int t1), (2, .int v2)] [] P 0 0 (fun r P' => (r = none ∧ ((∀ j : Nat, j < 7 → fv P' 309 j = tk t1.toInt.toNat (fun j : Nat => fv Po 309 j) j))) ∧ Typ P' ∧ KW [1600] Po P' ∧ KI 309 310 Po P') := by
  intro n
  induction n using Nat.strongRecOn with | _ n ih => ?_
  intro v2 P hT hK i_0 i_1 i_2 i_3 i_4 hm
  have w_t1 := ti_full t1
  have w_v2 := ti_full v2
  refine mp_a (a_iload_n dX7_dropsCrease_2 rfl) (mpp 3 rfl ?_)
  refine mp_a (a_iconst (v := 1) dX7_dropsCrease_3 rfl) (mpp 4 rfl ?_)
  obtain ⟨z1, h2⟩ := ti_ex (v2 + 1 : Int32)
  have wz1 := ti_full z1
  refine mp_t (s_iadd (v := z1) dX7_dropsCrease_4 h2) (mpp 5 rfl ?_)
  try have e3 : z1.toInt = v2.toInt + 1 := ti_addz h2 rfl rfl (by omega) (by omega)
  refine mp_a (a_bipush (v := 8) dX7_dropsCrease_5 rfl) (mpp 7 rfl ?_)
  refine mp_Tb (t := 30) (j_icmp_ge dX7_dropsCrease_7) (by decide) (fun c4 => ?_) (fun c4 => mpp 10 rfl ?_)
  · have c4 : z1.toInt ≥ 8 := ti_ge c4
    have u5 : (∀ j : Nat, j < 7 → fv P 309 j = tk t1.toInt.toNat (fun j : Nat => fv Po 309 j) j) := fun j hj => i_2.upto (by omega)
    have u6 : KI 309 310 Po P := i_4
    exact mp_ret ⟨⟨rfl, u5⟩, hT, hK, u6⟩ dX7_dropsCrease_30 rfl
  · have c4 : z1.toInt < 8 := ti_ge_n c4
    refine mp_a (a_aload_n dX7_dropsCrease_10 rfl) (mpp 11 rfl ?_)
    refine mt_getU (i := 31) (k := 12) (A := 309) hT dX7_dropsCrease_11 rfl rl_301 (by decide) rfl (by decide) rfl un_25 (mpp 14 rfl ?_)
    refine mp_a (a_iload_n dX7_dropsCrease_14 rfl) (mpp 15 rfl ?_)
    refine mp_a (a_aload_n dX7_dropsCrease_15 rfl) (mpp 16 rfl ?_)
    refine mt_getU (i := 31) (k := 12) (A := 309) hT dX7_dropsCrease_16 rfl rl_301 (by decide) rfl (by decide) rfl un_25 (mpp 19 rfl ?_)
    refine mp_a (a_iload_n dX7_dropsCrease_19 rfl) (mpp 20 rfl ?_)
    refine mp_a (a_iconst (v := 1) dX7_dropsCrease_20 rfl) (mpp 21 rfl ?_)
    obtain ⟨z7, h8⟩ := ti_ex (v2 + 1 : Int32)
    have wz7 := ti_full z7
    refine mp_t (s_iadd (v := z7) dX7_dropsCrease_21 h8) (mpp 22 rfl ?_)
    try have e9 : z7.toInt = v2.toInt + 1 := ti_addz h8 rfl rfl (by omega) (by omega)
    refine mt_ial (n := 8) hT dX7_dropsCrease_22 rl_309 (by decide) rfl rfl (by omega) (by omega) rfl (fun g10 g11 => mpp 23 rfl ?_)
    refine mt_ias (n := 8) hT dX7_dropsCrease_23 rl_309 (by decide) rfl rfl (by omega) (by omega) rfl (ti_full (fv P 309 z7.toInt.toNat)) (fun P12 hT13 f14 f15 f16 => mpp 24 rfl ?_)
    have k17 : KW [1600] Po P12 := KW.step hK rl_309 rfl f15 f16
    obtain ⟨z18, h19⟩ := ti_ex (v2 + 1 : Int32)
    have wz18 := ti_full z18
    refine mp_a (a_iinc (v := z18) (L' := [(2, .int z18), (0, .ref 301), (1, .int t1)]) dX7_dropsCrease_24 (by decide) rfl h19 rfl) (mpp 27 rfl ?_)
    try have e20 : z18.toInt = v2.toInt + 1 := ti_addz h19 rfl rfl (by omega) (by omega)
    refine mp_a (a_goto (t := 2) dX7_dropsCrease_27 (by decide)) ?_
    refine MEvP.less (L := [(0, .ref 301), (1, .int t1), (2, .int z18)]) rfl rfl ⟨rfl, rfl, rfl, trivial⟩ ?_
    have i21 : 0 ≤ z18.toInt := by omega
    have i22 : z18.toInt ≤ 8 := by omega
    have i23 : TKL Po P12 309 t1.toInt.toNat z18.toInt.toNat := TKL.step (m := z7.toInt.toNat) i_2 (by omega) rfl (by omega) f14 (fun j hj => f15 _ j (fun e => hj e.2))
    have i24 : t1.toInt ≤ z18.toInt := by omega
    have i25 : KI 309 310 Po P12 := fun x j hx => by rw [f15 x j (by omega), i_4 x j (by omega)]
    exact ih _ (by omega) _ P12 hT13 k17 i21 i22 i23 i24 i25 rfl

set_option maxHeartbeats 4000000 in
theorem c_M_dropsCrease {Po : mP} {t1 : Int32} (hT : Typ Po)  (hp0 : 0 ≤ t1.toInt) (hp1 : t1.toInt ≤ 8)  : EvP 1 171 [.ref 301, .int t1] Po (fun r P' => (r = none ∧ ((∀ j : Nat, j < 7 → fv P' 309 j = tk t1.toInt.toNat (fun j : Nat => fv Po 309 j) j))) ∧ Typ P' ∧ KW [1600] Po P' ∧ KI 309 310 Po P') := by
  refine EvP.of qm_171 (Nat.le_of_ble_eq_true rfl) rfl ?_
  show MEvP _ none q_171 0 [(0, .ref 301), (1, .int t1)] [] _ 0 0 _
  have w_t1 := ti_full t1
  refine mp_a (a_iload_n dX7_dropsCrease_0 rfl) (mpp 1 rfl ?_)
  refine mp_a (a_istore_n (L' := [(2, .int t1), (0, .ref 301), (1, .int t1)]) dX7_dropsCrease_1 (by decide) rfl) (mpp 2 rfl ?_)
  refine MEvP.less (L := [(0, .ref 301), (1, .int t1), (2, .int t1)]) rfl rfl ⟨rfl, rfl, rfl, trivial⟩ ?_
  have i1 : 0 ≤ t1.toInt := by omega
  have i2 : t1.toInt ≤ 8 := by omega
  have i3 : TKL Po Po 309 t1.toInt.toNat t1.toInt.toNat := TKL.start rfl
  have i4 : t1.toInt ≤ t1.toInt := by omega
  have i5 : KI 309 310 Po Po := KI.refl
  exact c_M_dropsCrease_l2   hp0 hp1 _ _ Po hT KW.refl i1 i2 i3 i4 i5 rfl

set_option maxHeartbeats 4000000 in
theorem c_M_crimpsStrip {Po : mP} {t1 : Int32} (hT : Typ Po)  (hp0 : 1 ≤ t1.toInt) (hp1 : t1.toInt + 2 ≤ (fv Po 301 13).toInt) (hp2 : (fv Po 301 14).toInt = 0)  : EvP 2 174 [.ref 301, .int t1] Po (fun r P' => (r = none ∧ ((fv P' 301 13).toInt = (fv Po 301 13).toInt - 2 ∧ rM P' = mkF (rM Po) (10 + t1.toInt))) ∧ Typ P' ∧ KW [1101, 1536, 1600] Po P' ∧ fv P' 301 14 = fv Po 301 14 ∧ KI 301 310 Po P') := by
  refine EvP.of qm_174 (Nat.le_of_ble_eq_true rfl) rfl ?_
  show MEvP _ none q_174 0 [(0, .ref 301), (1, .int t1)] [] _ 0 0 _
  have w_t1 := ti_full t1
  have g1 : (0 : Int) ≤ (fv Po 301 13).toInt ∧ (fv Po 301 13).toInt ≤ 8 := Typ.rng hT rl_301 (by decide) (by decide) rfl
  have g2 : (0 : Int) ≤ (fv Po 301 14).toInt ∧ (fv Po 301 14).toInt ≤ 1 := Typ.rng hT rl_301 (by decide) (by decide) rfl
  refine mp_a (a_aload_n dX7_crimpsStrip_0 rfl) (mpp 1 rfl ?_)
  refine mt_getU (i := 28) (k := 11) (A := 308) hT dX7_crimpsStrip_1 rfl rl_301 (by decide) rfl (by decide) rfl un_24 (mpp 4 rfl ?_)
  refine mp_a (a_iload_n dX7_crimpsStrip_4 rfl) (mpp 5 rfl ?_)
  refine mp_a (a_iconst (v := 1) dX7_crimpsStrip_5 rfl) (mpp 6 rfl ?_)
  obtain ⟨z3, h4⟩ := ti_ex (t1 - 1 : Int32)
  have wz3 := ti_full z3
  refine mp_t (s_isub (v := z3) dX7_crimpsStrip_6 h4) (mpp 7 rfl ?_)
  try have e5 : z3.toInt = t1.toInt - 1 := ti_subz h4 rfl rfl (by omega) (by omega)
  refine mp_a (a_aload_n dX7_crimpsStrip_7 rfl) (mpp 8 rfl ?_)
  refine mt_getU (i := 28) (k := 11) (A := 308) hT dX7_crimpsStrip_8 rfl rl_301 (by decide) rfl (by decide) rfl un_24 (mpp 11 rfl ?_)
  refine mp_a (a_iload_n dX7_crimpsStrip_11 rfl) (mpp 12 rfl ?_)
  refine mp_a (a_iconst (v := 1) dX7_crimpsStrip_12 rfl) (mpp 13 rfl ?_)
  obtain ⟨z6, h7⟩ := ti_ex (t1 - 1 : Int32)
  have wz6 := ti_full z6
  refine mp_t (s_isub (v := z6) dX7_crimpsStrip_13 h7) (mpp 14 rfl ?_)
  try have e8 : z6.toInt = t1.toInt - 1 := ti_subz h7 rfl rfl (by omega) (by omega)
  refine mt_ial (n := 8) hT dX7_crimpsStrip_14 rl_308 (by decide) rfl rfl (by omega) (by omega) rfl (fun g9 g10 => mpp 15 rfl ?_)
  refine mp_a (a_aload_n dX7_crimpsStrip_15 rfl) (mpp 16 rfl ?_)
  refine mt_getU (i := 28) (k := 11) (A := 308) hT dX7_crimpsStrip_16 rfl rl_301 (by decide) rfl (by decide) rfl un_24 (mpp 19 rfl ?_)
  refine mp_a (a_iload_n dX7_crimpsStrip_19 rfl) (mpp 20 rfl ?_)
  refine mp_a (a_iconst (v := 1) dX7_crimpsStrip_20 rfl) (mpp 21 rfl ?_)
  obtain ⟨z11, h12⟩ := ti_ex (t1 + 1 : Int32)
  have wz11 := ti_full z11
  refine mp_t (s_iadd (v := z11) dX7_crimpsStrip_21 h12) (mpp 22 rfl ?_)
  try have e13 : z11.toInt = t1.toInt + 1 := ti_addz h12 rfl rfl (by omega) (by omega)
  refine mt_ial (n := 8) hT dX7_crimpsStrip_22 rl_308 (by decide) rfl rfl (by omega) (by omega) rfl (fun g14 g15 => mpp 23 rfl ?_)
  obtain ⟨z16, h17⟩ := ti_ex ((fv Po 308 z6.toInt.toNat) + (fv Po 308 z11.toInt.toNat) : Int32)
  have wz16 := ti_full z16
  refine mp_t (s_iadd (v := z16) dX7_crimpsStrip_23 h17) (mpp 24 rfl ?_)
  try have e18 : z16.toInt = (fv Po 308 z6.toInt.toNat).toInt + (fv Po 308 z11.toInt.toNat).toInt := ti_addz h17 rfl rfl (by omega) (by omega)
  refine mp_a (a_aload_n dX7_crimpsStrip_24 rfl) (mpp 25 rfl ?_)
  refine mt_getU (i := 28) (k := 11) (A := 308) hT dX7_crimpsStrip_25 rfl rl_301 (by decide) rfl (by decide) rfl un_24 (mpp 28 rfl ?_)
  refine mp_a (a_iload_n dX7_crimpsStrip_28 rfl) (mpp 29 rfl ?_)
  refine mt_ial (n := 8) hT dX7_crimpsStrip_29 rl_308 (by decide) rfl rfl (by omega) (by omega) rfl (fun g19 g20 => mpp 30 rfl ?_)
  obtain ⟨z21, h22⟩ := ti_ex (z16 - (fv Po 308 t1.toInt.toNat) : Int32)
  have wz21 := ti_full z21
  refine mp_t (s_isub (v := z21) dX7_crimpsStrip_30 h22) (mpp 31 rfl ?_)
  try have e23 : z21.toInt = z16.toInt - (fv Po 308 t1.toInt.toNat).toInt := ti_subz h22 rfl rfl (by omega) (by omega)
  refine mt_ias (n := 8) hT dX7_crimpsStrip_31 rl_308 (by decide) rfl rfl (by omega) (by omega) rfl (ti_full z21) (fun P24 hT25 f26 f27 f28 => mpp 32 rfl ?_)
  have k29 : KW [1101, 1536, 1600] Po P24 := KW.step KW.refl rl_308 rfl f27 f28
  refine mp_a (a_aload_n dX7_crimpsStrip_32 rfl) (mpp 33 rfl ?_)
  refine mp_a (a_iload_n dX7_crimpsStrip_33 rfl) (mpp 34 rfl ?_)
  have p30 : 0 ≤ t1.toInt := by omega
  have p31 : t1.toInt ≤ 8 := by omega
  refine mt_callv (i := 172) (q' := q_170) (As := [.int t1]) (rest := []) hT25 dX7_crimpsStrip_34 rfl qm_170 (by decide) rfl rl_301 (by decide) rfl (Nat.le_of_ble_eq_true rfl) rfl ⟨rfl, rfl⟩ ⟨Nat.le_of_ble_eq_true rfl, Nat.le_of_ble_eq_true rfl⟩ (EvP.mono (by decide) (c_M_dropsSize hT25 p30 p31 )) (fun r32 P33 g34 => mpp 37 rfl ?_)
  obtain ⟨⟨rfl, g36⟩, hT37, k38, R39⟩ := g34
  have k40 : KW [1101, 1536, 1600] Po P33 := KW.trans k29 k38 rfl
  replace g36 : (∀ j : Nat, (j : Int) + 1 < (fv P24 301 13).toInt → fv P33 308 j = tk t1.toInt.toNat (fun j : Nat => fv P24 308 j) j) := g36
  have e42 : (fv P24 301 13).toInt = (fv Po 301 13).toInt := congrArg Int32.toInt (f27 301 13 (ne_r rl_301 rl_308 rfl))
  show MEvP _ none q_174 37 [(0, .ref 301), (1, .int t1)] [] _ _ _ _
  refine mp_a (a_aload_n dX7_crimpsStrip_37 rfl) (mpp 38 rfl ?_)
  refine mp_t (s_dup dX7_crimpsStrip_38 rfl) (mpp 39 rfl ?_)
  have e43 : (fv P33 301 13).toInt = (fv P24 301 13).toInt := congrArg Int32.toInt (KW.at k38 13 rl_301 rfl)
  refine mt_getI (i := 165) (k := 13) hT37 dX7_crimpsStrip_39 rfl rl_301 (by decide) rfl (by decide) rfl (fun g44 g45 => mpp 42 rfl ?_)
  refine mp_a (a_iconst (v := 1) dX7_crimpsStrip_42 rfl) (mpp 43 rfl ?_)
  obtain ⟨z46, h47⟩ := ti_ex ((fv P33 301 13) - 1 : Int32)
  have wz46 := ti_full z46
  refine mp_t (s_isub (v := z46) dX7_crimpsStrip_43 h47) (mpp 44 rfl ?_)
  try have e48 : z46.toInt = (fv P33 301 13).toInt - 1 := ti_subz h47 rfl rfl (by omega) (by omega)
  refine mt_putI (i := 165) (k := 13) (x := z46) hT37 dX7_crimpsStrip_44 rfl rl_301 (by decide) rfl (by decide) rfl ⟨by omega, by omega⟩ rfl rfl (fun P49 hT50 f51 f52 f53 => mpp 47 rfl ?_)
  have k54 : KW [1101, 1536, 1600] Po P49 := KW.step k40 rl_301 rfl f52 f53
  have e55 : (fv P49 301 13).toInt = z46.toInt := congrArg Int32.toInt f51
  refine mp_a (a_aload_n dX7_crimpsStrip_47 rfl) (mpp 48 rfl ?_)
  refine mp_a (a_iload_n dX7_crimpsStrip_48 rfl) (mpp 49 rfl ?_)
  have p56 : 0 ≤ t1.toInt := by omega
  have p57 : t1.toInt ≤ 8 := by omega
  refine mt_callv (i := 172) (q' := q_170) (As := [.int t1]) (rest := []) hT50 dX7_crimpsStrip_49 rfl qm_170 (by decide) rfl rl_301 (by decide) rfl (Nat.le_of_ble_eq_true rfl) rfl ⟨rfl, rfl⟩ ⟨Nat.le_of_ble_eq_true rfl, Nat.le_of_ble_eq_true rfl⟩ (EvP.mono (by decide) (c_M_dropsSize hT50 p56 p57 )) (fun r58 P59 g60 => mpp 52 rfl ?_)
  obtain ⟨⟨rfl, g62⟩, hT63, k64, R65⟩ := g60
  have k66 : KW [1101, 1536, 1600] Po P59 := KW.trans k54 k64 rfl
  replace g62 : (∀ j : Nat, (j : Int) + 1 < (fv P49 301 13).toInt → fv P59 308 j = tk t1.toInt.toNat (fun j : Nat => fv P49 308 j) j) := g62
  show MEvP _ none q_174 52 [(0, .ref 301), (1, .int t1)] [] _ _ _ _
  refine mp_a (a_aload_n dX7_crimpsStrip_52 rfl) (mpp 53 rfl ?_)
  refine mp_t (s_dup dX7_crimpsStrip_53 rfl) (mpp 54 rfl ?_)
  have e68 : (fv P59 301 13).toInt = (fv P49 301 13).toInt := congrArg Int32.toInt (KW.at k64 13 rl_301 rfl)
  refine mt_getI (i := 165) (k := 13) hT63 dX7_crimpsStrip_54 rfl rl_301 (by decide) rfl (by decide) rfl (fun g69 g70 => mpp 57 rfl ?_)
  refine mp_a (a_iconst (v := 1) dX7_crimpsStrip_57 rfl) (mpp 58 rfl ?_)
  obtain ⟨z71, h72⟩ := ti_ex ((fv P59 301 13) - 1 : Int32)
  have wz71 := ti_full z71
  refine mp_t (s_isub (v := z71) dX7_crimpsStrip_58 h72) (mpp 59 rfl ?_)
  try have e73 : z71.toInt = (fv P59 301 13).toInt - 1 := ti_subz h72 rfl rfl (by omega) (by omega)
  refine mt_putI (i := 165) (k := 13) (x := z71) hT63 dX7_crimpsStrip_59 rfl rl_301 (by decide) rfl (by decide) rfl ⟨by omega, by omega⟩ rfl rfl (fun P74 hT75 f76 f77 f78 => mpp 62 rfl ?_)
  have k79 : KW [1101, 1536, 1600] Po P74 := KW.step k66 rl_301 rfl f77 f78
  have e80 : (fv P74 301 13).toInt = z71.toInt := congrArg Int32.toInt f76
  refine mp_a (a_aload_n dX7_crimpsStrip_62 rfl) (mpp 63 rfl ?_)
  refine mp_a (a_iload_n dX7_crimpsStrip_63 rfl) (mpp 64 rfl ?_)
  refine mp_a (a_iconst (v := 1) dX7_crimpsStrip_64 rfl) (mpp 65 rfl ?_)
  obtain ⟨z81, h82⟩ := ti_ex (t1 - 1 : Int32)
  have wz81 := ti_full z81
  refine mp_t (s_isub (v := z81) dX7_crimpsStrip_65 h82) (mpp 66 rfl ?_)
  try have e83 : z81.toInt = t1.toInt - 1 := ti_subz h82 rfl rfl (by omega) (by omega)
  have p84 : 0 ≤ z81.toInt := by omega
  have p85 : z81.toInt ≤ 8 := by omega
  refine mt_callv (i := 175) (q' := q_171) (As := [.int z81]) (rest := []) hT75 dX7_crimpsStrip_66 rfl qm_171 (by decide) rfl rl_301 (by decide) rfl (Nat.le_of_ble_eq_true rfl) rfl ⟨rfl, rfl⟩ ⟨Nat.le_of_ble_eq_true rfl, Nat.le_of_ble_eq_true rfl⟩ (EvP.mono (by decide) (c_M_dropsCrease hT75 p84 p85 )) (fun r86 P87 g88 => mpp 69 rfl ?_)
  obtain ⟨⟨rfl, g90⟩, hT91, k92, R93⟩ := g88
  have k94 : KW [1101, 1536, 1600] Po P87 := KW.trans k79 k92 rfl
  replace g90 : (∀ j : Nat, j < 7 → fv P87 309 j = tk z81.toInt.toNat (fun j : Nat => fv P74 309 j) j) := g90
  show MEvP _ none q_174 69 [(0, .ref 301), (1, .int t1)] [] _ _ _ _
  refine mp_a (a_aload_n dX7_crimpsStrip_69 rfl) (mpp 70 rfl ?_)
  refine mp_a (a_iload_n dX7_crimpsStrip_70 rfl) (mpp 71 rfl ?_)
  refine mp_a (a_iconst (v := 1) dX7_crimpsStrip_71 rfl) (mpp 72 rfl ?_)
  obtain ⟨z96, h97⟩ := ti_ex (t1 - 1 : Int32)
  have wz96 := ti_full z96
  refine mp_t (s_isub (v := z96) dX7_crimpsStrip_72 h97) (mpp 73 rfl ?_)
  try have e98 : z96.toInt = t1.toInt - 1 := ti_subz h97 rfl rfl (by omega) (by omega)
  have p99 : 0 ≤ z96.toInt := by omega
  have p100 : z96.toInt ≤ 8 := by omega
  refine mt_callv (i := 175) (q' := q_171) (As := [.int z96]) (rest := []) hT91 dX7_crimpsStrip_73 rfl qm_171 (by decide) rfl rl_301 (by decide) rfl (Nat.le_of_ble_eq_true rfl) rfl ⟨rfl, rfl⟩ ⟨Nat.le_of_ble_eq_true rfl, Nat.le_of_ble_eq_true rfl⟩ (EvP.mono (by decide) (c_M_dropsCrease hT91 p99 p100 )) (fun r101 P102 g103 => mpp 76 rfl ?_)
  obtain ⟨⟨rfl, g105⟩, hT106, k107, R108⟩ := g103
  have k109 : KW [1101, 1536, 1600] Po P102 := KW.trans k94 k107 rfl
  replace g105 : (∀ j : Nat, j < 7 → fv P102 309 j = tk z96.toInt.toNat (fun j : Nat => fv P87 309 j) j) := g105
  show MEvP _ none q_174 76 [(0, .ref 301), (1, .int t1)] [] _ _ _ _
  have e111 : (fv P102 301 13).toInt = (fv P74 301 13).toInt := congrArg Int32.toInt ((KW.at k107 13 rl_301 rfl).trans (KW.at k92 13 rl_301 rfl))
  have w113_l : z6.toInt.toNat = (prI (fv Po 301 13).toInt.toNat t1.toInt.toNat) := by unfold prI; rw [if_pos (by omega)]; omega
  have w113_r : z11.toInt.toNat = (nxI (fv Po 301 13).toInt.toNat t1.toInt.toNat) := by unfold nxI; rw [if_pos (by omega)]; omega
  have w113_l : z3.toInt.toNat = (prI (fv Po 301 13).toInt.toNat t1.toInt.toNat) := by rw [← w113_l]; omega
  have w113_v : z21 = fv Po 308 (prI (fv Po 301 13).toInt.toNat t1.toInt.toNat) + fv Po 308 (nxI (fv Po 301 13).toInt.toNat t1.toInt.toNat) - fv Po 308 t1.toInt.toNat := by rw [← w113_r, ← h22, ← h17, show z6.toInt.toNat = (prI (fv Po 301 13).toInt.toNat t1.toInt.toNat) from (by first | exact w113_l | (rw [← w113_l]; omega))]
  have w113_u : ∀ j : Nat, fv P24 308 j = up (prI (fv Po 301 13).toInt.toNat t1.toInt.toNat) z21 (fun j : Nat => fv Po 308 j) j := by
    intro j
    unfold up
    split
    · rename_i e; rw [e, ← w113_l]; exact f26
    · rename_i e; exact f27 308 j (fun q => e (q.2.trans w113_l))
  have w113_z1 : (fv P24 301 13).toInt = (fv Po 301 13).toInt := congrArg Int32.toInt (by rw [f27 301 13 (by omega)])
  have w113_z2 : (fv P49 301 13).toInt = (fv Po 301 13).toInt - 1 := by omega
  have w113_s1 : ∀ j : Nat, j + 1 < (fv Po 301 13).toInt.toNat → fv P33 308 j = tk t1.toInt.toNat (fun j : Nat => fv P24 308 j) j := by
    intro j hj
    have q := g36 j (by omega)
    exact q
  have w113_s2 : ∀ j : Nat, j + 2 < (fv Po 301 13).toInt.toNat → fv P59 308 j = tk t1.toInt.toNat (fun j : Nat => fv P33 308 j) j := by
    intro j hj
    have q := g62 j (by omega)
    rwa [show (fun j : Nat => fv P49 308 j) = (fun j : Nat => fv P33 308 j) from funext (fun j => by rw [f52 308 j (by omega)])] at q
  have w113_f := ds2 w113_u w113_s1 w113_s2
  have w113_c1 : ∀ j : Nat, j < 7 → fv P87 309 j = tk z81.toInt.toNat (fun j : Nat => fv Po 309 j) j := by
    intro j hj
    have q := g90 j hj
    rwa [show (fun j : Nat => fv P74 309 j) = (fun j : Nat => fv Po 309 j) from funext (fun j => by rw [f77 309 j (by omega), R65 309 j (by omega), f52 309 j (by omega), R39 309 j (by omega), f27 309 j (by omega)])] at q
  have w113_c2 : ∀ j : Nat, j < 7 → fv P102 309 j = tk z96.toInt.toNat (fun j : Nat => fv P87 309 j) j := by
    intro j hj
    have q := g105 j hj
    exact q
  have w113_g := tk2 (F0 := fun j : Nat => fv Po 309 j) (F1 := fun j : Nat => fv Po 309 j) (fun _ => rfl) w113_c1 w113_c2
  have w113_R : (fv P102 301 14) = (fv Po 301 14) := by rw [R108 301 14 (by omega), R93 301 14 (by omega), f77 301 14 (by omega), R65 301 14 (by omega), f52 301 14 (by omega), R39 301 14 (by omega), f27 301 14 (by omega)]
  have w113_N : (fv P102 301 13).toInt = (fv Po 301 13).toInt - 2 := by omega
  have w113_rr : (nxI (fv Po 301 13).toInt.toNat t1.toInt.toNat) = t1.toInt.toNat + 1 := by unfold nxI; rw [if_pos (by omega)]
  have w113_k : z81.toInt.toNat = t1.toInt.toNat - 1 := by omega
  have w113_k2 : z96.toInt.toNat = t1.toInt.toNat - 1 := by omega
  rw [w113_k, w113_k2] at w113_g
  have w113_ : rM P102 = mkF (rM Po) (10 + t1.toInt) := by
    rw [rM_eq, rM_eq, w113_R, decide_eq_true (show (fv Po 301 14).toInt = 0 from by omega)]
    refine mkF.crimp (i := t1.toInt.toNat) (a := t1.toInt.toNat + 1) (b := t1.toInt.toNat) (by omega) (by omega) (show 1 ≤ t1.toInt.toNat from by omega) (show t1.toInt.toNat < (fv Po 301 13).toInt.toNat - 1 from by omega) rfl rfl (by rw [w113_rr]; omega) (by rw [w113_rr]; omega) w113_v (fun j hj => (show fv P102 308 j = fv P59 308 j from by rw [R108 308 j (by omega), R93 308 j (by omega), f77 308 j (by omega)]).trans ((w113_f j (by omega)).trans (tk_tk j))) (fun j hj h1 => ?_)
    have h1 := h1 rfl
    have e1 : GM P102 j = fv P102 309 (j - 1) := by unfold GM; rw [w113_R, if_pos (by omega)]
    rw [e1, w113_g (j - 1) (by omega)]
    unfold tk GM
    rw [if_pos (show (fv Po 301 14).toInt = 0 from by omega), if_pos (show (fv Po 301 14).toInt = 0 from by omega), if_pos (show (fv Po 301 14).toInt = 0 from by omega)]
    by_cases c : j < t1.toInt.toNat
    · rw [if_pos (show j - 1 < t1.toInt.toNat - 1 from by omega), if_pos (show j - 1 < t1.toInt.toNat - 1 from by omega), if_pos c, if_pos (show j < t1.toInt.toNat + 1 from by omega)]
    · rw [if_neg (show ¬ j - 1 < t1.toInt.toNat - 1 from by omega), if_neg (show ¬ j - 1 + 1 < t1.toInt.toNat - 1 from by omega), if_neg c, if_neg (show ¬ j + 1 < t1.toInt.toNat + 1 from by omega)]
      exact congrArg (fv Po 309) (by omega)
  have u112 : (fv P102 301 13).toInt = (fv Po 301 13).toInt - 2 ∧ rM P102 = mkF (rM Po) (10 + t1.toInt) := ⟨by omega, w113_⟩
  have u114 : fv P102 301 14 = fv Po 301 14 := by rw [R108 301 14 (by omega), R93 301 14 (by omega), f77 301 14 (by omega), R65 301 14 (by omega), f52 301 14 (by omega), R39 301 14 (by omega), f27 301 14 (by omega)]
  have u115 : KI 301 310 Po P102 := by
    intro x j hx
    rw [R108 x j (by omega), R93 x j (by omega), f77 x j (by omega), R65 x j (by omega), f52 x j (by omega), R39 x j (by omega), f27 x j (by omega)]
  exact mp_ret ⟨⟨rfl, u112⟩, hT106, k109, ⟨u114, u115⟩⟩ dX7_crimpsStrip_76 rfl

