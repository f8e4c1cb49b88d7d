/-! methods on typed pools, 12 (written by a program) -/
set_option maxHeartbeats 4000000 in
theorem c_CL_isAsCreased_Layers {Po : mP} {t1 : Int32} {t2 : Int32} (hT : Typ Po) (hX : XR Po)   : EvP 2 68 [.ref 294, .int t1, .int t2] Po (fun r P' => (∃ x : Int32, r = some (.int x) ∧ (0 ≤ x.toInt ∧ x.toInt ≤ 1)) ∧ P' = Po) := by
  refine EvP.of qm_68 (Nat.le_of_ble_eq_true rfl) rfl ?_
  show MEvP _ none q_68 0 [(0, .ref 294), (1, .int t1), (2, .int t2)] [] _ 0 0 _
  have w_t1 := ti_full t1
  have w_t2 := ti_full t2
  refine mp_a (a_iload_n dX1_isAsCreased_0 rfl) (mpp 1 rfl ?_)
  refine mp_Tb (t := 6) (j_if_ne dX1_isAsCreased_1) (by decide) (fun c1 => ?_) (fun c1 => mpp 4 rfl ?_)
  · have c1 : t2.toInt ≠ 0 := ti_ne c1
    refine mp_a (a_iload_n dX1_isAsCreased_6 rfl) (mpp 7 rfl ?_)
    refine mp_a (a_iconst (v := 1) dX1_isAsCreased_7 rfl) (mpp 8 rfl ?_)
    obtain ⟨z2, h3⟩ := ti_ex (t2 - 1 : Int32)
    have wz2 := ti_full z2
    refine mp_t (s_isub (v := z2) dX1_isAsCreased_8 h3) (mpp 9 rfl ?_)
    try have e4 : z2.toInt = t2.toInt - 1 := ti_subz h3 rfl rfl (by omega) (by omega)
    refine mp_a (a_iconst (v := 2) dX1_isAsCreased_9 rfl) (mpp 10 rfl ?_)
    obtain ⟨z5, h6⟩ := ti_ex (z2 - z2 / 2 * 2 : Int32)
    have wz5 := ti_full z5
    try have e8 : z5.toInt = z2.toInt % 2 := ti_remx h6 (show (0 : Int) ≤ z2.toInt by omega) (show (0 : Int) < 2 by omega)
    try have e7 : 0 ≤ z5.toInt ∧ z5.toInt < 2 := ti_rem h6 (show (0 : Int) ≤ z2.toInt by omega) (show (0 : Int) < 2 by omega)
    refine mp_t (s_irem (v := z5) dX1_isAsCreased_10 (by decide) h6) (mpp 11 rfl ?_)
    refine mp_Tb (t := 18) (j_if_ne dX1_isAsCreased_11) (by decide) (fun c9 => ?_) (fun c9 => mpp 14 rfl ?_)
    · have c9 : z5.toInt ≠ 0 := ti_ne c9
      refine mp_a (a_iconst (v := 0) dX1_isAsCreased_18 rfl) (mpp 19 rfl ?_)
      refine mp_a (a_istore_n (L' := [(3, .int 0), (0, .ref 294), (1, .int t1), (2, .int t2)]) dX1_isAsCreased_19 (by decide) rfl) (mpp 20 rfl ?_)
      refine mp_a (a_aload_n dX1_isAsCreased_20 rfl) (mpp 21 rfl ?_)
      refine mt_getU (i := 18) (k := 3) (A := 297) hT dX1_isAsCreased_21 rfl rl_294 (by decide) rfl (by decide) rfl un_16 (mpp 24 rfl ?_)
      refine mp_a (a_iload_n dX1_isAsCreased_24 rfl) (mpp 25 rfl ?_)
      refine mp_a (a_iconst (v := 1) dX1_isAsCreased_25 rfl) (mpp 26 rfl ?_)
      obtain ⟨z10, h11⟩ := ti_ex (t2 - 1 : Int32)
      have wz10 := ti_full z10
      refine mp_t (s_isub (v := z10) dX1_isAsCreased_26 h11) (mpp 27 rfl ?_)
      try have e12 : z10.toInt = t2.toInt - 1 := ti_subz h11 rfl rfl (by omega) (by omega)
      refine mp_calls (i := 59) (q' := q_12) (As := [.ref 297, .int z10]) (rest := []) dX1_isAsCreased_27 rfl qm_12 (by decide) rfl (Nat.le_of_ble_eq_true rfl) rfl ⟨rfl, rfl⟩ ⟨Nat.le_of_ble_eq_true rfl, Nat.le_of_ble_eq_true rfl⟩ (EvP.mono (by decide) (c_F_at_lcreases hT hX )) (fun r13 P14 g15 => mpp 30 rfl ?_)
      obtain ⟨⟨x16, rfl, g17⟩, e18⟩ := g15
      have e18 := e18.symm
      subst e18
      have wx16 := ti_full x16
      replace g17 : (0 ≤ z10.toInt ∧ z10.toInt ≤ 7 ∧ x16.toInt = (fv Po 297 z10.toInt.toNat).toInt) ∨ ((z10.toInt < 0 ∨ 8 ≤ z10.toInt) ∧ x16.toInt = 0) := g17
      try replace g17 : x16.toInt = (fv Po 297 z10.toInt.toNat).toInt := (g17.resolve_right (by omega)).2.2
      show MEvP _ none q_68 30 [(3, .int 0), (0, .ref 294), (1, .int t1), (2, .int t2)] [.int x16] _ _ _ _
      refine mp_a (a_iconst (v := 2) dX1_isAsCreased_30 rfl) (mpp 31 rfl ?_)
      refine mp_Tb (t := 38) (j_icmp_ne dX1_isAsCreased_31) (by decide) (fun c19 => ?_) (fun c19 => mpp 34 rfl ?_)
      · have c19 : x16.toInt ≠ 2 := ti_ne c19
        refine mp_a (a_iconst (v := 0) dX1_isAsCreased_38 rfl) (mpp 39 rfl ?_)
        refine mp_a (a_istore (L' := [(4, .int 0), (3, .int 0), (0, .ref 294), (1, .int t1), (2, .int t2)]) dX1_isAsCreased_39 (by decide) rfl) (mpp 41 rfl ?_)
        refine mp_a (a_iload_n dX1_isAsCreased_41 rfl) (mpp 42 rfl ?_)
        refine mp_a (a_aload_n dX1_isAsCreased_42 rfl) (mpp 43 rfl ?_)
        refine mt_getU (i := 9) (k := 1) (A := 295) hT dX1_isAsCreased_43 rfl rl_294 (by decide) rfl (by decide) rfl un_14 (mpp 46 rfl ?_)
        refine mp_a (a_iload_n dX1_isAsCreased_46 rfl) (mpp 47 rfl ?_)
        refine mp_a (a_iconst (v := 1) dX1_isAsCreased_47 rfl) (mpp 48 rfl ?_)
        obtain ⟨z20, h21⟩ := ti_ex (t2 - 1 : Int32)
        have wz20 := ti_full z20
        refine mp_t (s_isub (v := z20) dX1_isAsCreased_48 h21) (mpp 49 rfl ?_)
        try have e22 : z20.toInt = t2.toInt - 1 := ti_subz h21 rfl rfl (by omega) (by omega)
        refine mp_calls (i := 59) (q' := q_12) (As := [.ref 295, .int z20]) (rest := [.int t1]) dX1_isAsCreased_49 rfl qm_12 (by decide) rfl (Nat.le_of_ble_eq_true rfl) rfl ⟨rfl, rfl⟩ ⟨Nat.le_of_ble_eq_true rfl, Nat.le_of_ble_eq_true rfl⟩ (EvP.mono (by decide) (c_F_at_order hT hX )) (fun r23 P24 g25 => mpp 52 rfl ?_)
        obtain ⟨⟨x26, rfl, g27⟩, e28⟩ := g25
        have e28 := e28.symm
        subst e28
        have wx26 := ti_full x26
        replace g27 : (0 ≤ z20.toInt ∧ z20.toInt ≤ 7 ∧ x26.toInt = (fv Po 295 z20.toInt.toNat).toInt) ∨ ((z20.toInt < 0 ∨ 8 ≤ z20.toInt) ∧ x26.toInt = 0) := g27
        try replace g27 : x26.toInt = (fv Po 295 z20.toInt.toNat).toInt := (g27.resolve_right (by omega)).2.2
        show MEvP _ none q_68 52 [(4, .int 0), (3, .int 0), (0, .ref 294), (1, .int t1), (2, .int t2)] [.int x26, .int t1] _ _ _ _
        refine mp_Tb (t := 59) (j_icmp_le dX1_isAsCreased_52) (by decide) (fun c29 => ?_) (fun c29 => mpp 55 rfl ?_)
        · have c29 : t1.toInt ≤ x26.toInt := ti_le c29
          refine mp_a (a_iconst (v := 0) dX1_isAsCreased_59 rfl) (mpp 60 rfl ?_)
          refine mp_a (a_istore (L' := [(5, .int 0), (4, .int 0), (3, .int 0), (0, .ref 294), (1, .int t1), (2, .int t2)]) dX1_isAsCreased_60 (by decide) rfl) (mpp 62 rfl ?_)
          refine mp_a (a_iload dX1_isAsCreased_62 rfl) (mpp 64 rfl ?_)
          refine mp_a (a_iload_n dX1_isAsCreased_64 rfl) (mpp 65 rfl ?_)
          refine mp_a (a_iload dX1_isAsCreased_65 rfl) (mpp 67 rfl ?_)
          refine mp_Tf (t := 74) (j_icmp_ne dX1_isAsCreased_67) (by decide) (by decide) (mpp 70 rfl ?_)
          refine mp_a (a_iconst (v := 1) dX1_isAsCreased_70 rfl) (mpp 71 rfl ?_)
          refine mp_a (a_goto (t := 75) dX1_isAsCreased_71 (by decide)) ?_
          refine mp_Tt (t := 82) (j_icmp_ne dX1_isAsCreased_75) (by decide) (by decide) ?_
          refine mp_a (a_iconst (v := 0) dX1_isAsCreased_82 rfl) (mpp 83 rfl ?_)
          have u30 : 0 ≤ (0 : Int) ∧ (0 : Int) ≤ 1 := by omega
          exact mp_iret ⟨⟨_, rfl, u30⟩, rfl⟩ dX1_isAsCreased_83 (Or.inr ⟨rfl, by decide⟩)
        · have c29 : t1.toInt > x26.toInt := ti_le_n c29
          refine mp_a (a_iconst (v := 1) dX1_isAsCreased_55 rfl) (mpp 56 rfl ?_)
          refine mp_a (a_goto (t := 60) dX1_isAsCreased_56 (by decide)) ?_
          refine mp_a (a_istore (L' := [(5, .int 1), (4, .int 0), (3, .int 0), (0, .ref 294), (1, .int t1), (2, .int t2)]) dX1_isAsCreased_60 (by decide) rfl) (mpp 62 rfl ?_)
          refine mp_a (a_iload dX1_isAsCreased_62 rfl) (mpp 64 rfl ?_)
          refine mp_a (a_iload_n dX1_isAsCreased_64 rfl) (mpp 65 rfl ?_)
          refine mp_a (a_iload dX1_isAsCreased_65 rfl) (mpp 67 rfl ?_)
          refine mp_Tf (t := 74) (j_icmp_ne dX1_isAsCreased_67) (by decide) (by decide) (mpp 70 rfl ?_)
          refine mp_a (a_iconst (v := 1) dX1_isAsCreased_70 rfl) (mpp 71 rfl ?_)
          refine mp_a (a_goto (t := 75) dX1_isAsCreased_71 (by decide)) ?_
          refine mp_Tf (t := 82) (j_icmp_ne dX1_isAsCreased_75) (by decide) (by decide) (mpp 78 rfl ?_)
          refine mp_a (a_iconst (v := 1) dX1_isAsCreased_78 rfl) (mpp 79 rfl ?_)
          refine mp_a (a_goto (t := 83) dX1_isAsCreased_79 (by decide)) ?_
          have u31 : 0 ≤ (1 : Int) ∧ (1 : Int) ≤ 1 := by omega
          exact mp_iret ⟨⟨_, rfl, u31⟩, rfl⟩ dX1_isAsCreased_83 (Or.inr ⟨rfl, by decide⟩)
      · have c19 : x16.toInt = 2 := ti_ne_n c19
        refine mp_a (a_iconst (v := 1) dX1_isAsCreased_34 rfl) (mpp 35 rfl ?_)
        refine mp_a (a_goto (t := 39) dX1_isAsCreased_35 (by decide)) ?_
        refine mp_a (a_istore (L' := [(4, .int 1), (3, .int 0), (0, .ref 294), (1, .int t1), (2, .int t2)]) dX1_isAsCreased_39 (by decide) rfl) (mpp 41 rfl ?_)
        refine mp_a (a_iload_n dX1_isAsCreased_41 rfl) (mpp 42 rfl ?_)
        refine mp_a (a_aload_n dX1_isAsCreased_42 rfl) (mpp 43 rfl ?_)
        refine mt_getU (i := 9) (k := 1) (A := 295) hT dX1_isAsCreased_43 rfl rl_294 (by decide) rfl (by decide) rfl un_14 (mpp 46 rfl ?_)
        refine mp_a (a_iload_n dX1_isAsCreased_46 rfl) (mpp 47 rfl ?_)
        refine mp_a (a_iconst (v := 1) dX1_isAsCreased_47 rfl) (mpp 48 rfl ?_)
        obtain ⟨z32, h33⟩ := ti_ex (t2 - 1 : Int32)
        have wz32 := ti_full z32
        refine mp_t (s_isub (v := z32) dX1_isAsCreased_48 h33) (mpp 49 rfl ?_)
        try have e34 : z32.toInt = t2.toInt - 1 := ti_subz h33 rfl rfl (by omega) (by omega)
        refine mp_calls (i := 59) (q' := q_12) (As := [.ref 295, .int z32]) (rest := [.int t1]) dX1_isAsCreased_49 rfl qm_12 (by decide) rfl (Nat.le_of_ble_eq_true rfl) rfl ⟨rfl, rfl⟩ ⟨Nat.le_of_ble_eq_true rfl, Nat.le_of_ble_eq_true rfl⟩ (EvP.mono (by decide) (c_F_at_order hT hX )) (fun r35 P36 g37 => mpp 52 rfl ?_)
        obtain ⟨⟨x38, rfl, g39⟩, e40⟩ := g37
        have e40 := e40.symm
        subst e40
        have wx38 := ti_full x38
        replace g39 : (0 ≤ z32.toInt ∧ z32.toInt ≤ 7 ∧ x38.toInt = (fv Po 295 z32.toInt.toNat).toInt) ∨ ((z32.toInt < 0 ∨ 8 ≤ z32.toInt) ∧ x38.toInt = 0) := g39
        try replace g39 : x38.toInt = (fv Po 295 z32.toInt.toNat).toInt := (g39.resolve_right (by omega)).2.2
        show MEvP _ none q_68 52 [(4, .int 1), (3, .int 0), (0, .ref 294), (1, .int t1), (2, .int t2)] [.int x38, .int t1] _ _ _ _
        refine mp_Tb (t := 59) (j_icmp_le dX1_isAsCreased_52) (by decide) (fun c41 => ?_) (fun c41 => mpp 55 rfl ?_)
        · have c41 : t1.toInt ≤ x38.toInt := ti_le c41
          refine mp_a (a_iconst (v := 0) dX1_isAsCreased_59 rfl) (mpp 60 rfl ?_)
          refine mp_a (a_istore (L' := [(5, .int 0), (4, .int 1), (3, .int 0), (0, .ref 294), (1, .int t1), (2, .int t2)]) dX1_isAsCreased_60 (by decide) rfl) (mpp 62 rfl ?_)
          refine mp_a (a_iload dX1_isAsCreased_62 rfl) (mpp 64 rfl ?_)
          refine mp_a (a_iload_n dX1_isAsCreased_64 rfl) (mpp 65 rfl ?_)
          refine mp_a (a_iload dX1_isAsCreased_65 rfl) (mpp 67 rfl ?_)
          refine mp_Tt (t := 74) (j_icmp_ne dX1_isAsCreased_67) (by decide) (by decide) ?_
          refine mp_a (a_iconst (v := 0) dX1_isAsCreased_74 rfl) (mpp 75 rfl ?_)
          refine mp_Tf (t := 82) (j_icmp_ne dX1_isAsCreased_75) (by decide) (by decide) (mpp 78 rfl ?_)
          refine mp_a (a_iconst (v := 1) dX1_isAsCreased_78 rfl) (mpp 79 rfl ?_)
          refine mp_a (a_goto (t := 83) dX1_isAsCreased_79 (by decide)) ?_
          have u42 : 0 ≤ (1 : Int) ∧ (1 : Int) ≤ 1 := by omega
          exact mp_iret ⟨⟨_, rfl, u42⟩, rfl⟩ dX1_isAsCreased_83 (Or.inr ⟨rfl, by decide⟩)
        · have c41 : t1.toInt > x38.toInt := ti_le_n c41
          refine mp_a (a_iconst (v := 1) dX1_isAsCreased_55 rfl) (mpp 56 rfl ?_)
          refine mp_a (a_goto (t := 60) dX1_isAsCreased_56 (by decide)) ?_
          refine mp_a (a_istore (L' := [(5, .int 1), (4, .int 1), (3, .int 0), (0, .ref 294), (1, .int t1), (2, .int t2)]) dX1_isAsCreased_60 (by decide) rfl) (mpp 62 rfl ?_)
          refine mp_a (a_iload dX1_isAsCreased_62 rfl) (mpp 64 rfl ?_)
          refine mp_a (a_iload_n dX1_isAsCreased_64 rfl) (mpp 65 rfl ?_)
          refine mp_a (a_iload dX1_isAsCreased_65 rfl) (mpp 67 rfl ?_)
          refine mp_Tt (t := 74) (j_icmp_ne dX1_isAsCreased_67) (by decide) (by decide) ?_
          refine mp_a (a_iconst (v := 0) dX1_isAsCreased_74 rfl) (mpp 75 rfl ?_)
          refine mp_Tt (t := 82) (j_icmp_ne dX1_isAsCreased_75) (by decide) (by decide) ?_
          refine mp_a (a_iconst (v := 0) dX1_isAsCreased_82 rfl) (mpp 83 rfl ?_)
          have u43 : 0 ≤ (0 : Int) ∧ (0 : Int) ≤ 1 := by omega
          exact mp_iret ⟨⟨_, rfl, u43⟩, rfl⟩ dX1_isAsCreased_83 (Or.inr ⟨rfl, by decide⟩)
    · have c9 : z5.toInt = 0 := ti_ne_n c9
      refine mp_a (a_iconst (v := 1) dX1_isAsCreased_14 rfl) (mpp 15 rfl ?_)
      refine mp_a (a_goto (t := 19) dX1_isAsCreased_15 (by decide)) ?_
      refine mp_a (a_istore_n (L' := [(3, .int 1), (0, .ref 294), (1, .int t1), (2, .int t2)]) dX1_isAsCreased_19 (by decide) rfl) (mpp 20 rfl ?_)
      refine mp_a (a_aload_n dX1_isAsCreased_20 rfl) (mpp 21 rfl ?_)
      refine mt_getU (i := 18) (k := 3) (A := 297) hT dX1_isAsCreased_21 rfl rl_294 (by decide) rfl (by decide) rfl un_16 (mpp 24 rfl ?_)
      refine mp_a (a_iload_n dX1_isAsCreased_24 rfl) (mpp 25 rfl ?_)
      refine mp_a (a_iconst (v := 1) dX1_isAsCreased_25 rfl) (mpp 26 rfl ?_)
      obtain ⟨z44, h45⟩ := ti_ex (t2 - 1 : Int32)
      have wz44 := ti_full z44
      refine mp_t (s_isub (v := z44) dX1_isAsCreased_26 h45) (mpp 27 rfl ?_)
      try have e46 : z44.toInt = t2.toInt - 1 := ti_subz h45 rfl rfl (by omega) (by omega)
      refine mp_calls (i := 59) (q' := q_12) (As := [.ref 297, .int z44]) (rest := []) dX1_isAsCreased_27 rfl qm_12 (by decide) rfl (Nat.le_of_ble_eq_true rfl) rfl ⟨rfl, rfl⟩ ⟨Nat.le_of_ble_eq_true rfl, Nat.le_of_ble_eq_true rfl⟩ (EvP.mono (by decide) (c_F_at_lcreases hT hX )) (fun r47 P48 g49 => mpp 30 rfl ?_)
      obtain ⟨⟨x50, rfl, g51⟩, e52⟩ := g49
      have e52 := e52.symm
      subst e52
      have wx50 := ti_full x50
      replace g51 : (0 ≤ z44.toInt ∧ z44.toInt ≤ 7 ∧ x50.toInt = (fv Po 297 z44.toInt.toNat).toInt) ∨ ((z44.toInt < 0 ∨ 8 ≤ z44.toInt) ∧ x50.toInt = 0) := g51
      try replace g51 : x50.toInt = (fv Po 297 z44.toInt.toNat).toInt := (g51.resolve_right (by omega)).2.2
      show MEvP _ none q_68 30 [(3, .int 1), (0, .ref 294), (1, .int t1), (2, .int t2)] [.int x50] _ _ _ _
      refine mp_a (a_iconst (v := 2) dX1_isAsCreased_30 rfl) (mpp 31 rfl ?_)
      refine mp_Tb (t := 38) (j_icmp_ne dX1_isAsCreased_31) (by decide) (fun c53 => ?_) (fun c53 => mpp 34 rfl ?_)
      · have c53 : x50.toInt ≠ 2 := ti_ne c53
        refine mp_a (a_iconst (v := 0) dX1_isAsCreased_38 rfl) (mpp 39 rfl ?_)
        refine mp_a (a_istore (L' := [(4, .int 0), (3, .int 1), (0, .ref 294), (1, .int t1), (2, .int t2)]) dX1_isAsCreased_39 (by decide) rfl) (mpp 41 rfl ?_)
        refine mp_a (a_iload_n dX1_isAsCreased_41 rfl) (mpp 42 rfl ?_)
        refine mp_a (a_aload_n dX1_isAsCreased_42 rfl) (mpp 43 rfl ?_)
        refine mt_getU (i := 9) (k := 1) (A := 295) hT dX1_isAsCreased_43 rfl rl_294 (by decide) rfl (by decide) rfl un_14 (mpp 46 rfl ?_)
        refine mp_a (a_iload_n dX1_isAsCreased_46 rfl) (mpp 47 rfl ?_)
        refine mp_a (a_iconst (v := 1) dX1_isAsCreased_47 rfl) (mpp 48 rfl ?_)
        obtain ⟨z54, h55⟩ := ti_ex (t2 - 1 : Int32)
        have wz54 := ti_full z54
        refine mp_t (s_isub (v := z54) dX1_isAsCreased_48 h55) (mpp 49 rfl ?_)
        try have e56 : z54.toInt = t2.toInt - 1 := ti_subz h55 rfl rfl (by omega) (by omega)
        refine mp_calls (i := 59) (q' := q_12) (As := [.ref 295, .int z54]) (rest := [.int t1]) dX1_isAsCreased_49 rfl qm_12 (by decide) rfl (Nat.le_of_ble_eq_true rfl) rfl ⟨rfl, rfl⟩ ⟨Nat.le_of_ble_eq_true rfl, Nat.le_of_ble_eq_true rfl⟩ (EvP.mono (by decide) (c_F_at_order hT hX )) (fun r57 P58 g59 => mpp 52 rfl ?_)
        obtain ⟨⟨x60, rfl, g61⟩, e62⟩ := g59
        have e62 := e62.symm
        subst e62
        have wx60 := ti_full x60
        replace g61 : (0 ≤ z54.toInt ∧ z54.toInt ≤ 7 ∧ x60.toInt = (fv Po 295 z54.toInt.toNat).toInt) ∨ ((z54.toInt < 0 ∨ 8 ≤ z54.toInt) ∧ x60.toInt = 0) := g61
        try replace g61 : x60.toInt = (fv Po 295 z54.toInt.toNat).toInt := (g61.resolve_right (by omega)).2.2
        show MEvP _ none q_68 52 [(4, .int 0), (3, .int 1), (0, .ref 294), (1, .int t1), (2, .int t2)] [.int x60, .int t1] _ _ _ _
        refine mp_Tb (t := 59) (j_icmp_le dX1_isAsCreased_52) (by decide) (fun c63 => ?_) (fun c63 => mpp 55 rfl ?_)
        · have c63 : t1.toInt ≤ x60.toInt := ti_le c63
          refine mp_a (a_iconst (v := 0) dX1_isAsCreased_59 rfl) (mpp 60 rfl ?_)
          refine mp_a (a_istore (L' := [(5, .int 0), (4, .int 0), (3, .int 1), (0, .ref 294), (1, .int t1), (2, .int t2)]) dX1_isAsCreased_60 (by decide) rfl) (mpp 62 rfl ?_)
          refine mp_a (a_iload dX1_isAsCreased_62 rfl) (mpp 64 rfl ?_)
          refine mp_a (a_iload_n dX1_isAsCreased_64 rfl) (mpp 65 rfl ?_)
          refine mp_a (a_iload dX1_isAsCreased_65 rfl) (mpp 67 rfl ?_)
          refine mp_Tt (t := 74) (j_icmp_ne dX1_isAsCreased_67) (by decide) (by decide) ?_
          refine mp_a (a_iconst (v := 0) dX1_isAsCreased_74 rfl) (mpp 75 rfl ?_)
          refine mp_Tf (t := 82) (j_icmp_ne dX1_isAsCreased_75) (by decide) (by decide) (mpp 78 rfl ?_)
          refine mp_a (a_iconst (v := 1) dX1_isAsCreased_78 rfl) (mpp 79 rfl ?_)
          refine mp_a (a_goto (t := 83) dX1_isAsCreased_79 (by decide)) ?_
          have u64 : 0 ≤ (1 : Int) ∧ (1 : Int) ≤ 1 := by omega
          exact mp_iret ⟨⟨_, rfl, u64⟩, rfl⟩ dX1_isAsCreased_83 (Or.inr ⟨rfl, by decide⟩)
        · have c63 : t1.toInt > x60.toInt := ti_le_n c63
          refine mp_a (a_iconst (v := 1) dX1_isAsCreased_55 rfl) (mpp 56 rfl ?_)
          refine mp_a (a_goto (t := 60) dX1_isAsCreased_56 (by decide)) ?_
          refine mp_a (a_istore (L' := [(5, .int 1), (4, .int 0), (3, .int 1), (0, .ref 294), (1, .int t1), (2, .int t2)]) dX1_isAsCreased_60 (by decide) rfl) (mpp 62 rfl ?_)
          refine mp_a (a_iload dX1_isAsCreased_62 rfl) (mpp 64 rfl ?_)
          refine mp_a (a_iload_n dX1_isAsCreased_64 rfl) (mpp 65 rfl ?_)
          refine mp_a (a_iload dX1_isAsCreased_65 rfl) (mpp 67 rfl ?_)
          refine mp_Tt (t := 74) (j_icmp_ne dX1_isAsCreased_67) (by decide) (by decide) ?_
          refine mp_a (a_iconst (v := 0) dX1_isAsCreased_74 rfl) (mpp 75 rfl ?_)
          refine mp_Tt (t := 82) (j_icmp_ne dX1_isAsCreased_75) (by decide) (by decide) ?_
          refine mp_a (a_iconst (v := 0) dX1_isAsCreased_82 rfl) (mpp 83 rfl ?_)
          have u65 : 0 ≤ (0 : Int) ∧ (0 : Int) ≤ 1 := by omega
          exact mp_iret ⟨⟨_, rfl, u65⟩, rfl⟩ dX1_isAsCreased_83 (Or.inr ⟨rfl, by decide⟩)
      · have c53 : x50.toInt = 2 := ti_ne_n c53
        refine mp_a (a_iconst (v := 1) dX1_isAsCreased_34 rfl) (mpp 35 rfl ?_)
        refine mp_a (a_goto (t := 39) dX1_isAsCreased_35 (by decide)) ?_
        refine mp_a (a_istore (L' := [(4, .int 1), (3, .int 1), (0, .ref 294), (1, .int t1), (2, .int t2)]) dX1_isAsCreased_39 (by decide) rfl) (mpp 41 rfl ?_)
        refine mp_a (a_iload_n dX1_isAsCreased_41 rfl) (mpp 42 rfl ?_)
        refine mp_a (a_aload_n dX1_isAsCreased_42 rfl) (mpp 43 rfl ?_)
        refine mt_getU (i := 9) (k := 1) (A := 295) hT dX1_isAsCreased_43 rfl rl_294 (by decide) rfl (by decide) rfl un_14 (mpp 46 rfl ?_)
        refine mp_a (a_iload_n dX1_isAsCreased_46 rfl) (mpp 47 rfl ?_)
        refine mp_a (a_iconst (v := 1) dX1_isAsCreased_47 rfl) (mpp 48 rfl ?_)
        obtain ⟨z66, h67⟩ := ti_ex (t2 - 1 : Int32)
        have wz66 := ti_full z66
        refine mp_t (s_isub (v := z66) dX1_isAsCreased_48 h67) (mpp 49 rfl ?_)
        try have e68 : z66.toInt = t2.toInt - 1 := ti_subz h67 rfl rfl (by omega) (by omega)
        refine mp_calls (i := 59) (q' := q_12) (As := [.ref 295, .int z66]) (rest := [.int t1]) dX1_isAsCreased_49 rfl qm_12 (by decide) rfl (Nat.le_of_ble_eq_true rfl) rfl ⟨rfl, rfl⟩ ⟨Nat.le_of_ble_eq_true rfl, Nat.le_of_ble_eq_true rfl⟩ (EvP.mono (by decide) (c_F_at_order hT hX )) (fun r69 P70 g71 => mpp 52 rfl ?_)
        obtain ⟨⟨x72, rfl, g73⟩, e74⟩ := g71
        have e74 := e74.symm
        subst e74
        have wx72 := ti_full x72
        replace g73 : (0 ≤ z66.toInt ∧ z66.toInt ≤ 7 ∧ x72.toInt = (fv Po 295 z66.toInt.toNat).toInt) ∨ ((z66.toInt < 0 ∨ 8 ≤ z66.toInt) ∧ x72.toInt = 0) := g73
        try replace g73 : x72.toInt = (fv Po 295 z66.toInt.toNat).toInt := (g73.resolve_right (by omega)).2.2
        show MEvP _ none q_68 52 [(4, .int 1), (3, .int 1), (0, .ref 294), (1, .int t1), (2, .int t2)] [.int x72, .int t1] _ _ _ _
        refine mp_Tb (t := 59) (j_icmp_le dX1_isAsCreased_52) (by decide) (fun c75 => ?_) (fun c75 => mpp 55 rfl ?_)
        · have c75 : t1.toInt ≤ x72.toInt := ti_le c75
          refine mp_a (a_iconst (v := 0) dX1_isAsCreased_59 rfl) (mpp 60 rfl ?_)
          refine mp_a (a_istore (L' := [(5, .int 0), (4, .int 1), (3, .int 1), (0, .ref 294), (1, .int t1), (2, .int t2)]) dX1_isAsCreased_60 (by decide) rfl) (mpp 62 rfl ?_)
          refine mp_a (a_iload dX1_isAsCreased_62 rfl) (mpp 64 rfl ?_)
          refine mp_a (a_iload_n dX1_isAsCreased_64 rfl) (mpp 65 rfl ?_)
          refine mp_a (a_iload dX1_isAsCreased_65 rfl) (mpp 67 rfl ?_)
          refine mp_Tf (t := 74) (j_icmp_ne dX1_isAsCreased_67) (by decide) (by decide) (mpp 70 rfl ?_)
          refine mp_a (a_iconst (v := 1) dX1_isAsCreased_70 rfl) (mpp 71 rfl ?_)
          refine mp_a (a_goto (t := 75) dX1_isAsCreased_71 (by decide)) ?_
          refine mp_Tt (t := 82) (j_icmp_ne dX1_isAsCreased_75) (by decide) (by decide) ?_
          refine mp_a (a_iconst (v := 0) dX1_isAsCreased_82 rfl) (mpp 83 rfl ?_)
          have u76 : 0 ≤ (0 : Int) ∧ (0 : Int) ≤ 1 := by omega
          exact mp_iret ⟨⟨_, rfl, u76⟩, rfl⟩ dX1_isAsCreased_83 (Or.inr ⟨rfl, by decide⟩)
        · have c75 : t1.toInt > x72.toInt := ti_le_n c75
          refine mp_a (a_iconst (v := 1) dX1_isAsCreased_55 rfl) (mpp 56 rfl ?_)
          refine mp_a (a_goto (t := 60) dX1_isAsCreased_56 (by decide)) ?_
          refine mp_a (a_istore (L' := [(5, .int 1), (4, .int 1), (3, .int 1), (0, .ref 294), (1, .int t1), (2, .int t2)]) dX1_isAsCreased_60 (by decide) rfl) (mpp 62 rfl ?_)
          refine mp_a (a_iload dX1_isAsCreased_62 rfl) (mpp 64 rfl ?_)
          refine mp_a (a_iload_n dX1_isAsCreased_64 rfl) (mpp 65 rfl ?_)
          refine mp_a (a_iload dX1_isAsCreased_65 rfl) (mpp 67 rfl ?_)
          refine mp_Tf (t := 74) (j_icmp_ne dX1_isAsCreased_67) (by decide) (by decide) (mpp 70 rfl ?_)
          refine mp_a (a_iconst (v := 1) dX1_isAsCreased_70 rfl) (mpp 71 rfl ?_)
          refine mp_a (a_goto (t := 75) dX1_isAsCreased_71 (by decide)) ?_
          refine mp_Tf (t := 82) (j_icmp_ne dX1_isAsCreased_75) (by decide) (by decide) (mpp 78 rfl ?_)
          refine mp_a (a_iconst (v := 1) dX1_isAsCreased_78 rfl) (mpp 79 rfl ?_)
          refine mp_a (a_goto (t := 83) dX1_isAsCreased_79 (by decide)) ?_
          have u77 : 0 ≤ (1 : Int) ∧ (1 : Int) ≤ 1 := by omega
          exact mp_iret ⟨⟨_, rfl, u77⟩, rfl⟩ dX1_isAsCreased_83 (Or.inr ⟨rfl, by decide⟩)
  · have c1 : t2.toInt = 0 := ti_ne_n c1
    refine mp_a (a_iconst (v := 1) dX1_isAsCreased_4 rfl) (mpp 5 rfl ?_)
    have u78 : 0 ≤ (1 : Int) ∧ (1 : Int) ≤ 1 := by omega
    exact mp_iret ⟨⟨_, rfl, u78⟩, rfl⟩ dX1_isAsCreased_5 (Or.inr ⟨rfl, by decide⟩)

set_option maxHeartbeats 4000000 in
theorem c_CL_nextLayer_Layers_l11 {Po : mP} {t1 : Int32} (hT : Typ Po) (hX : XR Po)   : ∀ (n : Nat) (v2 : Int32), (2147483647 - v2.toInt).toNat = n → MEvP 2 none q_66 11 [(0, .ref 294), (1, .int t1), (2, .int v2)] [] Po 0 0 (fun r P' => (∃ x : Int32, r = some (.int x) ∧ (True)) ∧ P' = Po) := by
  intro n
  induction n using Nat.strongRecOn with | _ n ih => ?_
  intro v2  hm
  have w_t1 := ti_full t1
  have w_v2 := ti_full v2
  refine mp_a (a_iload_n dX1_nextLayer_11 rfl) (mpp 12 rfl ?_)
  refine mp_a (a_aload_n dX1_nextLayer_12 rfl) (mpp 13 rfl ?_)
  have g1 : (0 : Int) ≤ (fv Po 294 0).toInt ∧ (fv Po 294 0).toInt ≤ 8 := Typ.rng hT rl_294 (by decide) (by decide) rfl
  refine mt_getI (i := 30) (k := 0) hT dX1_nextLayer_13 rfl rl_294 (by decide) rfl (by decide) rfl (fun g2 g3 => mpp 16 rfl ?_)
  refine mp_Tb (t := 45) (j_icmp_ge dX1_nextLayer_16) (by decide) (fun c4 => ?_) (fun c4 => mpp 19 rfl ?_)
  · have c4 : v2.toInt ≥ (fv Po 294 0).toInt := ti_ge c4
    refine mp_a (a_iconst (v := -1) dX1_nextLayer_45 rfl) (mpp 46 rfl ?_)
    exact mp_iret ⟨⟨_, rfl, trivial⟩, rfl⟩ dX1_nextLayer_46 (Or.inl rfl)
  · have c4 : v2.toInt < (fv Po 294 0).toInt := ti_ge_n c4
    refine mp_a (a_aload_n dX1_nextLayer_19 rfl) (mpp 20 rfl ?_)
    refine mp_a (a_iload_n dX1_nextLayer_20 rfl) (mpp 21 rfl ?_)
    refine mp_a (a_iload_n dX1_nextLayer_21 rfl) (mpp 22 rfl ?_)
    refine mt_callv (i := 63) (q' := q_67) (As := [.int v2, .int t1]) (rest := []) hT dX1_nextLayer_22 rfl qm_67 (by decide) rfl rl_294 (by decide) rfl (Nat.le_of_ble_eq_true rfl) rfl ⟨rfl, rfl⟩ ⟨Nat.le_of_ble_eq_true rfl, Nat.le_of_ble_eq_true rfl⟩ (EvP.mono (by decide) (c_CL_isFree_Layers hT hX )) (fun r5 P6 g7 => mpp 25 rfl ?_)
    obtain ⟨⟨x8, rfl, g9⟩, e10⟩ := g7
    have e10 := e10.symm
    subst e10
    have wx8 := ti_full x8
    replace g9 : 0 ≤ x8.toInt ∧ x8.toInt ≤ 1 := g9
    show MEvP _ none q_66 25 [(0, .ref 294), (1, .int t1), (2, .int v2)] [.int x8] _ _ _ _
    refine mp_Tb (t := 39) (j_if_eq dX1_nextLayer_25) (by decide) (fun c11 => ?_) (fun c11 => mpp 28 rfl ?_)
    · have c11 : x8.toInt = 0 := ti_eq c11
      obtain ⟨z12, h13⟩ := ti_ex (v2 + 1 : Int32)
      have wz12 := ti_full z12
      refine mp_a (a_iinc (v := z12) (L' := [(2, .int z12), (0, .ref 294), (1, .int t1)]) dX1_nextLayer_39 (by decide) rfl h13 rfl) (mpp 42 rfl ?_)
      try have e14 : z12.toInt = v2.toInt + 1 := ti_addz h13 rfl rfl (by omega) (by omega)
      refine mp_a (a_goto (t := 11) dX1_nextLayer_42 (by decide)) ?_
      refine MEvP.less (L := [(0, .ref 294), (1, .int t1), (2, .int z12)]) rfl rfl ⟨rfl, rfl, rfl, trivial⟩ ?_
      exact ih _ (by omega) _  rfl
    · have c11 : x8.toInt ≠ 0 := ti_eq_n c11
      refine mp_a (a_aload_n dX1_nextLayer_28 rfl) (mpp 29 rfl ?_)
      refine mp_a (a_iload_n dX1_nextLayer_29 rfl) (mpp 30 rfl ?_)
      refine mp_a (a_iload_n dX1_nextLayer_30 rfl) (mpp 31 rfl ?_)
      refine mt_callv (i := 67) (q' := q_68) (As := [.int v2, .int t1]) (rest := []) hT dX1_nextLayer_31 rfl qm_68 (by decide) rfl rl_294 (by decide) rfl (Nat.le_of_ble_eq_true rfl) rfl ⟨rfl, rfl⟩ ⟨Nat.le_of_ble_eq_true rfl, Nat.le_of_ble_eq_true rfl⟩ (EvP.mono (by decide) (c_CL_isAsCreased_Layers hT hX )) (fun r15 P16 g17 => mpp 34 rfl ?_)
      obtain ⟨⟨x18, rfl, g19⟩, e20⟩ := g17
      have e20 := e20.symm
      subst e20
      have wx18 := ti_full x18
      replace g19 : 0 ≤ x18.toInt ∧ x18.toInt ≤ 1 := g19
      show MEvP _ none q_66 34 [(0, .ref 294), (1, .int t1), (2, .int v2)] [.int x18] _ _ _ _
      refine mp_Tb (t := 39) (j_if_eq dX1_nextLayer_34) (by decide) (fun c21 => ?_) (fun c21 => mpp 37 rfl ?_)
      · have c21 : x18.toInt = 0 := ti_eq c21
        obtain ⟨z22, h23⟩ := ti_ex (v2 + 1 : Int32)
        have wz22 := ti_full z22
        refine mp_a (a_iinc (v := z22) (L' := [(2, .int z22), (0, .ref 294), (1, .int t1)]) dX1_nextLayer_39 (by decide) rfl h23 rfl) (mpp 42 rfl ?_)
        try have e24 : z22.toInt = v2.toInt + 1 := ti_addz h23 rfl rfl (by omega) (by omega)
        refine mp_a (a_goto (t := 11) dX1_nextLayer_42 (by decide)) ?_
        refine MEvP.less (L := [(0, .ref 294), (1, .int t1), (2, .int z22)]) rfl rfl ⟨rfl, rfl, rfl, trivial⟩ ?_
        exact ih _ (by omega) _  rfl
      · have c21 : x18.toInt ≠ 0 := ti_eq_n c21
        refine mp_a (a_iload_n dX1_nextLayer_37 rfl) (mpp 38 rfl ?_)
        exact mp_iret ⟨⟨_, rfl, trivial⟩, rfl⟩ dX1_nextLayer_38 (Or.inl rfl)

set_option maxHeartbeats 4000000 in
theorem c_CL_nextLayer_Layers {Po : mP} {t1 : Int32} (hT : Typ Po) (hX : XR Po)   : EvP 3 66 [.ref 294, .int t1] Po (fun r P' => (∃ x : Int32, r = some (.int x) ∧ (True)) ∧ P' = Po) := by
  refine EvP.of qm_66 (Nat.le_of_ble_eq_true rfl) rfl ?_
  show MEvP _ none q_66 0 [(0, .ref 294), (1, .int t1)] [] _ 0 0 _
  have w_t1 := ti_full t1
  refine mp_a (a_aload_n dX1_nextLayer_0 rfl) (mpp 1 rfl ?_)
  refine mt_getU (i := 9) (k := 1) (A := 295) hT dX1_nextLayer_1 rfl rl_294 (by decide) rfl (by decide) rfl un_14 (mpp 4 rfl ?_)
  refine mp_a (a_iload_n dX1_nextLayer_4 rfl) (mpp 5 rfl ?_)
  refine mp_calls (i := 59) (q' := q_12) (As := [.ref 295, .int t1]) (rest := []) dX1_nextLayer_5 rfl qm_12 (by decide) rfl (Nat.le_of_ble_eq_true rfl) rfl ⟨rfl, rfl⟩ ⟨Nat.le_of_ble_eq_true rfl, Nat.le_of_ble_eq_true rfl⟩ (EvP.mono (by decide) (c_F_at_order hT hX )) (fun r1 P2 g3 => mpp 8 rfl ?_)
  obtain ⟨⟨x4, rfl, g5⟩, e6⟩ := g3
  have e6 := e6.symm
  subst e6
  have wx4 := ti_full x4
  replace g5 : (0 ≤ t1.toInt ∧ t1.toInt ≤ 7 ∧ x4.toInt = (fv Po 295 t1.toInt.toNat).toInt) ∨ ((t1.toInt < 0 ∨ 8 ≤ t1.toInt) ∧ x4.toInt = 0) := g5
  try replace g5 : x4.toInt = (fv Po 295 t1.toInt.toNat).toInt := (g5.resolve_right (by omega)).2.2
  show MEvP _ none q_66 8 [(0, .ref 294), (1, .int t1)] [.int x4] _ _ _ _
  refine mp_a (a_iconst (v := 1) dX1_nextLayer_8 rfl) (mpp 9 rfl ?_)
  obtain ⟨z7, h8⟩ := ti_ex (x4 + 1 : Int32)
  have wz7 := ti_full z7
  refine mp_t (s_iadd (v := z7) dX1_nextLayer_9 h8) (mpp 10 rfl ?_)
  try have e9 : z7.toInt = x4.toInt + 1 := ti_addz h8 rfl rfl (by omega) (by omega)
  refine mp_a (a_istore_n (L' := [(2, .int z7), (0, .ref 294), (1, .int t1)]) dX1_nextLayer_10 (by decide) rfl) (mpp 11 rfl ?_)
  refine MEvP.less (L := [(0, .ref 294), (1, .int t1), (2, .int z7)]) rfl rfl ⟨rfl, rfl, rfl, trivial⟩ ?_
  exact c_CL_nextLayer_Layers_l11 hT hX   _ _  rfl

set_option maxHeartbeats 4000000 in
theorem c_CL_search_Layers_NPiece_l22 {Po : mP} {a1_ : Nat} {t2 : Int32} (hTo : Typ Po) (hX : XR Po) (ha1 : rl a1_ = 33) : ∀ (n : Nat) (v3 : Int32) (v4 : Int32) (v5 : Int32), ∀ (P : mP), Typ P → KW [832, 896, 960, 1024] Po P → (0 ≤ v5.toInt) → (2147483647 - v5.toInt).toNat = n → MEvP 4 none q_64 22 [(0, .ref 294), (1, .ref a1_), (2, .int t2), (3, .int v3), (4, .int v4), (5, .int v5)] [] P 0 0 (fun r P' => (∃ x : Int32, r = some (.int x) ∧ (True)) ∧ Typ P' ∧ KW [832, 896, 960, 1024] Po P' ∧ True) := by
  intro n
  induction n using Nat.strongRecOn with | _ n ih => ?_
  intro v3 v4 v5 P hT hK i_0 hm
  have w1 := np_ar ha1
  have w_t2 := ti_full t2
  have w_v3 := ti_full v3
  have w_v4 := ti_full v4
  have w_v5 := ti_full v5
  refine mp_a (a_iload dX1_search_22 rfl) (mpp 24 rfl ?_)
  refine mp_ldc (v := 1000000) dX1_search_24 rfl (mpp 26 rfl ?_)
  refine mp_Tb (t := 122) (j_icmp_ge dX1_search_26) (by decide) (fun c2 => ?_) (fun c2 => mpp 29 rfl ?_)
  · have c2 : v5.toInt ≥ 1000000 := ti_ge c2
    refine mp_a (a_iload_n dX1_search_122 rfl) (mpp 123 rfl ?_)
    exact mp_iret ⟨⟨_, rfl, trivial⟩, hT, hK, trivial⟩ dX1_search_123 (Or.inl rfl)
  · have c2 : v5.toInt < 1000000 := ti_ge_n c2
    refine mp_a (a_iload dX1_search_29 rfl) (mpp 31 rfl ?_)
    refine mp_Tb (t := 122) (j_if_lt dX1_search_31) (by decide) (fun c3 => ?_) (fun c3 => mpp 34 rfl ?_)
    · have c3 : v4.toInt < 0 := ti_lt c3
      refine mp_a (a_iload_n dX1_search_122 rfl) (mpp 123 rfl ?_)
      exact mp_iret ⟨⟨_, rfl, trivial⟩, hT, hK, trivial⟩ dX1_search_123 (Or.inl rfl)
    · have c3 : v4.toInt ≥ 0 := ti_lt_n c3
      refine mp_a (a_iload dX1_search_34 rfl) (mpp 36 rfl ?_)
      refine mp_a (a_aload_n dX1_search_36 rfl) (mpp 37 rfl ?_)
      have g4 : (0 : Int) ≤ (fv P 294 0).toInt ∧ (fv P 294 0).toInt ≤ 8 := Typ.rng hT rl_294 (by decide) (by decide) rfl
      refine mt_getI (i := 30) (k := 0) hT dX1_search_37 rfl rl_294 (by decide) rfl (by decide) rfl (fun g5 g6 => mpp 40 rfl ?_)
      refine mp_Tb (t := 52) (j_icmp_ge dX1_search_40) (by decide) (fun c7 => ?_) (fun c7 => mpp 43 rfl ?_)
      · have c7 : v4.toInt ≥ (fv P 294 0).toInt := ti_ge c7
        refine mp_a (a_iconst (v := -1) dX1_search_52 rfl) (mpp 53 rfl ?_)
        refine mp_a (a_istore (L' := [(6, .int (-1)), (0, .ref 294), (1, .ref a1_), (2, .int t2), (3, .int v3), (4, .int v4), (5, .int v5)]) dX1_search_53 (by decide) rfl) (mpp 55 rfl ?_)
        refine mp_a (a_iload dX1_search_55 rfl) (mpp 57 rfl ?_)
        refine mp_Tt (t := 87) (j_if_lt dX1_search_57) (by decide) (by decide) ?_
        refine mp_a (a_iload dX1_search_87 rfl) (mpp 89 rfl ?_)
        refine mp_a (a_aload_n dX1_search_89 rfl) (mpp 90 rfl ?_)
        refine mt_getI (i := 30) (k := 0) hT dX1_search_90 rfl rl_294 (by decide) rfl (by decide) rfl (fun g8 g9 => mpp 93 rfl ?_)
        refine mp_Tb (t := 113) (j_icmp_ne dX1_search_93) (by decide) (fun c10 => ?_) (fun c10 => mpp 96 rfl ?_)
        · have c10 : v4.toInt ≠ (fv P 294 0).toInt := ti_ne c10
          obtain ⟨z11, h12⟩ := ti_ex (v4 + (-1) : Int32)
          have wz11 := ti_full z11
          refine mp_a (a_iinc (v := z11) (L' := [(4, .int z11), (6, .int (-1)), (0, .ref 294), (1, .ref a1_), (2, .int t2), (3, .int v3), (5, .int v5)]) dX1_search_113 (by decide) rfl h12 rfl) (mpp 116 rfl ?_)
          try have e13 : z11.toInt = v4.toInt + (-1) := ti_addz h12 rfl rfl (by omega) (by omega)
          obtain ⟨z14, h15⟩ := ti_ex (v5 + 1 : Int32)
          have wz14 := ti_full z14
          refine mp_a (a_iinc (v := z14) (L' := [(5, .int z14), (4, .int z11), (6, .int (-1)), (0, .ref 294), (1, .ref a1_), (2, .int t2), (3, .int v3)]) dX1_search_116 (by decide) rfl h15 rfl) (mpp 119 rfl ?_)
          try have e16 : z14.toInt = v5.toInt + 1 := ti_addz h15 rfl rfl (by omega) (by omega)
          refine mp_a (a_goto (t := 22) dX1_search_119 (by decide)) ?_
          refine MEvP.less (L := [(0, .ref 294), (1, .ref a1_), (2, .int t2), (3, .int v3), (4, .int z11), (5, .int z14)]) rfl rfl ⟨rfl, rfl, rfl, rfl, rfl, rfl, trivial⟩ ?_
          have i17 : 0 ≤ z14.toInt := by omega
          exact ih _ (by omega) _ _ _ P hT hK i17 rfl
        · have c10 : v4.toInt = (fv P 294 0).toInt := ti_ne_n c10
          refine mp_a (a_aload_n dX1_search_96 rfl) (mpp 97 rfl ?_)
          refine mt_callv (i := 38) (q' := q_69) (As := []) (rest := []) hT dX1_search_97 rfl qm_69 (by decide) rfl rl_294 (by decide) rfl (Nat.le_of_ble_eq_true rfl) rfl ⟨rfl, rfl⟩ ⟨Nat.le_of_ble_eq_true rfl, Nat.le_of_ble_eq_true rfl⟩ (EvP.mono (by decide) (c_CL_layersCollide_Layers hT (KW.xr hK hX) )) (fun r18 P19 g20 => mpp 100 rfl ?_)
          obtain ⟨⟨x21, rfl, g22⟩, e23⟩ := g20
          have e23 := e23.symm
          subst e23
          have wx21 := ti_full x21
          replace g22 : 0 ≤ x21.toInt ∧ x21.toInt ≤ 1 := g22
          show MEvP _ none q_64 100 [(6, .int (-1)), (0, .ref 294), (1, .ref a1_), (2, .int t2), (3, .int v3), (4, .int v4), (5, .int v5)] [.int x21] _ _ _ _
          refine mp_Tb (t := 113) (j_if_ne dX1_search_100) (by decide) (fun c24 => ?_) (fun c24 => mpp 103 rfl ?_)
          · have c24 : x21.toInt ≠ 0 := ti_ne c24
            obtain ⟨z25, h26⟩ := ti_ex (v4 + (-1) : Int32)
            have wz25 := ti_full z25
            refine mp_a (a_iinc (v := z25) (L' := [(4, .int z25), (6, .int (-1)), (0, .ref 294), (1, .ref a1_), (2, .int t2), (3, .int v3), (5, .int v5)]) dX1_search_113 (by decide) rfl h26 rfl) (mpp 116 rfl ?_)
            try have e27 : z25.toInt = v4.toInt + (-1) := ti_addz h26 rfl rfl (by omega) (by omega)
            obtain ⟨z28, h29⟩ := ti_ex (v5 + 1 : Int32)
            have wz28 := ti_full z28
            refine mp_a (a_iinc (v := z28) (L' := [(5, .int z28), (4, .int z25), (6, .int (-1)), (0, .ref 294), (1, .ref a1_), (2, .int t2), (3, .int v3)]) dX1_search_116 (by decide) rfl h29 rfl) (mpp 119 rfl ?_)
            try have e30 : z28.toInt = v5.toInt + 1 := ti_addz h29 rfl rfl (by omega) (by omega)
            refine mp_a (a_goto (t := 22) dX1_search_119 (by decide)) ?_
            refine MEvP.less (L := [(0, .ref 294), (1, .ref a1_), (2, .int t2), (3, .int v3), (4, .int z25), (5, .int z28)]) rfl rfl ⟨rfl, rfl, rfl, rfl, rfl, rfl, trivial⟩ ?_
            have i31 : 0 ≤ z28.toInt := by omega
            exact ih _ (by omega) _ _ _ P hT hK i31 rfl
          · have c24 : x21.toInt = 0 := ti_ne_n c24
            obtain ⟨z32, h33⟩ := ti_ex (v3 + 1 : Int32)
            have wz32 := ti_full z32
            refine mp_a (a_iinc (v := z32) (L' := [(3, .int z32), (6, .int (-1)), (0, .ref 294), (1, .ref a1_), (2, .int t2), (4, .int v4), (5, .int v5)]) dX1_search_103 (by decide) rfl h33 rfl) (mpp 106 rfl ?_)
            try have e34 : z32.toInt = v3.toInt + 1 := ti_addz h33 rfl rfl (by omega) (by omega)
            refine mp_a (a_iload_n dX1_search_106 rfl) (mpp 107 rfl ?_)
            refine mp_a (a_iload_n dX1_search_107 rfl) (mpp 108 rfl ?_)
            refine mp_Tb (t := 113) (j_icmp_lt dX1_search_108) (by decide) (fun c35 => ?_) (fun c35 => mpp 111 rfl ?_)
            · have c35 : z32.toInt < t2.toInt := ti_lt c35
              obtain ⟨z36, h37⟩ := ti_ex (v4 + (-1) : Int32)
              have wz36 := ti_full z36
              refine mp_a (a_iinc (v := z36) (L' := [(4, .int z36), (3, .int z32), (6, .int (-1)), (0, .ref 294), (1, .ref a1_), (2, .int t2), (5, .int v5)]) dX1_search_113 (by decide) rfl h37 rfl) (mpp 116 rfl ?_)
              try have e38 : z36.toInt = v4.toInt + (-1) := ti_addz h37 rfl rfl (by omega) (by omega)
              obtain ⟨z39, h40⟩ := ti_ex (v5 + 1 : Int32)
              have wz39 := ti_full z39
              refine mp_a (a_iinc (v := z39) (L' := [(5, .int z39), (4, .int z36), (3, .int z32), (6, .int (-1)), (0, .ref 294), (1, .ref a1_), (2, .int t2)]) dX1_search_116 (by decide) rfl h40 rfl) (mpp 119 rfl ?_)
              try have e41 : z39.toInt = v5.toInt + 1 := ti_addz h40 rfl rfl (by omega) (by omega)
              refine mp_a (a_goto (t := 22) dX1_search_119 (by decide)) ?_
              refine MEvP.less (L := [(0, .ref 294), (1, .ref a1_), (2, .int t2), (3, .int z32), (4, .int z36), (5, .int z39)]) rfl rfl ⟨rfl, rfl, rfl, rfl, rfl, rfl, trivial⟩ ?_
              have i42 : 0 ≤ z39.toInt := by omega
              exact ih _ (by omega) _ _ _ P hT hK i42 rfl
            · have c35 : z32.toInt ≥ t2.toInt := ti_lt_n c35
              refine mp_a (a_iload_n dX1_search_111 rfl) (mpp 112 rfl ?_)
              exact mp_iret ⟨⟨_, rfl, trivial⟩, hT, hK, trivial⟩ dX1_search_112 (Or.inl rfl)
      · have c7 : v4.toInt < (fv P 294 0).toInt := ti_ge_n c7
        refine mp_a (a_aload_n dX1_search_43 rfl) (mpp 44 rfl ?_)
        refine mp_a (a_iload dX1_search_44 rfl) (mpp 46 rfl ?_)
        refine mt_callv (i := 34) (q' := q_66) (As := [.int v4]) (rest := []) hT dX1_search_46 rfl qm_66 (by decide) rfl rl_294 (by decide) rfl (Nat.le_of_ble_eq_true rfl) rfl ⟨rfl, rfl⟩ ⟨Nat.le_of_ble_eq_true rfl, Nat.le_of_ble_eq_true rfl⟩ (EvP.mono (by decide) (c_CL_nextLayer_Layers hT (KW.xr hK hX) )) (fun r43 P44 g45 => mpp 49 rfl ?_)
        obtain ⟨⟨x46, rfl, g47⟩, e48⟩ := g45
        have e48 := e48.symm
        subst e48
        have wx46 := ti_full x46
        show MEvP _ none q_64 49 [(0, .ref 294), (1, .ref a1_), (2, .int t2), (3, .int v3), (4, .int v4), (5, .int v5)] [.int x46] _ _ _ _
        refine mp_a (a_goto (t := 53) dX1_search_49 (by decide)) ?_
        refine mp_a (a_istore (L' := [(6, .int x46), (0, .ref 294), (1, .ref a1_), (2, .int t2), (3, .int v3), (4, .int v4), (5, .int v5)]) dX1_search_53 (by decide) rfl) (mpp 55 rfl ?_)
        refine mp_a (a_iload dX1_search_55 rfl) (mpp 57 rfl ?_)
        refine mp_Tb (t := 87) (j_if_lt dX1_search_57) (by decide) (fun c49 => ?_) (fun c49 => mpp 60 rfl ?_)
        · have c49 : x46.toInt < 0 := ti_lt c49
          refine mp_a (a_iload dX1_search_87 rfl) (mpp 89 rfl ?_)
          refine mp_a (a_aload_n dX1_search_89 rfl) (mpp 90 rfl ?_)
          refine mt_getI (i := 30) (k := 0) hT dX1_search_90 rfl rl_294 (by decide) rfl (by decide) rfl (fun g50 g51 => mpp 93 rfl ?_)
          refine mp_Tb (t := 113) (j_icmp_ne dX1_search_93) (by decide) (fun c52 => ?_) (fun c52 => mpp 96 rfl ?_)
          · have c52 : v4.toInt ≠ (fv P 294 0).toInt := ti_ne c52
            obtain ⟨z53, h54⟩ := ti_ex (v4 + (-1) : Int32)
            have wz53 := ti_full z53
            refine mp_a (a_iinc (v := z53) (L' := [(4, .int z53), (6, .int x46), (0, .ref 294), (1, .ref a1_), (2, .int t2), (3, .int v3), (5, .int v5)]) dX1_search_113 (by decide) rfl h54 rfl) (mpp 116 rfl ?_)
            try have e55 : z53.toInt = v4.toInt + (-1) := ti_addz h54 rfl rfl (by omega) (by omega)
            obtain ⟨z56, h57⟩ := ti_ex (v5 + 1 : Int32)
            have wz56 := ti_full z56
            refine mp_a (a_iinc (v := z56) (L' := [(5, .int z56), (4, .int z53), (6, .int x46), (0, .ref 294), (1, .ref a1_), (2, .int t2), (3, .int v3)]) dX1_search_116 (by decide) rfl h57 rfl) (mpp 119 rfl ?_)
            try have e58 : z56.toInt = v5.toInt + 1 := ti_addz h57 rfl rfl (by omega) (by omega)
            refine mp_a (a_goto (t := 22) dX1_search_119 (by decide)) ?_
            refine MEvP.less (L := [(0, .ref 294), (1, .ref a1_), (2, .int t2), (3, .int v3), (4, .int z53), (5, .int z56)]) rfl rfl ⟨rfl, rfl, rfl, rfl, rfl, rfl, trivial⟩ ?_
            have i59 : 0 ≤ z56.toInt := by omega
            exact ih _ (by omega) _ _ _ P hT hK i59 rfl
          · have c52 : v4.toInt = (fv P 294 0).toInt := ti_ne_n c52
            refine mp_a (a_aload_n dX1_search_96 rfl) (mpp 97 rfl ?_)
            refine mt_callv (i := 38) (q' := q_69) (As := []) (rest := []) hT dX1_search_97 rfl qm_69 (by decide) rfl rl_294 (by decide) rfl (Nat.le_of_ble_eq_true rfl) rfl ⟨rfl, rfl⟩ ⟨Nat.le_of_ble_eq_true rfl, Nat.le_of_ble_eq_true rfl⟩ (EvP.mono (by decide) (c_CL_layersCollide_Layers hT (KW.xr hK hX) )) (fun r60 P61 g62 => mpp 100 rfl ?_)
            obtain ⟨⟨x63, rfl, g64⟩, e65⟩ := g62
            have e65 := e65.symm
            subst e65
            have wx63 := ti_full x63
            replace g64 : 0 ≤ x63.toInt ∧ x63.toInt ≤ 1 := g64
            show MEvP _ none q_64 100 [(6, .int x46), (0, .ref 294), (1, .ref a1_), (2, .int t2), (3, .int v3), (4, .int v4), (5, .int v5)] [.int x63] _ _ _ _
            refine mp_Tb (t := 113) (j_if_ne dX1_search_100) (by decide) (fun c66 => ?_) (fun c66 => mpp 103 rfl ?_)
            · have c66 : x63.toInt ≠ 0 := ti_ne c66
              obtain ⟨z67, h68⟩ := ti_ex (v4 + (-1) : Int32)
              have wz67 := ti_full z67
              refine mp_a (a_iinc (v := z67) (L' := [(4, .int z67), (6, .int x46), (0, .ref 294), (1, .ref a1_), (2, .int t2), (3, .int v3), (5, .int v5)]) dX1_search_113 (by decide) rfl h68 rfl) (mpp 116 rfl ?_)
              try have e69 : z67.toInt = v4.toInt + (-1) := ti_addz h68 rfl rfl (by omega) (by omega)
              obtain ⟨z70, h71⟩ := ti_ex (v5 + 1 : Int32)
              have wz70 := ti_full z70
              refine mp_a (a_iinc (v := z70) (L' := [(5, .int z70), (4, .int z67), (6, .int x46), (0, .ref 294), (1, .ref a1_), (2, .int t2), (3, .int v3)]) dX1_search_116 (by decide) rfl h71 rfl) (mpp 119 rfl ?_)
              try have e72 : z70.toInt = v5.toInt + 1 := ti_addz h71 rfl rfl (by omega) (by omega)
              refine mp_a (a_goto (t := 22) dX1_search_119 (by decide)) ?_
              refine MEvP.less (L := [(0, .ref 294), (1, .ref a1_), (2, .int t2), (3, .int v3), (4, .int z67), (5, .int z70)]) rfl rfl ⟨rfl, rfl, rfl, rfl, rfl, rfl, trivial⟩ ?_
              have i73 : 0 ≤ z70.toInt := by omega
              exact ih _ (by omega) _ _ _ P hT hK i73 rfl
            · have c66 : x63.toInt = 0 := ti_ne_n c66
              obtain ⟨z74, h75⟩ := ti_ex (v3 + 1 : Int32)
              have wz74 := ti_full z74
              refine mp_a (a_iinc (v := z74) (L' := [(3, .int z74), (6, .int x46), (0, .ref 294), (1, .ref a1_), (2, .int t2), (4, .int v4), (5, .int v5)]) dX1_search_103 (by decide) rfl h75 rfl) (mpp 106 rfl ?_)
              try have e76 : z74.toInt = v3.toInt + 1 := ti_addz h75 rfl rfl (by omega) (by omega)
              refine mp_a (a_iload_n dX1_search_106 rfl) (mpp 107 rfl ?_)
              refine mp_a (a_iload_n dX1_search_107 rfl) (mpp 108 rfl ?_)
              refine mp_Tb (t := 113) (j_icmp_lt dX1_search_108) (by decide) (fun c77 => ?_) (fun c77 => mpp 111 rfl ?_)
              · have c77 : z74.toInt < t2.toInt := ti_lt c77
                obtain ⟨z78, h79⟩ := ti_ex (v4 + (-1) : Int32)
                have wz78 := ti_full z78
                refine mp_a (a_iinc (v := z78) (L' := [(4, .int z78), (3, .int z74), (6, .int x46), (0, .ref 294), (1, .ref a1_), (2, .int t2), (5, .int v5)]) dX1_search_113 (by decide) rfl h79 rfl) (mpp 116 rfl ?_)
                try have e80 : z78.toInt = v4.toInt + (-1) := ti_addz h79 rfl rfl (by omega) (by omega)
                obtain ⟨z81, h82⟩ := ti_ex (v5 + 1 : Int32)
                have wz81 := ti_full z81
                refine mp_a (a_iinc (v := z81) (L' := [(5, .int z81), (4, .int z78), (3, .int z74), (6, .int x46), (0, .ref 294), (1, .ref a1_), (2, .int t2)]) dX1_search_116 (by decide) rfl h82 rfl) (mpp 119 rfl ?_)
                try have e83 : z81.toInt = v5.toInt + 1 := ti_addz h82 rfl rfl (by omega) (by omega)
                refine mp_a (a_goto (t := 22) dX1_search_119 (by decide)) ?_
                refine MEvP.less (L := [(0, .ref 294), (1, .ref a1_), (2, .int t2), (3, .int z74), (4, .int z78), (5, .int z81)]) rfl rfl ⟨rfl, rfl, rfl, rfl, rfl, rfl, trivial⟩ ?_
                have i84 : 0 ≤ z81.toInt := by omega
                exact ih _ (by omega) _ _ _ P hT hK i84 rfl
              · have c77 : z74.toInt ≥ t2.toInt := ti_lt_n c77
                refine mp_a (a_iload_n dX1_search_111 rfl) (mpp 112 rfl ?_)
                exact mp_iret ⟨⟨_, rfl, trivial⟩, hT, hK, trivial⟩ dX1_search_112 (Or.inl rfl)
        · have c49 : x46.toInt ≥ 0 := ti_lt_n c49
          refine mp_a (a_aload_n dX1_search_60 rfl) (mpp 61 rfl ?_)
          refine mt_getU (i := 9) (k := 1) (A := 295) hT dX1_search_61 rfl rl_294 (by decide) rfl (by decide) rfl un_14 (mpp 64 rfl ?_)
          refine mp_a (a_iload dX1_search_64 rfl) (mpp 66 rfl ?_)
          refine mp_a (a_iload dX1_search_66 rfl) (mpp 68 rfl ?_)
          refine mp_calls (i := 25) (q' := q_22) (As := [.ref 295, .int v4, .int x46]) (rest := []) dX1_search_68 rfl qm_22 (by decide) rfl (Nat.le_of_ble_eq_true rfl) rfl ⟨rfl, rfl⟩ ⟨Nat.le_of_ble_eq_true rfl, Nat.le_of_ble_eq_true rfl⟩ (EvP.mono (by decide) (c_F_put_order hT (KW.xr hK hX) )) (fun r85 P86 g87 => mpp 71 rfl ?_)
          obtain ⟨⟨rfl, g89⟩, hT90, k91, R92⟩ := g87
          have k93 : KW [832, 896, 960, 1024] Po P86 := KW.trans hK k91 rfl
          show MEvP _ none q_64 71 [(6, .int x46), (0, .ref 294), (1, .ref a1_), (2, .int t2), (3, .int v3), (4, .int v4), (5, .int v5)] [] _ _ _ _
          obtain ⟨z95, h96⟩ := ti_ex (v4 + 1 : Int32)
          have wz95 := ti_full z95
          refine mp_a (a_iinc (v := z95) (L' := [(4, .int z95), (6, .int x46), (0, .ref 294), (1, .ref a1_), (2, .int t2), (3, .int v3), (5, .int v5)]) dX1_search_71 (by decide) rfl h96 rfl) (mpp 74 rfl ?_)
          try have e97 : z95.toInt = v4.toInt + 1 := ti_addz h96 rfl rfl (by omega) (by omega)
          refine mp_a (a_aload_n dX1_search_74 rfl) (mpp 75 rfl ?_)
          refine mt_getU (i := 9) (k := 1) (A := 295) hT90 dX1_search_75 rfl rl_294 (by decide) rfl (by decide) rfl un_14 (mpp 78 rfl ?_)
          refine mp_a (a_iload dX1_search_78 rfl) (mpp 80 rfl ?_)
          refine mp_a (a_iconst (v := -1) dX1_search_80 rfl) (mpp 81 rfl ?_)
          refine mp_calls (i := 25) (q' := q_22) (As := [.ref 295, .int z95, .int (-1)]) (rest := []) dX1_search_81 rfl qm_22 (by decide) rfl (Nat.le_of_ble_eq_true rfl) rfl ⟨rfl, rfl⟩ ⟨Nat.le_of_ble_eq_true rfl, Nat.le_of_ble_eq_true rfl⟩ (EvP.mono (by decide) (c_F_put_order hT90 (KW.xr k93 hX) )) (fun r98 P99 g100 => mpp 84 rfl ?_)
          obtain ⟨⟨rfl, g102⟩, hT103, k104, R105⟩ := g100
          have k106 : KW [832, 896, 960, 1024] Po P99 := KW.trans k93 k104 rfl
          show MEvP _ none q_64 84 [(4, .int z95), (6, .int x46), (0, .ref 294), (1, .ref a1_), (2, .int t2), (3, .int v3), (5, .int v5)] [] _ _ _ _
          refine mp_a (a_goto (t := 116) dX1_search_84 (by decide)) ?_
          obtain ⟨z108, h109⟩ := ti_ex (v5 + 1 : Int32)
          have wz108 := ti_full z108
          refine mp_a (a_iinc (v := z108) (L' := [(5, .int z108), (4, .int z95), (6, .int x46), (0, .ref 294), (1, .ref a1_), (2, .int t2), (3, .int v3)]) dX1_search_116 (by decide) rfl h109 rfl) (mpp 119 rfl ?_)
          try have e110 : z108.toInt = v5.toInt + 1 := ti_addz h109 rfl rfl (by omega) (by omega)
          refine mp_a (a_goto (t := 22) dX1_search_119 (by decide)) ?_
          refine MEvP.less (L := [(0, .ref 294), (1, .ref a1_), (2, .int t2), (3, .int v3), (4, .int z95), (5, .int z108)]) rfl rfl ⟨rfl, rfl, rfl, rfl, rfl, rfl, trivial⟩ ?_
          have i111 : 0 ≤ z108.toInt := by omega
          exact ih _ (by omega) _ _ _ P99 hT103 k106 i111 rfl

set_option maxHeartbeats 4000000 in
theorem c_CL_search_Layers_NPiece {Po : mP} {a1_ : Nat} {t2 : Int32} (hT : Typ Po) (hX : XR Po)  (ha1 : rl a1_ = 33) : EvP 5 64 [.ref 294, .ref a1_, .int t2] Po (fun r P' => (∃ x : Int32, r = some (.int x) ∧ (True)) ∧ Typ P' ∧ KW [832, 896, 960, 1024] Po P' ∧ True) := by
  refine EvP.of qm_64 (Nat.le_of_ble_eq_true rfl) rfl ?_
  show MEvP _ none q_64 0 [(0, .ref 294), (1, .ref a1_), (2, .int t2)] [] _ 0 0 _
  have w1 := np_ar ha1
  have w_t2 := ti_full t2
  refine mp_a (a_aload_n dX1_search_0 rfl) (mpp 1 rfl ?_)
  refine mp_a (a_aload_n dX1_search_1 rfl) (mpp 2 rfl ?_)
  refine mt_callv (i := 21) (q' := q_65) (As := [.ref a1_]) (rest := []) hT dX1_search_2 rfl qm_65 (by decide) rfl rl_294 (by decide) rfl (Nat.le_of_ble_eq_true rfl) rfl ⟨rfl, rfl⟩ ⟨Nat.le_of_ble_eq_true rfl, Nat.le_of_ble_eq_true rfl⟩ (EvP.mono (by decide) (c_CL_load_Layers_NPiece hT hX ha1)) (fun r2 P3 g4 => mpp 5 rfl ?_)
  obtain ⟨⟨rfl, g6⟩, hT7, k8, R9⟩ := g4
  have k10 : KW [832, 896, 960, 1024] Po P3 := KW.trans KW.refl k8 rfl
  show MEvP _ none q_64 5 [(0, .ref 294), (1, .ref a1_), (2, .int t2)] [] _ _ _ _
  refine mp_a (a_iconst (v := 0) dX1_search_5 rfl) (mpp 6 rfl ?_)
  refine mp_a (a_istore_n (L' := [(3, .int 0), (0, .ref 294), (1, .ref a1_), (2, .int t2)]) dX1_search_6 (by decide) rfl) (mpp 7 rfl ?_)
  refine mp_a (a_iconst (v := 0) dX1_search_7 rfl) (mpp 8 rfl ?_)
  refine mp_a (a_istore (L' := [(4, .int 0), (3, .int 0), (0, .ref 294), (1, .ref a1_), (2, .int t2)]) dX1_search_8 (by decide) rfl) (mpp 10 rfl ?_)
  refine mp_a (a_aload_n dX1_search_10 rfl) (mpp 11 rfl ?_)
  refine mt_getU (i := 9) (k := 1) (A := 295) hT7 dX1_search_11 rfl rl_294 (by decide) rfl (by decide) rfl un_14 (mpp 14 rfl ?_)
  refine mp_a (a_iconst (v := 0) dX1_search_14 rfl) (mpp 15 rfl ?_)
  refine mp_a (a_iconst (v := -1) dX1_search_15 rfl) (mpp 16 rfl ?_)
  refine mp_calls (i := 25) (q' := q_22) (As := [.ref 295, .int 0, .int (-1)]) (rest := []) dX1_search_16 rfl qm_22 (by decide) rfl (Nat.le_of_ble_eq_true rfl) rfl ⟨rfl, rfl⟩ ⟨Nat.le_of_ble_eq_true rfl, Nat.le_of_ble_eq_true rfl⟩ (EvP.mono (by decide) (c_F_put_order hT7 (KW.xr k10 hX) )) (fun r12 P13 g14 => mpp 19 rfl ?_)
  obtain ⟨⟨rfl, g16⟩, hT17, k18, R19⟩ := g14
  have k20 : KW [832, 896, 960, 1024] Po P13 := KW.trans k10 k18 rfl
  show MEvP _ none q_64 19 [(4, .int 0), (3, .int 0), (0, .ref 294), (1, .ref a1_), (2, .int t2)] [] _ _ _ _
  refine mp_a (a_iconst (v := 0) dX1_search_19 rfl) (mpp 20 rfl ?_)
  refine mp_a (a_istore (L' := [(5, .int 0), (4, .int 0), (3, .int 0), (0, .ref 294), (1, .ref a1_), (2, .int t2)]) dX1_search_20 (by decide) rfl) (mpp 22 rfl ?_)
  refine MEvP.less (L := [(0, .ref 294), (1, .ref a1_), (2, .int t2), (3, .int 0), (4, .int 0), (5, .int 0)]) rfl rfl ⟨rfl, rfl, rfl, rfl, rfl, rfl, trivial⟩ ?_
  have i22 : 0 ≤ (0 : Int) := by omega
  exact c_CL_search_Layers_NPiece_l22 hT hX  ha1 _ _ _ _ P13 hT17 k20 i22 rfl

set_option maxHeartbeats 4000000 in
theorem c_F_foldsAgain {Po : mP} {t1 : Int32} (hT : Typ Po) (hX : XR Po)   : EvP 6 62 [.ref 0, .int t1] Po (fun r P' => (∃ x : Int32, r = some (.int x) ∧ (True)) ∧ Typ P' ∧ KW [832, 896, 960, 1024] Po P' ∧ True) := by
  refine EvP.of qm_62 (Nat.le_of_ble_eq_true rfl) rfl ?_
  show MEvP _ none q_62 0 [(0, .ref 0), (1, .int t1)] [] _ 0 0 _
  have w_t1 := ti_full t1
  refine mp_a (a_aload_n dX6_foldsAgain_0 rfl) (mpp 1 rfl ?_)
  refine mt_getU (i := 10) (k := 0) (A := 1) hT dX6_foldsAgain_1 rfl rl_0 (by decide) rfl (by decide) rfl un_31 (mpp 4 rfl ?_)
  refine mp_a (a_iload_n dX6_foldsAgain_4 rfl) (mpp 5 rfl ?_)
  refine mt_callv (i := 94) (q' := q_9) (As := [.int t1]) (rest := []) hT dX6_foldsAgain_5 rfl qm_9 (by decide) rfl rl_1 (by decide) rfl (Nat.le_of_ble_eq_true rfl) rfl ⟨rfl, rfl⟩ ⟨Nat.le_of_ble_eq_true rfl, Nat.le_of_ble_eq_true rfl⟩ (EvP.mono (by decide) (c_CS_pieceAt_NState hT hX )) (fun r1 P2 g3 => mpp 8 rfl ?_)
  obtain ⟨g3, e4⟩ := g3
  have e4 := e4.symm
  subst e4
  rcases g3 with ⟨rfl, q6n⟩ | ⟨b5, rfl, q6, q6r⟩
  · show MEvP _ none q_62 8 [(0, .ref 0), (1, .int t1)] [.null] _ _ _ _
    replace q6n : t1.toInt < 0 ∨ (fv Po 1 1).toInt ≤ t1.toInt ∨ 8 ≤ t1.toInt := q6n
    have g7 : (0 : Int) ≤ (fv Po 1 1).toInt ∧ (fv Po 1 1).toInt ≤ 8 := Typ.rng hT rl_1 (by decide) (by decide) rfl
    refine mp_a (a_astore_nN (L' := [(2, .null), (0, .ref 0), (1, .int t1)]) dX6_foldsAgain_8 (by decide) rfl) (mpp 9 rfl ?_)
    refine mp_a (a_aload_nN dX6_foldsAgain_9 rfl) (mpp 10 rfl ?_)
    refine mp_calls (i := 181) (q' := q_63) (As := [.null]) (rest := []) dX6_foldsAgain_10 rfl qm_63 (by decide) rfl (Nat.le_of_ble_eq_true rfl) rfl ⟨rfl, rfl⟩ ⟨Nat.le_of_ble_eq_true rfl, Nat.le_of_ble_eq_true rfl⟩ (EvP.mono (by decide) (c_F_errorOfDecidedStrip_null hT hX )) (fun r8 P9 g10 => mpp 13 rfl ?_)
    obtain ⟨⟨x11, rfl, g12⟩, e13⟩ := g10
    have e13 := e13.symm
    subst e13
    have wx11 := ti_full x11
    show MEvP _ none q_62 13 [(2, .null), (0, .ref 0), (1, .int t1)] [.int x11] _ _ _ _
    refine mp_a (a_istore_n (L' := [(3, .int x11), (2, .null), (0, .ref 0), (1, .int t1)]) dX6_foldsAgain_13 (by decide) rfl) (mpp 14 rfl ?_)
    refine mp_a (a_iload_n dX6_foldsAgain_14 rfl) (mpp 15 rfl ?_)
    refine mp_Tb (t := 22) (j_if_ne dX6_foldsAgain_15) (by decide) (fun c14 => ?_) (fun c14 => mpp 18 rfl ?_)
    · have c14 : x11.toInt ≠ 0 := ti_ne c14
      refine mp_a (a_iload_n dX6_foldsAgain_22 rfl) (mpp 23 rfl ?_)
      exact mp_iret ⟨⟨_, rfl, trivial⟩, hT, KW.refl, trivial⟩ dX6_foldsAgain_23 (Or.inl rfl)
    · have c14 : x11.toInt = 0 := ti_ne_n c14
      refine mp_a (a_aload_nN dX6_foldsAgain_18 rfl) (mpp 19 rfl ?_)
      refine mp_t (s_ifnonnullN dX6_foldsAgain_19) (mpp 22 rfl ?_)
      refine mp_a (a_iload_n dX6_foldsAgain_22 rfl) (mpp 23 rfl ?_)
      exact mp_iret ⟨⟨_, rfl, trivial⟩, hT, KW.refl, trivial⟩ dX6_foldsAgain_23 (Or.inl rfl)
  · show MEvP _ none q_62 8 [(0, .ref 0), (1, .int t1)] [.ref b5] _ _ _ _
    replace q6r : 0 ≤ t1.toInt ∧ t1.toInt ≤ 7 ∧ t1.toInt + 1 ≤ (fv Po 1 1).toInt ∧ rv Po 2 t1.toInt.toNat = b5 := q6r
    have g15 : (0 : Int) ≤ (fv Po 1 1).toInt ∧ (fv Po 1 1).toInt ≤ 8 := Typ.rng hT rl_1 (by decide) (by decide) rfl
    have w16 := np_ar q6
    refine mp_a (a_astore_n (L' := [(2, .ref b5), (0, .ref 0), (1, .int t1)]) dX6_foldsAgain_8 (by decide) rfl) (mpp 9 rfl ?_)
    refine mp_a (a_aload_n dX6_foldsAgain_9 rfl) (mpp 10 rfl ?_)
    refine mp_calls (i := 181) (q' := q_63) (As := [.ref b5]) (rest := []) dX6_foldsAgain_10 rfl qm_63 (by decide) rfl (Nat.le_of_ble_eq_true rfl) rfl ⟨rfl, rfl⟩ ⟨Nat.le_of_ble_eq_true rfl, Nat.le_of_ble_eq_true rfl⟩ (EvP.mono (by decide) (c_F_errorOfDecidedStrip_NPiece hT hX q6)) (fun r17 P18 g19 => mpp 13 rfl ?_)
    obtain ⟨⟨x20, rfl, g21⟩, e22⟩ := g19
    have e22 := e22.symm
    subst e22
    have wx20 := ti_full x20
    show MEvP _ none q_62 13 [(2, .ref b5), (0, .ref 0), (1, .int t1)] [.int x20] _ _ _ _
    refine mp_a (a_istore_n (L' := [(3, .int x20), (2, .ref b5), (0, .ref 0), (1, .int t1)]) dX6_foldsAgain_13 (by decide) rfl) (mpp 14 rfl ?_)
    refine mp_a (a_iload_n dX6_foldsAgain_14 rfl) (mpp 15 rfl ?_)
    refine mp_Tb (t := 22) (j_if_ne dX6_foldsAgain_15) (by decide) (fun c23 => ?_) (fun c23 => mpp 18 rfl ?_)
    · have c23 : x20.toInt ≠ 0 := ti_ne c23
      refine mp_a (a_iload_n dX6_foldsAgain_22 rfl) (mpp 23 rfl ?_)
      exact mp_iret ⟨⟨_, rfl, trivial⟩, hT, KW.refl, trivial⟩ dX6_foldsAgain_23 (Or.inl rfl)
    · have c23 : x20.toInt = 0 := ti_ne_n c23
      refine mp_a (a_aload_n dX6_foldsAgain_18 rfl) (mpp 19 rfl ?_)
      refine mp_t (s_ifnonnullR (t := 24) dX6_foldsAgain_19 (by decide)) ?_
      refine mp_a (a_aload_n dX6_foldsAgain_24 rfl) (mpp 25 rfl ?_)
      refine mt_getU (i := 46) (k := 6) (A := 294) hT dX6_foldsAgain_25 rfl rl_0 (by decide) rfl (by decide) rfl un_13 (mpp 28 rfl ?_)
      refine mp_a (a_aload_n dX6_foldsAgain_28 rfl) (mpp 29 rfl ?_)
      refine mp_a (a_iconst (v := 1) dX6_foldsAgain_29 rfl) (mpp 30 rfl ?_)
      refine mt_callv (i := 184) (q' := q_64) (As := [.ref b5, .int 1]) (rest := []) hT dX6_foldsAgain_30 rfl qm_64 (by decide) rfl rl_294 (by decide) rfl (Nat.le_of_ble_eq_true rfl) rfl ⟨rfl, rfl⟩ ⟨Nat.le_of_ble_eq_true rfl, Nat.le_of_ble_eq_true rfl⟩ (EvP.mono (by decide) (c_CL_search_Layers_NPiece hT hX q6)) (fun r24 P25 g26 => mpp 33 rfl ?_)
      obtain ⟨⟨x27, rfl, g28⟩, hT29, k30, R31⟩ := g26
      have k32 : KW [832, 896, 960, 1024] Po P25 := KW.trans KW.refl k30 rfl
      have wx27 := ti_full x27
      show MEvP _ none q_62 33 [(3, .int x20), (2, .ref b5), (0, .ref 0), (1, .int t1)] [.int x27] _ _ _ _
      exact mp_iret ⟨⟨_, rfl, trivial⟩, hT29, k32, trivial⟩ dX6_foldsAgain_33 (Or.inl rfl)

