/-! methods on typed pools, 12 (written by a program) -/
set_option maxHeartbeats 4000000 in
theorem c_CL_isAsCreased_Layers {Po : mP} {t1 : Int32} {t2 : Int32} (hT : Typ Po) (hX : XR Po)  (hp0 : 0 ≤ t2.toInt) (hp1 : t2.toInt ≤ 7)  : EvP 2 68 [.ref 294, .int t1, .int t2] Po (fun r P' => (∃ x : Int32, r = some (.int x) ∧ (0 ≤ x.toInt ∧ x.toInt ≤ 1 ∧ ((x.toInt = 1 ∧ (t2.toInt.toNat = 0 ∨ (oL Po (t2.toInt.toNat - 1) < t1.toInt ↔ abv (cL Po) (t2.toInt.toNat - 1)))) ∨ (x.toInt = 0 ∧ ¬ (t2.toInt.toNat = 0 ∨ (oL Po (t2.toInt.toNat - 1) < t1.toInt ↔ abv (cL Po) (t2.toInt.toNat - 1))))))) ∧ P' = Po) := by
  refine EvP.of qm_68 (Nat.le_of_ble_eq_true rfl) rfl ?_
  show MEvP _ none q_68 0 [(0, .ref 294), (1, .int t1), (2, .int t2)] [] _ 0 0 _
  have w_t1 := ti_full t1
  have w_t2 := ti_full t2
  refine mp_a (a_iload_n dX1_isAsCreased_0 rfl) (mpp 1 rfl ?_)
  refine mp_Tb (t := 6) (j_if_ne dX1_isAsCreased_1) (by decide) (fun c1 => ?_) (fun c1 => mpp 4 rfl ?_)
  · have c1 : t2.toInt ≠ 0 := ti_ne c1
    refine mp_a (a_iload_n dX1_isAsCreased_6 rfl) (mpp 7 rfl ?_)
    refine mp_a (a_iconst (v := 1) dX1_isAsCreased_7 rfl) (mpp 8 rfl ?_)
    obtain ⟨z2, h3⟩ := ti_ex (t2 - 1 : Int32)
    have wz2 := ti_full z2
    refine mp_t (s_isub (v := z2) dX1_isAsCreased_8 h3) (mpp 9 rfl ?_)
    try have e4 : z2.toInt = t2.toInt - 1 := ti_subz h3 rfl rfl (by omega) (by omega)
    refine mp_a (a_iconst (v := 2) dX1_isAsCreased_9 rfl) (mpp 10 rfl ?_)
    obtain ⟨z5, h6⟩ := ti_ex (z2 - z2 / 2 * 2 : Int32)
    have wz5 := ti_full z5
    try have e8 : z5.toInt = z2.toInt % 2 := ti_remx h6 (show (0 : Int) ≤ z2.toInt by omega) (show (0 : Int) < 2 by omega)
    try have e7 : 0 ≤ z5.toInt ∧ z5.toInt < 2 := ti_rem h6 (show (0 : Int) ≤ z2.toInt by omega) (show (0 : Int) < 2 by omega)
    refine mp_t (s_irem (v := z5) dX1_isAsCreased_10 (by decide) h6) (mpp 11 rfl ?_)
    refine mp_Tb (t := 18) (j_if_ne dX1_isAsCreased_11) (by decide) (fun c9 => ?_) (fun c9 => mpp 14 rfl ?_)
    · have c9 : z5.toInt ≠ 0 := ti_ne c9
      refine mp_a (a_iconst (v := 0) dX1_isAsCreased_18 rfl) (mpp 19 rfl ?_)
      refine mp_a (a_istore_n (L' := [(3, .int 0), (0, .ref 294), (1, .int t1), (2, .int t2)]) dX1_isAsCreased_19 (by decide) rfl) (mpp 20 rfl ?_)
      refine mp_a (a_aload_n dX1_isAsCreased_20 rfl) (mpp 21 rfl ?_)
      refine mt_getU (i := 18) (k := 3) (A := 297) hT dX1_isAsCreased_21 rfl rl_294 (by decide) rfl (by decide) rfl un_16 (mpp 24 rfl ?_)
      refine mp_a (a_iload_n dX1_isAsCreased_24 rfl) (mpp 25 rfl ?_)
      refine mp_a (a_iconst (v := 1) dX1_isAsCreased_25 rfl) (mpp 26 rfl ?_)
      obtain ⟨z10, h11⟩ := ti_ex (t2 - 1 : Int32)
      have wz10 := ti_full z10
      refine mp_t (s_isub (v := z10) dX1_isAsCreased_26 h11) (mpp 27 rfl ?_)
      try have e12 : z10.toInt = t2.toInt - 1 := ti_subz h11 rfl rfl (by omega) (by omega)
      refine mp_calls (i := 59) (q' := q_12) (As := [.ref 297, .int z10]) (rest := []) dX1_isAsCreased_27 rfl qm_12 (by decide) rfl (Nat.le_of_ble_eq_true rfl) rfl ⟨rfl, rfl⟩ ⟨Nat.le_of_ble_eq_true rfl, Nat.le_of_ble_eq_true rfl⟩ (EvP.mono (by decide) (c_F_at_lcreases hT hX )) (fun r13 P14 g15 => mpp 30 rfl ?_)
      obtain ⟨⟨x16, rfl, g17⟩, e18⟩ := g15
      have e18 := e18.symm
      subst e18
      have wx16 := ti_full x16
      replace g17 : (0 ≤ z10.toInt ∧ z10.toInt ≤ 7 ∧ x16.toInt = (fv Po 297 z10.toInt.toNat).toInt) ∨ ((z10.toInt < 0 ∨ 8 ≤ z10.toInt) ∧ x16.toInt = 0) := g17
      try replace g17 : x16.toInt = (fv Po 297 z10.toInt.toNat).toInt := (g17.resolve_right (by omega)).2.2
      show MEvP _ none q_68 30 [(3, .int 0), (0, .ref 294), (1, .int t1), (2, .int t2)] [.int x16] _ _ _ _
      refine mp_a (a_iconst (v := 2) dX1_isAsCreased_30 rfl) (mpp 31 rfl ?_)
      refine mp_Tb (t := 38) (j_icmp_ne dX1_isAsCreased_31) (by decide) (fun c19 => ?_) (fun c19 => mpp 34 rfl ?_)
      · have c19 : x16.toInt ≠ 2 := ti_ne c19
        refine mp_a (a_iconst (v := 0) dX1_isAsCreased_38 rfl) (mpp 39 rfl ?_)
        refine mp_a (a_istore (L' := [(4, .int 0), (3, .int 0), (0, .ref 294), (1, .int t1), (2, .int t2)]) dX1_isAsCreased_39 (by decide) rfl) (mpp 41 rfl ?_)
        refine mp_a (a_iload_n dX1_isAsCreased_41 rfl) (mpp 42 rfl ?_)
        refine mp_a (a_aload_n dX1_isAsCreased_42 rfl) (mpp 43 rfl ?_)
        refine mt_getU (i := 9) (k := 1) (A := 295) hT dX1_isAsCreased_43 rfl rl_294 (by decide) rfl (by decide) rfl un_14 (mpp 46 rfl ?_)
        refine mp_a (a_iload_n dX1_isAsCreased_46 rfl) (mpp 47 rfl ?_)
        refine mp_a (a_iconst (v := 1) dX1_isAsCreased_47 rfl) (mpp 48 rfl ?_)
        obtain ⟨z20, h21⟩ := ti_ex (t2 - 1 : Int32)
        have wz20 := ti_full z20
        refine mp_t (s_isub (v := z20) dX1_isAsCreased_48 h21) (mpp 49 rfl ?_)
        try have e22 : z20.toInt = t2.toInt - 1 := ti_subz h21 rfl rfl (by omega) (by omega)
        refine mp_calls (i := 59) (q' := q_12) (As := [.ref 295, .int z20]) (rest := [.int t1]) dX1_isAsCreased_49 rfl qm_12 (by decide) rfl (Nat.le_of_ble_eq_true rfl) rfl ⟨rfl, rfl⟩ ⟨Nat.le_of_ble_eq_true rfl, Nat.le_of_ble_eq_true rfl⟩ (EvP.mono (by decide) (c_F_at_order hT hX )) (fun r23 P24 g25 => mpp 52 rfl ?_)
        obtain ⟨⟨x26, rfl, g27⟩, e28⟩ := g25
        have e28 := e28.symm
        subst e28
        have wx26 := ti_full x26
        replace g27 : (0 ≤ z20.toInt ∧ z20.toInt ≤ 7 ∧ x26.toInt = (fv Po 295 z20.toInt.toNat).toInt) ∨ ((z20.toInt < 0 ∨ 8 ≤ z20.toInt) ∧ x26.toInt = 0) := g27
        try replace g27 : x26.toInt = (fv Po 295 z20.toInt.toNat).toInt := (g27.resolve_right (by omega)).2.2
        show MEvP _ none q_68 52 [(4, .int 0), (3, .int 0), (0, .ref 294), (1, .int t1), (2, .int t2)] [.int x26, .int t1] _ _ _ _
        refine mp_Tb (t := 59) (j_icmp_le dX1_isAsCreased_52) (by decide) (fun c29 => ?_) (fun c29 => mpp 55 rfl ?_)
        · have c29 : t1.toInt ≤ x26.toInt := ti_le c29
          refine mp_a (a_iconst (v := 0) dX1_isAsCreased_59 rfl) (mpp 60 rfl ?_)
          refine mp_a (a_istore (L' := [(5, .int 0), (4, .int 0), (3, .int 0), (0, .ref 294), (1, .int t1), (2, .int t2)]) dX1_isAsCreased_60 (by decide) rfl) (mpp 62 rfl ?_)
          refine mp_a (a_iload dX1_isAsCreased_62 rfl) (mpp 64 rfl ?_)
          refine mp_a (a_iload_n dX1_isAsCreased_64 rfl) (mpp 65 rfl ?_)
          refine mp_a (a_iload dX1_isAsCreased_65 rfl) (mpp 67 rfl ?_)
          refine mp_Tf (t := 74) (j_icmp_ne dX1_isAsCreased_67) (by decide) (by decide) (mpp 70 rfl ?_)
          refine mp_a (a_iconst (v := 1) dX1_isAsCreased_70 rfl) (mpp 71 rfl ?_)
          refine mp_a (a_goto (t := 75) dX1_isAsCreased_71 (by decide)) ?_
          refine mp_Tt (t := 82) (j_icmp_ne dX1_isAsCreased_75) (by decide) (by decide) ?_
          refine mp_a (a_iconst (v := 0) dX1_isAsCreased_82 rfl) (mpp 83 rfl ?_)
          have w31_ : x16.toInt = (fv Po 297 (t2.toInt.toNat - 1)).toInt := by rw [show (t2.toInt.toNat - 1) = z10.toInt.toNat from by omega]; omega
          have w32_ : x26.toInt = (fv Po 295 (t2.toInt.toNat - 1)).toInt := by rw [show (t2.toInt.toNat - 1) = z20.toInt.toNat from by omega]; omega
          have u30 : 0 ≤ (0 : Int) ∧ (0 : Int) ≤ 1 ∧ (((0 : Int) = 1 ∧ (t2.toInt.toNat = 0 ∨ (oL Po (t2.toInt.toNat - 1) < t1.toInt ↔ abv (cL Po) (t2.toInt.toNat - 1)))) ∨ ((0 : Int) = 0 ∧ ¬ (t2.toInt.toNat = 0 ∨ (oL Po (t2.toInt.toNat - 1) < t1.toInt ↔ abv (cL Po) (t2.toInt.toNat - 1))))) := ⟨by omega, by omega, Or.inr ⟨rfl, fun h => by have h : t2.toInt.toNat = 0 ∨ ((fv Po 295 (t2.toInt.toNat - 1)).toInt < t1.toInt ↔ ((fv Po 297 (t2.toInt.toNat - 1)).toInt = 2 ↔ (t2.toInt.toNat - 1) % 2 = 0)) := h; omega⟩⟩
          exact mp_iret ⟨⟨_, rfl, u30⟩, rfl⟩ dX1_isAsCreased_83 (Or.inr ⟨rfl, by decide⟩)
        · have c29 : t1.toInt > x26.toInt := ti_le_n c29
          refine mp_a (a_iconst (v := 1) dX1_isAsCreased_55 rfl) (mpp 56 rfl ?_)
          refine mp_a (a_goto (t := 60) dX1_isAsCreased_56 (by decide)) ?_
          refine mp_a (a_istore (L' := [(5, .int 1), (4, .int 0), (3, .int 0), (0, .ref 294), (1, .int t1), (2, .int t2)]) dX1_isAsCreased_60 (by decide) rfl) (mpp 62 rfl ?_)
          refine mp_a (a_iload dX1_isAsCreased_62 rfl) (mpp 64 rfl ?_)
          refine mp_a (a_iload_n dX1_isAsCreased_64 rfl) (mpp 65 rfl ?_)
          refine mp_a (a_iload dX1_isAsCreased_65 rfl) (mpp 67 rfl ?_)
          refine mp_Tf (t := 74) (j_icmp_ne dX1_isAsCreased_67) (by decide) (by decide) (mpp 70 rfl ?_)
          refine mp_a (a_iconst (v := 1) dX1_isAsCreased_70 rfl) (mpp 71 rfl ?_)
          refine mp_a (a_goto (t := 75) dX1_isAsCreased_71 (by decide)) ?_
          refine mp_Tf (t := 82) (j_icmp_ne dX1_isAsCreased_75) (by decide) (by decide) (mpp 78 rfl ?_)
          refine mp_a (a_iconst (v := 1) dX1_isAsCreased_78 rfl) (mpp 79 rfl ?_)
          refine mp_a (a_goto (t := 83) dX1_isAsCreased_79 (by decide)) ?_
          have w34_ : x16.toInt = (fv Po 297 (t2.toInt.toNat - 1)).toInt := by rw [show (t2.toInt.toNat - 1) = z10.toInt.toNat from by omega]; omega
          have w35_ : x26.toInt = (fv Po 295 (t2.toInt.toNat - 1)).toInt := by rw [show (t2.toInt.toNat - 1) = z20.toInt.toNat from by omega]; omega
          have u33 : 0 ≤ (1 : Int) ∧ (1 : Int) ≤ 1 ∧ (((1 : Int) = 1 ∧ (t2.toInt.toNat = 0 ∨ (oL Po (t2.toInt.toNat - 1) < t1.toInt ↔ abv (cL Po) (t2.toInt.toNat - 1)))) ∨ ((1 : Int) = 0 ∧ ¬ (t2.toInt.toNat = 0 ∨ (oL Po (t2.toInt.toNat - 1) < t1.toInt ↔ abv (cL Po) (t2.toInt.toNat - 1))))) := ⟨by omega, by omega, Or.inl ⟨rfl, Or.inr (show ((fv Po 295 (t2.toInt.toNat - 1)).toInt < t1.toInt ↔ ((fv Po 297 (t2.toInt.toNat - 1)).toInt = 2 ↔ (t2.toInt.toNat - 1) % 2 = 0)) from by omega)⟩⟩
          exact mp_iret ⟨⟨_, rfl, u33⟩, rfl⟩ dX1_isAsCreased_83 (Or.inr ⟨rfl, by decide⟩)
      · have c19 : x16.toInt = 2 := ti_ne_n c19
        refine mp_a (a_iconst (v := 1) dX1_isAsCreased_34 rfl) (mpp 35 rfl ?_)
        refine mp_a (a_goto (t := 39) dX1_isAsCreased_35 (by decide)) ?_
        refine mp_a (a_istore (L' := [(4, .int 1), (3, .int 0), (0, .ref 294), (1, .int t1), (2, .int t2)]) dX1_isAsCreased_39 (by decide) rfl) (mpp 41 rfl ?_)
        refine mp_a (a_iload_n dX1_isAsCreased_41 rfl) (mpp 42 rfl ?_)
        refine mp_a (a_aload_n dX1_isAsCreased_42 rfl) (mpp 43 rfl ?_)
        refine mt_getU (i := 9) (k := 1) (A := 295) hT dX1_isAsCreased_43 rfl rl_294 (by decide) rfl (by decide) rfl un_14 (mpp 46 rfl ?_)
        refine mp_a (a_iload_n dX1_isAsCreased_46 rfl) (mpp 47 rfl ?_)
        refine mp_a (a_iconst (v := 1) dX1_isAsCreased_47 rfl) (mpp 48 rfl ?_)
        obtain ⟨z36, h37⟩ := ti_ex (t2 - 1 : Int32)
        have wz36 := ti_full z36
        refine mp_t (s_isub (v := z36) dX1_isAsCreased_48 h37) (mpp 49 rfl ?_)
        try have e38 : z36.toInt = t2.toInt - 1 := ti_subz h37 rfl rfl (by omega) (by omega)
        refine mp_calls (i := 59) (q' := q_12) (As := [.ref 295, .int z36]) (rest := [.int t1]) dX1_isAsCreased_49 rfl qm_12 (by decide) rfl (Nat.le_of_ble_eq_true rfl) rfl ⟨rfl, rfl⟩ ⟨Nat.le_of_ble_eq_true rfl, Nat.le_of_ble_eq_true rfl⟩ (EvP.mono (by decide) (c_F_at_order hT hX )) (fun r39 P40 g41 => mpp 52 rfl ?_)
        obtain ⟨⟨x42, rfl, g43⟩, e44⟩ := g41
        have e44 := e44.symm
        subst e44
        have wx42 := ti_full x42
        replace g43 : (0 ≤ z36.toInt ∧ z36.toInt ≤ 7 ∧ x42.toInt = (fv Po 295 z36.toInt.toNat).toInt) ∨ ((z36.toInt < 0 ∨ 8 ≤ z36.toInt) ∧ x42.toInt = 0) := g43
        try replace g43 : x42.toInt = (fv Po 295 z36.toInt.toNat).toInt := (g43.resolve_right (by omega)).2.2
        show MEvP _ none q_68 52 [(4, .int 1), (3, .int 0), (0, .ref 294), (1, .int t1), (2, .int t2)] [.int x42, .int t1] _ _ _ _
        refine mp_Tb (t := 59) (j_icmp_le dX1_isAsCreased_52) (by decide) (fun c45 => ?_) (fun c45 => mpp 55 rfl ?_)
        · have c45 : t1.toInt ≤ x42.toInt := ti_le c45
          refine mp_a (a_iconst (v := 0) dX1_isAsCreased_59 rfl) (mpp 60 rfl ?_)
          refine mp_a (a_istore (L' := [(5, .int 0), (4, .int 1), (3, .int 0), (0, .ref 294), (1, .int t1), (2, .int t2)]) dX1_isAsCreased_60 (by decide) rfl) (mpp 62 rfl ?_)
          refine mp_a (a_iload dX1_isAsCreased_62 rfl) (mpp 64 rfl ?_)
          refine mp_a (a_iload_n dX1_isAsCreased_64 rfl) (mpp 65 rfl ?_)
          refine mp_a (a_iload dX1_isAsCreased_65 rfl) (mpp 67 rfl ?_)
          refine mp_Tt (t := 74) (j_icmp_ne dX1_isAsCreased_67) (by decide) (by decide) ?_
          refine mp_a (a_iconst (v := 0) dX1_isAsCreased_74 rfl) (mpp 75 rfl ?_)
          refine mp_Tf (t := 82) (j_icmp_ne dX1_isAsCreased_75) (by decide) (by decide) (mpp 78 rfl ?_)
          refine mp_a (a_iconst (v := 1) dX1_isAsCreased_78 rfl) (mpp 79 rfl ?_)
          refine mp_a (a_goto (t := 83) dX1_isAsCreased_79 (by decide)) ?_
          have w47_ : x16.toInt = (fv Po 297 (t2.toInt.toNat - 1)).toInt := by rw [show (t2.toInt.toNat - 1) = z10.toInt.toNat from by omega]; omega
          have w48_ : x42.toInt = (fv Po 295 (t2.toInt.toNat - 1)).toInt := by rw [show (t2.toInt.toNat - 1) = z36.toInt.toNat from by omega]; omega
          have u46 : 0 ≤ (1 : Int) ∧ (1 : Int) ≤ 1 ∧ (((1 : Int) = 1 ∧ (t2.toInt.toNat = 0 ∨ (oL Po (t2.toInt.toNat - 1) < t1.toInt ↔ abv (cL Po) (t2.toInt.toNat - 1)))) ∨ ((1 : Int) = 0 ∧ ¬ (t2.toInt.toNat = 0 ∨ (oL Po (t2.toInt.toNat - 1) < t1.toInt ↔ abv (cL Po) (t2.toInt.toNat - 1))))) := ⟨by omega, by omega, Or.inl ⟨rfl, Or.inr (show ((fv Po 295 (t2.toInt.toNat - 1)).toInt < t1.toInt ↔ ((fv Po 297 (t2.toInt.toNat - 1)).toInt = 2 ↔ (t2.toInt.toNat - 1) % 2 = 0)) from by omega)⟩⟩
          exact mp_iret ⟨⟨_, rfl, u46⟩, rfl⟩ dX1_isAsCreased_83 (Or.inr ⟨rfl, by decide⟩)
        · have c45 : t1.toInt > x42.toInt := ti_le_n c45
          refine mp_a (a_iconst (v := 1) dX1_isAsCreased_55 rfl) (mpp 56 rfl ?_)
          refine mp_a (a_goto (t := 60) dX1_isAsCreased_56 (by decide)) ?_
          refine mp_a (a_istore (L' := [(5, .int 1), (4, .int 1), (3, .int 0), (0, .ref 294), (1, .int t1), (2, .int t2)]) dX1_isAsCreased_60 (by decide) rfl) (mpp 62 rfl ?_)
          refine mp_a (a_iload dX1_isAsCreased_62 rfl) (mpp 64 rfl ?_)
          refine mp_a (a_iload_n dX1_isAsCreased_64 rfl) (mpp 65 rfl ?_)
          refine mp_a (a_iload dX1_isAsCreased_65 rfl) (mpp 67 rfl ?_)
          refine mp_Tt (t := 74) (j_icmp_ne dX1_isAsCreased_67) (by decide) (by decide) ?_
          refine mp_a (a_iconst (v := 0) dX1_isAsCreased_74 rfl) (mpp 75 rfl ?_)
          refine mp_Tt (t := 82) (j_icmp_ne dX1_isAsCreased_75) (by decide) (by decide) ?_
          refine mp_a (a_iconst (v := 0) dX1_isAsCreased_82 rfl) (mpp 83 rfl ?_)
          have w50_ : x16.toInt = (fv Po 297 (t2.toInt.toNat - 1)).toInt := by rw [show (t2.toInt.toNat - 1) = z10.toInt.toNat from by omega]; omega
          have w51_ : x42.toInt = (fv Po 295 (t2.toInt.toNat - 1)).toInt := by rw [show (t2.toInt.toNat - 1) = z36.toInt.toNat from by omega]; omega
          have u49 : 0 ≤ (0 : Int) ∧ (0 : Int) ≤ 1 ∧ (((0 : Int) = 1 ∧ (t2.toInt.toNat = 0 ∨ (oL Po (t2.toInt.toNat - 1) < t1.toInt ↔ abv (cL Po) (t2.toInt.toNat - 1)))) ∨ ((0 : Int) = 0 ∧ ¬ (t2.toInt.toNat = 0 ∨ (oL Po (t2.toInt.toNat - 1) < t1.toInt ↔ abv (cL Po) (t2.toInt.toNat - 1))))) := ⟨by omega, by omega, Or.inr ⟨rfl, fun h => by have h : t2.toInt.toNat = 0 ∨ ((fv Po 295 (t2.toInt.toNat - 1)).toInt < t1.toInt ↔ ((fv Po 297 (t2.toInt.toNat - 1)).toInt = 2 ↔ (t2.toInt.toNat - 1) % 2 = 0)) := h; omega⟩⟩
          exact mp_iret ⟨⟨_, rfl, u49⟩, rfl⟩ dX1_isAsCreased_83 (Or.inr ⟨rfl, by decide⟩)
    · have c9 : z5.toInt = 0 := ti_ne_n c9
      refine mp_a (a_iconst (v := 1) dX1_isAsCreased_14 rfl) (mpp 15 rfl ?_)
      refine mp_a (a_goto (t := 19) dX1_isAsCreased_15 (by decide)) ?_
      refine mp_a (a_istore_n (L' := [(3, .int 1), (0, .ref 294), (1, .int t1), (2, .int t2)]) dX1_isAsCreased_19 (by decide) rfl) (mpp 20 rfl ?_)
      refine mp_a (a_aload_n dX1_isAsCreased_20 rfl) (mpp 21 rfl ?_)
      refine mt_getU (i := 18) (k := 3) (A := 297) hT dX1_isAsCreased_21 rfl rl_294 (by decide) rfl (by decide) rfl un_16 (mpp 24 rfl ?_)
      refine mp_a (a_iload_n dX1_isAsCreased_24 rfl) (mpp 25 rfl ?_)
      refine mp_a (a_iconst (v := 1) dX1_isAsCreased_25 rfl) (mpp 26 rfl ?_)
      obtain ⟨z52, h53⟩ := ti_ex (t2 - 1 : Int32)
      have wz52 := ti_full z52
      refine mp_t (s_isub (v := z52) dX1_isAsCreased_26 h53) (mpp 27 rfl ?_)
      try have e54 : z52.toInt = t2.toInt - 1 := ti_subz h53 rfl rfl (by omega) (by omega)
      refine mp_calls (i := 59) (q' := q_12) (As := [.ref 297, .int z52]) (rest := []) dX1_isAsCreased_27 rfl qm_12 (by decide) rfl (Nat.le_of_ble_eq_true rfl) rfl ⟨rfl, rfl⟩ ⟨Nat.le_of_ble_eq_true rfl, Nat.le_of_ble_eq_true rfl⟩ (EvP.mono (by decide) (c_F_at_lcreases hT hX )) (fun r55 P56 g57 => mpp 30 rfl ?_)
      obtain ⟨⟨x58, rfl, g59⟩, e60⟩ := g57
      have e60 := e60.symm
      subst e60
      have wx58 := ti_full x58
      replace g59 : (0 ≤ z52.toInt ∧ z52.toInt ≤ 7 ∧ x58.toInt = (fv Po 297 z52.toInt.toNat).toInt) ∨ ((z52.toInt < 0 ∨ 8 ≤ z52.toInt) ∧ x58.toInt = 0) := g59
      try replace g59 : x58.toInt = (fv Po 297 z52.toInt.toNat).toInt := (g59.resolve_right (by omega)).2.2
      show MEvP _ none q_68 30 [(3, .int 1), (0, .ref 294), (1, .int t1), (2, .int t2)] [.int x58] _ _ _ _
      refine mp_a (a_iconst (v := 2) dX1_isAsCreased_30 rfl) (mpp 31 rfl ?_)
      refine mp_Tb (t := 38) (j_icmp_ne dX1_isAsCreased_31) (by decide) (fun c61 => ?_) (fun c61 => mpp 34 rfl ?_)
      · have c61 : x58.toInt ≠ 2 := ti_ne c61
        refine mp_a (a_iconst (v := 0) dX1_isAsCreased_38 rfl) (mpp 39 rfl ?_)
        refine mp_a (a_istore (L' := [(4, .int 0), (3, .int 1), (0, .ref 294), (1, .int t1), (2, .int t2)]) dX1_isAsCreased_39 (by decide) rfl) (mpp 41 rfl ?_)
        refine mp_a (a_iload_n dX1_isAsCreased_41 rfl) (mpp 42 rfl ?_)
        refine mp_a (a_aload_n dX1_isAsCreased_42 rfl) (mpp 43 rfl ?_)
        refine mt_getU (i := 9) (k := 1) (A := 295) hT dX1_isAsCreased_43 rfl rl_294 (by decide) rfl (by decide) rfl un_14 (mpp 46 rfl ?_)
        refine mp_a (a_iload_n dX1_isAsCreased_46 rfl) (mpp 47 rfl ?_)
        refine mp_a (a_iconst (v := 1) dX1_isAsCreased_47 rfl) (mpp 48 rfl ?_)
        obtain ⟨z62, h63⟩ := ti_ex (t2 - 1 : Int32)
        have wz62 := ti_full z62
        refine mp_t (s_isub (v := z62) dX1_isAsCreased_48 h63) (mpp 49 rfl ?_)
        try have e64 : z62.toInt = t2.toInt - 1 := ti_subz h63 rfl rfl (by omega) (by omega)
        refine mp_calls (i := 59) (q' := q_12) (As := [.ref 295, .int z62]) (rest := [.int t1]) dX1_isAsCreased_49 rfl qm_12 (by decide) rfl (Nat.le_of_ble_eq_true rfl) rfl ⟨rfl, rfl⟩ ⟨Nat.le_of_ble_eq_true rfl, Nat.le_of_ble_eq_true rfl⟩ (EvP.mono (by decide) (c_F_at_order hT hX )) (fun r65 P66 g67 => mpp 52 rfl ?_)
        obtain ⟨⟨x68, rfl, g69⟩, e70⟩ := g67
        have e70 := e70.symm
        subst e70
        have wx68 := ti_full x68
        replace g69 : (0 ≤ z62.toInt ∧ z62.toInt ≤ 7 ∧ x68.toInt = (fv Po 295 z62.toInt.toNat).toInt) ∨ ((z62.toInt < 0 ∨ 8 ≤ z62.toInt) ∧ x68.toInt = 0) := g69
        try replace g69 : x68.toInt = (fv Po 295 z62.toInt.toNat).toInt := (g69.resolve_right (by omega)).2.2
        show MEvP _ none q_68 52 [(4, .int 0), (3, .int 1), (0, .ref 294), (1, .int t1), (2, .int t2)] [.int x68, .int t1] _ _ _ _
        refine mp_Tb (t := 59) (j_icmp_le dX1_isAsCreased_52) (by decide) (fun c71 => ?_) (fun c71 => mpp 55 rfl ?_)
        · have c71 : t1.toInt ≤ x68.toInt := ti_le c71
          refine mp_a (a_iconst (v := 0) dX1_isAsCreased_59 rfl) (mpp 60 rfl ?_)
          refine mp_a (a_istore (L' := [(5, .int 0), (4, .int 0), (3, .int 1), (0, .ref 294), (1, .int t1), (2, .int t2)]) dX1_isAsCreased_60 (by decide) rfl) (mpp 62 rfl ?_)
          refine mp_a (a_iload dX1_isAsCreased_62 rfl) (mpp 64 rfl ?_)
          refine mp_a (a_iload_n dX1_isAsCreased_64 rfl) (mpp 65 rfl ?_)
          refine mp_a (a_iload dX1_isAsCreased_65 rfl) (mpp 67 rfl ?_)
          refine mp_Tt (t := 74) (j_icmp_ne dX1_isAsCreased_67) (by decide) (by decide) ?_
          refine mp_a (a_iconst (v := 0) dX1_isAsCreased_74 rfl) (mpp 75 rfl ?_)
          refine mp_Tf (t := 82) (j_icmp_ne dX1_isAsCreased_75) (by decide) (by decide) (mpp 78 rfl ?_)
          refine mp_a (a_iconst (v := 1) dX1_isAsCreased_78 rfl) (mpp 79 rfl ?_)
          refine mp_a (a_goto (t := 83) dX1_isAsCreased_79 (by decide)) ?_
          have w73_ : x58.toInt = (fv Po 297 (t2.toInt.toNat - 1)).toInt := by rw [show (t2.toInt.toNat - 1) = z52.toInt.toNat from by omega]; omega
          have w74_ : x68.toInt = (fv Po 295 (t2.toInt.toNat - 1)).toInt := by rw [show (t2.toInt.toNat - 1) = z62.toInt.toNat from by omega]; omega
          have u72 : 0 ≤ (1 : Int) ∧ (1 : Int) ≤ 1 ∧ (((1 : Int) = 1 ∧ (t2.toInt.toNat = 0 ∨ (oL Po (t2.toInt.toNat - 1) < t1.toInt ↔ abv (cL Po) (t2.toInt.toNat - 1)))) ∨ ((1 : Int) = 0 ∧ ¬ (t2.toInt.toNat = 0 ∨ (oL Po (t2.toInt.toNat - 1) < t1.toInt ↔ abv (cL Po) (t2.toInt.toNat - 1))))) := ⟨by omega, by omega, Or.inl ⟨rfl, Or.inr (show ((fv Po 295 (t2.toInt.toNat - 1)).toInt < t1.toInt ↔ ((fv Po 297 (t2.toInt.toNat - 1)).toInt = 2 ↔ (t2.toInt.toNat - 1) % 2 = 0)) from by omega)⟩⟩
          exact mp_iret ⟨⟨_, rfl, u72⟩, rfl⟩ dX1_isAsCreased_83 (Or.inr ⟨rfl, by decide⟩)
        · have c71 : t1.toInt > x68.toInt := ti_le_n c71
          refine mp_a (a_iconst (v := 1) dX1_isAsCreased_55 rfl) (mpp 56 rfl ?_)
          refine mp_a (a_goto (t := 60) dX1_isAsCreased_56 (by decide)) ?_
          refine mp_a (a_istore (L' := [(5, .int 1), (4, .int 0), (3, .int 1), (0, .ref 294), (1, .int t1), (2, .int t2)]) dX1_isAsCreased_60 (by decide) rfl) (mpp 62 rfl ?_)
          refine mp_a (a_iload dX1_isAsCreased_62 rfl) (mpp 64 rfl ?_)
          refine mp_a (a_iload_n dX1_isAsCreased_64 rfl) (mpp 65 rfl ?_)
          refine mp_a (a_iload dX1_isAsCreased_65 rfl) (mpp 67 rfl ?_)
          refine mp_Tt (t := 74) (j_icmp_ne dX1_isAsCreased_67) (by decide) (by decide) ?_
          refine mp_a (a_iconst (v := 0) dX1_isAsCreased_74 rfl) (mpp 75 rfl ?_)
          refine mp_Tt (t := 82) (j_icmp_ne dX1_isAsCreased_75) (by decide) (by decide) ?_
          refine mp_a (a_iconst (v := 0) dX1_isAsCreased_82 rfl) (mpp 83 rfl ?_)
          have w76_ : x58.toInt = (fv Po 297 (t2.toInt.toNat - 1)).toInt := by rw [show (t2.toInt.toNat - 1) = z52.toInt.toNat from by omega]; omega
          have w77_ : x68.toInt = (fv Po 295 (t2.toInt.toNat - 1)).toInt := by rw [show (t2.toInt.toNat - 1) = z62.toInt.toNat from by omega]; omega
          have u75 : 0 ≤ (0 : Int) ∧ (0 : Int) ≤ 1 ∧ (((0 : Int) = 1 ∧ (t2.toInt.toNat = 0 ∨ (oL Po (t2.toInt.toNat - 1) < t1.toInt ↔ abv (cL Po) (t2.toInt.toNat - 1)))) ∨ ((0 : Int) = 0 ∧ ¬ (t2.toInt.toNat = 0 ∨ (oL Po (t2.toInt.toNat - 1) < t1.toInt ↔ abv (cL Po) (t2.toInt.toNat - 1))))) := ⟨by omega, by omega, Or.inr ⟨rfl, fun h => by have h : t2.toInt.toNat = 0 ∨ ((fv Po 295 (t2.toInt.toNat - 1)).toInt < t1.toInt ↔ ((fv Po 297 (t2.toInt.toNat - 1)).toInt = 2 ↔ (t2.toInt.toNat - 1) % 2 = 0)) := h; omega⟩⟩
          exact mp_iret ⟨⟨_, rfl, u75⟩, rfl⟩ dX1_isAsCreased_83 (Or.inr ⟨rfl, by decide⟩)
      · have c61 : x58.toInt = 2 := ti_ne_n c61
        refine mp_a (a_iconst (v := 1) dX1_isAsCreased_34 rfl) (mpp 35 rfl ?_)
        refine mp_a (a_goto (t := 39) dX1_isAsCreased_35 (by decide)) ?_
        refine mp_a (a_istore (L' := [(4, .int 1), (3, .int 1), (0, .ref 294), (1, .int t1), (2, .int t2)]) dX1_isAsCreased_39 (by decide) rfl) (mpp 41 rfl ?_)
        refine mp_a (a_iload_n dX1_isAsCreased_41 rfl) (mpp 42 rfl ?_)
        refine mp_a (a_aload_n dX1_isAsCreased_42 rfl) (mpp 43 rfl ?_)
        refine mt_getU (i := 9) (k := 1) (A := 295) hT dX1_isAsCreased_43 rfl rl_294 (by decide) rfl (by decide) rfl un_14 (mpp 46 rfl ?_)
        refine mp_a (a_iload_n dX1_isAsCreased_46 rfl) (mpp 47 rfl ?_)
        refine mp_a (a_iconst (v := 1) dX1_isAsCreased_47 rfl) (mpp 48 rfl ?_)
        obtain ⟨z78, h79⟩ := ti_ex (t2 - 1 : Int32)
        have wz78 := ti_full z78
        refine mp_t (s_isub (v := z78) dX1_isAsCreased_48 h79) (mpp 49 rfl ?_)
        try have e80 : z78.toInt = t2.toInt - 1 := ti_subz h79 rfl rfl (by omega) (by omega)
        refine mp_calls (i := 59) (q' := q_12) (As := [.ref 295, .int z78]) (rest := [.int t1]) dX1_isAsCreased_49 rfl qm_12 (by decide) rfl (Nat.le_of_ble_eq_true rfl) rfl ⟨rfl, rfl⟩ ⟨Nat.le_of_ble_eq_true rfl, Nat.le_of_ble_eq_true rfl⟩ (EvP.mono (by decide) (c_F_at_order hT hX )) (fun r81 P82 g83 => mpp 52 rfl ?_)
        obtain ⟨⟨x84, rfl, g85⟩, e86⟩ := g83
        have e86 := e86.symm
        subst e86
        have wx84 := ti_full x84
        replace g85 : (0 ≤ z78.toInt ∧ z78.toInt ≤ 7 ∧ x84.toInt = (fv Po 295 z78.toInt.toNat).toInt) ∨ ((z78.toInt < 0 ∨ 8 ≤ z78.toInt) ∧ x84.toInt = 0) := g85
        try replace g85 : x84.toInt = (fv Po 295 z78.toInt.toNat).toInt := (g85.resolve_right (by omega)).2.2
        show MEvP _ none q_68 52 [(4, .int 1), (3, .int 1), (0, .ref 294), (1, .int t1), (2, .int t2)] [.int x84, .int t1] _ _ _ _
        refine mp_Tb (t := 59) (j_icmp_le dX1_isAsCreased_52) (by decide) (fun c87 => ?_) (fun c87 => mpp 55 rfl ?_)
        · have c87 : t1.toInt ≤ x84.toInt := ti_le c87
          refine mp_a (a_iconst (v := 0) dX1_isAsCreased_59 rfl) (mpp 60 rfl ?_)
          refine mp_a (a_istore (L' := [(5, .int 0), (4, .int 1), (3, .int 1), (0, .ref 294), (1, .int t1), (2, .int t2)]) dX1_isAsCreased_60 (by decide) rfl) (mpp 62 rfl ?_)
          refine mp_a (a_iload dX1_isAsCreased_62 rfl) (mpp 64 rfl ?_)
          refine mp_a (a_iload_n dX1_isAsCreased_64 rfl) (mpp 65 rfl ?_)
          refine mp_a (a_iload dX1_isAsCreased_65 rfl) (mpp 67 rfl ?_)
          refine mp_Tf (t := 74) (j_icmp_ne dX1_isAsCreased_67) (by decide) (by decide) (mpp 70 rfl ?_)
          refine mp_a (a_iconst (v := 1) dX1_isAsCreased_70 rfl) (mpp 71 rfl ?_)
          refine mp_a (a_goto (t := 75) dX1_isAsCreased_71 (by decide)) ?_
          refine mp_Tt (t := 82) (j_icmp_ne dX1_isAsCreased_75) (by decide) (by decide) ?_
          refine mp_a (a_iconst (v := 0) dX1_isAsCreased_82 rfl) (mpp 83 rfl ?_)
          have w89_ : x58.toInt = (fv Po 297 (t2.toInt.toNat - 1)).toInt := by rw [show (t2.toInt.toNat - 1) = z52.toInt.toNat from by omega]; omega
          have w90_ : x84.toInt = (fv Po 295 (t2.toInt.toNat - 1)).toInt := by rw [show (t2.toInt.toNat - 1) = z78.toInt.toNat from by omega]; omega
          have u88 : 0 ≤ (0 : Int) ∧ (0 : Int) ≤ 1 ∧ (((0 : Int) = 1 ∧ (t2.toInt.toNat = 0 ∨ (oL Po (t2.toInt.toNat - 1) < t1.toInt ↔ abv (cL Po) (t2.toInt.toNat - 1)))) ∨ ((0 : Int) = 0 ∧ ¬ (t2.toInt.toNat = 0 ∨ (oL Po (t2.toInt.toNat - 1) < t1.toInt ↔ abv (cL Po) (t2.toInt.toNat - 1))))) := ⟨by omega, by omega, Or.inr ⟨rfl, fun h => by have h : t2.toInt.toNat = 0 ∨ ((fv Po 295 (t2.toInt.toNat - 1)).toInt < t1.toInt ↔ ((fv Po 297 (t2.toInt.toNat - 1)).toInt = 2 ↔ (t2.toInt.toNat - 1) % 2 = 0)) := h; omega⟩⟩
          exact mp_iret ⟨⟨_, rfl, u88⟩, rfl⟩ dX1_isAsCreased_83 (Or.inr ⟨rfl, by decide⟩)
        · have c87 : t1.toInt > x84.toInt := ti_le_n c87
          refine mp_a (a_iconst (v := 1) dX1_isAsCreased_55 rfl) (mpp 56 rfl ?_)
          refine mp_a (a_goto (t := 60) dX1_isAsCreased_56 (by decide)) ?_
          refine mp_a (a_istore (L' := [(5, .int 1), (4, .int 1), (3, .int 1), (0, .ref 294), (1, .int t1), (2, .int t2)]) dX1_isAsCreased_60 (by decide) rfl) (mpp 62 rfl ?_)
          refine mp_a (a_iload dX1_isAsCreased_62 rfl) (mpp 64 rfl ?_)
          refine mp_a (a_iload_n dX1_isAsCreased_64 rfl) (mpp 65 rfl ?_)
          refine mp_a (a_iload dX1_isAsCreased_65 rfl) (mpp 67 rfl ?_)
          refine mp_Tf (t := 74) (j_icmp_ne dX1_isAsCreased_67) (by decide) (by decide) (mpp 70 rfl ?_)
          refine mp_a (a_iconst (v := 1) dX1_isAsCreased_70 rfl) (mpp 71 rfl ?_)
          refine mp_a (a_goto (t := 75) dX1_isAsCreased_71 (by decide)) ?_
          refine mp_Tf (t := 82) (j_icmp_ne dX1_isAsCreased_75) (by decide) (by decide) (mpp 78 rfl ?_)
          refine mp_a (a_iconst (v := 1) dX1_isAsCreased_78 rfl) (mpp 79 rfl ?_)
          refine mp_a (a_goto (t := 83) dX1_isAsCreased_79 (by decide)) ?_
          have w92_ : x58.toInt = (fv Po 297 (t2.toInt.toNat - 1)).toInt := by rw [show (t2.toInt.toNat - 1) = z52.toInt.toNat from by omega]; omega
          have w93_ : x84.toInt = (fv Po 295 (t2.toInt.toNat - 1)).toInt := by rw [show (t2.toInt.toNat - 1) = z78.toInt.toNat from by omega]; omega
          have u91 : 0 ≤ (1 : Int) ∧ (1 : Int) ≤ 1 ∧ (((1 : Int) = 1 ∧ (t2.toInt.toNat = 0 ∨ (oL Po (t2.toInt.toNat - 1) < t1.toInt ↔ abv (cL Po) (t2.toInt.toNat - 1)))) ∨ ((1 : Int) = 0 ∧ ¬ (t2.toInt.toNat = 0 ∨ (oL Po (t2.toInt.toNat - 1) < t1.toInt ↔ abv (cL Po) (t2.toInt.toNat - 1))))) := ⟨by omega, by omega, Or.inl ⟨rfl, Or.inr (show ((fv Po 295 (t2.toInt.toNat - 1)).toInt < t1.toInt ↔ ((fv Po 297 (t2.toInt.toNat - 1)).toInt = 2 ↔ (t2.toInt.toNat - 1) % 2 = 0)) from by omega)⟩⟩
          exact mp_iret ⟨⟨_, rfl, u91⟩, rfl⟩ dX1_isAsCreased_83 (Or.inr ⟨rfl, by decide⟩)
  · have c1 : t2.toInt = 0 := ti_ne_n c1
    refine mp_a (a_iconst (v := 1) dX1_isAsCreased_4 rfl) (mpp 5 rfl ?_)
    have u94 : 0 ≤ (1 : Int) ∧ (1 : Int) ≤ 1 ∧ (((1 : Int) = 1 ∧ (t2.toInt.toNat = 0 ∨ (oL Po (t2.toInt.toNat - 1) < t1.toInt ↔ abv (cL Po) (t2.toInt.toNat - 1)))) ∨ ((1 : Int) = 0 ∧ ¬ (t2.toInt.toNat = 0 ∨ (oL Po (t2.toInt.toNat - 1) < t1.toInt ↔ abv (cL Po) (t2.toInt.toNat - 1))))) := ⟨by omega, by omega, Or.inl ⟨rfl, Or.inl (by omega)⟩⟩
    exact mp_iret ⟨⟨_, rfl, u94⟩, rfl⟩ dX1_isAsCreased_5 (Or.inr ⟨rfl, by decide⟩)

set_option maxHeartbeats 4000000 in
theorem c_CL_nextLayer_Layers_l11 {Po : mP} {t1 : Int32} (hT : Typ Po) (hX : XR Po)  (hp0 : 0 ≤ t1.toInt) (hp1 : t1.toInt ≤ 7) (hp2 : -1 ≤ (fv Po 295 t1.toInt.toNat).toInt) (hp3 : (fv Po 295 t1.toInt.toNat).toInt ≤ 8)  : ∀ (n : Nat) (v2 : Int32), ((fv Po 295 t1.toInt.toNat).toInt < v2.toInt) → (∀ l : Int, (fv Po 295 t1.toInt.toNat).toInt < l → l < v2.toInt → ¬ okO (cL Po) (oL Po) t1.toInt.toNat l) → (0 ≤ v2.toInt) → (2147483647 - v2.toInt).toNat = n → MEvP 2 none q_66 11 [(0, .ref 294), (1, .int t1), (2, .int v2)] [] Po 0 0 (fun r P' => (∃ x : Int32, r = some (.int x) ∧ (NXL Po t1.toInt.toNat x.toInt)) ∧ P' = Po) := by
  intro n
  induction n using Nat.strongRecOn with | _ n ih => ?_
  intro v2 i_0 i_1 i_2 hm
  have w_t1 := ti_full t1
  have w_v2 := ti_full v2
  refine mp_a (a_iload_n dX1_nextLayer_11 rfl) (mpp 12 rfl ?_)
  refine mp_a (a_aload_n dX1_nextLayer_12 rfl) (mpp 13 rfl ?_)
  have g1 : (0 : Int) ≤ (fv Po 294 0).toInt ∧ (fv Po 294 0).toInt ≤ 8 := Typ.rng hT rl_294 (by decide) (by decide) rfl
  refine mt_getI (i := 30) (k := 0) hT dX1_nextLayer_13 rfl rl_294 (by decide) rfl (by decide) rfl (fun g2 g3 => mpp 16 rfl ?_)
  refine mp_Tb (t := 45) (j_icmp_ge dX1_nextLayer_16) (by decide) (fun c4 => ?_) (fun c4 => mpp 19 rfl ?_)
  · have c4 : v2.toInt ≥ (fv Po 294 0).toInt := ti_ge c4
    refine mp_a (a_iconst (v := -1) dX1_nextLayer_45 rfl) (mpp 46 rfl ?_)
    have u5 : NXL Po t1.toInt.toNat (-1 : Int) := Or.inl ⟨rfl, fun l h1 h2 => i_1 l h1 (by have h2 : l < ((fv Po 294 0).toInt.toNat : Int) := h2; omega)⟩
    exact mp_iret ⟨⟨_, rfl, u5⟩, rfl⟩ dX1_nextLayer_46 (Or.inl rfl)
  · have c4 : v2.toInt < (fv Po 294 0).toInt := ti_ge_n c4
    refine mp_a (a_aload_n dX1_nextLayer_19 rfl) (mpp 20 rfl ?_)
    refine mp_a (a_iload_n dX1_nextLayer_20 rfl) (mpp 21 rfl ?_)
    refine mp_a (a_iload_n dX1_nextLayer_21 rfl) (mpp 22 rfl ?_)
    have p6 : 0 ≤ t1.toInt := by omega
    have p7 : t1.toInt ≤ 7 := by omega
    refine mt_callv (i := 63) (q' := q_67) (As := [.int v2, .int t1]) (rest := []) hT dX1_nextLayer_22 rfl qm_67 (by decide) rfl rl_294 (by decide) rfl (Nat.le_of_ble_eq_true rfl) rfl ⟨rfl, rfl⟩ ⟨Nat.le_of_ble_eq_true rfl, Nat.le_of_ble_eq_true rfl⟩ (EvP.mono (by decide) (c_CL_isFree_Layers hT hX p6 p7 )) (fun r8 P9 g10 => mpp 25 rfl ?_)
    obtain ⟨⟨x11, rfl, g12⟩, e13⟩ := g10
    have e13 := e13.symm
    subst e13
    have wx11 := ti_full x11
    replace g12 : 0 ≤ x11.toInt ∧ x11.toInt ≤ 1 ∧ ((x11.toInt = 1 ∧ (∀ j : Nat, j < t1.toInt.toNat → ¬ oL Po j = v2.toInt)) ∨ (x11.toInt = 0 ∧ ¬ (∀ j : Nat, j < t1.toInt.toNat → ¬ oL Po j = v2.toInt))) := g12
    show MEvP _ none q_66 25 [(0, .ref 294), (1, .int t1), (2, .int v2)] [.int x11] _ _ _ _
    refine mp_Tb (t := 39) (j_if_eq dX1_nextLayer_25) (by decide) (fun c14 => ?_) (fun c14 => mpp 28 rfl ?_)
    · have c14 : x11.toInt = 0 := ti_eq c14
      obtain ⟨z15, h16⟩ := ti_ex (v2 + 1 : Int32)
      have wz15 := ti_full z15
      refine mp_a (a_iinc (v := z15) (L' := [(2, .int z15), (0, .ref 294), (1, .int t1)]) dX1_nextLayer_39 (by decide) rfl h16 rfl) (mpp 42 rfl ?_)
      try have e17 : z15.toInt = v2.toInt + 1 := ti_addz h16 rfl rfl (by omega) (by omega)
      refine mp_a (a_goto (t := 11) dX1_nextLayer_42 (by decide)) ?_
      refine MEvP.less (L := [(0, .ref 294), (1, .int t1), (2, .int z15)]) rfl rfl ⟨rfl, rfl, rfl, trivial⟩ ?_
      have i18 : (fv Po 295 t1.toInt.toNat).toInt < z15.toInt := by omega
      have i19 : ∀ l : Int, (fv Po 295 t1.toInt.toNat).toInt < l → l < z15.toInt → ¬ okO (cL Po) (oL Po) t1.toInt.toNat l := fun l h1 h2 => if e : l = v2.toInt then by subst e; exact (fun q => (g12.2.2.resolve_left (by omega)).2 q.1) else i_1 l h1 (by omega)
      have i20 : 0 ≤ z15.toInt := by omega
      exact ih _ (by omega) _ i18 i19 i20 rfl
    · have c14 : x11.toInt ≠ 0 := ti_eq_n c14
      refine mp_a (a_aload_n dX1_nextLayer_28 rfl) (mpp 29 rfl ?_)
      refine mp_a (a_iload_n dX1_nextLayer_29 rfl) (mpp 30 rfl ?_)
      refine mp_a (a_iload_n dX1_nextLayer_30 rfl) (mpp 31 rfl ?_)
      have p21 : 0 ≤ t1.toInt := by omega
      have p22 : t1.toInt ≤ 7 := by omega
      refine mt_callv (i := 67) (q' := q_68) (As := [.int v2, .int t1]) (rest := []) hT dX1_nextLayer_31 rfl qm_68 (by decide) rfl rl_294 (by decide) rfl (Nat.le_of_ble_eq_true rfl) rfl ⟨rfl, rfl⟩ ⟨Nat.le_of_ble_eq_true rfl, Nat.le_of_ble_eq_true rfl⟩ (EvP.mono (by decide) (c_CL_isAsCreased_Layers hT hX p21 p22 )) (fun r23 P24 g25 => mpp 34 rfl ?_)
      obtain ⟨⟨x26, rfl, g27⟩, e28⟩ := g25
      have e28 := e28.symm
      subst e28
      have wx26 := ti_full x26
      replace g27 : 0 ≤ x26.toInt ∧ x26.toInt ≤ 1 ∧ ((x26.toInt = 1 ∧ (t1.toInt.toNat = 0 ∨ (oL Po (t1.toInt.toNat - 1) < v2.toInt ↔ abv (cL Po) (t1.toInt.toNat - 1)))) ∨ (x26.toInt = 0 ∧ ¬ (t1.toInt.toNat = 0 ∨ (oL Po (t1.toInt.toNat - 1) < v2.toInt ↔ abv (cL Po) (t1.toInt.toNat - 1))))) := g27
      show MEvP _ none q_66 34 [(0, .ref 294), (1, .int t1), (2, .int v2)] [.int x26] _ _ _ _
      refine mp_Tb (t := 39) (j_if_eq dX1_nextLayer_34) (by decide) (fun c29 => ?_) (fun c29 => mpp 37 rfl ?_)
      · have c29 : x26.toInt = 0 := ti_eq c29
        obtain ⟨z30, h31⟩ := ti_ex (v2 + 1 : Int32)
        have wz30 := ti_full z30
        refine mp_a (a_iinc (v := z30) (L' := [(2, .int z30), (0, .ref 294), (1, .int t1)]) dX1_nextLayer_39 (by decide) rfl h31 rfl) (mpp 42 rfl ?_)
        try have e32 : z30.toInt = v2.toInt + 1 := ti_addz h31 rfl rfl (by omega) (by omega)
        refine mp_a (a_goto (t := 11) dX1_nextLayer_42 (by decide)) ?_
        refine MEvP.less (L := [(0, .ref 294), (1, .int t1), (2, .int z30)]) rfl rfl ⟨rfl, rfl, rfl, trivial⟩ ?_
        have i33 : (fv Po 295 t1.toInt.toNat).toInt < z30.toInt := by omega
        have i34 : ∀ l : Int, (fv Po 295 t1.toInt.toNat).toInt < l → l < z30.toInt → ¬ okO (cL Po) (oL Po) t1.toInt.toNat l := fun l h1 h2 => if e : l = v2.toInt then by subst e; exact (fun q => (g27.2.2.resolve_left (by omega)).2 q.2) else i_1 l h1 (by omega)
        have i35 : 0 ≤ z30.toInt := by omega
        exact ih _ (by omega) _ i33 i34 i35 rfl
      · have c29 : x26.toInt ≠ 0 := ti_eq_n c29
        refine mp_a (a_iload_n dX1_nextLayer_37 rfl) (mpp 38 rfl ?_)
        have u36 : NXL Po t1.toInt.toNat v2.toInt := Or.inr ⟨i_0, (show v2.toInt < ((fv Po 294 0).toInt.toNat : Int) from by omega), ⟨(g12.2.2.resolve_right (by omega)).2, (g27.2.2.resolve_right (by omega)).2⟩, i_1⟩
        exact mp_iret ⟨⟨_, rfl, u36⟩, rfl⟩ dX1_nextLayer_38 (Or.inl rfl)

set_option maxHeartbeats 4000000 in
theorem c_CL_nextLayer_Layers {Po : mP} {t1 : Int32} (hT : Typ Po) (hX : XR Po)  (hp0 : 0 ≤ t1.toInt) (hp1 : t1.toInt ≤ 7) (hp2 : -1 ≤ (fv Po 295 t1.toInt.toNat).toInt) (hp3 : (fv Po 295 t1.toInt.toNat).toInt ≤ 8)  : EvP 3 66 [.ref 294, .int t1] Po (fun r P' => (∃ x : Int32, r = some (.int x) ∧ (NXL Po t1.toInt.toNat x.toInt)) ∧ P' = Po) := by
  refine EvP.of qm_66 (Nat.le_of_ble_eq_true rfl) rfl ?_
  show MEvP _ none q_66 0 [(0, .ref 294), (1, .int t1)] [] _ 0 0 _
  have w_t1 := ti_full t1
  refine mp_a (a_aload_n dX1_nextLayer_0 rfl) (mpp 1 rfl ?_)
  refine mt_getU (i := 9) (k := 1) (A := 295) hT dX1_nextLayer_1 rfl rl_294 (by decide) rfl (by decide) rfl un_14 (mpp 4 rfl ?_)
  refine mp_a (a_iload_n dX1_nextLayer_4 rfl) (mpp 5 rfl ?_)
  refine mp_calls (i := 59) (q' := q_12) (As := [.ref 295, .int t1]) (rest := []) dX1_nextLayer_5 rfl qm_12 (by decide) rfl (Nat.le_of_ble_eq_true rfl) rfl ⟨rfl, rfl⟩ ⟨Nat.le_of_ble_eq_true rfl, Nat.le_of_ble_eq_true rfl⟩ (EvP.mono (by decide) (c_F_at_order hT hX )) (fun r1 P2 g3 => mpp 8 rfl ?_)
  obtain ⟨⟨x4, rfl, g5⟩, e6⟩ := g3
  have e6 := e6.symm
  subst e6
  have wx4 := ti_full x4
  replace g5 : (0 ≤ t1.toInt ∧ t1.toInt ≤ 7 ∧ x4.toInt = (fv Po 295 t1.toInt.toNat).toInt) ∨ ((t1.toInt < 0 ∨ 8 ≤ t1.toInt) ∧ x4.toInt = 0) := g5
  try replace g5 : x4.toInt = (fv Po 295 t1.toInt.toNat).toInt := (g5.resolve_right (by omega)).2.2
  show MEvP _ none q_66 8 [(0, .ref 294), (1, .int t1)] [.int x4] _ _ _ _
  refine mp_a (a_iconst (v := 1) dX1_nextLayer_8 rfl) (mpp 9 rfl ?_)
  obtain ⟨z7, h8⟩ := ti_ex (x4 + 1 : Int32)
  have wz7 := ti_full z7
  refine mp_t (s_iadd (v := z7) dX1_nextLayer_9 h8) (mpp 10 rfl ?_)
  try have e9 : z7.toInt = x4.toInt + 1 := ti_addz h8 rfl rfl (by omega) (by omega)
  refine mp_a (a_istore_n (L' := [(2, .int z7), (0, .ref 294), (1, .int t1)]) dX1_nextLayer_10 (by decide) rfl) (mpp 11 rfl ?_)
  refine MEvP.less (L := [(0, .ref 294), (1, .int t1), (2, .int z7)]) rfl rfl ⟨rfl, rfl, rfl, trivial⟩ ?_
  have i10 : (fv Po 295 t1.toInt.toNat).toInt < z7.toInt := by omega
  have i11 : ∀ l : Int, (fv Po 295 t1.toInt.toNat).toInt < l → l < z7.toInt → ¬ okO (cL Po) (oL Po) t1.toInt.toNat l := fun l h1 h2 => by omega
  have i12 : 0 ≤ z7.toInt := by omega
  exact c_CL_nextLayer_Layers_l11 hT hX  hp0 hp1 hp2 hp3 _ _ i10 i11 i12 rfl

set_option maxHeartbeats 4000000 in
theorem c_CL_search_Layers_NPiece_l22 {Po : mP} {a1_ : Nat} {t2 : Int32} (hTo : Typ Po) (hX : XR Po) (hp0 : a1_ ≤ 288 ∨ 298 ≤ a1_) (hp1 : 1 ≤ t2.toInt) (hp2 : t2.toInt = 1 ∨ 783820 ≤ t2.toInt) (ha1 : rl a1_ = 33) : ∀ (n : Nat) (v3 : Int32) (v4 : Int32) (v5 : Int32), ∀ (P : mP), Typ P → KW [832, 896, 960, 1024] Po P → ((fv P 294 0).toInt = min (fv Po a1_ 1).toInt 7) → (∀ j : Nat, j < 8 → fv P 297 j = fv Po (a1_ + 2) j) → (∀ j : Nat, (j : Int) ≤ (fv P 294 0).toInt → (fv P 296 j).toInt = pP Po a1_ j) → (-1 ≤ v4.toInt ∧ v4.toInt ≤ (fv P 294 0).toInt) → (∀ j : Nat, (j : Int) < v4.toInt → 0 ≤ (fv P 295 j).toInt ∧ (fv P 295 j).toInt < (fv P 294 0).toInt) → (v4.toInt = (fv P 294 0).toInt ∨ v4.toInt = -1 ∨ (-1 ≤ (fv P 295 v4.toInt.toNat).toInt ∧ (fv P 295 v4.toInt.toNat).toInt < (fv P 294 0).toInt)) → (SST (nP Po a1_) (cP Po a1_) (psP Po a1_) v3.toInt v5.toInt v4.toInt (oL P)) → (0 ≤ v3.toInt ∧ v3.toInt ≤ v5.toInt ∧ v3.toInt < t2.toInt) → (0 ≤ v5.toInt) → (2147483647 - v5.toInt).toNat = n → MEvP 4 none q_64 22 [(0, .ref 294), (1, .ref a1_), (2, .int t2), (3, .int v3), (4, .int v4), (5, .int v5)] [] P 0 0 (fun r P' => (∃ x : Int32, r = some (.int x) ∧ (SRC Po P' a1_ t2.toInt x.toInt)) ∧ Typ P' ∧ KW [832, 896, 960, 1024] Po P' ∧ True) := by
  intro n
  induction n using Nat.strongRecOn with | _ n ih => ?_
  intro v3 v4 v5 P hT hK i_0 i_1 i_2 i_3 i_4 i_5 i_6 i_7 i_8 hm
  have w1 := np_ar ha1
  have w_t2 := ti_full t2
  have w_v3 := ti_full v3
  have w_v4 := ti_full v4
  have w_v5 := ti_full v5
  have g2 : (0 : Int) ≤ (fv P 294 0).toInt ∧ (fv P 294 0).toInt ≤ 8 := Typ.rng hT rl_294 (by decide) (by decide) rfl
  have g3 : (0 : Int) ≤ (fv P 294 0).toInt ∧ (fv P 294 0).toInt ≤ 8 := Typ.rng hT rl_294 (by decide) (by decide) rfl
  refine mp_a (a_iload dX1_search_22 rfl) (mpp 24 rfl ?_)
  refine mp_ldc (v := 1000000) dX1_search_24 rfl (mpp 26 rfl ?_)
  refine mp_Tb (t := 122) (j_icmp_ge dX1_search_26) (by decide) (fun c4 => ?_) (fun c4 => mpp 29 rfl ?_)
  · have c4 : v5.toInt ≥ 1000000 := ti_ge c4
    refine mp_a (a_iload_n dX1_search_122 rfl) (mpp 123 rfl ?_)
    have w6_s : nP Po a1_ = (fv P 294 0).toInt.toNat := by show (min (fv Po a1_ 1).toInt 7).toNat = _; omega
    have w6_b := i_6.bnd (by rw [w6_s]; omega)
    have w6_f := i_6.fin (by omega)
    have u5 : SRC Po P a1_ t2.toInt v3.toInt := Or.inl ⟨by omega, w6_f, by omega⟩
    exact mp_iret ⟨⟨_, rfl, u5⟩, hT, hK, trivial⟩ dX1_search_123 (Or.inl rfl)
  · have c4 : v5.toInt < 1000000 := ti_ge_n c4
    refine mp_a (a_iload dX1_search_29 rfl) (mpp 31 rfl ?_)
    refine mp_Tb (t := 122) (j_if_lt dX1_search_31) (by decide) (fun c7 => ?_) (fun c7 => mpp 34 rfl ?_)
    · have c7 : v4.toInt < 0 := ti_lt c7
      refine mp_a (a_iload_n dX1_search_122 rfl) (mpp 123 rfl ?_)
      have w9_s : nP Po a1_ = (fv P 294 0).toInt.toNat := by show (min (fv Po a1_ 1).toInt 7).toNat = _; omega
      have w9_b := i_6.bnd (by rw [w9_s]; omega)
      have w9_f := i_6.fin (by omega)
      have u8 : SRC Po P a1_ t2.toInt v3.toInt := Or.inl ⟨by omega, w9_f, by omega⟩
      exact mp_iret ⟨⟨_, rfl, u8⟩, hT, hK, trivial⟩ dX1_search_123 (Or.inl rfl)
    · have c7 : v4.toInt ≥ 0 := ti_lt_n c7
      refine mp_a (a_iload dX1_search_34 rfl) (mpp 36 rfl ?_)
      refine mp_a (a_aload_n dX1_search_36 rfl) (mpp 37 rfl ?_)
      refine mt_getI (i := 30) (k := 0) hT dX1_search_37 rfl rl_294 (by decide) rfl (by decide) rfl (fun g10 g11 => mpp 40 rfl ?_)
      refine mp_Tb (t := 52) (j_icmp_ge dX1_search_40) (by decide) (fun c12 => ?_) (fun c12 => mpp 43 rfl ?_)
      · have c12 : v4.toInt ≥ (fv P 294 0).toInt := ti_ge c12
        refine mp_a (a_iconst (v := -1) dX1_search_52 rfl) (mpp 53 rfl ?_)
        refine mp_a (a_istore (L' := [(6, .int (-1)), (0, .ref 294), (1, .ref a1_), (2, .int t2), (3, .int v3), (4, .int v4), (5, .int v5)]) dX1_search_53 (by decide) rfl) (mpp 55 rfl ?_)
        refine mp_a (a_iload dX1_search_55 rfl) (mpp 57 rfl ?_)
        refine mp_Tt (t := 87) (j_if_lt dX1_search_57) (by decide) (by decide) ?_
        refine mp_a (a_iload dX1_search_87 rfl) (mpp 89 rfl ?_)
        refine mp_a (a_aload_n dX1_search_89 rfl) (mpp 90 rfl ?_)
        refine mt_getI (i := 30) (k := 0) hT dX1_search_90 rfl rl_294 (by decide) rfl (by decide) rfl (fun g13 g14 => mpp 93 rfl ?_)
        refine mp_Tb (t := 113) (j_icmp_ne dX1_search_93) (by decide) (fun c15 => ?_) (fun c15 => mpp 96 rfl ?_)
        · have c15 : v4.toInt ≠ (fv P 294 0).toInt := ti_ne c15
          exfalso
          omega
        · have c15 : v4.toInt = (fv P 294 0).toInt := ti_ne_n c15
          refine mp_a (a_aload_n dX1_search_96 rfl) (mpp 97 rfl ?_)
          have p16 : (fv P 294 0).toInt ≤ 7 := by omega
          refine mt_callv (i := 38) (q' := q_69) (As := []) (rest := []) hT dX1_search_97 rfl qm_69 (by decide) rfl rl_294 (by decide) rfl (Nat.le_of_ble_eq_true rfl) rfl ⟨rfl, rfl⟩ ⟨Nat.le_of_ble_eq_true rfl, Nat.le_of_ble_eq_true rfl⟩ (EvP.mono (by decide) (c_CL_layersCollide_Layers hT (KW.xr hK hX) p16 )) (fun r17 P18 g19 => mpp 100 rfl ?_)
          obtain ⟨⟨x20, rfl, g21⟩, e22⟩ := g19
          have e22 := e22.symm
          subst e22
          have wx20 := ti_full x20
          replace g21 : 0 ≤ x20.toInt ∧ x20.toInt ≤ 1 ∧ ((x20.toInt = 1 ∧ ¬ PSc (nL P) (pL P) (oL P)) ∨ (x20.toInt = 0 ∧ PSc (nL P) (pL P) (oL P))) := g21
          show MEvP _ none q_64 100 [(6, .int (-1)), (0, .ref 294), (1, .ref a1_), (2, .int t2), (3, .int v3), (4, .int v4), (5, .int v5)] [.int x20] _ _ _ _
          refine mp_Tb (t := 113) (j_if_ne dX1_search_100) (by decide) (fun c23 => ?_) (fun c23 => mpp 103 rfl ?_)
          · have c23 : x20.toInt ≠ 0 := ti_ne c23
            obtain ⟨z24, h25⟩ := ti_ex (v4 + (-1) : Int32)
            have wz24 := ti_full z24
            refine mp_a (a_iinc (v := z24) (L' := [(4, .int z24), (6, .int (-1)), (0, .ref 294), (1, .ref a1_), (2, .int t2), (3, .int v3), (5, .int v5)]) dX1_search_113 (by decide) rfl h25 rfl) (mpp 116 rfl ?_)
            try have e26 : z24.toInt = v4.toInt + (-1) := ti_addz h25 rfl rfl (by omega) (by omega)
            obtain ⟨z27, h28⟩ := ti_ex (v5 + 1 : Int32)
            have wz27 := ti_full z27
            refine mp_a (a_iinc (v := z27) (L' := [(5, .int z27), (4, .int z24), (6, .int (-1)), (0, .ref 294), (1, .ref a1_), (2, .int t2), (3, .int v3)]) dX1_search_116 (by decide) rfl h28 rfl) (mpp 119 rfl ?_)
            try have e29 : z27.toInt = v5.toInt + 1 := ti_addz h28 rfl rfl (by omega) (by omega)
            refine mp_a (a_goto (t := 22) dX1_search_119 (by decide)) ?_
            refine MEvP.less (L := [(0, .ref 294), (1, .ref a1_), (2, .int t2), (3, .int v3), (4, .int z24), (5, .int z27)]) rfl rfl ⟨rfl, rfl, rfl, rfl, rfl, rfl, trivial⟩ ?_
            have i30 : (fv P 294 0).toInt = min (fv Po a1_ 1).toInt 7 := by omega
            have i31 : ∀ j : Nat, j < 8 → fv P 297 j = fv Po (a1_ + 2) j := i_1
            have i33 : ∀ j : Nat, (j : Int) ≤ (fv P 294 0).toInt → (fv P 296 j).toInt = pP Po a1_ j := i_2
            have i35 : -1 ≤ z24.toInt ∧ z24.toInt ≤ (fv P 294 0).toInt := by omega
            have i36 : ∀ j : Nat, (j : Int) < z24.toInt → 0 ≤ (fv P 295 j).toInt ∧ (fv P 295 j).toInt < (fv P 294 0).toInt := fun j hj => i_4 j (by omega)
            have i38 : z24.toInt = (fv P 294 0).toInt ∨ z24.toInt = -1 ∨ (-1 ≤ (fv P 295 z24.toInt.toNat).toInt ∧ (fv P 295 z24.toInt.toNat).toInt < (fv P 294 0).toInt) := if e : z24.toInt = -1 then Or.inr (Or.inl e) else Or.inr (Or.inr (by have q := i_4 z24.toInt.toNat (by omega); omega))
            have w41_s : nP Po a1_ = (fv P 294 0).toInt.toNat := by show (min (fv Po a1_ 1).toInt 7).toNat = _; omega
            have w41_p : PSc (nL P) (pL P) (oL P) ↔ psP Po a1_ (oL P) := by show _ ↔ PSc (nP Po a1_) (pP Po a1_) (oL P); rw [w41_s]; exact PSc.eq (fun _ _ => rfl) (fun j hj => i_2 j (by omega))
            have i40 : SST (nP Po a1_) (cP Po a1_) (psP Po a1_) v3.toInt z27.toInt z24.toInt (oL P) := SST.no i_6 (by rw [w41_s]; omega) (fun q => (g21.2.2.resolve_right (by omega)).2 (w41_p.mpr q)) rfl (by omega) (by omega)
            have i42 : 0 ≤ v3.toInt ∧ v3.toInt ≤ z27.toInt ∧ v3.toInt < t2.toInt := by omega
            have i43 : 0 ≤ z27.toInt := by omega
            exact ih _ (by omega) _ _ _ P hT hK i30 i31 i33 i35 i36 i38 i40 i42 i43 rfl
          · have c23 : x20.toInt = 0 := ti_ne_n c23
            obtain ⟨z44, h45⟩ := ti_ex (v3 + 1 : Int32)
            have wz44 := ti_full z44
            refine mp_a (a_iinc (v := z44) (L' := [(3, .int z44), (6, .int (-1)), (0, .ref 294), (1, .ref a1_), (2, .int t2), (4, .int v4), (5, .int v5)]) dX1_search_103 (by decide) rfl h45 rfl) (mpp 106 rfl ?_)
            try have e46 : z44.toInt = v3.toInt + 1 := ti_addz h45 rfl rfl (by omega) (by omega)
            refine mp_a (a_iload_n dX1_search_106 rfl) (mpp 107 rfl ?_)
            refine mp_a (a_iload_n dX1_search_107 rfl) (mpp 108 rfl ?_)
            refine mp_Tb (t := 113) (j_icmp_lt dX1_search_108) (by decide) (fun c47 => ?_) (fun c47 => mpp 111 rfl ?_)
            · have c47 : z44.toInt < t2.toInt := ti_lt c47
              obtain ⟨z48, h49⟩ := ti_ex (v4 + (-1) : Int32)
              have wz48 := ti_full z48
              refine mp_a (a_iinc (v := z48) (L' := [(4, .int z48), (3, .int z44), (6, .int (-1)), (0, .ref 294), (1, .ref a1_), (2, .int t2), (5, .int v5)]) dX1_search_113 (by decide) rfl h49 rfl) (mpp 116 rfl ?_)
              try have e50 : z48.toInt = v4.toInt + (-1) := ti_addz h49 rfl rfl (by omega) (by omega)
              obtain ⟨z51, h52⟩ := ti_ex (v5 + 1 : Int32)
              have wz51 := ti_full z51
              refine mp_a (a_iinc (v := z51) (L' := [(5, .int z51), (4, .int z48), (3, .int z44), (6, .int (-1)), (0, .ref 294), (1, .ref a1_), (2, .int t2)]) dX1_search_116 (by decide) rfl h52 rfl) (mpp 119 rfl ?_)
              try have e53 : z51.toInt = v5.toInt + 1 := ti_addz h52 rfl rfl (by omega) (by omega)
              refine mp_a (a_goto (t := 22) dX1_search_119 (by decide)) ?_
              refine MEvP.less (L := [(0, .ref 294), (1, .ref a1_), (2, .int t2), (3, .int z44), (4, .int z48), (5, .int z51)]) rfl rfl ⟨rfl, rfl, rfl, rfl, rfl, rfl, trivial⟩ ?_
              have i54 : (fv P 294 0).toInt = min (fv Po a1_ 1).toInt 7 := by omega
              have i55 : ∀ j : Nat, j < 8 → fv P 297 j = fv Po (a1_ + 2) j := i_1
              have i57 : ∀ j : Nat, (j : Int) ≤ (fv P 294 0).toInt → (fv P 296 j).toInt = pP Po a1_ j := i_2
              have i59 : -1 ≤ z48.toInt ∧ z48.toInt ≤ (fv P 294 0).toInt := by omega
              have i60 : ∀ j : Nat, (j : Int) < z48.toInt → 0 ≤ (fv P 295 j).toInt ∧ (fv P 295 j).toInt < (fv P 294 0).toInt := fun j hj => i_4 j (by omega)
              have i62 : z48.toInt = (fv P 294 0).toInt ∨ z48.toInt = -1 ∨ (-1 ≤ (fv P 295 z48.toInt.toNat).toInt ∧ (fv P 295 z48.toInt.toNat).toInt < (fv P 294 0).toInt) := if e : z48.toInt = -1 then Or.inr (Or.inl e) else Or.inr (Or.inr (by have q := i_4 z48.toInt.toNat (by omega); omega))
              have w65_s : nP Po a1_ = (fv P 294 0).toInt.toNat := by show (min (fv Po a1_ 1).toInt 7).toNat = _; omega
              have w65_p : PSc (nL P) (pL P) (oL P) ↔ psP Po a1_ (oL P) := by show _ ↔ PSc (nP Po a1_) (pP Po a1_) (oL P); rw [w65_s]; exact PSc.eq (fun _ _ => rfl) (fun j hj => i_2 j (by omega))
              have i64 : SST (nP Po a1_) (cP Po a1_) (psP Po a1_) z44.toInt z51.toInt z48.toInt (oL P) := SST.yes i_6 (by rw [w65_s]; omega) (w65_p.mp (g21.2.2.resolve_left (by omega)).2) (by omega) (by omega) (by omega) (by omega)
              have i66 : 0 ≤ z44.toInt ∧ z44.toInt ≤ z51.toInt ∧ z44.toInt < t2.toInt := by omega
              have i67 : 0 ≤ z51.toInt := by omega
              exact ih _ (by omega) _ _ _ P hT hK i54 i55 i57 i59 i60 i62 i64 i66 i67 rfl
            · have c47 : z44.toInt ≥ t2.toInt := ti_lt_n c47
              refine mp_a (a_iload_n dX1_search_111 rfl) (mpp 112 rfl ?_)
              have w69_s : nP Po a1_ = (fv P 294 0).toInt.toNat := by show (min (fv Po a1_ 1).toInt 7).toNat = _; omega
              have w69_b := i_6.bnd (by rw [w69_s]; omega)
              have w69_p : PSc (nL P) (pL P) (oL P) ↔ psP Po a1_ (oL P) := by show _ ↔ PSc (nP Po a1_) (pP Po a1_) (oL P); rw [w69_s]; exact PSc.eq (fun _ _ => rfl) (fun j hj => i_2 j (by omega))
              have w69_h := i_6.hit (by rw [w69_s]; omega) (w69_p.mp (g21.2.2.resolve_left (by omega)).2)
              have u68 : SRC Po P a1_ t2.toInt z44.toInt := Or.inr ⟨by omega, by omega, fun e => ⟨_, w69_h.2 (by omega), fun j hj => (if_pos hj).symm⟩⟩
              exact mp_iret ⟨⟨_, rfl, u68⟩, hT, hK, trivial⟩ dX1_search_112 (Or.inl rfl)
      · have c12 : v4.toInt < (fv P 294 0).toInt := ti_ge_n c12
        refine mp_a (a_aload_n dX1_search_43 rfl) (mpp 44 rfl ?_)
        refine mp_a (a_iload dX1_search_44 rfl) (mpp 46 rfl ?_)
        have p70 : 0 ≤ v4.toInt := by omega
        have p71 : v4.toInt ≤ 7 := by omega
        have p72 : -1 ≤ (fv P 295 v4.toInt.toNat).toInt := by omega
        have p73 : (fv P 295 v4.toInt.toNat).toInt ≤ 8 := by omega
        refine mt_callv (i := 34) (q' := q_66) (As := [.int v4]) (rest := []) hT dX1_search_46 rfl qm_66 (by decide) rfl rl_294 (by decide) rfl (Nat.le_of_ble_eq_true rfl) rfl ⟨rfl, rfl⟩ ⟨Nat.le_of_ble_eq_true rfl, Nat.le_of_ble_eq_true rfl⟩ (EvP.mono (by decide) (c_CL_nextLayer_Layers hT (KW.xr hK hX) p70 p71 p72 p73 )) (fun r74 P75 g76 => mpp 49 rfl ?_)
        obtain ⟨⟨x77, rfl, g78⟩, e79⟩ := g76
        have e79 := e79.symm
        subst e79
        have wx77 := ti_full x77
        replace g78 : NXL P v4.toInt.toNat x77.toInt := g78
        show MEvP _ none q_64 49 [(0, .ref 294), (1, .ref a1_), (2, .int t2), (3, .int v3), (4, .int v4), (5, .int v5)] [.int x77] _ _ _ _
        refine mp_a (a_goto (t := 53) dX1_search_49 (by decide)) ?_
        refine mp_a (a_istore (L' := [(6, .int x77), (0, .ref 294), (1, .ref a1_), (2, .int t2), (3, .int v3), (4, .int v4), (5, .int v5)]) dX1_search_53 (by decide) rfl) (mpp 55 rfl ?_)
        refine mp_a (a_iload dX1_search_55 rfl) (mpp 57 rfl ?_)
        refine mp_Tb (t := 87) (j_if_lt dX1_search_57) (by decide) (fun c80 => ?_) (fun c80 => mpp 60 rfl ?_)
        · have c80 : x77.toInt < 0 := ti_lt c80
          refine mp_a (a_iload dX1_search_87 rfl) (mpp 89 rfl ?_)
          refine mp_a (a_aload_n dX1_search_89 rfl) (mpp 90 rfl ?_)
          refine mt_getI (i := 30) (k := 0) hT dX1_search_90 rfl rl_294 (by decide) rfl (by decide) rfl (fun g81 g82 => mpp 93 rfl ?_)
          refine mp_Tb (t := 113) (j_icmp_ne dX1_search_93) (by decide) (fun c83 => ?_) (fun c83 => mpp 96 rfl ?_)
          · have c83 : v4.toInt ≠ (fv P 294 0).toInt := ti_ne c83
            obtain ⟨z84, h85⟩ := ti_ex (v4 + (-1) : Int32)
            have wz84 := ti_full z84
            refine mp_a (a_iinc (v := z84) (L' := [(4, .int z84), (6, .int x77), (0, .ref 294), (1, .ref a1_), (2, .int t2), (3, .int v3), (5, .int v5)]) dX1_search_113 (by decide) rfl h85 rfl) (mpp 116 rfl ?_)
            try have e86 : z84.toInt = v4.toInt + (-1) := ti_addz h85 rfl rfl (by omega) (by omega)
            obtain ⟨z87, h88⟩ := ti_ex (v5 + 1 : Int32)
            have wz87 := ti_full z87
            refine mp_a (a_iinc (v := z87) (L' := [(5, .int z87), (4, .int z84), (6, .int x77), (0, .ref 294), (1, .ref a1_), (2, .int t2), (3, .int v3)]) dX1_search_116 (by decide) rfl h88 rfl) (mpp 119 rfl ?_)
            try have e89 : z87.toInt = v5.toInt + 1 := ti_addz h88 rfl rfl (by omega) (by omega)
            refine mp_a (a_goto (t := 22) dX1_search_119 (by decide)) ?_
            refine MEvP.less (L := [(0, .ref 294), (1, .ref a1_), (2, .int t2), (3, .int v3), (4, .int z84), (5, .int z87)]) rfl rfl ⟨rfl, rfl, rfl, rfl, rfl, rfl, trivial⟩ ?_
            have i90 : (fv P 294 0).toInt = min (fv Po a1_ 1).toInt 7 := by omega
            have i91 : ∀ j : Nat, j < 8 → fv P 297 j = fv Po (a1_ + 2) j := i_1
            have i93 : ∀ j : Nat, (j : Int) ≤ (fv P 294 0).toInt → (fv P 296 j).toInt = pP Po a1_ j := i_2
            have i95 : -1 ≤ z84.toInt ∧ z84.toInt ≤ (fv P 294 0).toInt := by omega
            have i96 : ∀ j : Nat, (j : Int) < z84.toInt → 0 ≤ (fv P 295 j).toInt ∧ (fv P 295 j).toInt < (fv P 294 0).toInt := fun j hj => i_4 j (by omega)
            have i98 : z84.toInt = (fv P 294 0).toInt ∨ z84.toInt = -1 ∨ (-1 ≤ (fv P 295 z84.toInt.toNat).toInt ∧ (fv P 295 z84.toInt.toNat).toInt < (fv P 294 0).toInt) := if e : z84.toInt = -1 then Or.inr (Or.inl e) else Or.inr (Or.inr (by have q := i_4 z84.toInt.toNat (by omega); omega))
            have w101_s : nP Po a1_ = (fv P 294 0).toInt.toNat := by show (min (fv Po a1_ 1).toInt 7).toNat = _; omega
            have w101_n := (g78 : NXL P v4.toInt.toNat x77.toInt).resolve_right (fun q => by have q1 := q.1; omega)
            have w101_k : ∀ l : Int, okO (cL P) (oL P) v4.toInt.toNat l ↔ okO (cP Po a1_) (oL P) v4.toInt.toNat l := fun l => okO.crs (fun hp => i_1 (v4.toInt.toNat - 1) (by omega))
            have i100 : SST (nP Po a1_) (cP Po a1_) (psP Po a1_) v3.toInt z87.toInt z84.toInt (oL P) := SST.up i_6 (p := v4.toInt.toNat) (by omega) (by rw [w101_s]; omega) (by show -1 ≤ (fv P 295 v4.toInt.toNat).toInt; omega) (fun m m1 m2 q => w101_n.2 m m1 (by rw [w101_s] at m2; exact m2) ((w101_k m).mpr q)) rfl (by omega) (by omega)
            have i102 : 0 ≤ v3.toInt ∧ v3.toInt ≤ z87.toInt ∧ v3.toInt < t2.toInt := by omega
            have i103 : 0 ≤ z87.toInt := by omega
            exact ih _ (by omega) _ _ _ P hT hK i90 i91 i93 i95 i96 i98 i100 i102 i103 rfl
          · have c83 : v4.toInt = (fv P 294 0).toInt := ti_ne_n c83
            exfalso
            omega
        · have c80 : x77.toInt ≥ 0 := ti_lt_n c80
          refine mp_a (a_aload_n dX1_search_60 rfl) (mpp 61 rfl ?_)
          refine mt_getU (i := 9) (k := 1) (A := 295) hT dX1_search_61 rfl rl_294 (by decide) rfl (by decide) rfl un_14 (mpp 64 rfl ?_)
          refine mp_a (a_iload dX1_search_64 rfl) (mpp 66 rfl ?_)
          refine mp_a (a_iload dX1_search_66 rfl) (mpp 68 rfl ?_)
          refine mp_calls (i := 25) (q' := q_22) (As := [.ref 295, .int v4, .int x77]) (rest := []) dX1_search_68 rfl qm_22 (by decide) rfl (Nat.le_of_ble_eq_true rfl) rfl ⟨rfl, rfl⟩ ⟨Nat.le_of_ble_eq_true rfl, Nat.le_of_ble_eq_true rfl⟩ (EvP.mono (by decide) (c_F_put_order hT (KW.xr hK hX) )) (fun r104 P105 g106 => mpp 71 rfl ?_)
          obtain ⟨⟨rfl, g108⟩, hT109, k110, R111⟩ := g106
          have k112 : KW [832, 896, 960, 1024] Po P105 := KW.trans hK k110 rfl
          show MEvP _ none q_64 71 [(6, .int x77), (0, .ref 294), (1, .ref a1_), (2, .int t2), (3, .int v3), (4, .int v4), (5, .int v5)] [] _ _ _ _
          obtain ⟨z114, h115⟩ := ti_ex (v4 + 1 : Int32)
          have wz114 := ti_full z114
          refine mp_a (a_iinc (v := z114) (L' := [(4, .int z114), (6, .int x77), (0, .ref 294), (1, .ref a1_), (2, .int t2), (3, .int v3), (5, .int v5)]) dX1_search_71 (by decide) rfl h115 rfl) (mpp 74 rfl ?_)
          try have e116 : z114.toInt = v4.toInt + 1 := ti_addz h115 rfl rfl (by omega) (by omega)
          refine mp_a (a_aload_n dX1_search_74 rfl) (mpp 75 rfl ?_)
          refine mt_getU (i := 9) (k := 1) (A := 295) hT109 dX1_search_75 rfl rl_294 (by decide) rfl (by decide) rfl un_14 (mpp 78 rfl ?_)
          refine mp_a (a_iload dX1_search_78 rfl) (mpp 80 rfl ?_)
          refine mp_a (a_iconst (v := -1) dX1_search_80 rfl) (mpp 81 rfl ?_)
          refine mp_calls (i := 25) (q' := q_22) (As := [.ref 295, .int z114, .int (-1)]) (rest := []) dX1_search_81 rfl qm_22 (by decide) rfl (Nat.le_of_ble_eq_true rfl) rfl ⟨rfl, rfl⟩ ⟨Nat.le_of_ble_eq_true rfl, Nat.le_of_ble_eq_true rfl⟩ (EvP.mono (by decide) (c_F_put_order hT109 (KW.xr k112 hX) )) (fun r117 P118 g119 => mpp 84 rfl ?_)
          obtain ⟨⟨rfl, g121⟩, hT122, k123, R124⟩ := g119
          have k125 : KW [832, 896, 960, 1024] Po P118 := KW.trans k112 k123 rfl
          show MEvP _ none q_64 84 [(4, .int z114), (6, .int x77), (0, .ref 294), (1, .ref a1_), (2, .int t2), (3, .int v3), (5, .int v5)] [] _ _ _ _
          refine mp_a (a_goto (t := 116) dX1_search_84 (by decide)) ?_
          obtain ⟨z127, h128⟩ := ti_ex (v5 + 1 : Int32)
          have wz127 := ti_full z127
          refine mp_a (a_iinc (v := z127) (L' := [(5, .int z127), (4, .int z114), (6, .int x77), (0, .ref 294), (1, .ref a1_), (2, .int t2), (3, .int v3)]) dX1_search_116 (by decide) rfl h128 rfl) (mpp 119 rfl ?_)
          try have e129 : z127.toInt = v5.toInt + 1 := ti_addz h128 rfl rfl (by omega) (by omega)
          refine mp_a (a_goto (t := 22) dX1_search_119 (by decide)) ?_
          refine MEvP.less (L := [(0, .ref 294), (1, .ref a1_), (2, .int t2), (3, .int v3), (4, .int z114), (5, .int z127)]) rfl rfl ⟨rfl, rfl, rfl, rfl, rfl, rfl, trivial⟩ ?_
          have e130 : (fv P118 294 0).toInt = (fv P 294 0).toInt := congrArg Int32.toInt ((KW.at k123 0 rl_294 rfl).trans (KW.at k110 0 rl_294 rfl))
          have i131 : (fv P118 294 0).toInt = min (fv Po a1_ 1).toInt 7 := by omega
          have i132 : ∀ j : Nat, j < 8 → fv P118 297 j = fv Po (a1_ + 2) j := fun j hj => (R124.2.1 297 j (by omega)).trans ((R111.2.1 297 j (by omega)).trans (i_1 j hj))
          have i134 : ∀ j : Nat, (j : Int) ≤ (fv P118 294 0).toInt → (fv P118 296 j).toInt = pP Po a1_ j := fun j hj => by rw [R124.2.1 296 j (by omega), R111.2.1 296 j (by omega)]; exact i_2 j (by omega)
          have i136 : -1 ≤ z114.toInt ∧ z114.toInt ≤ (fv P118 294 0).toInt := by omega
          have w138_0 : (fv P118 295 v4.toInt.toNat).toInt = x77.toInt := by rw [R124.2.1 295 v4.toInt.toNat (by omega)]; exact R111.1.resolve_left (by omega)
          have w138_1 : (fv P118 295 z114.toInt.toNat).toInt = -1 := R124.1.resolve_left (by omega)
          have w138_2 : ∀ j : Nat, j < v4.toInt.toNat → (fv P118 295 j).toInt = (fv P 295 j).toInt := fun j hj => by rw [R124.2.1 295 j (by omega), R111.2.1 295 j (by omega)]
          have i137 : ∀ j : Nat, (j : Int) < z114.toInt → 0 ≤ (fv P118 295 j).toInt ∧ (fv P118 295 j).toInt < (fv P118 294 0).toInt := fun j hj => if e : j = v4.toInt.toNat then by subst e; rw [w138_0]; omega else by have q := i_4 j (by omega); rw [w138_2 j (by omega)]; omega
          have w140_0 : (fv P118 295 v4.toInt.toNat).toInt = x77.toInt := by rw [R124.2.1 295 v4.toInt.toNat (by omega)]; exact R111.1.resolve_left (by omega)
          have w140_1 : (fv P118 295 z114.toInt.toNat).toInt = -1 := R124.1.resolve_left (by omega)
          have w140_2 : ∀ j : Nat, j < v4.toInt.toNat → (fv P118 295 j).toInt = (fv P 295 j).toInt := fun j hj => by rw [R124.2.1 295 j (by omega), R111.2.1 295 j (by omega)]
          have i139 : z114.toInt = (fv P118 294 0).toInt ∨ z114.toInt = -1 ∨ (-1 ≤ (fv P118 295 z114.toInt.toNat).toInt ∧ (fv P118 295 z114.toInt.toNat).toInt < (fv P118 294 0).toInt) := Or.inr (Or.inr (by rw [w140_1]; omega))
          have w142_0 : (fv P118 295 v4.toInt.toNat).toInt = x77.toInt := by rw [R124.2.1 295 v4.toInt.toNat (by omega)]; exact R111.1.resolve_left (by omega)
          have w142_1 : (fv P118 295 z114.toInt.toNat).toInt = -1 := R124.1.resolve_left (by omega)
          have w142_2 : ∀ j : Nat, j < v4.toInt.toNat → (fv P118 295 j).toInt = (fv P 295 j).toInt := fun j hj => by rw [R124.2.1 295 j (by omega), R111.2.1 295 j (by omega)]
          have w142_n := (g78 : NXL P v4.toInt.toNat x77.toInt).resolve_left (fun q => by have q1 := q.1; omega)
          have w142_k : ∀ l : Int, okO (cL P) (oL P) v4.toInt.toNat l ↔ okO (cP Po a1_) (oL P) v4.toInt.toNat l := fun l => okO.crs (fun hp => i_1 (v4.toInt.toNat - 1) (by omega))
          have w142_s : nP Po a1_ = (fv P 294 0).toInt.toNat := by show (min (fv Po a1_ 1).toInt 7).toNat = _; omega
          have i141 : SST (nP Po a1_) (cP Po a1_) (psP Po a1_) v3.toInt z127.toInt z114.toInt (oL P118) := SST.down i_6 PSc.prp (p := v4.toInt.toNat) (by omega) (by rw [w142_s]; omega) (by show -1 ≤ (fv P 295 v4.toInt.toNat).toInt; omega) w142_n.1 (by rw [w142_s]; exact w142_n.2.1) ((w142_k _).mp w142_n.2.2.1) (fun m m1 m2 q => w142_n.2.2.2 m m1 m2 ((w142_k m).mpr q)) w142_2 w142_0 (fun _ => by show (fv P118 295 (v4.toInt.toNat + 1)).toInt = -1; rw [show v4.toInt.toNat + 1 = z114.toInt.toNat from by omega]; exact w142_1) rfl (by omega) (by omega)
          have i143 : 0 ≤ v3.toInt ∧ v3.toInt ≤ z127.toInt ∧ v3.toInt < t2.toInt := by omega
          have i144 : 0 ≤ z127.toInt := by omega
          exact ih _ (by omega) _ _ _ P118 hT122 k125 i131 i132 i134 i136 i137 i139 i141 i143 i144 rfl

set_option maxHeartbeats 4000000 in
theorem c_CL_search_Layers_NPiece {Po : mP} {a1_ : Nat} {t2 : Int32} (hT : Typ Po) (hX : XR Po)  (hp0 : a1_ ≤ 288 ∨ 298 ≤ a1_) (hp1 : 1 ≤ t2.toInt) (hp2 : t2.toInt = 1 ∨ 783820 ≤ t2.toInt) (ha1 : rl a1_ = 33) : EvP 5 64 [.ref 294, .ref a1_, .int t2] Po (fun r P' => (∃ x : Int32, r = some (.int x) ∧ (SRC Po P' a1_ t2.toInt x.toInt)) ∧ Typ P' ∧ KW [832, 896, 960, 1024] Po P' ∧ True) := by
  refine EvP.of qm_64 (Nat.le_of_ble_eq_true rfl) rfl ?_
  show MEvP _ none q_64 0 [(0, .ref 294), (1, .ref a1_), (2, .int t2)] [] _ 0 0 _
  have w1 := np_ar ha1
  have w_t2 := ti_full t2
  refine mp_a (a_aload_n dX1_search_0 rfl) (mpp 1 rfl ?_)
  refine mp_a (a_aload_n dX1_search_1 rfl) (mpp 2 rfl ?_)
  have p2 : a1_ ≤ 288 ∨ 298 ≤ a1_ := by omega
  refine mt_callv (i := 21) (q' := q_65) (As := [.ref a1_]) (rest := []) hT dX1_search_2 rfl qm_65 (by decide) rfl rl_294 (by decide) rfl (Nat.le_of_ble_eq_true rfl) rfl ⟨rfl, rfl⟩ ⟨Nat.le_of_ble_eq_true rfl, Nat.le_of_ble_eq_true rfl⟩ (EvP.mono (by decide) (c_CL_load_Layers_NPiece hT hX p2 ha1)) (fun r3 P4 g5 => mpp 5 rfl ?_)
  obtain ⟨⟨rfl, g7⟩, hT8, k9, R10⟩ := g5
  have k11 : KW [832, 896, 960, 1024] Po P4 := KW.trans KW.refl k9 rfl
  replace g7 : (fv P4 294 0).toInt = min (fv Po a1_ 1).toInt 7 ∧ (∀ j : Nat, j < 8 → fv P4 297 j = fv Po (a1_ + 2) j) ∧ ∀ j : Nat, (j : Int) ≤ (fv P4 294 0).toInt → (fv P4 296 j).toInt = pP Po a1_ j := g7
  have g13 : (0 : Int) ≤ (fv P4 294 0).toInt ∧ (fv P4 294 0).toInt ≤ 8 := Typ.rng hT8 rl_294 (by decide) (by decide) rfl
  have g14 : (0 : Int) ≤ (fv Po a1_ 1).toInt ∧ (fv Po a1_ 1).toInt ≤ 8 := Typ.rng hT ha1 (by decide) (by decide) rfl
  have g15 : (0 : Int) ≤ (fv P4 294 0).toInt ∧ (fv P4 294 0).toInt ≤ 8 := Typ.rng hT8 rl_294 (by decide) (by decide) rfl
  show MEvP _ none q_64 5 [(0, .ref 294), (1, .ref a1_), (2, .int t2)] [] _ _ _ _
  refine mp_a (a_iconst (v := 0) dX1_search_5 rfl) (mpp 6 rfl ?_)
  refine mp_a (a_istore_n (L' := [(3, .int 0), (0, .ref 294), (1, .ref a1_), (2, .int t2)]) dX1_search_6 (by decide) rfl) (mpp 7 rfl ?_)
  refine mp_a (a_iconst (v := 0) dX1_search_7 rfl) (mpp 8 rfl ?_)
  refine mp_a (a_istore (L' := [(4, .int 0), (3, .int 0), (0, .ref 294), (1, .ref a1_), (2, .int t2)]) dX1_search_8 (by decide) rfl) (mpp 10 rfl ?_)
  refine mp_a (a_aload_n dX1_search_10 rfl) (mpp 11 rfl ?_)
  refine mt_getU (i := 9) (k := 1) (A := 295) hT8 dX1_search_11 rfl rl_294 (by decide) rfl (by decide) rfl un_14 (mpp 14 rfl ?_)
  refine mp_a (a_iconst (v := 0) dX1_search_14 rfl) (mpp 15 rfl ?_)
  refine mp_a (a_iconst (v := -1) dX1_search_15 rfl) (mpp 16 rfl ?_)
  refine mp_calls (i := 25) (q' := q_22) (As := [.ref 295, .int 0, .int (-1)]) (rest := []) dX1_search_16 rfl qm_22 (by decide) rfl (Nat.le_of_ble_eq_true rfl) rfl ⟨rfl, rfl⟩ ⟨Nat.le_of_ble_eq_true rfl, Nat.le_of_ble_eq_true rfl⟩ (EvP.mono (by decide) (c_F_put_order hT8 (KW.xr k11 hX) )) (fun r16 P17 g18 => mpp 19 rfl ?_)
  obtain ⟨⟨rfl, g20⟩, hT21, k22, R23⟩ := g18
  have k24 : KW [832, 896, 960, 1024] Po P17 := KW.trans k11 k22 rfl
  show MEvP _ none q_64 19 [(4, .int 0), (3, .int 0), (0, .ref 294), (1, .ref a1_), (2, .int t2)] [] _ _ _ _
  refine mp_a (a_iconst (v := 0) dX1_search_19 rfl) (mpp 20 rfl ?_)
  refine mp_a (a_istore (L' := [(5, .int 0), (4, .int 0), (3, .int 0), (0, .ref 294), (1, .ref a1_), (2, .int t2)]) dX1_search_20 (by decide) rfl) (mpp 22 rfl ?_)
  refine MEvP.less (L := [(0, .ref 294), (1, .ref a1_), (2, .int t2), (3, .int 0), (4, .int 0), (5, .int 0)]) rfl rfl ⟨rfl, rfl, rfl, rfl, rfl, rfl, trivial⟩ ?_
  have e26 : (fv P17 294 0).toInt = (fv P4 294 0).toInt := congrArg Int32.toInt (KW.at k22 0 rl_294 rfl)
  have i27 : (fv P17 294 0).toInt = min (fv Po a1_ 1).toInt 7 := by omega
  have i28 : ∀ j : Nat, j < 8 → fv P17 297 j = fv Po (a1_ + 2) j := fun j hj => (R23.2.1 297 j (by omega)).trans (g7.2.1 j hj)
  have i29 : ∀ j : Nat, (j : Int) ≤ (fv P17 294 0).toInt → (fv P17 296 j).toInt = pP Po a1_ j := fun j hj => by rw [R23.2.1 296 j (by omega)]; exact g7.2.2 j (by omega)
  have i30 : -1 ≤ (0 : Int) ∧ (0 : Int) ≤ (fv P17 294 0).toInt := by omega
  have i31 : ∀ j : Nat, (j : Int) < (0 : Int) → 0 ≤ (fv P17 295 j).toInt ∧ (fv P17 295 j).toInt < (fv P17 294 0).toInt := fun j hj => by omega
  have i32 : (0 : Int) = (fv P17 294 0).toInt ∨ (0 : Int) = -1 ∨ (-1 ≤ (fv P17 295 (0 : Int).toNat).toInt ∧ (fv P17 295 (0 : Int).toNat).toInt < (fv P17 294 0).toInt) := by have q : (fv P17 295 0).toInt = -1 := R23.1.resolve_left (by omega)
    exact Or.inr (Or.inr (by show -1 ≤ (fv P17 295 0).toInt ∧ (fv P17 295 0).toInt < (fv P17 294 0).toInt; omega))
  have i33 : SST (nP Po a1_) (cP Po a1_) (psP Po a1_) (0 : Int) (0 : Int) (0 : Int) (oL P17) := SST.start PSc.prp (R23.1.resolve_left (by omega)) rfl rfl rfl
  have i34 : 0 ≤ (0 : Int) ∧ (0 : Int) ≤ (0 : Int) ∧ (0 : Int) < t2.toInt := by omega
  have i35 : 0 ≤ (0 : Int) := by omega
  exact c_CL_search_Layers_NPiece_l22 hT hX  hp0 hp1 hp2 ha1 _ _ _ _ P17 hT21 k24 i27 i28 i29 i30 i31 i32 i33 i34 i35 rfl

