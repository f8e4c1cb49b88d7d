/-! methods on typed pools, 7 (written by a program) -/
set_option maxHeartbeats 4000000 in
theorem c_CR_evenAngles_Reducer_l4 {Po : mP}  (hT : Typ Po)   : ∀ (n : Nat) (v1 : Int32) (v2 : Int32), (0 ≤ v2.toInt) → (2147483647 - v2.toInt).toNat = n → MEvP 1 none q_47 4 [(0, .ref 291), (1, .int v1), (2, .int v2)] [] Po 0 0 (fun r P' => (∃ x : Int32, r = some (.int x) ∧ (True)) ∧ P' = Po) := by
  intro n
  induction n using Nat.strongRecOn with | _ n ih => ?_
  intro v1 v2 i_0 hm
  have w_v1 := ti_full v1
  have w_v2 := ti_full v2
  refine mp_a (a_iload_n dX3_evenAngles_4 rfl) (mpp 5 rfl ?_)
  refine mp_a (a_aload_n dX3_evenAngles_5 rfl) (mpp 6 rfl ?_)
  have g1 : (0 : Int) ≤ (fv Po 291 1).toInt ∧ (fv Po 291 1).toInt ≤ 8 := Typ.rng hT rl_291 (by decide) (by decide) rfl
  refine mt_getI (i := 28) (k := 1) hT dX3_evenAngles_6 rfl rl_291 (by decide) rfl (by decide) rfl (fun g2 g3 => mpp 9 rfl ?_)
  refine mp_Tb (t := 29) (j_icmp_ge dX3_evenAngles_9) (by decide) (fun c4 => ?_) (fun c4 => mpp 12 rfl ?_)
  · have c4 : v2.toInt ≥ (fv Po 291 1).toInt := ti_ge c4
    refine mp_a (a_iload_n dX3_evenAngles_29 rfl) (mpp 30 rfl ?_)
    exact mp_iret ⟨⟨_, rfl, trivial⟩, rfl⟩ dX3_evenAngles_30 (Or.inl rfl)
  · have c4 : v2.toInt < (fv Po 291 1).toInt := ti_ge_n c4
    refine mp_a (a_iload_n dX3_evenAngles_12 rfl) (mpp 13 rfl ?_)
    refine mp_a (a_aload_n dX3_evenAngles_13 rfl) (mpp 14 rfl ?_)
    refine mt_getU (i := 9) (k := 2) (A := 292) hT dX3_evenAngles_14 rfl rl_291 (by decide) rfl (by decide) rfl un_11 (mpp 17 rfl ?_)
    refine mp_a (a_iload_n dX3_evenAngles_17 rfl) (mpp 18 rfl ?_)
    refine mp_calls (i := 39) (q' := q_12) (As := [.ref 292, .int v2]) (rest := [.int v1]) dX3_evenAngles_18 rfl qm_12 (by decide) rfl (Nat.le_of_ble_eq_true rfl) rfl ⟨rfl, rfl⟩ ⟨Nat.le_of_ble_eq_true rfl, Nat.le_of_ble_eq_true rfl⟩ (EvP.mono (by decide) (c_F_at_rsizes hT )) (fun r5 P6 g7 => mpp 21 rfl ?_)
    obtain ⟨⟨x8, rfl, g9⟩, e10⟩ := g7
    have e10 := e10.symm
    subst e10
    have wx8 := ti_full x8
    show MEvP _ none q_47 21 [(0, .ref 291), (1, .int v1), (2, .int v2)] [.int x8, .int v1] _ _ _ _
    obtain ⟨z11, h12⟩ := ti_ex (v1 + x8 : Int32)
    have wz11 := ti_full z11
    refine mp_t (s_iadd (v := z11) dX3_evenAngles_21 h12) (mpp 22 rfl ?_)
    try have e13 : z11.toInt = v1.toInt + x8.toInt := ti_addz h12 rfl rfl (by omega) (by omega)
    refine mp_a (a_istore_n (L' := [(1, .int z11), (0, .ref 291), (2, .int v2)]) dX3_evenAngles_22 (by decide) rfl) (mpp 23 rfl ?_)
    obtain ⟨z14, h15⟩ := ti_ex (v2 + 2 : Int32)
    have wz14 := ti_full z14
    refine mp_a (a_iinc (v := z14) (L' := [(2, .int z14), (1, .int z11), (0, .ref 291)]) dX3_evenAngles_23 (by decide) rfl h15 rfl) (mpp 26 rfl ?_)
    try have e16 : z14.toInt = v2.toInt + 2 := ti_addz h15 rfl rfl (by omega) (by omega)
    refine mp_a (a_goto (t := 4) dX3_evenAngles_26 (by decide)) ?_
    refine MEvP.less (L := [(0, .ref 291), (1, .int z11), (2, .int z14)]) rfl rfl ⟨rfl, rfl, rfl, trivial⟩ ?_
    have i17 : 0 ≤ z14.toInt := by omega
    exact ih _ (by omega) _ _ i17 rfl

set_option maxHeartbeats 4000000 in
theorem c_CR_evenAngles_Reducer {Po : mP}  (hT : Typ Po)   : EvP 2 47 [.ref 291] Po (fun r P' => (∃ x : Int32, r = some (.int x) ∧ (True)) ∧ P' = Po) := by
  refine EvP.of qm_47 (Nat.le_of_ble_eq_true rfl) rfl ?_
  show MEvP _ none q_47 0 [(0, .ref 291)] [] _ 0 0 _
  refine mp_a (a_iconst (v := 0) dX3_evenAngles_0 rfl) (mpp 1 rfl ?_)
  refine mp_a (a_istore_n (L' := [(1, .int 0), (0, .ref 291)]) dX3_evenAngles_1 (by decide) rfl) (mpp 2 rfl ?_)
  refine mp_a (a_iconst (v := 0) dX3_evenAngles_2 rfl) (mpp 3 rfl ?_)
  refine mp_a (a_istore_n (L' := [(2, .int 0), (1, .int 0), (0, .ref 291)]) dX3_evenAngles_3 (by decide) rfl) (mpp 4 rfl ?_)
  refine MEvP.less (L := [(0, .ref 291), (1, .int 0), (2, .int 0)]) rfl rfl ⟨rfl, rfl, rfl, trivial⟩ ?_
  have i1 : 0 ≤ (0 : Int) := by omega
  exact c_CR_evenAngles_Reducer_l4 hT  _ _ _ i1 rfl

set_option maxHeartbeats 4000000 in
theorem c_CR_hasSmallAngleOfOneKind_Reducer_l2 {Po : mP}  (hT : Typ Po)   : ∀ (n : Nat) (v1 : Int32), (0 ≤ v1.toInt) → (2147483647 - v1.toInt).toNat = n → MEvP 1 none q_48 2 [(0, .ref 291), (1, .int v1)] [] Po 0 0 (fun r P' => (∃ x : Int32, r = some (.int x) ∧ (0 ≤ x.toInt ∧ x.toInt ≤ 1)) ∧ P' = Po) := by
  intro n
  induction n using Nat.strongRecOn with | _ n ih => ?_
  intro v1 i_0 hm
  have w_v1 := ti_full v1
  refine mp_a (a_iload_n dX3_hasSmallAngleOfOneKind_2 rfl) (mpp 3 rfl ?_)
  refine mp_a (a_aload_n dX3_hasSmallAngleOfOneKind_3 rfl) (mpp 4 rfl ?_)
  have g1 : (0 : Int) ≤ (fv Po 291 1).toInt ∧ (fv Po 291 1).toInt ≤ 8 := Typ.rng hT rl_291 (by decide) (by decide) rfl
  refine mt_getI (i := 28) (k := 1) hT dX3_hasSmallAngleOfOneKind_4 rfl rl_291 (by decide) rfl (by decide) rfl (fun g2 g3 => mpp 7 rfl ?_)
  refine mp_Tb (t := 92) (j_icmp_ge dX3_hasSmallAngleOfOneKind_7) (by decide) (fun c4 => ?_) (fun c4 => mpp 10 rfl ?_)
  · have c4 : v1.toInt ≥ (fv Po 291 1).toInt := ti_ge c4
    refine mp_a (a_iconst (v := 0) dX3_hasSmallAngleOfOneKind_92 rfl) (mpp 93 rfl ?_)
    have u5 : 0 ≤ (0 : Int) ∧ (0 : Int) ≤ 1 := by omega
    exact mp_iret ⟨⟨_, rfl, u5⟩, rfl⟩ dX3_hasSmallAngleOfOneKind_93 (Or.inr ⟨rfl, by decide⟩)
  · have c4 : v1.toInt < (fv Po 291 1).toInt := ti_ge_n c4
    refine mp_a (a_aload_n dX3_hasSmallAngleOfOneKind_10 rfl) (mpp 11 rfl ?_)
    refine mt_getU (i := 9) (k := 2) (A := 292) hT dX3_hasSmallAngleOfOneKind_11 rfl rl_291 (by decide) rfl (by decide) rfl un_11 (mpp 14 rfl ?_)
    refine mp_a (a_iload_n dX3_hasSmallAngleOfOneKind_14 rfl) (mpp 15 rfl ?_)
    refine mp_calls (i := 39) (q' := q_12) (As := [.ref 292, .int v1]) (rest := []) dX3_hasSmallAngleOfOneKind_15 rfl qm_12 (by decide) rfl (Nat.le_of_ble_eq_true rfl) rfl ⟨rfl, rfl⟩ ⟨Nat.le_of_ble_eq_true rfl, Nat.le_of_ble_eq_true rfl⟩ (EvP.mono (by decide) (c_F_at_rsizes hT )) (fun r6 P7 g8 => mpp 18 rfl ?_)
    obtain ⟨⟨x9, rfl, g10⟩, e11⟩ := g8
    have e11 := e11.symm
    subst e11
    have wx9 := ti_full x9
    show MEvP _ none q_48 18 [(0, .ref 291), (1, .int v1)] [.int x9] _ _ _ _
    refine mp_a (a_istore_n (L' := [(2, .int x9), (0, .ref 291), (1, .int v1)]) dX3_hasSmallAngleOfOneKind_18 (by decide) rfl) (mpp 19 rfl ?_)
    refine mp_a (a_iload_n dX3_hasSmallAngleOfOneKind_19 rfl) (mpp 20 rfl ?_)
    refine mp_a (a_aload_n dX3_hasSmallAngleOfOneKind_20 rfl) (mpp 21 rfl ?_)
    refine mt_getU (i := 9) (k := 2) (A := 292) hT dX3_hasSmallAngleOfOneKind_21 rfl rl_291 (by decide) rfl (by decide) rfl un_11 (mpp 24 rfl ?_)
    refine mp_a (a_aload_n dX3_hasSmallAngleOfOneKind_24 rfl) (mpp 25 rfl ?_)
    refine mp_a (a_iload_n dX3_hasSmallAngleOfOneKind_25 rfl) (mpp 26 rfl ?_)
    refine mt_callv (i := 80) (q' := q_49) (As := [.int v1]) (rest := [.ref 292, .int x9]) hT dX3_hasSmallAngleOfOneKind_26 rfl qm_49 (by decide) rfl rl_291 (by decide) rfl (Nat.le_of_ble_eq_true rfl) rfl ⟨rfl, rfl⟩ ⟨Nat.le_of_ble_eq_true rfl, Nat.le_of_ble_eq_true rfl⟩ (EvP.mono (by decide) (c_CR_before_Reducer hT )) (fun r12 P13 g14 => mpp 29 rfl ?_)
    obtain ⟨⟨x15, rfl, g16⟩, e17⟩ := g14
    have e17 := e17.symm
    subst e17
    have wx15 := ti_full x15
    show MEvP _ none q_48 29 [(2, .int x9), (0, .ref 291), (1, .int v1)] [.int x15, .ref 292, .int x9] _ _ _ _
    refine mp_calls (i := 39) (q' := q_12) (As := [.ref 292, .int x15]) (rest := [.int x9]) dX3_hasSmallAngleOfOneKind_29 rfl qm_12 (by decide) rfl (Nat.le_of_ble_eq_true rfl) rfl ⟨rfl, rfl⟩ ⟨Nat.le_of_ble_eq_true rfl, Nat.le_of_ble_eq_true rfl⟩ (EvP.mono (by decide) (c_F_at_rsizes hT )) (fun r18 P19 g20 => mpp 32 rfl ?_)
    obtain ⟨⟨x21, rfl, g22⟩, e23⟩ := g20
    have e23 := e23.symm
    subst e23
    have wx21 := ti_full x21
    show MEvP _ none q_48 32 [(2, .int x9), (0, .ref 291), (1, .int v1)] [.int x21, .int x9] _ _ _ _
    refine mp_Tb (t := 55) (j_icmp_ge dX3_hasSmallAngleOfOneKind_32) (by decide) (fun c24 => ?_) (fun c24 => mpp 35 rfl ?_)
    · have c24 : x9.toInt ≥ x21.toInt := ti_ge c24
      refine mp_a (a_iconst (v := 0) dX3_hasSmallAngleOfOneKind_55 rfl) (mpp 56 rfl ?_)
      refine mp_a (a_istore_n (L' := [(3, .int 0), (2, .int x9), (0, .ref 291), (1, .int v1)]) dX3_hasSmallAngleOfOneKind_56 (by decide) rfl) (mpp 57 rfl ?_)
      refine mp_a (a_iload_n dX3_hasSmallAngleOfOneKind_57 rfl) (mpp 58 rfl ?_)
      refine mp_Tt (t := 86) (j_if_eq dX3_hasSmallAngleOfOneKind_58) (by decide) (by decide) ?_
      obtain ⟨z25, h26⟩ := ti_ex (v1 + 1 : Int32)
      have wz25 := ti_full z25
      refine mp_a (a_iinc (v := z25) (L' := [(1, .int z25), (3, .int 0), (2, .int x9), (0, .ref 291)]) dX3_hasSmallAngleOfOneKind_86 (by decide) rfl h26 rfl) (mpp 89 rfl ?_)
      try have e27 : z25.toInt = v1.toInt + 1 := ti_addz h26 rfl rfl (by omega) (by omega)
      refine mp_a (a_goto (t := 2) dX3_hasSmallAngleOfOneKind_89 (by decide)) ?_
      refine MEvP.less (L := [(0, .ref 291), (1, .int z25)]) rfl rfl ⟨rfl, rfl, trivial⟩ ?_
      have i28 : 0 ≤ z25.toInt := by omega
      exact ih _ (by omega) _ i28 rfl
    · have c24 : x9.toInt < x21.toInt := ti_ge_n c24
      refine mp_a (a_iload_n dX3_hasSmallAngleOfOneKind_35 rfl) (mpp 36 rfl ?_)
      refine mp_a (a_aload_n dX3_hasSmallAngleOfOneKind_36 rfl) (mpp 37 rfl ?_)
      refine mt_getU (i := 9) (k := 2) (A := 292) hT dX3_hasSmallAngleOfOneKind_37 rfl rl_291 (by decide) rfl (by decide) rfl un_11 (mpp 40 rfl ?_)
      refine mp_a (a_aload_n dX3_hasSmallAngleOfOneKind_40 rfl) (mpp 41 rfl ?_)
      refine mp_a (a_iload_n dX3_hasSmallAngleOfOneKind_41 rfl) (mpp 42 rfl ?_)
      refine mt_callv (i := 83) (q' := q_50) (As := [.int v1]) (rest := [.ref 292, .int x9]) hT dX3_hasSmallAngleOfOneKind_42 rfl qm_50 (by decide) rfl rl_291 (by decide) rfl (Nat.le_of_ble_eq_true rfl) rfl ⟨rfl, rfl⟩ ⟨Nat.le_of_ble_eq_true rfl, Nat.le_of_ble_eq_true rfl⟩ (EvP.mono (by decide) (c_CR_after_Reducer hT )) (fun r29 P30 g31 => mpp 45 rfl ?_)
      obtain ⟨⟨x32, rfl, g33⟩, e34⟩ := g31
      have e34 := e34.symm
      subst e34
      have wx32 := ti_full x32
      show MEvP _ none q_48 45 [(2, .int x9), (0, .ref 291), (1, .int v1)] [.int x32, .ref 292, .int x9] _ _ _ _
      refine mp_calls (i := 39) (q' := q_12) (As := [.ref 292, .int x32]) (rest := [.int x9]) dX3_hasSmallAngleOfOneKind_45 rfl qm_12 (by decide) rfl (Nat.le_of_ble_eq_true rfl) rfl ⟨rfl, rfl⟩ ⟨Nat.le_of_ble_eq_true rfl, Nat.le_of_ble_eq_true rfl⟩ (EvP.mono (by decide) (c_F_at_rsizes hT )) (fun r35 P36 g37 => mpp 48 rfl ?_)
      obtain ⟨⟨x38, rfl, g39⟩, e40⟩ := g37
      have e40 := e40.symm
      subst e40
      have wx38 := ti_full x38
      show MEvP _ none q_48 48 [(2, .int x9), (0, .ref 291), (1, .int v1)] [.int x38, .int x9] _ _ _ _
      refine mp_Tb (t := 55) (j_icmp_ge dX3_hasSmallAngleOfOneKind_48) (by decide) (fun c41 => ?_) (fun c41 => mpp 51 rfl ?_)
      · have c41 : x9.toInt ≥ x38.toInt := ti_ge c41
        refine mp_a (a_iconst (v := 0) dX3_hasSmallAngleOfOneKind_55 rfl) (mpp 56 rfl ?_)
        refine mp_a (a_istore_n (L' := [(3, .int 0), (2, .int x9), (0, .ref 291), (1, .int v1)]) dX3_hasSmallAngleOfOneKind_56 (by decide) rfl) (mpp 57 rfl ?_)
        refine mp_a (a_iload_n dX3_hasSmallAngleOfOneKind_57 rfl) (mpp 58 rfl ?_)
        refine mp_Tt (t := 86) (j_if_eq dX3_hasSmallAngleOfOneKind_58) (by decide) (by decide) ?_
        obtain ⟨z42, h43⟩ := ti_ex (v1 + 1 : Int32)
        have wz42 := ti_full z42
        refine mp_a (a_iinc (v := z42) (L' := [(1, .int z42), (3, .int 0), (2, .int x9), (0, .ref 291)]) dX3_hasSmallAngleOfOneKind_86 (by decide) rfl h43 rfl) (mpp 89 rfl ?_)
        try have e44 : z42.toInt = v1.toInt + 1 := ti_addz h43 rfl rfl (by omega) (by omega)
        refine mp_a (a_goto (t := 2) dX3_hasSmallAngleOfOneKind_89 (by decide)) ?_
        refine MEvP.less (L := [(0, .ref 291), (1, .int z42)]) rfl rfl ⟨rfl, rfl, trivial⟩ ?_
        have i45 : 0 ≤ z42.toInt := by omega
        exact ih _ (by omega) _ i45 rfl
      · have c41 : x9.toInt < x38.toInt := ti_ge_n c41
        refine mp_a (a_iconst (v := 1) dX3_hasSmallAngleOfOneKind_51 rfl) (mpp 52 rfl ?_)
        refine mp_a (a_goto (t := 56) dX3_hasSmallAngleOfOneKind_52 (by decide)) ?_
        refine mp_a (a_istore_n (L' := [(3, .int 1), (2, .int x9), (0, .ref 291), (1, .int v1)]) dX3_hasSmallAngleOfOneKind_56 (by decide) rfl) (mpp 57 rfl ?_)
        refine mp_a (a_iload_n dX3_hasSmallAngleOfOneKind_57 rfl) (mpp 58 rfl ?_)
        refine mp_Tf (t := 86) (j_if_eq dX3_hasSmallAngleOfOneKind_58) (by decide) (by decide) (mpp 61 rfl ?_)
        refine mp_a (a_aload_n dX3_hasSmallAngleOfOneKind_61 rfl) (mpp 62 rfl ?_)
        refine mt_getU (i := 15) (k := 3) (A := 293) hT dX3_hasSmallAngleOfOneKind_62 rfl rl_291 (by decide) rfl (by decide) rfl un_12 (mpp 65 rfl ?_)
        refine mp_a (a_iload_n dX3_hasSmallAngleOfOneKind_65 rfl) (mpp 66 rfl ?_)
        refine mp_calls (i := 39) (q' := q_12) (As := [.ref 293, .int v1]) (rest := []) dX3_hasSmallAngleOfOneKind_66 rfl qm_12 (by decide) rfl (Nat.le_of_ble_eq_true rfl) rfl ⟨rfl, rfl⟩ ⟨Nat.le_of_ble_eq_true rfl, Nat.le_of_ble_eq_true rfl⟩ (EvP.mono (by decide) (c_F_at_rcreases hT )) (fun r46 P47 g48 => mpp 69 rfl ?_)
        obtain ⟨⟨x49, rfl, g50⟩, e51⟩ := g48
        have e51 := e51.symm
        subst e51
        have wx49 := ti_full x49
        show MEvP _ none q_48 69 [(3, .int 1), (2, .int x9), (0, .ref 291), (1, .int v1)] [.int x49] _ _ _ _
        refine mp_a (a_aload_n dX3_hasSmallAngleOfOneKind_69 rfl) (mpp 70 rfl ?_)
        refine mt_getU (i := 15) (k := 3) (A := 293) hT dX3_hasSmallAngleOfOneKind_70 rfl rl_291 (by decide) rfl (by decide) rfl un_12 (mpp 73 rfl ?_)
        refine mp_a (a_aload_n dX3_hasSmallAngleOfOneKind_73 rfl) (mpp 74 rfl ?_)
        refine mp_a (a_iload_n dX3_hasSmallAngleOfOneKind_74 rfl) (mpp 75 rfl ?_)
        refine mt_callv (i := 83) (q' := q_50) (As := [.int v1]) (rest := [.ref 293, .int x49]) hT dX3_hasSmallAngleOfOneKind_75 rfl qm_50 (by decide) rfl rl_291 (by decide) rfl (Nat.le_of_ble_eq_true rfl) rfl ⟨rfl, rfl⟩ ⟨Nat.le_of_ble_eq_true rfl, Nat.le_of_ble_eq_true rfl⟩ (EvP.mono (by decide) (c_CR_after_Reducer hT )) (fun r52 P53 g54 => mpp 78 rfl ?_)
        obtain ⟨⟨x55, rfl, g56⟩, e57⟩ := g54
        have e57 := e57.symm
        subst e57
        have wx55 := ti_full x55
        show MEvP _ none q_48 78 [(3, .int 1), (2, .int x9), (0, .ref 291), (1, .int v1)] [.int x55, .ref 293, .int x49] _ _ _ _
        refine mp_calls (i := 39) (q' := q_12) (As := [.ref 293, .int x55]) (rest := [.int x49]) dX3_hasSmallAngleOfOneKind_78 rfl qm_12 (by decide) rfl (Nat.le_of_ble_eq_true rfl) rfl ⟨rfl, rfl⟩ ⟨Nat.le_of_ble_eq_true rfl, Nat.le_of_ble_eq_true rfl⟩ (EvP.mono (by decide) (c_F_at_rcreases hT )) (fun r58 P59 g60 => mpp 81 rfl ?_)
        obtain ⟨⟨x61, rfl, g62⟩, e63⟩ := g60
        have e63 := e63.symm
        subst e63
        have wx61 := ti_full x61
        show MEvP _ none q_48 81 [(3, .int 1), (2, .int x9), (0, .ref 291), (1, .int v1)] [.int x61, .int x49] _ _ _ _
        refine mp_Tb (t := 86) (j_icmp_ne dX3_hasSmallAngleOfOneKind_81) (by decide) (fun c64 => ?_) (fun c64 => mpp 84 rfl ?_)
        · have c64 : x49.toInt ≠ x61.toInt := ti_ne c64
          obtain ⟨z65, h66⟩ := ti_ex (v1 + 1 : Int32)
          have wz65 := ti_full z65
          refine mp_a (a_iinc (v := z65) (L' := [(1, .int z65), (3, .int 1), (2, .int x9), (0, .ref 291)]) dX3_hasSmallAngleOfOneKind_86 (by decide) rfl h66 rfl) (mpp 89 rfl ?_)
          try have e67 : z65.toInt = v1.toInt + 1 := ti_addz h66 rfl rfl (by omega) (by omega)
          refine mp_a (a_goto (t := 2) dX3_hasSmallAngleOfOneKind_89 (by decide)) ?_
          refine MEvP.less (L := [(0, .ref 291), (1, .int z65)]) rfl rfl ⟨rfl, rfl, trivial⟩ ?_
          have i68 : 0 ≤ z65.toInt := by omega
          exact ih _ (by omega) _ i68 rfl
        · have c64 : x49.toInt = x61.toInt := ti_ne_n c64
          refine mp_a (a_iconst (v := 1) dX3_hasSmallAngleOfOneKind_84 rfl) (mpp 85 rfl ?_)
          have u69 : 0 ≤ (1 : Int) ∧ (1 : Int) ≤ 1 := by omega
          exact mp_iret ⟨⟨_, rfl, u69⟩, rfl⟩ dX3_hasSmallAngleOfOneKind_85 (Or.inr ⟨rfl, by decide⟩)

set_option maxHeartbeats 4000000 in
theorem c_CR_hasSmallAngleOfOneKind_Reducer {Po : mP}  (hT : Typ Po)   : EvP 2 48 [.ref 291] Po (fun r P' => (∃ x : Int32, r = some (.int x) ∧ (0 ≤ x.toInt ∧ x.toInt ≤ 1)) ∧ P' = Po) := by
  refine EvP.of qm_48 (Nat.le_of_ble_eq_true rfl) rfl ?_
  show MEvP _ none q_48 0 [(0, .ref 291)] [] _ 0 0 _
  refine mp_a (a_iconst (v := 0) dX3_hasSmallAngleOfOneKind_0 rfl) (mpp 1 rfl ?_)
  refine mp_a (a_istore_n (L' := [(1, .int 0), (0, .ref 291)]) dX3_hasSmallAngleOfOneKind_1 (by decide) rfl) (mpp 2 rfl ?_)
  refine MEvP.less (L := [(0, .ref 291), (1, .int 0)]) rfl rfl ⟨rfl, rfl, trivial⟩ ?_
  have i1 : 0 ≤ (0 : Int) := by omega
  exact c_CR_hasSmallAngleOfOneKind_Reducer_l2 hT  _ _ i1 rfl

set_option maxHeartbeats 4000000 in
theorem c_CR_whatStandsInTheWay_Reducer_NPiece {Po : mP} {a1_ : Nat} (hT : Typ Po)  (ha1 : rl a1_ = 33) : EvP 4 44 [.ref 291, .ref a1_] Po (fun r P' => (∃ x : Int32, r = some (.int x) ∧ (True)) ∧ Typ P' ∧ KW [640, 641, 704, 768] Po P' ∧ True) := by
  refine EvP.of qm_44 (Nat.le_of_ble_eq_true rfl) rfl ?_
  show MEvP _ none q_44 0 [(0, .ref 291), (1, .ref a1_)] [] _ 0 0 _
  refine mp_a (a_aload_n dX3_whatStandsInTheWay_0 rfl) (mpp 1 rfl ?_)
  refine mt_callv (i := 51) (q' := q_42) (As := []) (rest := []) hT dX3_whatStandsInTheWay_1 rfl qm_42 (by decide) rfl ha1 (by decide) rfl (Nat.le_of_ble_eq_true rfl) rfl ⟨rfl, rfl⟩ ⟨Nat.le_of_ble_eq_true rfl, Nat.le_of_ble_eq_true rfl⟩ (EvP.mono (by decide) (c_CP_isUndecided_NPiece hT ha1)) (fun r1 P2 g3 => mpp 4 rfl ?_)
  obtain ⟨⟨x4, rfl, g5⟩, e6⟩ := g3
  have e6 := e6.symm
  subst e6
  have wx4 := ti_full x4
  have g5 : 0 ≤ x4.toInt ∧ x4.toInt ≤ 1 := g5
  show MEvP _ none q_44 4 [(0, .ref 291), (1, .ref a1_)] [.int x4] _ _ _ _
  refine mp_Tb (t := 9) (j_if_eq dX3_whatStandsInTheWay_4) (by decide) (fun c7 => ?_) (fun c7 => mpp 7 rfl ?_)
  · have c7 : x4.toInt = 0 := ti_eq c7
    refine mp_a (a_aload_n dX3_whatStandsInTheWay_9 rfl) (mpp 10 rfl ?_)
    refine mp_a (a_aload_n dX3_whatStandsInTheWay_10 rfl) (mpp 11 rfl ?_)
    refine mt_callv (i := 55) (q' := q_45) (As := [.ref a1_]) (rest := []) hT dX3_whatStandsInTheWay_11 rfl qm_45 (by decide) rfl rl_291 (by decide) rfl (Nat.le_of_ble_eq_true rfl) rfl ⟨rfl, rfl⟩ ⟨Nat.le_of_ble_eq_true rfl, Nat.le_of_ble_eq_true rfl⟩ (EvP.mono (by decide) (c_CR_load_Reducer_NPiece hT ha1)) (fun r8 P9 g10 => mpp 14 rfl ?_)
    obtain ⟨⟨rfl, g12⟩, hT13, k14, R15⟩ := g10
    have k16 : KW [640, 641, 704, 768] Po P9 := KW.trans KW.refl k14 rfl
    show MEvP _ none q_44 14 [(0, .ref 291), (1, .ref a1_)] [] _ _ _ _
    refine mp_a (a_aload_n dX3_whatStandsInTheWay_14 rfl) (mpp 15 rfl ?_)
    have g17 := ti_full (fv P9 291 0)
    refine mt_getI (i := 24) (k := 0) hT13 dX3_whatStandsInTheWay_15 rfl rl_291 (by decide) rfl (by decide) rfl (fun g18 g19 => mpp 18 rfl ?_)
    refine mp_a (a_iconst (v := 1) dX3_whatStandsInTheWay_18 rfl) (mpp 19 rfl ?_)
    refine mp_Tb (t := 62) (j_icmp_ne dX3_whatStandsInTheWay_19) (by decide) (fun c20 => ?_) (fun c20 => mpp 22 rfl ?_)
    · have c20 : (fv P9 291 0).toInt ≠ 1 := ti_ne c20
      refine mp_a (a_aload_n dX3_whatStandsInTheWay_62 rfl) (mpp 63 rfl ?_)
      refine mt_callv (i := 74) (q' := q_51) (As := []) (rest := []) hT13 dX3_whatStandsInTheWay_63 rfl qm_51 (by decide) rfl rl_291 (by decide) rfl (Nat.le_of_ble_eq_true rfl) rfl ⟨rfl, rfl⟩ ⟨Nat.le_of_ble_eq_true rfl, Nat.le_of_ble_eq_true rfl⟩ (EvP.mono (by decide) (c_CR_reduce_Reducer hT13 )) (fun r21 P22 g23 => mpp 66 rfl ?_)
      obtain ⟨⟨x24, rfl, g25⟩, hT26, k27, R28⟩ := g23
      have k29 : KW [640, 641, 704, 768] Po P22 := KW.trans k16 k27 rfl
      have wx24 := ti_full x24
      show MEvP _ none q_44 66 [(0, .ref 291), (1, .ref a1_)] [.int x24] _ _ _ _
      refine mp_t (s_pop dX3_whatStandsInTheWay_66 rfl) (mpp 67 rfl ?_)
      refine mp_a (a_aload_n dX3_whatStandsInTheWay_67 rfl) (mpp 68 rfl ?_)
      refine mt_callv (i := 77) (q' := q_55) (As := []) (rest := []) hT26 dX3_whatStandsInTheWay_68 rfl qm_55 (by decide) rfl rl_291 (by decide) rfl (Nat.le_of_ble_eq_true rfl) rfl ⟨rfl, rfl⟩ ⟨Nat.le_of_ble_eq_true rfl, Nat.le_of_ble_eq_true rfl⟩ (EvP.mono (by decide) (c_CR_isReduced_Reducer hT26 )) (fun r30 P31 g32 => mpp 71 rfl ?_)
      obtain ⟨⟨x33, rfl, g34⟩, e35⟩ := g32
      have e35 := e35.symm
      subst e35
      have wx33 := ti_full x33
      have g34 : 0 ≤ x33.toInt ∧ x33.toInt ≤ 1 := g34
      show MEvP _ none q_44 71 [(0, .ref 291), (1, .ref a1_)] [.int x33] _ _ _ _
      refine mp_Tb (t := 78) (j_if_eq dX3_whatStandsInTheWay_71) (by decide) (fun c36 => ?_) (fun c36 => mpp 74 rfl ?_)
      · have c36 : x33.toInt = 0 := ti_eq c36
        refine mp_a (a_iconst (v := 5) dX3_whatStandsInTheWay_78 rfl) (mpp 79 rfl ?_)
        exact mp_iret ⟨⟨_, rfl, trivial⟩, hT26, k29, trivial⟩ dX3_whatStandsInTheWay_79 (Or.inl rfl)
      · have c36 : x33.toInt ≠ 0 := ti_eq_n c36
        refine mp_a (a_iconst (v := 0) dX3_whatStandsInTheWay_74 rfl) (mpp 75 rfl ?_)
        refine mp_a (a_goto (t := 79) dX3_whatStandsInTheWay_75 (by decide)) ?_
        exact mp_iret ⟨⟨_, rfl, trivial⟩, hT26, k29, trivial⟩ dX3_whatStandsInTheWay_79 (Or.inl rfl)
    · have c20 : (fv P9 291 0).toInt = 1 := ti_ne_n c20
      refine mp_a (a_aload_n dX3_whatStandsInTheWay_22 rfl) (mpp 23 rfl ?_)
      refine mt_callv (i := 59) (q' := q_47) (As := []) (rest := []) hT13 dX3_whatStandsInTheWay_23 rfl qm_47 (by decide) rfl rl_291 (by decide) rfl (Nat.le_of_ble_eq_true rfl) rfl ⟨rfl, rfl⟩ ⟨Nat.le_of_ble_eq_true rfl, Nat.le_of_ble_eq_true rfl⟩ (EvP.mono (by decide) (c_CR_evenAngles_Reducer hT13 )) (fun r37 P38 g39 => mpp 26 rfl ?_)
      obtain ⟨⟨x40, rfl, g41⟩, e42⟩ := g39
      have e42 := e42.symm
      subst e42
      have wx40 := ti_full x40
      show MEvP _ none q_44 26 [(0, .ref 291), (1, .ref a1_)] [.int x40] _ _ _ _
      refine mp_a (a_bipush (v := 12) dX3_whatStandsInTheWay_26 rfl) (mpp 28 rfl ?_)
      refine mp_Tb (t := 33) (j_icmp_eq dX3_whatStandsInTheWay_28) (by decide) (fun c43 => ?_) (fun c43 => mpp 31 rfl ?_)
      · have c43 : x40.toInt = 12 := ti_eq c43
        refine mp_a (a_aload_n dX3_whatStandsInTheWay_33 rfl) (mpp 34 rfl ?_)
        refine mp_a (a_iconst (v := 1) dX3_whatStandsInTheWay_34 rfl) (mpp 35 rfl ?_)
        refine mt_callv (i := 62) (q' := q_32) (As := [.int 1]) (rest := []) hT13 dX3_whatStandsInTheWay_35 rfl qm_32 (by decide) rfl ha1 (by decide) rfl (Nat.le_of_ble_eq_true rfl) rfl ⟨rfl, rfl⟩ ⟨Nat.le_of_ble_eq_true rfl, Nat.le_of_ble_eq_true rfl⟩ (EvP.mono (by decide) (c_CP_countOf_NPiece hT13 ha1)) (fun r44 P45 g46 => mpp 38 rfl ?_)
        obtain ⟨⟨x47, rfl, g48⟩, e49⟩ := g46
        have e49 := e49.symm
        subst e49
        have wx47 := ti_full x47
        have g48 : 0 ≤ x47.toInt ∧ x47.toInt ≤ 8 := g48
        show MEvP _ none q_44 38 [(0, .ref 291), (1, .ref a1_)] [.int x47] _ _ _ _
        refine mp_a (a_aload_n dX3_whatStandsInTheWay_38 rfl) (mpp 39 rfl ?_)
        refine mp_a (a_iconst (v := 2) dX3_whatStandsInTheWay_39 rfl) (mpp 40 rfl ?_)
        refine mt_callv (i := 62) (q' := q_32) (As := [.int 2]) (rest := [.int x47]) hT13 dX3_whatStandsInTheWay_40 rfl qm_32 (by decide) rfl ha1 (by decide) rfl (Nat.le_of_ble_eq_true rfl) rfl ⟨rfl, rfl⟩ ⟨Nat.le_of_ble_eq_true rfl, Nat.le_of_ble_eq_true rfl⟩ (EvP.mono (by decide) (c_CP_countOf_NPiece hT13 ha1)) (fun r50 P51 g52 => mpp 43 rfl ?_)
        obtain ⟨⟨x53, rfl, g54⟩, e55⟩ := g52
        have e55 := e55.symm
        subst e55
        have wx53 := ti_full x53
        have g54 : 0 ≤ x53.toInt ∧ x53.toInt ≤ 8 := g54
        show MEvP _ none q_44 43 [(0, .ref 291), (1, .ref a1_)] [.int x53, .int x47] _ _ _ _
        obtain ⟨z56, h57⟩ := ti_ex (x47 - x53 : Int32)
        have wz56 := ti_full z56
        refine mp_t (s_isub (v := z56) dX3_whatStandsInTheWay_43 h57) (mpp 44 rfl ?_)
        try have e58 : z56.toInt = x47.toInt - x53.toInt := ti_subz h57 rfl rfl (by omega) (by omega)
        obtain ⟨z59, h60⟩ := ti_ex (if 0 ≤ z56 then z56 else 0 - z56 : Int32)
        have wz59 := ti_full z59
        refine mp_abs (i := 66) (k := 0) (v := z59) dX3_whatStandsInTheWay_44 rfl (Nat.le_of_ble_eq_true rfl) h60 ⟨Nat.le_of_ble_eq_true rfl, Nat.le_of_ble_eq_true rfl⟩ (mpp 47 rfl ?_)
        refine mp_a (a_iconst (v := 2) dX3_whatStandsInTheWay_47 rfl) (mpp 48 rfl ?_)
        refine mp_Tb (t := 53) (j_icmp_eq dX3_whatStandsInTheWay_48) (by decide) (fun c61 => ?_) (fun c61 => mpp 51 rfl ?_)
        · have c61 : z59.toInt = 2 := ti_eq c61
          refine mp_a (a_aload_n dX3_whatStandsInTheWay_53 rfl) (mpp 54 rfl ?_)
          refine mt_callv (i := 71) (q' := q_48) (As := []) (rest := []) hT13 dX3_whatStandsInTheWay_54 rfl qm_48 (by decide) rfl rl_291 (by decide) rfl (Nat.le_of_ble_eq_true rfl) rfl ⟨rfl, rfl⟩ ⟨Nat.le_of_ble_eq_true rfl, Nat.le_of_ble_eq_true rfl⟩ (EvP.mono (by decide) (c_CR_hasSmallAngleOfOneKind_Reducer hT13 )) (fun r62 P63 g64 => mpp 57 rfl ?_)
          obtain ⟨⟨x65, rfl, g66⟩, e67⟩ := g64
          have e67 := e67.symm
          subst e67
          have wx65 := ti_full x65
          have g66 : 0 ≤ x65.toInt ∧ x65.toInt ≤ 1 := g66
          show MEvP _ none q_44 57 [(0, .ref 291), (1, .ref a1_)] [.int x65] _ _ _ _
          refine mp_Tb (t := 62) (j_if_eq dX3_whatStandsInTheWay_57) (by decide) (fun c68 => ?_) (fun c68 => mpp 60 rfl ?_)
          · have c68 : x65.toInt = 0 := ti_eq c68
            refine mp_a (a_aload_n dX3_whatStandsInTheWay_62 rfl) (mpp 63 rfl ?_)
            refine mt_callv (i := 74) (q' := q_51) (As := []) (rest := []) hT13 dX3_whatStandsInTheWay_63 rfl qm_51 (by decide) rfl rl_291 (by decide) rfl (Nat.le_of_ble_eq_true rfl) rfl ⟨rfl, rfl⟩ ⟨Nat.le_of_ble_eq_true rfl, Nat.le_of_ble_eq_true rfl⟩ (EvP.mono (by decide) (c_CR_reduce_Reducer hT13 )) (fun r69 P70 g71 => mpp 66 rfl ?_)
            obtain ⟨⟨x72, rfl, g73⟩, hT74, k75, R76⟩ := g71
            have k77 : KW [640, 641, 704, 768] Po P70 := KW.trans k16 k75 rfl
            have wx72 := ti_full x72
            show MEvP _ none q_44 66 [(0, .ref 291), (1, .ref a1_)] [.int x72] _ _ _ _
            refine mp_t (s_pop dX3_whatStandsInTheWay_66 rfl) (mpp 67 rfl ?_)
            refine mp_a (a_aload_n dX3_whatStandsInTheWay_67 rfl) (mpp 68 rfl ?_)
            refine mt_callv (i := 77) (q' := q_55) (As := []) (rest := []) hT74 dX3_whatStandsInTheWay_68 rfl qm_55 (by decide) rfl rl_291 (by decide) rfl (Nat.le_of_ble_eq_true rfl) rfl ⟨rfl, rfl⟩ ⟨Nat.le_of_ble_eq_true rfl, Nat.le_of_ble_eq_true rfl⟩ (EvP.mono (by decide) (c_CR_isReduced_Reducer hT74 )) (fun r78 P79 g80 => mpp 71 rfl ?_)
            obtain ⟨⟨x81, rfl, g82⟩, e83⟩ := g80
            have e83 := e83.symm
            subst e83
            have wx81 := ti_full x81
            have g82 : 0 ≤ x81.toInt ∧ x81.toInt ≤ 1 := g82
            show MEvP _ none q_44 71 [(0, .ref 291), (1, .ref a1_)] [.int x81] _ _ _ _
            refine mp_Tb (t := 78) (j_if_eq dX3_whatStandsInTheWay_71) (by decide) (fun c84 => ?_) (fun c84 => mpp 74 rfl ?_)
            · have c84 : x81.toInt = 0 := ti_eq c84
              refine mp_a (a_iconst (v := 5) dX3_whatStandsInTheWay_78 rfl) (mpp 79 rfl ?_)
              exact mp_iret ⟨⟨_, rfl, trivial⟩, hT74, k77, trivial⟩ dX3_whatStandsInTheWay_79 (Or.inl rfl)
            · have c84 : x81.toInt ≠ 0 := ti_eq_n c84
              refine mp_a (a_iconst (v := 0) dX3_whatStandsInTheWay_74 rfl) (mpp 75 rfl ?_)
              refine mp_a (a_goto (t := 79) dX3_whatStandsInTheWay_75 (by decide)) ?_
              exact mp_iret ⟨⟨_, rfl, trivial⟩, hT74, k77, trivial⟩ dX3_whatStandsInTheWay_79 (Or.inl rfl)
          · have c68 : x65.toInt ≠ 0 := ti_eq_n c68
            refine mp_a (a_iconst (v := 3) dX3_whatStandsInTheWay_60 rfl) (mpp 61 rfl ?_)
            exact mp_iret ⟨⟨_, rfl, trivial⟩, hT13, k16, trivial⟩ dX3_whatStandsInTheWay_61 (Or.inl rfl)
        · have c61 : z59.toInt ≠ 2 := ti_eq_n c61
          refine mp_a (a_iconst (v := 2) dX3_whatStandsInTheWay_51 rfl) (mpp 52 rfl ?_)
          exact mp_iret ⟨⟨_, rfl, trivial⟩, hT13, k16, trivial⟩ dX3_whatStandsInTheWay_52 (Or.inl rfl)
      · have c43 : x40.toInt ≠ 12 := ti_eq_n c43
        refine mp_a (a_iconst (v := 1) dX3_whatStandsInTheWay_31 rfl) (mpp 32 rfl ?_)
        exact mp_iret ⟨⟨_, rfl, trivial⟩, hT13, k16, trivial⟩ dX3_whatStandsInTheWay_32 (Or.inl rfl)
  · have c7 : x4.toInt ≠ 0 := ti_eq_n c7
    refine mp_a (a_iconst (v := 4) dX3_whatStandsInTheWay_7 rfl) (mpp 8 rfl ?_)
    exact mp_iret ⟨⟨_, rfl, trivial⟩, hT, KW.refl, trivial⟩ dX3_whatStandsInTheWay_8 (Or.inl rfl)

set_option maxHeartbeats 4000000 in
theorem c_CP_lowestUndecided_NPiece_l4 {Po : mP} {a0_ : Nat} (hT : Typ Po)  (ha0 : rl a0_ = 33) : ∀ (n : Nat) (v1 : Int32) (v2 : Int32), (0 ≤ v2.toInt) → (2147483647 - v2.toInt).toNat = n → MEvP 1 none q_43 4 [(0, .ref a0_), (1, .int v1), (2, .int v2)] [] Po 0 0 (fun r P' => (∃ x : Int32, r = some (.int x) ∧ (True)) ∧ P' = Po) := by
  intro n
  induction n using Nat.strongRecOn with | _ n ih => ?_
  intro v1 v2 i_0 hm
  have w_v1 := ti_full v1
  have w_v2 := ti_full v2
  refine mp_a (a_iload_n dX2_lowestUndecided_4 rfl) (mpp 5 rfl ?_)
  refine mp_a (a_aload_n dX2_lowestUndecided_5 rfl) (mpp 6 rfl ?_)
  refine mt_callv (i := 37) (q' := q_25) (As := []) (rest := [.int v2]) hT dX2_lowestUndecided_6 rfl qm_25 (by decide) rfl ha0 (by decide) rfl (Nat.le_of_ble_eq_true rfl) rfl ⟨rfl, rfl⟩ ⟨Nat.le_of_ble_eq_true rfl, Nat.le_of_ble_eq_true rfl⟩ (EvP.mono (by decide) (c_CP_creaseCount_NPiece hT ha0)) (fun r1 P2 g3 => mpp 9 rfl ?_)
  obtain ⟨⟨x4, rfl, g5⟩, e6⟩ := g3
  have e6 := e6.symm
  subst e6
  have wx4 := ti_full x4
  have g5 : -1 ≤ x4.toInt ∧ x4.toInt ≤ (fv Po a0_ 1).toInt := g5
  have g7 : (0 : Int) ≤ (fv Po a0_ 1).toInt ∧ (fv Po a0_ 1).toInt ≤ 8 := Typ.rng hT ha0 (by decide) (by decide) rfl
  show MEvP _ none q_43 9 [(0, .ref a0_), (1, .int v1), (2, .int v2)] [.int x4, .int v2] _ _ _ _
  refine mp_Tb (t := 33) (j_icmp_ge dX2_lowestUndecided_9) (by decide) (fun c8 => ?_) (fun c8 => mpp 12 rfl ?_)
  · have c8 : v2.toInt ≥ x4.toInt := ti_ge c8
    refine mp_a (a_iload_n dX2_lowestUndecided_33 rfl) (mpp 34 rfl ?_)
    exact mp_iret ⟨⟨_, rfl, trivial⟩, rfl⟩ dX2_lowestUndecided_34 (Or.inl rfl)
  · have c8 : v2.toInt < x4.toInt := ti_ge_n c8
    refine mp_a (a_aload_n dX2_lowestUndecided_12 rfl) (mpp 13 rfl ?_)
    refine mt_getR (i := 15) (k := 4) hT dX2_lowestUndecided_13 rfl ha0 (by decide) rfl (by decide) rfl (fun q9 => mpp 16 rfl ?_)
    generalize rv Po a0_ 4 = b10 at q9 ⊢
    refine mp_a (a_iload_n dX2_lowestUndecided_16 rfl) (mpp 17 rfl ?_)
    refine mp_calls (i := 48) (q' := q_12) (As := [.ref b10, .int v2]) (rest := []) dX2_lowestUndecided_17 rfl qm_12 (by decide) rfl (Nat.le_of_ble_eq_true rfl) rfl ⟨rfl, rfl⟩ ⟨Nat.le_of_ble_eq_true rfl, Nat.le_of_ble_eq_true rfl⟩ (EvP.mono (by decide) (c_F_at_creases hT q9)) (fun r11 P12 g13 => mpp 20 rfl ?_)
    obtain ⟨⟨x14, rfl, g15⟩, e16⟩ := g13
    have e16 := e16.symm
    subst e16
    have wx14 := ti_full x14
    show MEvP _ none q_43 20 [(0, .ref a0_), (1, .int v1), (2, .int v2)] [.int x14] _ _ _ _
    refine mp_Tb (t := 33) (j_if_eq dX2_lowestUndecided_20) (by decide) (fun c17 => ?_) (fun c17 => mpp 23 rfl ?_)
    · have c17 : x14.toInt = 0 := ti_eq c17
      refine mp_a (a_iload_n dX2_lowestUndecided_33 rfl) (mpp 34 rfl ?_)
      exact mp_iret ⟨⟨_, rfl, trivial⟩, rfl⟩ dX2_lowestUndecided_34 (Or.inl rfl)
    · have c17 : x14.toInt ≠ 0 := ti_eq_n c17
      refine mp_a (a_iload_n dX2_lowestUndecided_23 rfl) (mpp 24 rfl ?_)
      refine mp_a (a_iconst (v := 1) dX2_lowestUndecided_24 rfl) (mpp 25 rfl ?_)
      obtain ⟨z18, h19⟩ := ti_ex (v2 + 1 : Int32)
      have wz18 := ti_full z18
      refine mp_t (s_iadd (v := z18) dX2_lowestUndecided_25 h19) (mpp 26 rfl ?_)
      try have e20 : z18.toInt = v2.toInt + 1 := ti_addz h19 rfl rfl (by omega) (by omega)
      refine mp_a (a_istore_n (L' := [(1, .int z18), (0, .ref a0_), (2, .int v2)]) dX2_lowestUndecided_26 (by decide) rfl) (mpp 27 rfl ?_)
      obtain ⟨z21, h22⟩ := ti_ex (v2 + 1 : Int32)
      have wz21 := ti_full z21
      refine mp_a (a_iinc (v := z21) (L' := [(2, .int z21), (1, .int z18), (0, .ref a0_)]) dX2_lowestUndecided_27 (by decide) rfl h22 rfl) (mpp 30 rfl ?_)
      try have e23 : z21.toInt = v2.toInt + 1 := ti_addz h22 rfl rfl (by omega) (by omega)
      refine mp_a (a_goto (t := 4) dX2_lowestUndecided_30 (by decide)) ?_
      refine MEvP.less (L := [(0, .ref a0_), (1, .int z18), (2, .int z21)]) rfl rfl ⟨rfl, rfl, rfl, trivial⟩ ?_
      have i24 : 0 ≤ z21.toInt := by omega
      exact ih _ (by omega) _ _ i24 rfl

set_option maxHeartbeats 4000000 in
theorem c_CP_lowestUndecided_NPiece {Po : mP} {a0_ : Nat} (hT : Typ Po)  (ha0 : rl a0_ = 33) : EvP 2 43 [.ref a0_] Po (fun r P' => (∃ x : Int32, r = some (.int x) ∧ (True)) ∧ P' = Po) := by
  refine EvP.of qm_43 (Nat.le_of_ble_eq_true rfl) rfl ?_
  show MEvP _ none q_43 0 [(0, .ref a0_)] [] _ 0 0 _
  refine mp_a (a_iconst (v := 0) dX2_lowestUndecided_0 rfl) (mpp 1 rfl ?_)
  refine mp_a (a_istore_n (L' := [(1, .int 0), (0, .ref a0_)]) dX2_lowestUndecided_1 (by decide) rfl) (mpp 2 rfl ?_)
  refine mp_a (a_iconst (v := 0) dX2_lowestUndecided_2 rfl) (mpp 3 rfl ?_)
  refine mp_a (a_istore_n (L' := [(2, .int 0), (1, .int 0), (0, .ref a0_)]) dX2_lowestUndecided_3 (by decide) rfl) (mpp 4 rfl ?_)
  refine MEvP.less (L := [(0, .ref a0_), (1, .int 0), (2, .int 0)]) rfl rfl ⟨rfl, rfl, rfl, trivial⟩ ?_
  have i1 : 0 ≤ (0 : Int) := by omega
  exact c_CP_lowestUndecided_NPiece_l4 hT  ha0 _ _ _ i1 rfl

set_option maxHeartbeats 4000000 in
theorem c_F_fold {Po : mP} {t1 : Int32} (hT : Typ Po)   : EvP 5 41 [.ref 0, .int t1] Po (fun r P' => (∃ x : Int32, r = some (.int x) ∧ (True)) ∧ Typ P' ∧ KW [10, 11, 12, 65, 66, 67, 192, 193, 194, 256, 320, 385, 386, 640, 641, 704, 768, 1987, 2114] Po P' ∧ True) := by
  refine EvP.of qm_41 (Nat.le_of_ble_eq_true rfl) rfl ?_
  show MEvP _ none q_41 0 [(0, .ref 0), (1, .int t1)] [] _ 0 0 _
  refine mp_a (a_aload_n dX6_fold_0 rfl) (mpp 1 rfl ?_)
  refine mt_getU (i := 10) (k := 0) (A := 1) hT dX6_fold_1 rfl rl_0 (by decide) rfl (by decide) rfl un_31 (mpp 4 rfl ?_)
  refine mp_a (a_iload_n dX6_fold_4 rfl) (mpp 5 rfl ?_)
  refine mt_callv (i := 94) (q' := q_9) (As := [.int t1]) (rest := []) hT dX6_fold_5 rfl qm_9 (by decide) rfl rl_1 (by decide) rfl (Nat.le_of_ble_eq_true rfl) rfl ⟨rfl, rfl⟩ ⟨Nat.le_of_ble_eq_true rfl, Nat.le_of_ble_eq_true rfl⟩ (EvP.mono (by decide) (c_CS_pieceAt_NState hT )) (fun r1 P2 g3 => mpp 8 rfl ?_)
  obtain ⟨g3, e4⟩ := g3
  have e4 := e4.symm
  subst e4
  rcases g3 with rfl | ⟨b5, rfl, q6, q6r⟩
  · show MEvP _ none q_41 8 [(0, .ref 0), (1, .int t1)] [.null] _ _ _ _
    refine mp_a (a_astore_nN (L' := [(2, .null), (0, .ref 0), (1, .int t1)]) dX6_fold_8 (by decide) rfl) (mpp 9 rfl ?_)
    refine mp_a (a_aload_nN dX6_fold_9 rfl) (mpp 10 rfl ?_)
    refine mp_t (s_ifnonnullN dX6_fold_10) (mpp 13 rfl ?_)
    refine mp_a (a_sipush (v := -1001) dX6_fold_13 rfl) (mpp 16 rfl ?_)
    exact mp_iret ⟨⟨_, rfl, trivial⟩, hT, KW.refl, trivial⟩ dX6_fold_16 (Or.inl rfl)
  · show MEvP _ none q_41 8 [(0, .ref 0), (1, .int t1)] [.ref b5] _ _ _ _
    refine mp_a (a_astore_n (L' := [(2, .ref b5), (0, .ref 0), (1, .int t1)]) dX6_fold_8 (by decide) rfl) (mpp 9 rfl ?_)
    refine mp_a (a_aload_n dX6_fold_9 rfl) (mpp 10 rfl ?_)
    refine mp_t (s_ifnonnullR (t := 17) dX6_fold_10 (by decide)) ?_
    refine mp_a (a_aload_n dX6_fold_17 rfl) (mpp 18 rfl ?_)
    have g7 : (0 : Int) ≤ (fv Po b5 2).toInt ∧ (fv Po b5 2).toInt ≤ 1 := Typ.rng hT q6 (by decide) (by decide) rfl
    refine mt_getI (i := 104) (k := 2) hT dX6_fold_18 rfl q6 (by decide) rfl (by decide) rfl (fun g8 g9 => mpp 21 rfl ?_)
    refine mp_Tb (t := 31) (j_if_eq dX6_fold_21) (by decide) (fun c10 => ?_) (fun c10 => mpp 24 rfl ?_)
    · have c10 : (fv Po b5 2).toInt = 0 := ti_eq c10
      refine mp_a (a_aload_n dX6_fold_31 rfl) (mpp 32 rfl ?_)
      refine mt_callv (i := 159) (q' := q_42) (As := []) (rest := []) hT dX6_fold_32 rfl qm_42 (by decide) rfl q6 (by decide) rfl (Nat.le_of_ble_eq_true rfl) rfl ⟨rfl, rfl⟩ ⟨Nat.le_of_ble_eq_true rfl, Nat.le_of_ble_eq_true rfl⟩ (EvP.mono (by decide) (c_CP_isUndecided_NPiece hT q6)) (fun r11 P12 g13 => mpp 35 rfl ?_)
      obtain ⟨⟨x14, rfl, g15⟩, e16⟩ := g13
      have e16 := e16.symm
      subst e16
      have wx14 := ti_full x14
      have g15 : 0 ≤ x14.toInt ∧ x14.toInt ≤ 1 := g15
      show MEvP _ none q_41 35 [(2, .ref b5), (0, .ref 0), (1, .int t1)] [.int x14] _ _ _ _
      refine mp_Tb (t := 48) (j_if_eq dX6_fold_35) (by decide) (fun c17 => ?_) (fun c17 => mpp 38 rfl ?_)
      · have c17 : x14.toInt = 0 := ti_eq c17
        refine mp_a (a_aload_n dX6_fold_48 rfl) (mpp 49 rfl ?_)
        refine mt_getU (i := 39) (k := 5) (A := 291) hT dX6_fold_49 rfl rl_0 (by decide) rfl (by decide) rfl un_10 (mpp 52 rfl ?_)
        refine mp_a (a_aload_n dX6_fold_52 rfl) (mpp 53 rfl ?_)
        refine mt_callv (i := 166) (q' := q_44) (As := [.ref b5]) (rest := []) hT dX6_fold_53 rfl qm_44 (by decide) rfl rl_291 (by decide) rfl (Nat.le_of_ble_eq_true rfl) rfl ⟨rfl, rfl⟩ ⟨Nat.le_of_ble_eq_true rfl, Nat.le_of_ble_eq_true rfl⟩ (EvP.mono (by decide) (c_CR_whatStandsInTheWay_Reducer_NPiece hT q6)) (fun r18 P19 g20 => mpp 56 rfl ?_)
        obtain ⟨⟨x21, rfl, g22⟩, hT23, k24, R25⟩ := g20
        have k26 : KW [10, 11, 12, 65, 66, 67, 192, 193, 194, 256, 320, 385, 386, 640, 641, 704, 768, 1987, 2114] Po P19 := KW.trans KW.refl k24 rfl
        have wx21 := ti_full x21
        show MEvP _ none q_41 56 [(2, .ref b5), (0, .ref 0), (1, .int t1)] [.int x21] _ _ _ _
        refine mp_a (a_istore_n (L' := [(3, .int x21), (2, .ref b5), (0, .ref 0), (1, .int t1)]) dX6_fold_56 (by decide) rfl) (mpp 57 rfl ?_)
        refine mp_a (a_iload_n dX6_fold_57 rfl) (mpp 58 rfl ?_)
        refine mp_Tb (t := 68) (j_if_eq dX6_fold_58) (by decide) (fun c27 => ?_) (fun c27 => mpp 61 rfl ?_)
        · have c27 : x21.toInt = 0 := ti_eq c27
          refine mp_a (a_aload_n dX6_fold_68 rfl) (mpp 69 rfl ?_)
          refine mt_callv (i := 170) (q' := q_10) (As := []) (rest := []) hT23 dX6_fold_69 rfl qm_10 (by decide) rfl q6 (by decide) rfl (Nat.le_of_ble_eq_true rfl) rfl ⟨rfl, rfl⟩ ⟨Nat.le_of_ble_eq_true rfl, Nat.le_of_ble_eq_true rfl⟩ (EvP.mono (by decide) (c_CP_width_NPiece hT23 q6)) (fun r28 P29 g30 => mpp 72 rfl ?_)
          obtain ⟨⟨x31, rfl, g32⟩, e33⟩ := g30
          have e33 := e33.symm
          subst e33
          have wx31 := ti_full x31
          show MEvP _ none q_41 72 [(3, .int x21), (2, .ref b5), (0, .ref 0), (1, .int t1)] [.int x31] _ _ _ _
          refine mp_a (a_istore (L' := [(4, .int x31), (3, .int x21), (2, .ref b5), (0, .ref 0), (1, .int t1)]) dX6_fold_72 (by decide) rfl) (mpp 74 rfl ?_)
          refine mp_a (a_aload_n dX6_fold_74 rfl) (mpp 75 rfl ?_)
          refine mt_getU (i := 10) (k := 0) (A := 1) hT23 dX6_fold_75 rfl rl_0 (by decide) rfl (by decide) rfl un_31 (mpp 78 rfl ?_)
          refine mt_callv (i := 64) (q' := q_8) (As := []) (rest := []) hT23 dX6_fold_78 rfl qm_8 (by decide) rfl rl_1 (by decide) rfl (Nat.le_of_ble_eq_true rfl) rfl ⟨rfl, rfl⟩ ⟨Nat.le_of_ble_eq_true rfl, Nat.le_of_ble_eq_true rfl⟩ (EvP.mono (by decide) (c_CS_occupied_NState hT23 )) (fun r34 P35 g36 => mpp 81 rfl ?_)
          obtain ⟨⟨x37, rfl, g38⟩, e39⟩ := g36
          have e39 := e39.symm
          subst e39
          have wx37 := ti_full x37
          show MEvP _ none q_41 81 [(4, .int x31), (3, .int x21), (2, .ref b5), (0, .ref 0), (1, .int t1)] [.int x37] _ _ _ _
          refine mp_a (a_iload dX6_fold_81 rfl) (mpp 83 rfl ?_)
          obtain ⟨z40, h41⟩ := ti_ex (x37 + x31 : Int32)
          have wz40 := ti_full z40
          refine mp_t (s_iadd (v := z40) dX6_fold_83 h41) (mpp 84 rfl ?_)
          try have e42 : z40.toInt = x37.toInt + x31.toInt := ti_addz h41 rfl rfl (by omega) (by omega)
          refine mp_a (a_aload_n dX6_fold_84 rfl) (mpp 85 rfl ?_)
          refine mt_getU (i := 10) (k := 0) (A := 1) hT23 dX6_fold_85 rfl rl_0 (by decide) rfl (by decide) rfl un_31 (mpp 88 rfl ?_)
          have g43 := ti_full (fv P19 1 2)
          refine mt_getI (i := 76) (k := 2) hT23 dX6_fold_88 rfl rl_1 (by decide) rfl (by decide) rfl (fun g44 g45 => mpp 91 rfl ?_)
          obtain ⟨z46, h47⟩ := ti_ex (z40 - (fv P19 1 2) : Int32)
          have wz46 := ti_full z46
          refine mp_t (s_isub (v := z46) dX6_fold_91 h47) (mpp 92 rfl ?_)
          try have e48 : z46.toInt = z40.toInt - (fv P19 1 2).toInt := ti_subz h47 rfl rfl (by omega) (by omega)
          refine mp_a (a_istore (L' := [(5, .int z46), (4, .int x31), (3, .int x21), (2, .ref b5), (0, .ref 0), (1, .int t1)]) dX6_fold_92 (by decide) rfl) (mpp 94 rfl ?_)
          refine mp_a (a_iload dX6_fold_94 rfl) (mpp 96 rfl ?_)
          refine mp_Tb (t := 108) (j_if_le dX6_fold_96) (by decide) (fun c49 => ?_) (fun c49 => mpp 99 rfl ?_)
          · have c49 : z46.toInt ≤ 0 := ti_le c49
            refine mp_a (a_aload_n dX6_fold_108 rfl) (mpp 109 rfl ?_)
            refine mt_getU (i := 25) (k := 3) (A := 79) hT23 dX6_fold_109 rfl rl_0 (by decide) rfl (by decide) rfl un_6 (mpp 112 rfl ?_)
            refine mp_a (a_aload_n dX6_fold_112 rfl) (mpp 113 rfl ?_)
            refine mt_getU (i := 10) (k := 0) (A := 1) hT23 dX6_fold_113 rfl rl_0 (by decide) rfl (by decide) rfl un_31 (mpp 116 rfl ?_)
            refine mt_callv (i := 72) (q' := q_15) (As := [.ref 1]) (rest := []) hT23 dX6_fold_116 rfl qm_15 (by decide) rfl rl_79 (by decide) rfl (Nat.le_of_ble_eq_true rfl) rfl ⟨rfl, rfl⟩ ⟨Nat.le_of_ble_eq_true rfl, Nat.le_of_ble_eq_true rfl⟩ (EvP.mono (by decide) (c_CH_push_History_NState hT23 )) (fun r50 P51 g52 => mpp 119 rfl ?_)
            obtain ⟨⟨rfl, g54⟩, hT55, k56, R57⟩ := g52
            have k58 : KW [10, 11, 12, 65, 66, 67, 192, 193, 194, 256, 320, 385, 386, 640, 641, 704, 768, 1987, 2114] Po P51 := KW.trans k26 k56 rfl
            show MEvP _ none q_41 119 [(5, .int z46), (4, .int x31), (3, .int x21), (2, .ref b5), (0, .ref 0), (1, .int t1)] [] _ _ _ _
            refine mp_a (a_aload_n dX6_fold_119 rfl) (mpp 120 rfl ?_)
            refine mp_a (a_iconst (v := 1) dX6_fold_120 rfl) (mpp 121 rfl ?_)
            refine mt_putI (i := 104) (k := 2) (x := 1) hT55 dX6_fold_121 rfl q6 (by decide) rfl (by decide) rfl (by decide) rfl rfl (fun P59 hT60 f61 f62 => mpp 124 rfl ?_)
            have k63 : KW [10, 11, 12, 65, 66, 67, 192, 193, 194, 256, 320, 385, 386, 640, 641, 704, 768, 1987, 2114] Po P59 := KW.step k58 q6 rfl f62
            have e64 : (fv P59 b5 2).toInt = 1 := congrArg Int32.toInt f61
            refine mp_a (a_aload_n dX6_fold_124 rfl) (mpp 125 rfl ?_)
            refine mt_getU (i := 10) (k := 0) (A := 1) hT60 dX6_fold_125 rfl rl_0 (by decide) rfl (by decide) rfl un_31 (mpp 128 rfl ?_)
            refine mp_t (s_dup dX6_fold_128 rfl) (mpp 129 rfl ?_)
            have g65 := ti_full (fv P59 1 3)
            refine mt_getI (i := 172) (k := 3) hT60 dX6_fold_129 rfl rl_1 (by decide) rfl (by decide) rfl (fun g66 g67 => mpp 132 rfl ?_)
            refine mp_a (a_iconst (v := 1) dX6_fold_132 rfl) (mpp 133 rfl ?_)
            obtain ⟨z68, h69⟩ := ti_ex ((fv P59 1 3) + 1 : Int32)
            have wz68 := ti_full z68
            refine mp_t (s_iadd (v := z68) dX6_fold_133 h69) (mpp 134 rfl ?_)
            try have e70 : z68.toInt = (fv P59 1 3).toInt + 1 := ti_addz h69 rfl rfl (by omega) (by omega)
            refine mt_putI (i := 172) (k := 3) (x := z68) hT60 dX6_fold_134 rfl rl_1 (by decide) rfl (by decide) rfl (ti_full z68) rfl rfl (fun P71 hT72 f73 f74 => mpp 137 rfl ?_)
            have k75 : KW [10, 11, 12, 65, 66, 67, 192, 193, 194, 256, 320, 385, 386, 640, 641, 704, 768, 1987, 2114] Po P71 := KW.step k63 rl_1 rfl f74
            have e76 : (fv P71 1 3).toInt = z68.toInt := congrArg Int32.toInt f73
            refine mp_a (a_iload dX6_fold_137 rfl) (mpp 139 rfl ?_)
            exact mp_iret ⟨⟨_, rfl, trivial⟩, hT72, k75, trivial⟩ dX6_fold_139 (Or.inl rfl)
          · have c49 : z46.toInt > 0 := ti_le_n c49
            refine mp_a (a_aload_n dX6_fold_99 rfl) (mpp 100 rfl ?_)
            refine mp_a (a_bipush (v := 7) dX6_fold_100 rfl) (mpp 102 rfl ?_)
            refine mp_a (a_iload dX6_fold_102 rfl) (mpp 104 rfl ?_)
            refine mt_callv (i := 68) (q' := q_14) (As := [.int 7, .int z46]) (rest := []) hT23 dX6_fold_104 rfl qm_14 (by decide) rfl rl_0 (by decide) rfl (Nat.le_of_ble_eq_true rfl) rfl ⟨rfl, rfl⟩ ⟨Nat.le_of_ble_eq_true rfl, Nat.le_of_ble_eq_true rfl⟩ (EvP.mono (by decide) (c_F_refuse hT23 )) (fun r77 P78 g79 => mpp 107 rfl ?_)
            obtain ⟨⟨x80, rfl, g81⟩, hT82, k83, R84⟩ := g79
            have k85 : KW [10, 11, 12, 65, 66, 67, 192, 193, 194, 256, 320, 385, 386, 640, 641, 704, 768, 1987, 2114] Po P78 := KW.trans k26 k83 rfl
            have wx80 := ti_full x80
            show MEvP _ none q_41 107 [(5, .int z46), (4, .int x31), (3, .int x21), (2, .ref b5), (0, .ref 0), (1, .int t1)] [.int x80] _ _ _ _
            exact mp_iret ⟨⟨_, rfl, trivial⟩, hT82, k85, trivial⟩ dX6_fold_107 (Or.inl rfl)
        · have c27 : x21.toInt ≠ 0 := ti_eq_n c27
          refine mp_a (a_aload_n dX6_fold_61 rfl) (mpp 62 rfl ?_)
          refine mp_a (a_iconst (v := 5) dX6_fold_62 rfl) (mpp 63 rfl ?_)
          refine mp_a (a_iload_n dX6_fold_63 rfl) (mpp 64 rfl ?_)
          refine mt_callv (i := 68) (q' := q_14) (As := [.int 5, .int x21]) (rest := []) hT23 dX6_fold_64 rfl qm_14 (by decide) rfl rl_0 (by decide) rfl (Nat.le_of_ble_eq_true rfl) rfl ⟨rfl, rfl⟩ ⟨Nat.le_of_ble_eq_true rfl, Nat.le_of_ble_eq_true rfl⟩ (EvP.mono (by decide) (c_F_refuse hT23 )) (fun r86 P87 g88 => mpp 67 rfl ?_)
          obtain ⟨⟨x89, rfl, g90⟩, hT91, k92, R93⟩ := g88
          have k94 : KW [10, 11, 12, 65, 66, 67, 192, 193, 194, 256, 320, 385, 386, 640, 641, 704, 768, 1987, 2114] Po P87 := KW.trans k26 k92 rfl
          have wx89 := ti_full x89
          show MEvP _ none q_41 67 [(3, .int x21), (2, .ref b5), (0, .ref 0), (1, .int t1)] [.int x89] _ _ _ _
          exact mp_iret ⟨⟨_, rfl, trivial⟩, hT91, k94, trivial⟩ dX6_fold_67 (Or.inl rfl)
      · have c17 : x14.toInt ≠ 0 := ti_eq_n c17
        refine mp_a (a_aload_n dX6_fold_38 rfl) (mpp 39 rfl ?_)
        refine mp_a (a_iconst (v := 4) dX6_fold_39 rfl) (mpp 40 rfl ?_)
        refine mp_a (a_aload_n dX6_fold_40 rfl) (mpp 41 rfl ?_)
        refine mt_callv (i := 163) (q' := q_43) (As := []) (rest := [.int 4, .ref 0]) hT dX6_fold_41 rfl qm_43 (by decide) rfl q6 (by decide) rfl (Nat.le_of_ble_eq_true rfl) rfl ⟨rfl, rfl⟩ ⟨Nat.le_of_ble_eq_true rfl, Nat.le_of_ble_eq_true rfl⟩ (EvP.mono (by decide) (c_CP_lowestUndecided_NPiece hT q6)) (fun r95 P96 g97 => mpp 44 rfl ?_)
        obtain ⟨⟨x98, rfl, g99⟩, e100⟩ := g97
        have e100 := e100.symm
        subst e100
        have wx98 := ti_full x98
        show MEvP _ none q_41 44 [(2, .ref b5), (0, .ref 0), (1, .int t1)] [.int x98, .int 4, .ref 0] _ _ _ _
        refine mt_callv (i := 68) (q' := q_14) (As := [.int 4, .int x98]) (rest := []) hT dX6_fold_44 rfl qm_14 (by decide) rfl rl_0 (by decide) rfl (Nat.le_of_ble_eq_true rfl) rfl ⟨rfl, rfl⟩ ⟨Nat.le_of_ble_eq_true rfl, Nat.le_of_ble_eq_true rfl⟩ (EvP.mono (by decide) (c_F_refuse hT )) (fun r101 P102 g103 => mpp 47 rfl ?_)
        obtain ⟨⟨x104, rfl, g105⟩, hT106, k107, R108⟩ := g103
        have k109 : KW [10, 11, 12, 65, 66, 67, 192, 193, 194, 256, 320, 385, 386, 640, 641, 704, 768, 1987, 2114] Po P102 := KW.trans KW.refl k107 rfl
        have wx104 := ti_full x104
        show MEvP _ none q_41 47 [(2, .ref b5), (0, .ref 0), (1, .int t1)] [.int x104] _ _ _ _
        exact mp_iret ⟨⟨_, rfl, trivial⟩, hT106, k109, trivial⟩ dX6_fold_47 (Or.inl rfl)
    · have c10 : (fv Po b5 2).toInt ≠ 0 := ti_eq_n c10
      refine mp_a (a_aload_n dX6_fold_24 rfl) (mpp 25 rfl ?_)
      refine mp_a (a_iconst (v := 2) dX6_fold_25 rfl) (mpp 26 rfl ?_)
      refine mp_a (a_iload_n dX6_fold_26 rfl) (mpp 27 rfl ?_)
      refine mt_callv (i := 68) (q' := q_14) (As := [.int 2, .int t1]) (rest := []) hT dX6_fold_27 rfl qm_14 (by decide) rfl rl_0 (by decide) rfl (Nat.le_of_ble_eq_true rfl) rfl ⟨rfl, rfl⟩ ⟨Nat.le_of_ble_eq_true rfl, Nat.le_of_ble_eq_true rfl⟩ (EvP.mono (by decide) (c_F_refuse hT )) (fun r110 P111 g112 => mpp 30 rfl ?_)
      obtain ⟨⟨x113, rfl, g114⟩, hT115, k116, R117⟩ := g112
      have k118 : KW [10, 11, 12, 65, 66, 67, 192, 193, 194, 256, 320, 385, 386, 640, 641, 704, 768, 1987, 2114] Po P111 := KW.trans KW.refl k116 rfl
      have wx113 := ti_full x113
      show MEvP _ none q_41 30 [(2, .ref b5), (0, .ref 0), (1, .int t1)] [.int x113] _ _ _ _
      exact mp_iret ⟨⟨_, rfl, trivial⟩, hT115, k118, trivial⟩ dX6_fold_30 (Or.inl rfl)

set_option maxHeartbeats 4000000 in
theorem c_F_unfold {Po : mP} {t1 : Int32} (hT : Typ Po)   : EvP 5 56 [.ref 0, .int t1] Po (fun r P' => (∃ x : Int32, r = some (.int x) ∧ (True)) ∧ Typ P' ∧ KW [10, 11, 12, 65, 66, 67, 192, 193, 194, 256, 320, 385, 386, 2114] Po P' ∧ True) := by
  refine EvP.of qm_56 (Nat.le_of_ble_eq_true rfl) rfl ?_
  show MEvP _ none q_56 0 [(0, .ref 0), (1, .int t1)] [] _ 0 0 _
  refine mp_a (a_aload_n dX6_unfold_0 rfl) (mpp 1 rfl ?_)
  refine mt_getU (i := 10) (k := 0) (A := 1) hT dX6_unfold_1 rfl rl_0 (by decide) rfl (by decide) rfl un_31 (mpp 4 rfl ?_)
  refine mp_a (a_iload_n dX6_unfold_4 rfl) (mpp 5 rfl ?_)
  refine mt_callv (i := 94) (q' := q_9) (As := [.int t1]) (rest := []) hT dX6_unfold_5 rfl qm_9 (by decide) rfl rl_1 (by decide) rfl (Nat.le_of_ble_eq_true rfl) rfl ⟨rfl, rfl⟩ ⟨Nat.le_of_ble_eq_true rfl, Nat.le_of_ble_eq_true rfl⟩ (EvP.mono (by decide) (c_CS_pieceAt_NState hT )) (fun r1 P2 g3 => mpp 8 rfl ?_)
  obtain ⟨g3, e4⟩ := g3
  have e4 := e4.symm
  subst e4
  rcases g3 with rfl | ⟨b5, rfl, q6, q6r⟩
  · show MEvP _ none q_56 8 [(0, .ref 0), (1, .int t1)] [.null] _ _ _ _
    refine mp_a (a_astore_nN (L' := [(2, .null), (0, .ref 0), (1, .int t1)]) dX6_unfold_8 (by decide) rfl) (mpp 9 rfl ?_)
    refine mp_a (a_aload_nN dX6_unfold_9 rfl) (mpp 10 rfl ?_)
    refine mp_t (s_ifnonnullN dX6_unfold_10) (mpp 13 rfl ?_)
    refine mp_a (a_sipush (v := -1001) dX6_unfold_13 rfl) (mpp 16 rfl ?_)
    exact mp_iret ⟨⟨_, rfl, trivial⟩, hT, KW.refl, trivial⟩ dX6_unfold_16 (Or.inl rfl)
  · show MEvP _ none q_56 8 [(0, .ref 0), (1, .int t1)] [.ref b5] _ _ _ _
    refine mp_a (a_astore_n (L' := [(2, .ref b5), (0, .ref 0), (1, .int t1)]) dX6_unfold_8 (by decide) rfl) (mpp 9 rfl ?_)
    refine mp_a (a_aload_n dX6_unfold_9 rfl) (mpp 10 rfl ?_)
    refine mp_t (s_ifnonnullR (t := 17) dX6_unfold_10 (by decide)) ?_
    refine mp_a (a_aload_n dX6_unfold_17 rfl) (mpp 18 rfl ?_)
    have g7 : (0 : Int) ≤ (fv Po b5 2).toInt ∧ (fv Po b5 2).toInt ≤ 1 := Typ.rng hT q6 (by decide) (by decide) rfl
    refine mt_getI (i := 104) (k := 2) hT dX6_unfold_18 rfl q6 (by decide) rfl (by decide) rfl (fun g8 g9 => mpp 21 rfl ?_)
    refine mp_Tb (t := 31) (j_if_ne dX6_unfold_21) (by decide) (fun c10 => ?_) (fun c10 => mpp 24 rfl ?_)
    · have c10 : (fv Po b5 2).toInt ≠ 0 := ti_ne c10
      refine mp_a (a_aload_n dX6_unfold_31 rfl) (mpp 32 rfl ?_)
      refine mt_getU (i := 25) (k := 3) (A := 79) hT dX6_unfold_32 rfl rl_0 (by decide) rfl (by decide) rfl un_6 (mpp 35 rfl ?_)
      refine mp_a (a_aload_n dX6_unfold_35 rfl) (mpp 36 rfl ?_)
      refine mt_getU (i := 10) (k := 0) (A := 1) hT dX6_unfold_36 rfl rl_0 (by decide) rfl (by decide) rfl un_31 (mpp 39 rfl ?_)
      refine mt_callv (i := 72) (q' := q_15) (As := [.ref 1]) (rest := []) hT dX6_unfold_39 rfl qm_15 (by decide) rfl rl_79 (by decide) rfl (Nat.le_of_ble_eq_true rfl) rfl ⟨rfl, rfl⟩ ⟨Nat.le_of_ble_eq_true rfl, Nat.le_of_ble_eq_true rfl⟩ (EvP.mono (by decide) (c_CH_push_History_NState hT )) (fun r11 P12 g13 => mpp 42 rfl ?_)
      obtain ⟨⟨rfl, g15⟩, hT16, k17, R18⟩ := g13
      have k19 : KW [10, 11, 12, 65, 66, 67, 192, 193, 194, 256, 320, 385, 386, 2114] Po P12 := KW.trans KW.refl k17 rfl
      show MEvP _ none q_56 42 [(2, .ref b5), (0, .ref 0), (1, .int t1)] [] _ _ _ _
      refine mp_a (a_aload_n dX6_unfold_42 rfl) (mpp 43 rfl ?_)
      refine mp_a (a_iconst (v := 0) dX6_unfold_43 rfl) (mpp 44 rfl ?_)
      refine mt_putI (i := 104) (k := 2) (x := 0) hT16 dX6_unfold_44 rfl q6 (by decide) rfl (by decide) rfl (by decide) rfl rfl (fun P20 hT21 f22 f23 => mpp 47 rfl ?_)
      have k24 : KW [10, 11, 12, 65, 66, 67, 192, 193, 194, 256, 320, 385, 386, 2114] Po P20 := KW.step k19 q6 rfl f23
      have e25 : (fv P20 b5 2).toInt = 0 := congrArg Int32.toInt f22
      refine mp_a (a_aload_n dX6_unfold_47 rfl) (mpp 48 rfl ?_)
      refine mt_getU (i := 10) (k := 0) (A := 1) hT21 dX6_unfold_48 rfl rl_0 (by decide) rfl (by decide) rfl un_31 (mpp 51 rfl ?_)
      have g26 := ti_full (fv P20 1 2)
      refine mt_getI (i := 76) (k := 2) hT21 dX6_unfold_51 rfl rl_1 (by decide) rfl (by decide) rfl (fun g27 g28 => mpp 54 rfl ?_)
      refine mp_a (a_aload_n dX6_unfold_54 rfl) (mpp 55 rfl ?_)
      refine mt_getU (i := 10) (k := 0) (A := 1) hT21 dX6_unfold_55 rfl rl_0 (by decide) rfl (by decide) rfl un_31 (mpp 58 rfl ?_)
      refine mt_callv (i := 64) (q' := q_8) (As := []) (rest := [.int (fv P20 1 2)]) hT21 dX6_unfold_58 rfl qm_8 (by decide) rfl rl_1 (by decide) rfl (Nat.le_of_ble_eq_true rfl) rfl ⟨rfl, rfl⟩ ⟨Nat.le_of_ble_eq_true rfl, Nat.le_of_ble_eq_true rfl⟩ (EvP.mono (by decide) (c_CS_occupied_NState hT21 )) (fun r29 P30 g31 => mpp 61 rfl ?_)
      obtain ⟨⟨x32, rfl, g33⟩, e34⟩ := g31
      have e34 := e34.symm
      subst e34
      have wx32 := ti_full x32
      show MEvP _ none q_56 61 [(2, .ref b5), (0, .ref 0), (1, .int t1)] [.int x32, .int (fv P20 1 2)] _ _ _ _
      obtain ⟨z35, h36⟩ := ti_ex ((fv P20 1 2) - x32 : Int32)
      have wz35 := ti_full z35
      refine mp_t (s_isub (v := z35) dX6_unfold_61 h36) (mpp 62 rfl ?_)
      try have e37 : z35.toInt = (fv P20 1 2).toInt - x32.toInt := ti_subz h36 rfl rfl (by omega) (by omega)
      exact mp_iret ⟨⟨_, rfl, trivial⟩, hT21, k24, trivial⟩ dX6_unfold_62 (Or.inl rfl)
    · have c10 : (fv Po b5 2).toInt = 0 := ti_ne_n c10
      refine mp_a (a_aload_n dX6_unfold_24 rfl) (mpp 25 rfl ?_)
      refine mp_a (a_iconst (v := 2) dX6_unfold_25 rfl) (mpp 26 rfl ?_)
      refine mp_a (a_iload_n dX6_unfold_26 rfl) (mpp 27 rfl ?_)
      refine mt_callv (i := 68) (q' := q_14) (As := [.int 2, .int t1]) (rest := []) hT dX6_unfold_27 rfl qm_14 (by decide) rfl rl_0 (by decide) rfl (Nat.le_of_ble_eq_true rfl) rfl ⟨rfl, rfl⟩ ⟨Nat.le_of_ble_eq_true rfl, Nat.le_of_ble_eq_true rfl⟩ (EvP.mono (by decide) (c_F_refuse hT )) (fun r38 P39 g40 => mpp 30 rfl ?_)
      obtain ⟨⟨x41, rfl, g42⟩, hT43, k44, R45⟩ := g40
      have k46 : KW [10, 11, 12, 65, 66, 67, 192, 193, 194, 256, 320, 385, 386, 2114] Po P39 := KW.trans KW.refl k44 rfl
      have wx41 := ti_full x41
      show MEvP _ none q_56 30 [(2, .ref b5), (0, .ref 0), (1, .int t1)] [.int x41] _ _ _ _
      exact mp_iret ⟨⟨_, rfl, trivial⟩, hT43, k46, trivial⟩ dX6_unfold_30 (Or.inl rfl)

set_option maxHeartbeats 4000000 in
theorem c_F_drop {Po : mP} {t1 : Int32} (hT : Typ Po)   : EvP 5 57 [.ref 0, .int t1] Po (fun r P' => (∃ x : Int32, r = some (.int x) ∧ (True)) ∧ Typ P' ∧ KW [65, 66, 67, 192, 193, 194, 256, 320, 385, 386, 1985] Po P' ∧ True) := by
  refine EvP.of qm_57 (Nat.le_of_ble_eq_true rfl) rfl ?_
  show MEvP _ none q_57 0 [(0, .ref 0), (1, .int t1)] [] _ 0 0 _
  refine mp_a (a_aload_n dX6_drop_0 rfl) (mpp 1 rfl ?_)
  refine mt_getU (i := 10) (k := 0) (A := 1) hT dX6_drop_1 rfl rl_0 (by decide) rfl (by decide) rfl un_31 (mpp 4 rfl ?_)
  refine mp_a (a_iload_n dX6_drop_4 rfl) (mpp 5 rfl ?_)
  refine mt_callv (i := 94) (q' := q_9) (As := [.int t1]) (rest := []) hT dX6_drop_5 rfl qm_9 (by decide) rfl rl_1 (by decide) rfl (Nat.le_of_ble_eq_true rfl) rfl ⟨rfl, rfl⟩ ⟨Nat.le_of_ble_eq_true rfl, Nat.le_of_ble_eq_true rfl⟩ (EvP.mono (by decide) (c_CS_pieceAt_NState hT )) (fun r1 P2 g3 => mpp 8 rfl ?_)
  obtain ⟨g3, e4⟩ := g3
  have e4 := e4.symm
  subst e4
  rcases g3 with rfl | ⟨b5, rfl, q6, q6r⟩
  · show MEvP _ none q_57 8 [(0, .ref 0), (1, .int t1)] [.null] _ _ _ _
    refine mp_t (s_ifnonnullN dX6_drop_8) (mpp 11 rfl ?_)
    refine mp_a (a_sipush (v := -1001) dX6_drop_11 rfl) (mpp 14 rfl ?_)
    exact mp_iret ⟨⟨_, rfl, trivial⟩, hT, KW.refl, trivial⟩ dX6_drop_14 (Or.inl rfl)
  · show MEvP _ none q_57 8 [(0, .ref 0), (1, .int t1)] [.ref b5] _ _ _ _
    refine mp_t (s_ifnonnullR (t := 15) dX6_drop_8 (by decide)) ?_
    refine mp_a (a_aload_n dX6_drop_15 rfl) (mpp 16 rfl ?_)
    refine mt_getU (i := 25) (k := 3) (A := 79) hT dX6_drop_16 rfl rl_0 (by decide) rfl (by decide) rfl un_6 (mpp 19 rfl ?_)
    refine mp_a (a_aload_n dX6_drop_19 rfl) (mpp 20 rfl ?_)
    refine mt_getU (i := 10) (k := 0) (A := 1) hT dX6_drop_20 rfl rl_0 (by decide) rfl (by decide) rfl un_31 (mpp 23 rfl ?_)
    refine mt_callv (i := 72) (q' := q_15) (As := [.ref 1]) (rest := []) hT dX6_drop_23 rfl qm_15 (by decide) rfl rl_79 (by decide) rfl (Nat.le_of_ble_eq_true rfl) rfl ⟨rfl, rfl⟩ ⟨Nat.le_of_ble_eq_true rfl, Nat.le_of_ble_eq_true rfl⟩ (EvP.mono (by decide) (c_CH_push_History_NState hT )) (fun r7 P8 g9 => mpp 26 rfl ?_)
    obtain ⟨⟨rfl, g11⟩, hT12, k13, R14⟩ := g9
    have k15 : KW [65, 66, 67, 192, 193, 194, 256, 320, 385, 386, 1985] Po P8 := KW.trans KW.refl k13 rfl
    show MEvP _ none q_57 26 [(0, .ref 0), (1, .int t1)] [] _ _ _ _
    refine mp_a (a_aload_n dX6_drop_26 rfl) (mpp 27 rfl ?_)
    refine mt_getU (i := 10) (k := 0) (A := 1) hT12 dX6_drop_27 rfl rl_0 (by decide) rfl (by decide) rfl un_31 (mpp 30 rfl ?_)
    refine mp_a (a_iload_n dX6_drop_30 rfl) (mpp 31 rfl ?_)
    refine mt_callv (i := 147) (q' := q_38) (As := [.int t1]) (rest := []) hT12 dX6_drop_31 rfl qm_38 (by decide) rfl rl_1 (by decide) rfl (Nat.le_of_ble_eq_true rfl) rfl ⟨rfl, rfl⟩ ⟨Nat.le_of_ble_eq_true rfl, Nat.le_of_ble_eq_true rfl⟩ (EvP.mono (by decide) (c_CS_removeAt_NState hT12 )) (fun r16 P17 g18 => mpp 34 rfl ?_)
    obtain ⟨⟨rfl, g20⟩, hT21, k22, R23⟩ := g18
    have k24 : KW [65, 66, 67, 192, 193, 194, 256, 320, 385, 386, 1985] Po P17 := KW.trans k15 k22 rfl
    show MEvP _ none q_57 34 [(0, .ref 0), (1, .int t1)] [] _ _ _ _
    refine mp_a (a_aload_n dX6_drop_34 rfl) (mpp 35 rfl ?_)
    refine mt_getU (i := 10) (k := 0) (A := 1) hT21 dX6_drop_35 rfl rl_0 (by decide) rfl (by decide) rfl un_31 (mpp 38 rfl ?_)
    have g25 := ti_full (fv P17 1 1)
    refine mt_getI (i := 87) (k := 1) hT21 dX6_drop_38 rfl rl_1 (by decide) rfl (by decide) rfl (fun g26 g27 => mpp 41 rfl ?_)
    exact mp_iret ⟨⟨_, rfl, trivial⟩, hT21, k24, trivial⟩ dX6_drop_41 (Or.inl rfl)

set_option maxHeartbeats 4000000 in
theorem c_CP_sum_NPiece_l4 {Po : mP} {a0_ : Nat} (hT : Typ Po)  (ha0 : rl a0_ = 33) : ∀ (n : Nat) (v1 : Int32) (v2 : Int32), (0 ≤ v2.toInt) → (2147483647 - v2.toInt).toNat = n → MEvP 1 none q_23 4 [(0, .ref a0_), (1, .int v1), (2, .int v2)] [] Po 0 0 (fun r P' => (∃ x : Int32, r = some (.int x) ∧ (True)) ∧ P' = Po) := by
  intro n
  induction n using Nat.strongRecOn with | _ n ih => ?_
  intro v1 v2 i_0 hm
  have w_v1 := ti_full v1
  have w_v2 := ti_full v2
  refine mp_a (a_iload_n dX2_sum_4 rfl) (mpp 5 rfl ?_)
  refine mp_a (a_aload_n dX2_sum_5 rfl) (mpp 6 rfl ?_)
  have g1 : (0 : Int) ≤ (fv Po a0_ 1).toInt ∧ (fv Po a0_ 1).toInt ≤ 8 := Typ.rng hT ha0 (by decide) (by decide) rfl
  refine mt_getI (i := 26) (k := 1) hT dX2_sum_6 rfl ha0 (by decide) rfl (by decide) rfl (fun g2 g3 => mpp 9 rfl ?_)
  refine mp_Tb (t := 29) (j_icmp_ge dX2_sum_9) (by decide) (fun c4 => ?_) (fun c4 => mpp 12 rfl ?_)
  · have c4 : v2.toInt ≥ (fv Po a0_ 1).toInt := ti_ge c4
    refine mp_a (a_iload_n dX2_sum_29 rfl) (mpp 30 rfl ?_)
    exact mp_iret ⟨⟨_, rfl, trivial⟩, rfl⟩ dX2_sum_30 (Or.inl rfl)
  · have c4 : v2.toInt < (fv Po a0_ 1).toInt := ti_ge_n c4
    refine mp_a (a_iload_n dX2_sum_12 rfl) (mpp 13 rfl ?_)
    refine mp_a (a_aload_n dX2_sum_13 rfl) (mpp 14 rfl ?_)
    refine mt_getR (i := 9) (k := 3) hT dX2_sum_14 rfl ha0 (by decide) rfl (by decide) rfl (fun q5 => mpp 17 rfl ?_)
    generalize rv Po a0_ 3 = b6 at q5 ⊢
    refine mp_a (a_iload_n dX2_sum_17 rfl) (mpp 18 rfl ?_)
    refine mp_calls (i := 48) (q' := q_12) (As := [.ref b6, .int v2]) (rest := [.int v1]) dX2_sum_18 rfl qm_12 (by decide) rfl (Nat.le_of_ble_eq_true rfl) rfl ⟨rfl, rfl⟩ ⟨Nat.le_of_ble_eq_true rfl, Nat.le_of_ble_eq_true rfl⟩ (EvP.mono (by decide) (c_F_at_sizes hT q5)) (fun r7 P8 g9 => mpp 21 rfl ?_)
    obtain ⟨⟨x10, rfl, g11⟩, e12⟩ := g9
    have e12 := e12.symm
    subst e12
    have wx10 := ti_full x10
    show MEvP _ none q_23 21 [(0, .ref a0_), (1, .int v1), (2, .int v2)] [.int x10, .int v1] _ _ _ _
    obtain ⟨z13, h14⟩ := ti_ex (v1 + x10 : Int32)
    have wz13 := ti_full z13
    refine mp_t (s_iadd (v := z13) dX2_sum_21 h14) (mpp 22 rfl ?_)
    try have e15 : z13.toInt = v1.toInt + x10.toInt := ti_addz h14 rfl rfl (by omega) (by omega)
    refine mp_a (a_istore_n (L' := [(1, .int z13), (0, .ref a0_), (2, .int v2)]) dX2_sum_22 (by decide) rfl) (mpp 23 rfl ?_)
    obtain ⟨z16, h17⟩ := ti_ex (v2 + 1 : Int32)
    have wz16 := ti_full z16
    refine mp_a (a_iinc (v := z16) (L' := [(2, .int z16), (1, .int z13), (0, .ref a0_)]) dX2_sum_23 (by decide) rfl h17 rfl) (mpp 26 rfl ?_)
    try have e18 : z16.toInt = v2.toInt + 1 := ti_addz h17 rfl rfl (by omega) (by omega)
    refine mp_a (a_goto (t := 4) dX2_sum_26 (by decide)) ?_
    refine MEvP.less (L := [(0, .ref a0_), (1, .int z13), (2, .int z16)]) rfl rfl ⟨rfl, rfl, rfl, trivial⟩ ?_
    have i19 : 0 ≤ z16.toInt := by omega
    exact ih _ (by omega) _ _ i19 rfl

