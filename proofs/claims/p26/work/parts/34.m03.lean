/-! methods on typed pools, 3 (written by a program) -/
set_option maxHeartbeats 4000000 in
theorem c_CP_turnOver_NPiece_l2 {Po : mP} {a0_ : Nat} (ha0 : rl a0_ = 33) : ∀ (n : Nat) (v1 : Int32), ∀ (P : mP), Typ P → KW [320] Po P → (0 ≤ v1.toInt) → (2147483647 - v1.toInt).toNat = n → MEvP 1 none q_31 2 [(0, .ref a0_), (1, .int v1)] [] P 0 0 (fun r P' => (r = none ∧ (True)) ∧ Typ P' ∧ KW [320] Po P' ∧ True) := by
  intro n
  induction n using Nat.strongRecOn with | _ n ih => ?_
  intro v1 P hT hK i_0 hm
  have w_v1 := ti_full v1
  refine mp_a (a_iload_n dX2_turnOver_2 rfl) (mpp 3 rfl ?_)
  refine mp_a (a_aload_n dX2_turnOver_3 rfl) (mpp 4 rfl ?_)
  refine mt_callv (i := 37) (q' := q_25) (As := []) (rest := [.int v1]) hT dX2_turnOver_4 rfl qm_25 (by decide) rfl ha0 (by decide) rfl (Nat.le_of_ble_eq_true rfl) rfl ⟨rfl, rfl⟩ ⟨Nat.le_of_ble_eq_true rfl, Nat.le_of_ble_eq_true rfl⟩ (EvP.mono (by decide) (c_CP_creaseCount_NPiece hT ha0)) (fun r1 P2 g3 => mpp 7 rfl ?_)
  obtain ⟨⟨x4, rfl, g5⟩, e6⟩ := g3
  have e6 := e6.symm
  subst e6
  have wx4 := ti_full x4
  have g5 : -1 ≤ x4.toInt ∧ x4.toInt ≤ (fv P a0_ 1).toInt := g5
  have g7 : (0 : Int) ≤ (fv P a0_ 1).toInt ∧ (fv P a0_ 1).toInt ≤ 8 := Typ.rng hT ha0 (by decide) (by decide) rfl
  show MEvP _ none q_31 7 [(0, .ref a0_), (1, .int v1)] [.int x4, .int v1] _ _ _ _
  refine mp_Tb (t := 47) (j_icmp_ge dX2_turnOver_7) (by decide) (fun c8 => ?_) (fun c8 => mpp 10 rfl ?_)
  · have c8 : v1.toInt ≥ x4.toInt := ti_ge c8
    exact mp_ret ⟨⟨rfl, trivial⟩, hT, hK, trivial⟩ dX2_turnOver_47 rfl
  · have c8 : v1.toInt < x4.toInt := ti_ge_n c8
    refine mp_a (a_aload_n dX2_turnOver_10 rfl) (mpp 11 rfl ?_)
    refine mt_getR (i := 15) (k := 4) hT dX2_turnOver_11 rfl ha0 (by decide) rfl (by decide) rfl (fun q9 => mpp 14 rfl ?_)
    generalize rv P a0_ 4 = b10 at q9 ⊢
    refine mp_a (a_iload_n dX2_turnOver_14 rfl) (mpp 15 rfl ?_)
    refine mp_calls (i := 48) (q' := q_12) (As := [.ref b10, .int v1]) (rest := []) dX2_turnOver_15 rfl qm_12 (by decide) rfl (Nat.le_of_ble_eq_true rfl) rfl ⟨rfl, rfl⟩ ⟨Nat.le_of_ble_eq_true rfl, Nat.le_of_ble_eq_true rfl⟩ (EvP.mono (by decide) (c_F_at_creases hT q9)) (fun r11 P12 g13 => mpp 18 rfl ?_)
    obtain ⟨⟨x14, rfl, g15⟩, e16⟩ := g13
    have e16 := e16.symm
    subst e16
    have wx14 := ti_full x14
    show MEvP _ none q_31 18 [(0, .ref a0_), (1, .int v1)] [.int x14] _ _ _ _
    refine mp_a (a_istore_n (L' := [(2, .int x14), (0, .ref a0_), (1, .int v1)]) dX2_turnOver_18 (by decide) rfl) (mpp 19 rfl ?_)
    refine mp_a (a_iload_n dX2_turnOver_19 rfl) (mpp 20 rfl ?_)
    refine mp_Tb (t := 41) (j_if_eq dX2_turnOver_20) (by decide) (fun c17 => ?_) (fun c17 => mpp 23 rfl ?_)
    · have c17 : x14.toInt = 0 := ti_eq c17
      obtain ⟨z18, h19⟩ := ti_ex (v1 + 1 : Int32)
      have wz18 := ti_full z18
      refine mp_a (a_iinc (v := z18) (L' := [(1, .int z18), (2, .int x14), (0, .ref a0_)]) dX2_turnOver_41 (by decide) rfl h19 rfl) (mpp 44 rfl ?_)
      try have e20 : z18.toInt = v1.toInt + 1 := ti_addz h19 rfl rfl (by omega) (by omega)
      refine mp_a (a_goto (t := 2) dX2_turnOver_44 (by decide)) ?_
      refine MEvP.less (L := [(0, .ref a0_), (1, .int z18)]) rfl rfl ⟨rfl, rfl, trivial⟩ ?_
      have i21 : 0 ≤ z18.toInt := by omega
      exact ih _ (by omega) _ P hT hK i21 rfl
    · have c17 : x14.toInt ≠ 0 := ti_eq_n c17
      refine mp_a (a_aload_n dX2_turnOver_23 rfl) (mpp 24 rfl ?_)
      refine mt_getR (i := 15) (k := 4) hT dX2_turnOver_24 rfl ha0 (by decide) rfl (by decide) rfl (fun q22 => mpp 27 rfl ?_)
      generalize rv P a0_ 4 = b23 at q22 ⊢
      refine mp_a (a_iload_n dX2_turnOver_27 rfl) (mpp 28 rfl ?_)
      refine mp_a (a_iload_n dX2_turnOver_28 rfl) (mpp 29 rfl ?_)
      refine mp_a (a_iconst (v := 1) dX2_turnOver_29 rfl) (mpp 30 rfl ?_)
      refine mp_Tb (t := 37) (j_icmp_ne dX2_turnOver_30) (by decide) (fun c24 => ?_) (fun c24 => mpp 33 rfl ?_)
      · have c24 : x14.toInt ≠ 1 := ti_ne c24
        refine mp_a (a_iconst (v := 1) dX2_turnOver_37 rfl) (mpp 38 rfl ?_)
        refine mp_calls (i := 29) (q' := q_22) (As := [.ref b23, .int v1, .int 1]) (rest := []) dX2_turnOver_38 rfl qm_22 (by decide) rfl (Nat.le_of_ble_eq_true rfl) rfl ⟨rfl, rfl⟩ ⟨Nat.le_of_ble_eq_true rfl, Nat.le_of_ble_eq_true rfl⟩ (EvP.mono (by decide) (c_F_put_creases hT q22)) (fun r25 P26 g27 => mpp 41 rfl ?_)
        obtain ⟨⟨rfl, g29⟩, hT30, k31, R32⟩ := g27
        have k33 : KW [320] Po P26 := KW.trans hK k31 rfl
        show MEvP _ none q_31 41 [(2, .int x14), (0, .ref a0_), (1, .int v1)] [] _ _ _ _
        obtain ⟨z34, h35⟩ := ti_ex (v1 + 1 : Int32)
        have wz34 := ti_full z34
        refine mp_a (a_iinc (v := z34) (L' := [(1, .int z34), (2, .int x14), (0, .ref a0_)]) dX2_turnOver_41 (by decide) rfl h35 rfl) (mpp 44 rfl ?_)
        try have e36 : z34.toInt = v1.toInt + 1 := ti_addz h35 rfl rfl (by omega) (by omega)
        refine mp_a (a_goto (t := 2) dX2_turnOver_44 (by decide)) ?_
        refine MEvP.less (L := [(0, .ref a0_), (1, .int z34)]) rfl rfl ⟨rfl, rfl, trivial⟩ ?_
        have i37 : 0 ≤ z34.toInt := by omega
        exact ih _ (by omega) _ P26 hT30 k33 i37 rfl
      · have c24 : x14.toInt = 1 := ti_ne_n c24
        refine mp_a (a_iconst (v := 2) dX2_turnOver_33 rfl) (mpp 34 rfl ?_)
        refine mp_a (a_goto (t := 38) dX2_turnOver_34 (by decide)) ?_
        refine mp_calls (i := 29) (q' := q_22) (As := [.ref b23, .int v1, .int 2]) (rest := []) dX2_turnOver_38 rfl qm_22 (by decide) rfl (Nat.le_of_ble_eq_true rfl) rfl ⟨rfl, rfl⟩ ⟨Nat.le_of_ble_eq_true rfl, Nat.le_of_ble_eq_true rfl⟩ (EvP.mono (by decide) (c_F_put_creases hT q22)) (fun r38 P39 g40 => mpp 41 rfl ?_)
        obtain ⟨⟨rfl, g42⟩, hT43, k44, R45⟩ := g40
        have k46 : KW [320] Po P39 := KW.trans hK k44 rfl
        show MEvP _ none q_31 41 [(2, .int x14), (0, .ref a0_), (1, .int v1)] [] _ _ _ _
        obtain ⟨z47, h48⟩ := ti_ex (v1 + 1 : Int32)
        have wz47 := ti_full z47
        refine mp_a (a_iinc (v := z47) (L' := [(1, .int z47), (2, .int x14), (0, .ref a0_)]) dX2_turnOver_41 (by decide) rfl h48 rfl) (mpp 44 rfl ?_)
        try have e49 : z47.toInt = v1.toInt + 1 := ti_addz h48 rfl rfl (by omega) (by omega)
        refine mp_a (a_goto (t := 2) dX2_turnOver_44 (by decide)) ?_
        refine MEvP.less (L := [(0, .ref a0_), (1, .int z47)]) rfl rfl ⟨rfl, rfl, trivial⟩ ?_
        have i50 : 0 ≤ z47.toInt := by omega
        exact ih _ (by omega) _ P39 hT43 k46 i50 rfl

set_option maxHeartbeats 4000000 in
theorem c_CP_turnOver_NPiece {Po : mP} {a0_ : Nat} (hT : Typ Po)  (ha0 : rl a0_ = 33) : EvP 2 31 [.ref a0_] Po (fun r P' => (r = none ∧ (True)) ∧ Typ P' ∧ KW [320] Po P' ∧ True) := by
  refine EvP.of qm_31 (Nat.le_of_ble_eq_true rfl) rfl ?_
  show MEvP _ none q_31 0 [(0, .ref a0_)] [] _ 0 0 _
  refine mp_a (a_iconst (v := 0) dX2_turnOver_0 rfl) (mpp 1 rfl ?_)
  refine mp_a (a_istore_n (L' := [(1, .int 0), (0, .ref a0_)]) dX2_turnOver_1 (by decide) rfl) (mpp 2 rfl ?_)
  refine MEvP.less (L := [(0, .ref a0_), (1, .int 0)]) rfl rfl ⟨rfl, rfl, trivial⟩ ?_
  have i1 : 0 ≤ (0 : Int) := by omega
  exact c_CP_turnOver_NPiece_l2  ha0 _ _ Po hT KW.refl i1 rfl

set_option maxHeartbeats 4000000 in
theorem c_CP_countOf_NPiece_l4 {Po : mP} {a0_ : Nat} {t1 : Int32} (hT : Typ Po)  (ha0 : rl a0_ = 33) : ∀ (n : Nat) (v2 : Int32) (v3 : Int32), (0 ≤ v2.toInt) → (v2.toInt ≤ v3.toInt) → (v3.toInt ≤ 8) → (0 ≤ v3.toInt) → (2147483647 - v3.toInt).toNat = n → MEvP 1 none q_32 4 [(0, .ref a0_), (1, .int t1), (2, .int v2), (3, .int v3)] [] Po 0 0 (fun r P' => (∃ x : Int32, r = some (.int x) ∧ (0 ≤ x.toInt ∧ x.toInt ≤ 8)) ∧ P' = Po) := by
  intro n
  induction n using Nat.strongRecOn with | _ n ih => ?_
  intro v2 v3 i_0 i_1 i_2 i_3 hm
  have w_t1 := ti_full t1
  have w_v2 := ti_full v2
  have w_v3 := ti_full v3
  refine mp_a (a_iload_n dX2_countOf_4 rfl) (mpp 5 rfl ?_)
  refine mp_a (a_aload_n dX2_countOf_5 rfl) (mpp 6 rfl ?_)
  refine mt_callv (i := 37) (q' := q_25) (As := []) (rest := [.int v3]) hT dX2_countOf_6 rfl qm_25 (by decide) rfl ha0 (by decide) rfl (Nat.le_of_ble_eq_true rfl) rfl ⟨rfl, rfl⟩ ⟨Nat.le_of_ble_eq_true rfl, Nat.le_of_ble_eq_true rfl⟩ (EvP.mono (by decide) (c_CP_creaseCount_NPiece hT ha0)) (fun r1 P2 g3 => mpp 9 rfl ?_)
  obtain ⟨⟨x4, rfl, g5⟩, e6⟩ := g3
  have e6 := e6.symm
  subst e6
  have wx4 := ti_full x4
  have g5 : -1 ≤ x4.toInt ∧ x4.toInt ≤ (fv Po a0_ 1).toInt := g5
  have g7 : (0 : Int) ≤ (fv Po a0_ 1).toInt ∧ (fv Po a0_ 1).toInt ≤ 8 := Typ.rng hT ha0 (by decide) (by decide) rfl
  show MEvP _ none q_32 9 [(0, .ref a0_), (1, .int t1), (2, .int v2), (3, .int v3)] [.int x4, .int v3] _ _ _ _
  refine mp_Tb (t := 33) (j_icmp_ge dX2_countOf_9) (by decide) (fun c8 => ?_) (fun c8 => mpp 12 rfl ?_)
  · have c8 : v3.toInt ≥ x4.toInt := ti_ge c8
    refine mp_a (a_iload_n dX2_countOf_33 rfl) (mpp 34 rfl ?_)
    have u9 : 0 ≤ v2.toInt ∧ v2.toInt ≤ 8 := by omega
    exact mp_iret ⟨⟨_, rfl, u9⟩, rfl⟩ dX2_countOf_34 (Or.inl rfl)
  · have c8 : v3.toInt < x4.toInt := ti_ge_n c8
    refine mp_a (a_aload_n dX2_countOf_12 rfl) (mpp 13 rfl ?_)
    refine mt_getR (i := 15) (k := 4) hT dX2_countOf_13 rfl ha0 (by decide) rfl (by decide) rfl (fun q10 => mpp 16 rfl ?_)
    generalize rv Po a0_ 4 = b11 at q10 ⊢
    refine mp_a (a_iload_n dX2_countOf_16 rfl) (mpp 17 rfl ?_)
    refine mp_calls (i := 48) (q' := q_12) (As := [.ref b11, .int v3]) (rest := []) dX2_countOf_17 rfl qm_12 (by decide) rfl (Nat.le_of_ble_eq_true rfl) rfl ⟨rfl, rfl⟩ ⟨Nat.le_of_ble_eq_true rfl, Nat.le_of_ble_eq_true rfl⟩ (EvP.mono (by decide) (c_F_at_creases hT q10)) (fun r12 P13 g14 => mpp 20 rfl ?_)
    obtain ⟨⟨x15, rfl, g16⟩, e17⟩ := g14
    have e17 := e17.symm
    subst e17
    have wx15 := ti_full x15
    show MEvP _ none q_32 20 [(0, .ref a0_), (1, .int t1), (2, .int v2), (3, .int v3)] [.int x15] _ _ _ _
    refine mp_a (a_iload_n dX2_countOf_20 rfl) (mpp 21 rfl ?_)
    refine mp_Tb (t := 27) (j_icmp_ne dX2_countOf_21) (by decide) (fun c18 => ?_) (fun c18 => mpp 24 rfl ?_)
    · have c18 : x15.toInt ≠ t1.toInt := ti_ne c18
      obtain ⟨z19, h20⟩ := ti_ex (v3 + 1 : Int32)
      have wz19 := ti_full z19
      refine mp_a (a_iinc (v := z19) (L' := [(3, .int z19), (0, .ref a0_), (1, .int t1), (2, .int v2)]) dX2_countOf_27 (by decide) rfl h20 rfl) (mpp 30 rfl ?_)
      try have e21 : z19.toInt = v3.toInt + 1 := ti_addz h20 rfl rfl (by omega) (by omega)
      refine mp_a (a_goto (t := 4) dX2_countOf_30 (by decide)) ?_
      refine MEvP.less (L := [(0, .ref a0_), (1, .int t1), (2, .int v2), (3, .int z19)]) rfl rfl ⟨rfl, rfl, rfl, rfl, trivial⟩ ?_
      have i22 : 0 ≤ v2.toInt := by omega
      have i23 : v2.toInt ≤ z19.toInt := by omega
      have i24 : z19.toInt ≤ 8 := by omega
      have i25 : 0 ≤ z19.toInt := by omega
      exact ih _ (by omega) _ _ i22 i23 i24 i25 rfl
    · have c18 : x15.toInt = t1.toInt := ti_ne_n c18
      obtain ⟨z26, h27⟩ := ti_ex (v2 + 1 : Int32)
      have wz26 := ti_full z26
      refine mp_a (a_iinc (v := z26) (L' := [(2, .int z26), (0, .ref a0_), (1, .int t1), (3, .int v3)]) dX2_countOf_24 (by decide) rfl h27 rfl) (mpp 27 rfl ?_)
      try have e28 : z26.toInt = v2.toInt + 1 := ti_addz h27 rfl rfl (by omega) (by omega)
      obtain ⟨z29, h30⟩ := ti_ex (v3 + 1 : Int32)
      have wz29 := ti_full z29
      refine mp_a (a_iinc (v := z29) (L' := [(3, .int z29), (2, .int z26), (0, .ref a0_), (1, .int t1)]) dX2_countOf_27 (by decide) rfl h30 rfl) (mpp 30 rfl ?_)
      try have e31 : z29.toInt = v3.toInt + 1 := ti_addz h30 rfl rfl (by omega) (by omega)
      refine mp_a (a_goto (t := 4) dX2_countOf_30 (by decide)) ?_
      refine MEvP.less (L := [(0, .ref a0_), (1, .int t1), (2, .int z26), (3, .int z29)]) rfl rfl ⟨rfl, rfl, rfl, rfl, trivial⟩ ?_
      have i32 : 0 ≤ z26.toInt := by omega
      have i33 : z26.toInt ≤ z29.toInt := by omega
      have i34 : z29.toInt ≤ 8 := by omega
      have i35 : 0 ≤ z29.toInt := by omega
      exact ih _ (by omega) _ _ i32 i33 i34 i35 rfl

set_option maxHeartbeats 4000000 in
theorem c_CP_countOf_NPiece {Po : mP} {a0_ : Nat} {t1 : Int32} (hT : Typ Po)  (ha0 : rl a0_ = 33) : EvP 2 32 [.ref a0_, .int t1] Po (fun r P' => (∃ x : Int32, r = some (.int x) ∧ (0 ≤ x.toInt ∧ x.toInt ≤ 8)) ∧ P' = Po) := by
  refine EvP.of qm_32 (Nat.le_of_ble_eq_true rfl) rfl ?_
  show MEvP _ none q_32 0 [(0, .ref a0_), (1, .int t1)] [] _ 0 0 _
  refine mp_a (a_iconst (v := 0) dX2_countOf_0 rfl) (mpp 1 rfl ?_)
  refine mp_a (a_istore_n (L' := [(2, .int 0), (0, .ref a0_), (1, .int t1)]) dX2_countOf_1 (by decide) rfl) (mpp 2 rfl ?_)
  refine mp_a (a_iconst (v := 0) dX2_countOf_2 rfl) (mpp 3 rfl ?_)
  refine mp_a (a_istore_n (L' := [(3, .int 0), (2, .int 0), (0, .ref a0_), (1, .int t1)]) dX2_countOf_3 (by decide) rfl) (mpp 4 rfl ?_)
  refine MEvP.less (L := [(0, .ref a0_), (1, .int t1), (2, .int 0), (3, .int 0)]) rfl rfl ⟨rfl, rfl, rfl, rfl, trivial⟩ ?_
  have i1 : 0 ≤ (0 : Int) := by omega
  have i2 : (0 : Int) ≤ (0 : Int) := by omega
  have i3 : (0 : Int) ≤ 8 := by omega
  have i4 : 0 ≤ (0 : Int) := by omega
  exact c_CP_countOf_NPiece_l4 hT  ha0 _ _ _ i1 i2 i3 i4 rfl

set_option maxHeartbeats 4000000 in
theorem c_F_turn {Po : mP} {t1 : Int32} (hT : Typ Po)   : EvP 5 30 [.ref 0, .int t1] Po (fun r P' => (∃ x : Int32, r = some (.int x) ∧ (True)) ∧ Typ P' ∧ KW [10, 11, 12, 65, 66, 67, 192, 193, 194, 256, 320, 385, 386] Po P' ∧ True) := by
  refine EvP.of qm_30 (Nat.le_of_ble_eq_true rfl) rfl ?_
  show MEvP _ none q_30 0 [(0, .ref 0), (1, .int t1)] [] _ 0 0 _
  refine mp_a (a_aload_n dX6_turn_0 rfl) (mpp 1 rfl ?_)
  refine mt_getU (i := 10) (k := 0) (A := 1) hT dX6_turn_1 rfl rl_0 (by decide) rfl (by decide) rfl un_31 (mpp 4 rfl ?_)
  refine mp_a (a_iload_n dX6_turn_4 rfl) (mpp 5 rfl ?_)
  refine mt_callv (i := 94) (q' := q_9) (As := [.int t1]) (rest := []) hT dX6_turn_5 rfl qm_9 (by decide) rfl rl_1 (by decide) rfl (Nat.le_of_ble_eq_true rfl) rfl ⟨rfl, rfl⟩ ⟨Nat.le_of_ble_eq_true rfl, Nat.le_of_ble_eq_true rfl⟩ (EvP.mono (by decide) (c_CS_pieceAt_NState hT )) (fun r1 P2 g3 => mpp 8 rfl ?_)
  obtain ⟨g3, e4⟩ := g3
  have e4 := e4.symm
  subst e4
  rcases g3 with rfl | ⟨b5, rfl, q6, q6r⟩
  · show MEvP _ none q_30 8 [(0, .ref 0), (1, .int t1)] [.null] _ _ _ _
    refine mp_a (a_astore_nN (L' := [(2, .null), (0, .ref 0), (1, .int t1)]) dX6_turn_8 (by decide) rfl) (mpp 9 rfl ?_)
    refine mp_a (a_aload_nN dX6_turn_9 rfl) (mpp 10 rfl ?_)
    refine mp_t (s_ifnonnullN dX6_turn_10) (mpp 13 rfl ?_)
    refine mp_a (a_sipush (v := -1001) dX6_turn_13 rfl) (mpp 16 rfl ?_)
    exact mp_iret ⟨⟨_, rfl, trivial⟩, hT, KW.refl, trivial⟩ dX6_turn_16 (Or.inl rfl)
  · show MEvP _ none q_30 8 [(0, .ref 0), (1, .int t1)] [.ref b5] _ _ _ _
    refine mp_a (a_astore_n (L' := [(2, .ref b5), (0, .ref 0), (1, .int t1)]) dX6_turn_8 (by decide) rfl) (mpp 9 rfl ?_)
    refine mp_a (a_aload_n dX6_turn_9 rfl) (mpp 10 rfl ?_)
    refine mp_t (s_ifnonnullR (t := 17) dX6_turn_10 (by decide)) ?_
    refine mp_a (a_aload_n dX6_turn_17 rfl) (mpp 18 rfl ?_)
    have g7 : (0 : Int) ≤ (fv Po b5 2).toInt ∧ (fv Po b5 2).toInt ≤ 1 := Typ.rng hT q6 (by decide) (by decide) rfl
    refine mt_getI (i := 104) (k := 2) hT dX6_turn_18 rfl q6 (by decide) rfl (by decide) rfl (fun g8 g9 => mpp 21 rfl ?_)
    refine mp_Tb (t := 31) (j_if_eq dX6_turn_21) (by decide) (fun c10 => ?_) (fun c10 => mpp 24 rfl ?_)
    · have c10 : (fv Po b5 2).toInt = 0 := ti_eq c10
      refine mp_a (a_aload_n dX6_turn_31 rfl) (mpp 32 rfl ?_)
      refine mt_getU (i := 25) (k := 3) (A := 79) hT dX6_turn_32 rfl rl_0 (by decide) rfl (by decide) rfl un_6 (mpp 35 rfl ?_)
      refine mp_a (a_aload_n dX6_turn_35 rfl) (mpp 36 rfl ?_)
      refine mt_getU (i := 10) (k := 0) (A := 1) hT dX6_turn_36 rfl rl_0 (by decide) rfl (by decide) rfl un_31 (mpp 39 rfl ?_)
      refine mt_callv (i := 72) (q' := q_15) (As := [.ref 1]) (rest := []) hT dX6_turn_39 rfl qm_15 (by decide) rfl rl_79 (by decide) rfl (Nat.le_of_ble_eq_true rfl) rfl ⟨rfl, rfl⟩ ⟨Nat.le_of_ble_eq_true rfl, Nat.le_of_ble_eq_true rfl⟩ (EvP.mono (by decide) (c_CH_push_History_NState hT )) (fun r11 P12 g13 => mpp 42 rfl ?_)
      obtain ⟨⟨rfl, g15⟩, hT16, k17, R18⟩ := g13
      have k19 : KW [10, 11, 12, 65, 66, 67, 192, 193, 194, 256, 320, 385, 386] Po P12 := KW.trans KW.refl k17 rfl
      show MEvP _ none q_30 42 [(2, .ref b5), (0, .ref 0), (1, .int t1)] [] _ _ _ _
      refine mp_a (a_aload_n dX6_turn_42 rfl) (mpp 43 rfl ?_)
      refine mt_callv (i := 120) (q' := q_31) (As := []) (rest := []) hT16 dX6_turn_43 rfl qm_31 (by decide) rfl q6 (by decide) rfl (Nat.le_of_ble_eq_true rfl) rfl ⟨rfl, rfl⟩ ⟨Nat.le_of_ble_eq_true rfl, Nat.le_of_ble_eq_true rfl⟩ (EvP.mono (by decide) (c_CP_turnOver_NPiece hT16 q6)) (fun r20 P21 g22 => mpp 46 rfl ?_)
      obtain ⟨⟨rfl, g24⟩, hT25, k26, R27⟩ := g22
      have k28 : KW [10, 11, 12, 65, 66, 67, 192, 193, 194, 256, 320, 385, 386] Po P21 := KW.trans k19 k26 rfl
      show MEvP _ none q_30 46 [(2, .ref b5), (0, .ref 0), (1, .int t1)] [] _ _ _ _
      refine mp_a (a_aload_n dX6_turn_46 rfl) (mpp 47 rfl ?_)
      refine mt_callv (i := 123) (q' := q_25) (As := []) (rest := []) hT25 dX6_turn_47 rfl qm_25 (by decide) rfl q6 (by decide) rfl (Nat.le_of_ble_eq_true rfl) rfl ⟨rfl, rfl⟩ ⟨Nat.le_of_ble_eq_true rfl, Nat.le_of_ble_eq_true rfl⟩ (EvP.mono (by decide) (c_CP_creaseCount_NPiece hT25 q6)) (fun r29 P30 g31 => mpp 50 rfl ?_)
      obtain ⟨⟨x32, rfl, g33⟩, e34⟩ := g31
      have e34 := e34.symm
      subst e34
      have wx32 := ti_full x32
      have g33 : -1 ≤ x32.toInt ∧ x32.toInt ≤ (fv P21 b5 1).toInt := g33
      have g35 : (0 : Int) ≤ (fv P21 b5 1).toInt ∧ (fv P21 b5 1).toInt ≤ 8 := Typ.rng hT25 q6 (by decide) (by decide) rfl
      show MEvP _ none q_30 50 [(2, .ref b5), (0, .ref 0), (1, .int t1)] [.int x32] _ _ _ _
      refine mp_a (a_aload_n dX6_turn_50 rfl) (mpp 51 rfl ?_)
      refine mp_a (a_iconst (v := 0) dX6_turn_51 rfl) (mpp 52 rfl ?_)
      refine mt_callv (i := 126) (q' := q_32) (As := [.int 0]) (rest := [.int x32]) hT25 dX6_turn_52 rfl qm_32 (by decide) rfl q6 (by decide) rfl (Nat.le_of_ble_eq_true rfl) rfl ⟨rfl, rfl⟩ ⟨Nat.le_of_ble_eq_true rfl, Nat.le_of_ble_eq_true rfl⟩ (EvP.mono (by decide) (c_CP_countOf_NPiece hT25 q6)) (fun r36 P37 g38 => mpp 55 rfl ?_)
      obtain ⟨⟨x39, rfl, g40⟩, e41⟩ := g38
      have e41 := e41.symm
      subst e41
      have wx39 := ti_full x39
      have g40 : 0 ≤ x39.toInt ∧ x39.toInt ≤ 8 := g40
      show MEvP _ none q_30 55 [(2, .ref b5), (0, .ref 0), (1, .int t1)] [.int x39, .int x32] _ _ _ _
      obtain ⟨z42, h43⟩ := ti_ex (x32 - x39 : Int32)
      have wz42 := ti_full z42
      refine mp_t (s_isub (v := z42) dX6_turn_55 h43) (mpp 56 rfl ?_)
      try have e44 : z42.toInt = x32.toInt - x39.toInt := ti_subz h43 rfl rfl (by omega) (by omega)
      exact mp_iret ⟨⟨_, rfl, trivial⟩, hT25, k28, trivial⟩ dX6_turn_56 (Or.inl rfl)
    · have c10 : (fv Po b5 2).toInt ≠ 0 := ti_eq_n c10
      refine mp_a (a_aload_n dX6_turn_24 rfl) (mpp 25 rfl ?_)
      refine mp_a (a_iconst (v := 2) dX6_turn_25 rfl) (mpp 26 rfl ?_)
      refine mp_a (a_iload_n dX6_turn_26 rfl) (mpp 27 rfl ?_)
      refine mt_callv (i := 68) (q' := q_14) (As := [.int 2, .int t1]) (rest := []) hT dX6_turn_27 rfl qm_14 (by decide) rfl rl_0 (by decide) rfl (Nat.le_of_ble_eq_true rfl) rfl ⟨rfl, rfl⟩ ⟨Nat.le_of_ble_eq_true rfl, Nat.le_of_ble_eq_true rfl⟩ (EvP.mono (by decide) (c_F_refuse hT )) (fun r45 P46 g47 => mpp 30 rfl ?_)
      obtain ⟨⟨x48, rfl, g49⟩, hT50, k51, R52⟩ := g47
      have k53 : KW [10, 11, 12, 65, 66, 67, 192, 193, 194, 256, 320, 385, 386] Po P46 := KW.trans KW.refl k51 rfl
      have wx48 := ti_full x48
      show MEvP _ none q_30 30 [(2, .ref b5), (0, .ref 0), (1, .int t1)] [.int x48] _ _ _ _
      exact mp_iret ⟨⟨_, rfl, trivial⟩, hT50, k53, trivial⟩ dX6_turn_30 (Or.inl rfl)

set_option maxHeartbeats 4000000 in
theorem c_CP_becomeRotated_NPiece_Piece_l2 {Po : mP} {a0_ : Nat} {a1_ : Nat} {t2 : Int32} (ha0 : rl a0_ = 33) (ha1 : rl a1_ = 3) : ∀ (n : Nat) (v3 : Int32), ∀ (P : mP), Typ P → KW [256, 320] Po P → (0 ≤ v3.toInt) → (2147483647 - v3.toInt).toNat = n → MEvP 1 none q_34 2 [(0, .ref a0_), (1, .ref a1_), (2, .int t2), (3, .int v3)] [] P 0 0 (fun r P' => (r = none ∧ (True)) ∧ Typ P' ∧ KW [256, 320] Po P' ∧ True) := by
  intro n
  induction n using Nat.strongRecOn with | _ n ih => ?_
  intro v3 P hT hK i_0 hm
  have w_t2 := ti_full t2
  have w_v3 := ti_full v3
  refine mp_a (a_iload_n dX2_becomeRotated_2 rfl) (mpp 3 rfl ?_)
  refine mp_a (a_aload_n dX2_becomeRotated_3 rfl) (mpp 4 rfl ?_)
  have g1 : (0 : Int) ≤ (fv P a0_ 1).toInt ∧ (fv P a0_ 1).toInt ≤ 8 := Typ.rng hT ha0 (by decide) (by decide) rfl
  refine mt_getI (i := 26) (k := 1) hT dX2_becomeRotated_4 rfl ha0 (by decide) rfl (by decide) rfl (fun g2 g3 => mpp 7 rfl ?_)
  refine mp_Tb (t := 76) (j_icmp_ge dX2_becomeRotated_7) (by decide) (fun c4 => ?_) (fun c4 => mpp 10 rfl ?_)
  · have c4 : v3.toInt ≥ (fv P a0_ 1).toInt := ti_ge c4
    exact mp_ret ⟨⟨rfl, trivial⟩, hT, hK, trivial⟩ dX2_becomeRotated_76 rfl
  · have c4 : v3.toInt < (fv P a0_ 1).toInt := ti_ge_n c4
    refine mp_a (a_iload_n dX2_becomeRotated_10 rfl) (mpp 11 rfl ?_)
    refine mp_a (a_iload_n dX2_becomeRotated_11 rfl) (mpp 12 rfl ?_)
    obtain ⟨z5, h6⟩ := ti_ex (t2 + v3 : Int32)
    have wz5 := ti_full z5
    refine mp_t (s_iadd (v := z5) dX2_becomeRotated_12 h6) (mpp 13 rfl ?_)
    try have e7 : z5.toInt = t2.toInt + v3.toInt := ti_addz h6 rfl rfl (by omega) (by omega)
    refine mp_a (a_aload_n dX2_becomeRotated_13 rfl) (mpp 14 rfl ?_)
    refine mt_getI (i := 26) (k := 1) hT dX2_becomeRotated_14 rfl ha0 (by decide) rfl (by decide) rfl (fun g8 g9 => mpp 17 rfl ?_)
    refine mp_Tb (t := 26) (j_icmp_ge dX2_becomeRotated_17) (by decide) (fun c10 => ?_) (fun c10 => mpp 20 rfl ?_)
    · have c10 : z5.toInt ≥ (fv P a0_ 1).toInt := ti_ge c10
      refine mp_a (a_iload_n dX2_becomeRotated_26 rfl) (mpp 27 rfl ?_)
      refine mp_a (a_iload_n dX2_becomeRotated_27 rfl) (mpp 28 rfl ?_)
      obtain ⟨z11, h12⟩ := ti_ex (t2 + v3 : Int32)
      have wz11 := ti_full z11
      refine mp_t (s_iadd (v := z11) dX2_becomeRotated_28 h12) (mpp 29 rfl ?_)
      try have e13 : z11.toInt = t2.toInt + v3.toInt := ti_addz h12 rfl rfl (by omega) (by omega)
      refine mp_a (a_aload_n dX2_becomeRotated_29 rfl) (mpp 30 rfl ?_)
      refine mt_getI (i := 26) (k := 1) hT dX2_becomeRotated_30 rfl ha0 (by decide) rfl (by decide) rfl (fun g14 g15 => mpp 33 rfl ?_)
      obtain ⟨z16, h17⟩ := ti_ex (z11 - (fv P a0_ 1) : Int32)
      have wz16 := ti_full z16
      refine mp_t (s_isub (v := z16) dX2_becomeRotated_33 h17) (mpp 34 rfl ?_)
      try have e18 : z16.toInt = z11.toInt - (fv P a0_ 1).toInt := ti_subz h17 rfl rfl (by omega) (by omega)
      refine mp_a (a_istore (L' := [(4, .int z16), (0, .ref a0_), (1, .ref a1_), (2, .int t2), (3, .int v3)]) dX2_becomeRotated_34 (by decide) rfl) (mpp 36 rfl ?_)
      refine mp_a (a_aload_n dX2_becomeRotated_36 rfl) (mpp 37 rfl ?_)
      refine mt_getR (i := 9) (k := 3) hT dX2_becomeRotated_37 rfl ha0 (by decide) rfl (by decide) rfl (fun q19 => mpp 40 rfl ?_)
      generalize rv P a0_ 3 = b20 at q19 ⊢
      refine mp_a (a_iload_n dX2_becomeRotated_40 rfl) (mpp 41 rfl ?_)
      refine mp_a (a_aload_n dX2_becomeRotated_41 rfl) (mpp 42 rfl ?_)
      refine mt_getR (i := 9) (k := 3) hT dX2_becomeRotated_42 rfl ha1 (by decide) rfl (by decide) rfl (fun q21 => mpp 45 rfl ?_)
      generalize rv P a1_ 3 = b22 at q21 ⊢
      refine mp_a (a_iload dX2_becomeRotated_45 rfl) (mpp 47 rfl ?_)
      refine mp_calls (i := 48) (q' := q_12) (As := [.ref b22, .int z16]) (rest := [.int v3, .ref b20]) dX2_becomeRotated_47 rfl qm_12 (by decide) rfl (Nat.le_of_ble_eq_true rfl) rfl ⟨rfl, rfl⟩ ⟨Nat.le_of_ble_eq_true rfl, Nat.le_of_ble_eq_true rfl⟩ (EvP.mono (by decide) (c_F_at_sizes hT q21)) (fun r23 P24 g25 => mpp 50 rfl ?_)
      obtain ⟨⟨x26, rfl, g27⟩, e28⟩ := g25
      have e28 := e28.symm
      subst e28
      have wx26 := ti_full x26
      show MEvP _ none q_34 50 [(4, .int z16), (0, .ref a0_), (1, .ref a1_), (2, .int t2), (3, .int v3)] [.int x26, .int v3, .ref b20] _ _ _ _
      refine mp_calls (i := 29) (q' := q_22) (As := [.ref b20, .int v3, .int x26]) (rest := []) dX2_becomeRotated_50 rfl qm_22 (by decide) rfl (Nat.le_of_ble_eq_true rfl) rfl ⟨rfl, rfl⟩ ⟨Nat.le_of_ble_eq_true rfl, Nat.le_of_ble_eq_true rfl⟩ (EvP.mono (by decide) (c_F_put_sizes hT q19)) (fun r29 P30 g31 => mpp 53 rfl ?_)
      obtain ⟨⟨rfl, g33⟩, hT34, k35, R36⟩ := g31
      have k37 : KW [256, 320] Po P30 := KW.trans hK k35 rfl
      show MEvP _ none q_34 53 [(4, .int z16), (0, .ref a0_), (1, .ref a1_), (2, .int t2), (3, .int v3)] [] _ _ _ _
      refine mp_a (a_aload_n dX2_becomeRotated_53 rfl) (mpp 54 rfl ?_)
      refine mt_getR (i := 15) (k := 4) hT34 dX2_becomeRotated_54 rfl ha0 (by decide) rfl (by decide) rfl (fun q38 => mpp 57 rfl ?_)
      generalize rv P30 a0_ 4 = b39 at q38 ⊢
      refine mp_a (a_iload_n dX2_becomeRotated_57 rfl) (mpp 58 rfl ?_)
      refine mp_a (a_aload_n dX2_becomeRotated_58 rfl) (mpp 59 rfl ?_)
      refine mt_getR (i := 15) (k := 4) hT34 dX2_becomeRotated_59 rfl ha1 (by decide) rfl (by decide) rfl (fun q40 => mpp 62 rfl ?_)
      generalize rv P30 a1_ 4 = b41 at q40 ⊢
      refine mp_a (a_iload dX2_becomeRotated_62 rfl) (mpp 64 rfl ?_)
      refine mp_calls (i := 48) (q' := q_12) (As := [.ref b41, .int z16]) (rest := [.int v3, .ref b39]) dX2_becomeRotated_64 rfl qm_12 (by decide) rfl (Nat.le_of_ble_eq_true rfl) rfl ⟨rfl, rfl⟩ ⟨Nat.le_of_ble_eq_true rfl, Nat.le_of_ble_eq_true rfl⟩ (EvP.mono (by decide) (c_F_at_creases hT34 q40)) (fun r42 P43 g44 => mpp 67 rfl ?_)
      obtain ⟨⟨x45, rfl, g46⟩, e47⟩ := g44
      have e47 := e47.symm
      subst e47
      have wx45 := ti_full x45
      show MEvP _ none q_34 67 [(4, .int z16), (0, .ref a0_), (1, .ref a1_), (2, .int t2), (3, .int v3)] [.int x45, .int v3, .ref b39] _ _ _ _
      refine mp_calls (i := 29) (q' := q_22) (As := [.ref b39, .int v3, .int x45]) (rest := []) dX2_becomeRotated_67 rfl qm_22 (by decide) rfl (Nat.le_of_ble_eq_true rfl) rfl ⟨rfl, rfl⟩ ⟨Nat.le_of_ble_eq_true rfl, Nat.le_of_ble_eq_true rfl⟩ (EvP.mono (by decide) (c_F_put_creases hT34 q38)) (fun r48 P49 g50 => mpp 70 rfl ?_)
      obtain ⟨⟨rfl, g52⟩, hT53, k54, R55⟩ := g50
      have k56 : KW [256, 320] Po P49 := KW.trans k37 k54 rfl
      show MEvP _ none q_34 70 [(4, .int z16), (0, .ref a0_), (1, .ref a1_), (2, .int t2), (3, .int v3)] [] _ _ _ _
      obtain ⟨z57, h58⟩ := ti_ex (v3 + 1 : Int32)
      have wz57 := ti_full z57
      refine mp_a (a_iinc (v := z57) (L' := [(3, .int z57), (4, .int z16), (0, .ref a0_), (1, .ref a1_), (2, .int t2)]) dX2_becomeRotated_70 (by decide) rfl h58 rfl) (mpp 73 rfl ?_)
      try have e59 : z57.toInt = v3.toInt + 1 := ti_addz h58 rfl rfl (by omega) (by omega)
      refine mp_a (a_goto (t := 2) dX2_becomeRotated_73 (by decide)) ?_
      refine MEvP.less (L := [(0, .ref a0_), (1, .ref a1_), (2, .int t2), (3, .int z57)]) rfl rfl ⟨rfl, rfl, rfl, rfl, trivial⟩ ?_
      have i60 : 0 ≤ z57.toInt := by omega
      exact ih _ (by omega) _ P49 hT53 k56 i60 rfl
    · have c10 : z5.toInt < (fv P a0_ 1).toInt := ti_ge_n c10
      refine mp_a (a_iload_n dX2_becomeRotated_20 rfl) (mpp 21 rfl ?_)
      refine mp_a (a_iload_n dX2_becomeRotated_21 rfl) (mpp 22 rfl ?_)
      obtain ⟨z61, h62⟩ := ti_ex (t2 + v3 : Int32)
      have wz61 := ti_full z61
      refine mp_t (s_iadd (v := z61) dX2_becomeRotated_22 h62) (mpp 23 rfl ?_)
      try have e63 : z61.toInt = t2.toInt + v3.toInt := ti_addz h62 rfl rfl (by omega) (by omega)
      refine mp_a (a_goto (t := 34) dX2_becomeRotated_23 (by decide)) ?_
      refine mp_a (a_istore (L' := [(4, .int z61), (0, .ref a0_), (1, .ref a1_), (2, .int t2), (3, .int v3)]) dX2_becomeRotated_34 (by decide) rfl) (mpp 36 rfl ?_)
      refine mp_a (a_aload_n dX2_becomeRotated_36 rfl) (mpp 37 rfl ?_)
      refine mt_getR (i := 9) (k := 3) hT dX2_becomeRotated_37 rfl ha0 (by decide) rfl (by decide) rfl (fun q64 => mpp 40 rfl ?_)
      generalize rv P a0_ 3 = b65 at q64 ⊢
      refine mp_a (a_iload_n dX2_becomeRotated_40 rfl) (mpp 41 rfl ?_)
      refine mp_a (a_aload_n dX2_becomeRotated_41 rfl) (mpp 42 rfl ?_)
      refine mt_getR (i := 9) (k := 3) hT dX2_becomeRotated_42 rfl ha1 (by decide) rfl (by decide) rfl (fun q66 => mpp 45 rfl ?_)
      generalize rv P a1_ 3 = b67 at q66 ⊢
      refine mp_a (a_iload dX2_becomeRotated_45 rfl) (mpp 47 rfl ?_)
      refine mp_calls (i := 48) (q' := q_12) (As := [.ref b67, .int z61]) (rest := [.int v3, .ref b65]) dX2_becomeRotated_47 rfl qm_12 (by decide) rfl (Nat.le_of_ble_eq_true rfl) rfl ⟨rfl, rfl⟩ ⟨Nat.le_of_ble_eq_true rfl, Nat.le_of_ble_eq_true rfl⟩ (EvP.mono (by decide) (c_F_at_sizes hT q66)) (fun r68 P69 g70 => mpp 50 rfl ?_)
      obtain ⟨⟨x71, rfl, g72⟩, e73⟩ := g70
      have e73 := e73.symm
      subst e73
      have wx71 := ti_full x71
      show MEvP _ none q_34 50 [(4, .int z61), (0, .ref a0_), (1, .ref a1_), (2, .int t2), (3, .int v3)] [.int x71, .int v3, .ref b65] _ _ _ _
      refine mp_calls (i := 29) (q' := q_22) (As := [.ref b65, .int v3, .int x71]) (rest := []) dX2_becomeRotated_50 rfl qm_22 (by decide) rfl (Nat.le_of_ble_eq_true rfl) rfl ⟨rfl, rfl⟩ ⟨Nat.le_of_ble_eq_true rfl, Nat.le_of_ble_eq_true rfl⟩ (EvP.mono (by decide) (c_F_put_sizes hT q64)) (fun r74 P75 g76 => mpp 53 rfl ?_)
      obtain ⟨⟨rfl, g78⟩, hT79, k80, R81⟩ := g76
      have k82 : KW [256, 320] Po P75 := KW.trans hK k80 rfl
      show MEvP _ none q_34 53 [(4, .int z61), (0, .ref a0_), (1, .ref a1_), (2, .int t2), (3, .int v3)] [] _ _ _ _
      refine mp_a (a_aload_n dX2_becomeRotated_53 rfl) (mpp 54 rfl ?_)
      refine mt_getR (i := 15) (k := 4) hT79 dX2_becomeRotated_54 rfl ha0 (by decide) rfl (by decide) rfl (fun q83 => mpp 57 rfl ?_)
      generalize rv P75 a0_ 4 = b84 at q83 ⊢
      refine mp_a (a_iload_n dX2_becomeRotated_57 rfl) (mpp 58 rfl ?_)
      refine mp_a (a_aload_n dX2_becomeRotated_58 rfl) (mpp 59 rfl ?_)
      refine mt_getR (i := 15) (k := 4) hT79 dX2_becomeRotated_59 rfl ha1 (by decide) rfl (by decide) rfl (fun q85 => mpp 62 rfl ?_)
      generalize rv P75 a1_ 4 = b86 at q85 ⊢
      refine mp_a (a_iload dX2_becomeRotated_62 rfl) (mpp 64 rfl ?_)
      refine mp_calls (i := 48) (q' := q_12) (As := [.ref b86, .int z61]) (rest := [.int v3, .ref b84]) dX2_becomeRotated_64 rfl qm_12 (by decide) rfl (Nat.le_of_ble_eq_true rfl) rfl ⟨rfl, rfl⟩ ⟨Nat.le_of_ble_eq_true rfl, Nat.le_of_ble_eq_true rfl⟩ (EvP.mono (by decide) (c_F_at_creases hT79 q85)) (fun r87 P88 g89 => mpp 67 rfl ?_)
      obtain ⟨⟨x90, rfl, g91⟩, e92⟩ := g89
      have e92 := e92.symm
      subst e92
      have wx90 := ti_full x90
      show MEvP _ none q_34 67 [(4, .int z61), (0, .ref a0_), (1, .ref a1_), (2, .int t2), (3, .int v3)] [.int x90, .int v3, .ref b84] _ _ _ _
      refine mp_calls (i := 29) (q' := q_22) (As := [.ref b84, .int v3, .int x90]) (rest := []) dX2_becomeRotated_67 rfl qm_22 (by decide) rfl (Nat.le_of_ble_eq_true rfl) rfl ⟨rfl, rfl⟩ ⟨Nat.le_of_ble_eq_true rfl, Nat.le_of_ble_eq_true rfl⟩ (EvP.mono (by decide) (c_F_put_creases hT79 q83)) (fun r93 P94 g95 => mpp 70 rfl ?_)
      obtain ⟨⟨rfl, g97⟩, hT98, k99, R100⟩ := g95
      have k101 : KW [256, 320] Po P94 := KW.trans k82 k99 rfl
      show MEvP _ none q_34 70 [(4, .int z61), (0, .ref a0_), (1, .ref a1_), (2, .int t2), (3, .int v3)] [] _ _ _ _
      obtain ⟨z102, h103⟩ := ti_ex (v3 + 1 : Int32)
      have wz102 := ti_full z102
      refine mp_a (a_iinc (v := z102) (L' := [(3, .int z102), (4, .int z61), (0, .ref a0_), (1, .ref a1_), (2, .int t2)]) dX2_becomeRotated_70 (by decide) rfl h103 rfl) (mpp 73 rfl ?_)
      try have e104 : z102.toInt = v3.toInt + 1 := ti_addz h103 rfl rfl (by omega) (by omega)
      refine mp_a (a_goto (t := 2) dX2_becomeRotated_73 (by decide)) ?_
      refine MEvP.less (L := [(0, .ref a0_), (1, .ref a1_), (2, .int t2), (3, .int z102)]) rfl rfl ⟨rfl, rfl, rfl, rfl, trivial⟩ ?_
      have i105 : 0 ≤ z102.toInt := by omega
      exact ih _ (by omega) _ P94 hT98 k101 i105 rfl

set_option maxHeartbeats 4000000 in
theorem c_CP_becomeRotated_NPiece_Piece {Po : mP} {a0_ : Nat} {a1_ : Nat} {t2 : Int32} (hT : Typ Po)  (ha0 : rl a0_ = 33) (ha1 : rl a1_ = 3) : EvP 2 34 [.ref a0_, .ref a1_, .int t2] Po (fun r P' => (r = none ∧ (True)) ∧ Typ P' ∧ KW [256, 320] Po P' ∧ True) := by
  refine EvP.of qm_34 (Nat.le_of_ble_eq_true rfl) rfl ?_
  show MEvP _ none q_34 0 [(0, .ref a0_), (1, .ref a1_), (2, .int t2)] [] _ 0 0 _
  refine mp_a (a_iconst (v := 0) dX2_becomeRotated_0 rfl) (mpp 1 rfl ?_)
  refine mp_a (a_istore_n (L' := [(3, .int 0), (0, .ref a0_), (1, .ref a1_), (2, .int t2)]) dX2_becomeRotated_1 (by decide) rfl) (mpp 2 rfl ?_)
  refine MEvP.less (L := [(0, .ref a0_), (1, .ref a1_), (2, .int t2), (3, .int 0)]) rfl rfl ⟨rfl, rfl, rfl, rfl, trivial⟩ ?_
  have i1 : 0 ≤ (0 : Int) := by omega
  exact c_CP_becomeRotated_NPiece_Piece_l2  ha0 ha1 _ _ Po hT KW.refl i1 rfl

set_option maxHeartbeats 4000000 in
theorem c_CP_sizesAsNumber_NPiece_l4 {Po : mP} {a0_ : Nat} (hT : Typ Po)  (ha0 : rl a0_ = 33) : ∀ (n : Nat) (v1 : Int32) (v2 : Int32), (0 ≤ v2.toInt) → (2147483647 - v2.toInt).toNat = n → MEvP 1 none q_35 4 [(0, .ref a0_), (1, .int v1), (2, .int v2)] [] Po 0 0 (fun r P' => (∃ x : Int32, r = some (.int x) ∧ (True)) ∧ P' = Po) := by
  intro n
  induction n using Nat.strongRecOn with | _ n ih => ?_
  intro v1 v2 i_0 hm
  have w_v1 := ti_full v1
  have w_v2 := ti_full v2
  refine mp_a (a_iload_n dX2_sizesAsNumber_4 rfl) (mpp 5 rfl ?_)
  refine mp_a (a_aload_n dX2_sizesAsNumber_5 rfl) (mpp 6 rfl ?_)
  have g1 : (0 : Int) ≤ (fv Po a0_ 1).toInt ∧ (fv Po a0_ 1).toInt ≤ 8 := Typ.rng hT ha0 (by decide) (by decide) rfl
  refine mt_getI (i := 26) (k := 1) hT dX2_sizesAsNumber_6 rfl ha0 (by decide) rfl (by decide) rfl (fun g2 g3 => mpp 9 rfl ?_)
  refine mp_Tb (t := 32) (j_icmp_ge dX2_sizesAsNumber_9) (by decide) (fun c4 => ?_) (fun c4 => mpp 12 rfl ?_)
  · have c4 : v2.toInt ≥ (fv Po a0_ 1).toInt := ti_ge c4
    refine mp_a (a_iload_n dX2_sizesAsNumber_32 rfl) (mpp 33 rfl ?_)
    exact mp_iret ⟨⟨_, rfl, trivial⟩, rfl⟩ dX2_sizesAsNumber_33 (Or.inl rfl)
  · have c4 : v2.toInt < (fv Po a0_ 1).toInt := ti_ge_n c4
    refine mp_a (a_iload_n dX2_sizesAsNumber_12 rfl) (mpp 13 rfl ?_)
    refine mp_a (a_bipush (v := 10) dX2_sizesAsNumber_13 rfl) (mpp 15 rfl ?_)
    obtain ⟨z5, h6⟩ := ti_ex (v1 * 10 : Int32)
    have wz5 := ti_full z5
    refine mp_t (s_imul (v := z5) dX2_sizesAsNumber_15 h6) (mpp 16 rfl ?_)
    try have e7 : z5.toInt = v1.toInt * 10 := ti_mulz h6 rfl rfl (by omega) (by omega)
    refine mp_a (a_aload_n dX2_sizesAsNumber_16 rfl) (mpp 17 rfl ?_)
    refine mt_getR (i := 9) (k := 3) hT dX2_sizesAsNumber_17 rfl ha0 (by decide) rfl (by decide) rfl (fun q8 => mpp 20 rfl ?_)
    generalize rv Po a0_ 3 = b9 at q8 ⊢
    refine mp_a (a_iload_n dX2_sizesAsNumber_20 rfl) (mpp 21 rfl ?_)
    refine mp_calls (i := 48) (q' := q_12) (As := [.ref b9, .int v2]) (rest := [.int z5]) dX2_sizesAsNumber_21 rfl qm_12 (by decide) rfl (Nat.le_of_ble_eq_true rfl) rfl ⟨rfl, rfl⟩ ⟨Nat.le_of_ble_eq_true rfl, Nat.le_of_ble_eq_true rfl⟩ (EvP.mono (by decide) (c_F_at_sizes hT q8)) (fun r10 P11 g12 => mpp 24 rfl ?_)
    obtain ⟨⟨x13, rfl, g14⟩, e15⟩ := g12
    have e15 := e15.symm
    subst e15
    have wx13 := ti_full x13
    show MEvP _ none q_35 24 [(0, .ref a0_), (1, .int v1), (2, .int v2)] [.int x13, .int z5] _ _ _ _
    obtain ⟨z16, h17⟩ := ti_ex (z5 + x13 : Int32)
    have wz16 := ti_full z16
    refine mp_t (s_iadd (v := z16) dX2_sizesAsNumber_24 h17) (mpp 25 rfl ?_)
    try have e18 : z16.toInt = z5.toInt + x13.toInt := ti_addz h17 rfl rfl (by omega) (by omega)
    refine mp_a (a_istore_n (L' := [(1, .int z16), (0, .ref a0_), (2, .int v2)]) dX2_sizesAsNumber_25 (by decide) rfl) (mpp 26 rfl ?_)
    obtain ⟨z19, h20⟩ := ti_ex (v2 + 1 : Int32)
    have wz19 := ti_full z19
    refine mp_a (a_iinc (v := z19) (L' := [(2, .int z19), (1, .int z16), (0, .ref a0_)]) dX2_sizesAsNumber_26 (by decide) rfl h20 rfl) (mpp 29 rfl ?_)
    try have e21 : z19.toInt = v2.toInt + 1 := ti_addz h20 rfl rfl (by omega) (by omega)
    refine mp_a (a_goto (t := 4) dX2_sizesAsNumber_29 (by decide)) ?_
    refine MEvP.less (L := [(0, .ref a0_), (1, .int z16), (2, .int z19)]) rfl rfl ⟨rfl, rfl, rfl, trivial⟩ ?_
    have i22 : 0 ≤ z19.toInt := by omega
    exact ih _ (by omega) _ _ i22 rfl

set_option maxHeartbeats 4000000 in
theorem c_CP_sizesAsNumber_NPiece {Po : mP} {a0_ : Nat} (hT : Typ Po)  (ha0 : rl a0_ = 33) : EvP 2 35 [.ref a0_] Po (fun r P' => (∃ x : Int32, r = some (.int x) ∧ (True)) ∧ P' = Po) := by
  refine EvP.of qm_35 (Nat.le_of_ble_eq_true rfl) rfl ?_
  show MEvP _ none q_35 0 [(0, .ref a0_)] [] _ 0 0 _
  refine mp_a (a_iconst (v := 0) dX2_sizesAsNumber_0 rfl) (mpp 1 rfl ?_)
  refine mp_a (a_istore_n (L' := [(1, .int 0), (0, .ref a0_)]) dX2_sizesAsNumber_1 (by decide) rfl) (mpp 2 rfl ?_)
  refine mp_a (a_iconst (v := 0) dX2_sizesAsNumber_2 rfl) (mpp 3 rfl ?_)
  refine mp_a (a_istore_n (L' := [(2, .int 0), (1, .int 0), (0, .ref a0_)]) dX2_sizesAsNumber_3 (by decide) rfl) (mpp 4 rfl ?_)
  refine MEvP.less (L := [(0, .ref a0_), (1, .int 0), (2, .int 0)]) rfl rfl ⟨rfl, rfl, rfl, trivial⟩ ?_
  have i1 : 0 ≤ (0 : Int) := by omega
  exact c_CP_sizesAsNumber_NPiece_l4 hT  ha0 _ _ _ i1 rfl

set_option maxHeartbeats 4000000 in
theorem c_F_rotate {Po : mP} {t1 : Int32} {t2 : Int32} (hT : Typ Po)   : EvP 5 33 [.ref 0, .int t1, .int t2] Po (fun r P' => (∃ x : Int32, r = some (.int x) ∧ (True)) ∧ Typ P' ∧ KW [10, 11, 12, 65, 66, 67, 192, 193, 194, 256, 320, 385, 386] Po P' ∧ True) := by
  refine EvP.of qm_33 (Nat.le_of_ble_eq_true rfl) rfl ?_
  show MEvP _ none q_33 0 [(0, .ref 0), (1, .int t1), (2, .int t2)] [] _ 0 0 _
  refine mp_a (a_aload_n dX6_rotate_0 rfl) (mpp 1 rfl ?_)
  refine mt_getU (i := 10) (k := 0) (A := 1) hT dX6_rotate_1 rfl rl_0 (by decide) rfl (by decide) rfl un_31 (mpp 4 rfl ?_)
  refine mp_a (a_iload_n dX6_rotate_4 rfl) (mpp 5 rfl ?_)
  refine mt_callv (i := 94) (q' := q_9) (As := [.int t1]) (rest := []) hT dX6_rotate_5 rfl qm_9 (by decide) rfl rl_1 (by decide) rfl (Nat.le_of_ble_eq_true rfl) rfl ⟨rfl, rfl⟩ ⟨Nat.le_of_ble_eq_true rfl, Nat.le_of_ble_eq_true rfl⟩ (EvP.mono (by decide) (c_CS_pieceAt_NState hT )) (fun r1 P2 g3 => mpp 8 rfl ?_)
  obtain ⟨g3, e4⟩ := g3
  have e4 := e4.symm
  subst e4
  rcases g3 with rfl | ⟨b5, rfl, q6, q6r⟩
  · show MEvP _ none q_33 8 [(0, .ref 0), (1, .int t1), (2, .int t2)] [.null] _ _ _ _
    refine mp_a (a_astore_nN (L' := [(3, .null), (0, .ref 0), (1, .int t1), (2, .int t2)]) dX6_rotate_8 (by decide) rfl) (mpp 9 rfl ?_)
    refine mp_a (a_aload_nN dX6_rotate_9 rfl) (mpp 10 rfl ?_)
    refine mp_t (s_ifnullN (t := 21) dX6_rotate_10 (by decide)) ?_
    refine mp_a (a_sipush (v := -1001) dX6_rotate_21 rfl) (mpp 24 rfl ?_)
    exact mp_iret ⟨⟨_, rfl, trivial⟩, hT, KW.refl, trivial⟩ dX6_rotate_24 (Or.inl rfl)
  · show MEvP _ none q_33 8 [(0, .ref 0), (1, .int t1), (2, .int t2)] [.ref b5] _ _ _ _
    refine mp_a (a_astore_n (L' := [(3, .ref b5), (0, .ref 0), (1, .int t1), (2, .int t2)]) dX6_rotate_8 (by decide) rfl) (mpp 9 rfl ?_)
    refine mp_a (a_aload_n dX6_rotate_9 rfl) (mpp 10 rfl ?_)
    refine mp_t (s_ifnullR dX6_rotate_10) (mpp 13 rfl ?_)
    refine mp_a (a_aload_n dX6_rotate_13 rfl) (mpp 14 rfl ?_)
    refine mp_a (a_iload_n dX6_rotate_14 rfl) (mpp 15 rfl ?_)
    refine mt_callv (i := 98) (q' := q_29) (As := [.int t2]) (rest := []) hT dX6_rotate_15 rfl qm_29 (by decide) rfl q6 (by decide) rfl (Nat.le_of_ble_eq_true rfl) rfl ⟨rfl, rfl⟩ ⟨Nat.le_of_ble_eq_true rfl, Nat.le_of_ble_eq_true rfl⟩ (EvP.mono (by decide) (c_CP_hasCrease_NPiece hT q6)) (fun r7 P8 g9 => mpp 18 rfl ?_)
    obtain ⟨⟨x10, rfl, g11⟩, e12⟩ := g9
    have e12 := e12.symm
    subst e12
    have wx10 := ti_full x10
    have g11 : 0 ≤ x10.toInt ∧ x10.toInt ≤ 1 ∧ (x10.toInt = 0 ∨ (0 ≤ t2.toInt ∧ t2.toInt + 1 ≤ (fv Po b5 1).toInt)) := g11
    have g13 : (0 : Int) ≤ (fv Po b5 1).toInt ∧ (fv Po b5 1).toInt ≤ 8 := Typ.rng hT q6 (by decide) (by decide) rfl
    show MEvP _ none q_33 18 [(3, .ref b5), (0, .ref 0), (1, .int t1), (2, .int t2)] [.int x10] _ _ _ _
    refine mp_Tb (t := 25) (j_if_ne dX6_rotate_18) (by decide) (fun c14 => ?_) (fun c14 => mpp 21 rfl ?_)
    · have c14 : x10.toInt ≠ 0 := ti_ne c14
      refine mp_a (a_aload_n dX6_rotate_25 rfl) (mpp 26 rfl ?_)
      have g15 : (0 : Int) ≤ (fv Po b5 2).toInt ∧ (fv Po b5 2).toInt ≤ 1 := Typ.rng hT q6 (by decide) (by decide) rfl
      refine mt_getI (i := 104) (k := 2) hT dX6_rotate_26 rfl q6 (by decide) rfl (by decide) rfl (fun g16 g17 => mpp 29 rfl ?_)
      refine mp_Tb (t := 39) (j_if_eq dX6_rotate_29) (by decide) (fun c18 => ?_) (fun c18 => mpp 32 rfl ?_)
      · have c18 : (fv Po b5 2).toInt = 0 := ti_eq c18
        refine mp_a (a_aload_n dX6_rotate_39 rfl) (mpp 40 rfl ?_)
        have g19 := ti_full (fv Po b5 0)
        refine mt_getI (i := 130) (k := 0) hT dX6_rotate_40 rfl q6 (by decide) rfl (by decide) rfl (fun g20 g21 => mpp 43 rfl ?_)
        refine mp_a (a_iconst (v := 1) dX6_rotate_43 rfl) (mpp 44 rfl ?_)
        refine mp_Tb (t := 54) (j_icmp_eq dX6_rotate_44) (by decide) (fun c22 => ?_) (fun c22 => mpp 47 rfl ?_)
        · have c22 : (fv Po b5 0).toInt = 1 := ti_eq c22
          refine mp_a (a_aload_n dX6_rotate_54 rfl) (mpp 55 rfl ?_)
          refine mt_getU (i := 25) (k := 3) (A := 79) hT dX6_rotate_55 rfl rl_0 (by decide) rfl (by decide) rfl un_6 (mpp 58 rfl ?_)
          refine mp_a (a_aload_n dX6_rotate_58 rfl) (mpp 59 rfl ?_)
          refine mt_getU (i := 10) (k := 0) (A := 1) hT dX6_rotate_59 rfl rl_0 (by decide) rfl (by decide) rfl un_31 (mpp 62 rfl ?_)
          refine mt_callv (i := 72) (q' := q_15) (As := [.ref 1]) (rest := []) hT dX6_rotate_62 rfl qm_15 (by decide) rfl rl_79 (by decide) rfl (Nat.le_of_ble_eq_true rfl) rfl ⟨rfl, rfl⟩ ⟨Nat.le_of_ble_eq_true rfl, Nat.le_of_ble_eq_true rfl⟩ (EvP.mono (by decide) (c_CH_push_History_NState hT )) (fun r23 P24 g25 => mpp 65 rfl ?_)
          obtain ⟨⟨rfl, g27⟩, hT28, k29, R30⟩ := g25
          have k31 : KW [10, 11, 12, 65, 66, 67, 192, 193, 194, 256, 320, 385, 386] Po P24 := KW.trans KW.refl k29 rfl
          show MEvP _ none q_33 65 [(3, .ref b5), (0, .ref 0), (1, .int t1), (2, .int t2)] [] _ _ _ _
          refine mp_a (a_aload_n dX6_rotate_65 rfl) (mpp 66 rfl ?_)
          refine mt_getR (i := 53) (k := 7) hT28 dX6_rotate_66 rfl rl_0 (by decide) rfl (by decide) rfl (fun q32 => mpp 69 rfl ?_)
          generalize rv P24 0 7 = b33 at q32 ⊢
          refine mp_a (a_aload_n dX6_rotate_69 rfl) (mpp 70 rfl ?_)
          refine mt_callv (i := 133) (q' := q_18) (As := [.ref b5]) (rest := []) hT28 dX6_rotate_70 rfl qm_18 (by decide) rfl q32 (by decide) rfl (Nat.le_of_ble_eq_true rfl) rfl ⟨rfl, rfl⟩ ⟨Nat.le_of_ble_eq_true rfl, Nat.le_of_ble_eq_true rfl⟩ (EvP.mono (by decide) (c_CP_copyFrom_Piece_NPiece hT28 q32 q6)) (fun r34 P35 g36 => mpp 73 rfl ?_)
          obtain ⟨⟨rfl, g38⟩, hT39, k40, R41⟩ := g36
          have k42 : KW [10, 11, 12, 65, 66, 67, 192, 193, 194, 256, 320, 385, 386] Po P35 := KW.trans k31 k40 rfl
          show MEvP _ none q_33 73 [(3, .ref b5), (0, .ref 0), (1, .int t1), (2, .int t2)] [] _ _ _ _
          refine mp_a (a_aload_n dX6_rotate_73 rfl) (mpp 74 rfl ?_)
          refine mp_a (a_aload_n dX6_rotate_74 rfl) (mpp 75 rfl ?_)
          refine mt_getR (i := 53) (k := 7) hT39 dX6_rotate_75 rfl rl_0 (by decide) rfl (by decide) rfl (fun q43 => mpp 78 rfl ?_)
          generalize rv P35 0 7 = b44 at q43 ⊢
          refine mp_a (a_iload_n dX6_rotate_78 rfl) (mpp 79 rfl ?_)
          refine mt_callv (i := 136) (q' := q_34) (As := [.ref b44, .int t2]) (rest := []) hT39 dX6_rotate_79 rfl qm_34 (by decide) rfl q6 (by decide) rfl (Nat.le_of_ble_eq_true rfl) rfl ⟨rfl, rfl⟩ ⟨Nat.le_of_ble_eq_true rfl, Nat.le_of_ble_eq_true rfl⟩ (EvP.mono (by decide) (c_CP_becomeRotated_NPiece_Piece hT39 q6 q43)) (fun r45 P46 g47 => mpp 82 rfl ?_)
          obtain ⟨⟨rfl, g49⟩, hT50, k51, R52⟩ := g47
          have k53 : KW [10, 11, 12, 65, 66, 67, 192, 193, 194, 256, 320, 385, 386] Po P46 := KW.trans k42 k51 rfl
          show MEvP _ none q_33 82 [(3, .ref b5), (0, .ref 0), (1, .int t1), (2, .int t2)] [] _ _ _ _
          refine mp_a (a_aload_n dX6_rotate_82 rfl) (mpp 83 rfl ?_)
          refine mt_callv (i := 140) (q' := q_35) (As := []) (rest := []) hT50 dX6_rotate_83 rfl qm_35 (by decide) rfl q6 (by decide) rfl (Nat.le_of_ble_eq_true rfl) rfl ⟨rfl, rfl⟩ ⟨Nat.le_of_ble_eq_true rfl, Nat.le_of_ble_eq_true rfl⟩ (EvP.mono (by decide) (c_CP_sizesAsNumber_NPiece hT50 q6)) (fun r54 P55 g56 => mpp 86 rfl ?_)
          obtain ⟨⟨x57, rfl, g58⟩, e59⟩ := g56
          have e59 := e59.symm
          subst e59
          have wx57 := ti_full x57
          show MEvP _ none q_33 86 [(3, .ref b5), (0, .ref 0), (1, .int t1), (2, .int t2)] [.int x57] _ _ _ _
          exact mp_iret ⟨⟨_, rfl, trivial⟩, hT50, k53, trivial⟩ dX6_rotate_86 (Or.inl rfl)
        · have c22 : (fv Po b5 0).toInt ≠ 1 := ti_eq_n c22
          refine mp_a (a_aload_n dX6_rotate_47 rfl) (mpp 48 rfl ?_)
          refine mp_a (a_iconst (v := 3) dX6_rotate_48 rfl) (mpp 49 rfl ?_)
          refine mp_a (a_iload_n dX6_rotate_49 rfl) (mpp 50 rfl ?_)
          refine mt_callv (i := 68) (q' := q_14) (As := [.int 3, .int t1]) (rest := []) hT dX6_rotate_50 rfl qm_14 (by decide) rfl rl_0 (by decide) rfl (Nat.le_of_ble_eq_true rfl) rfl ⟨rfl, rfl⟩ ⟨Nat.le_of_ble_eq_true rfl, Nat.le_of_ble_eq_true rfl⟩ (EvP.mono (by decide) (c_F_refuse hT )) (fun r60 P61 g62 => mpp 53 rfl ?_)
          obtain ⟨⟨x63, rfl, g64⟩, hT65, k66, R67⟩ := g62
          have k68 : KW [10, 11, 12, 65, 66, 67, 192, 193, 194, 256, 320, 385, 386] Po P61 := KW.trans KW.refl k66 rfl
          have wx63 := ti_full x63
          show MEvP _ none q_33 53 [(3, .ref b5), (0, .ref 0), (1, .int t1), (2, .int t2)] [.int x63] _ _ _ _
          exact mp_iret ⟨⟨_, rfl, trivial⟩, hT65, k68, trivial⟩ dX6_rotate_53 (Or.inl rfl)
      · have c18 : (fv Po b5 2).toInt ≠ 0 := ti_eq_n c18
        refine mp_a (a_aload_n dX6_rotate_32 rfl) (mpp 33 rfl ?_)
        refine mp_a (a_iconst (v := 2) dX6_rotate_33 rfl) (mpp 34 rfl ?_)
        refine mp_a (a_iload_n dX6_rotate_34 rfl) (mpp 35 rfl ?_)
        refine mt_callv (i := 68) (q' := q_14) (As := [.int 2, .int t1]) (rest := []) hT dX6_rotate_35 rfl qm_14 (by decide) rfl rl_0 (by decide) rfl (Nat.le_of_ble_eq_true rfl) rfl ⟨rfl, rfl⟩ ⟨Nat.le_of_ble_eq_true rfl, Nat.le_of_ble_eq_true rfl⟩ (EvP.mono (by decide) (c_F_refuse hT )) (fun r69 P70 g71 => mpp 38 rfl ?_)
        obtain ⟨⟨x72, rfl, g73⟩, hT74, k75, R76⟩ := g71
        have k77 : KW [10, 11, 12, 65, 66, 67, 192, 193, 194, 256, 320, 385, 386] Po P70 := KW.trans KW.refl k75 rfl
        have wx72 := ti_full x72
        show MEvP _ none q_33 38 [(3, .ref b5), (0, .ref 0), (1, .int t1), (2, .int t2)] [.int x72] _ _ _ _
        exact mp_iret ⟨⟨_, rfl, trivial⟩, hT74, k77, trivial⟩ dX6_rotate_38 (Or.inl rfl)
    · have c14 : x10.toInt = 0 := ti_ne_n c14
      refine mp_a (a_sipush (v := -1001) dX6_rotate_21 rfl) (mpp 24 rfl ?_)
      exact mp_iret ⟨⟨_, rfl, trivial⟩, hT, KW.refl, trivial⟩ dX6_rotate_24 (Or.inl rfl)

set_option maxHeartbeats 4000000 in
theorem c_CP_lengthenBy_NPiece_NPiece_l16 {Po : mP} {a0_ : Nat} {a1_ : Nat} {t2 : Int32} (hp0 : (fv Po a0_ 1).toInt + (fv Po a1_ 1).toInt ≤ 8) (ha0 : rl a0_ = 33) (ha1 : rl a1_ = 33) : ∀ (n : Nat) (v3 : Int32), ∀ (P : mP), Typ P → KW [256, 320, 2113] Po P → ((fv P a0_ 1).toInt = (fv Po a0_ 1).toInt) → ((fv P a1_ 1).toInt = (fv Po a1_ 1).toInt) → (0 ≤ v3.toInt) → (2147483647 - v3.toInt).toNat = n → MEvP 1 none q_37 16 [(0, .ref a0_), (1, .ref a1_), (2, .int t2), (3, .int v3)] [] P 0 0 (fun r P' => (r = none ∧ (True)) ∧ Typ P' ∧ KW [256, 320, 2113] Po P' ∧ True) := by
  intro n
  induction n using Nat.strongRecOn with | _ n ih => ?_
  intro v3 P hT hK i_0 i_1 i_2 hm
  have w_t2 := ti_full t2
  have w_v3 := ti_full v3
  have g1 : (0 : Int) ≤ (fv P a0_ 1).toInt ∧ (fv P a0_ 1).toInt ≤ 8 := Typ.rng hT ha0 (by decide) (by decide) rfl
  have g2 : (0 : Int) ≤ (fv P a0_ 1).toInt ∧ (fv P a0_ 1).toInt ≤ 8 := Typ.rng hT ha0 (by decide) (by decide) rfl
  have g3 : (0 : Int) ≤ (fv P a1_ 1).toInt ∧ (fv P a1_ 1).toInt ≤ 8 := Typ.rng hT ha1 (by decide) (by decide) rfl
  have g4 : (0 : Int) ≤ (fv P a1_ 1).toInt ∧ (fv P a1_ 1).toInt ≤ 8 := Typ.rng hT ha1 (by decide) (by decide) rfl
  refine mp_a (a_iload_n dX2_lengthenBy_16 rfl) (mpp 17 rfl ?_)
  refine mp_a (a_aload_n dX2_lengthenBy_17 rfl) (mpp 18 rfl ?_)
  refine mt_getI (i := 26) (k := 1) hT dX2_lengthenBy_18 rfl ha1 (by decide) rfl (by decide) rfl (fun g5 g6 => mpp 21 rfl ?_)
  refine mp_Tb (t := 72) (j_icmp_ge dX2_lengthenBy_21) (by decide) (fun c7 => ?_) (fun c7 => mpp 24 rfl ?_)
  · have c7 : v3.toInt ≥ (fv P a1_ 1).toInt := ti_ge c7
    refine mp_a (a_aload_n dX2_lengthenBy_72 rfl) (mpp 73 rfl ?_)
    refine mp_t (s_dup dX2_lengthenBy_73 rfl) (mpp 74 rfl ?_)
    refine mt_getI (i := 26) (k := 1) hT dX2_lengthenBy_74 rfl ha0 (by decide) rfl (by decide) rfl (fun g8 g9 => mpp 77 rfl ?_)
    refine mp_a (a_aload_n dX2_lengthenBy_77 rfl) (mpp 78 rfl ?_)
    refine mt_getI (i := 26) (k := 1) hT dX2_lengthenBy_78 rfl ha1 (by decide) rfl (by decide) rfl (fun g10 g11 => mpp 81 rfl ?_)
    obtain ⟨z12, h13⟩ := ti_ex ((fv P a0_ 1) + (fv P a1_ 1) : Int32)
    have wz12 := ti_full z12
    refine mp_t (s_iadd (v := z12) dX2_lengthenBy_81 h13) (mpp 82 rfl ?_)
    try have e14 : z12.toInt = (fv P a0_ 1).toInt + (fv P a1_ 1).toInt := ti_addz h13 rfl rfl (by omega) (by omega)
    refine mt_putI (i := 26) (k := 1) (x := z12) hT dX2_lengthenBy_82 rfl ha0 (by decide) rfl (by decide) rfl ⟨by omega, by omega⟩ rfl rfl (fun P15 hT16 f17 f18 => mpp 85 rfl ?_)
    have k19 : KW [256, 320, 2113] Po P15 := KW.step hK ha0 rfl f18
    have e20 : (fv P15 a0_ 1).toInt = z12.toInt := congrArg Int32.toInt f17
    exact mp_ret ⟨⟨rfl, trivial⟩, hT16, k19, trivial⟩ dX2_lengthenBy_85 rfl
  · have c7 : v3.toInt < (fv P a1_ 1).toInt := ti_ge_n c7
    refine mp_a (a_aload_n dX2_lengthenBy_24 rfl) (mpp 25 rfl ?_)
    refine mt_getR (i := 9) (k := 3) hT dX2_lengthenBy_25 rfl ha0 (by decide) rfl (by decide) rfl (fun q21 => mpp 28 rfl ?_)
    generalize rv P a0_ 3 = b22 at q21 ⊢
    refine mp_a (a_aload_n dX2_lengthenBy_28 rfl) (mpp 29 rfl ?_)
    refine mt_getI (i := 26) (k := 1) hT dX2_lengthenBy_29 rfl ha0 (by decide) rfl (by decide) rfl (fun g23 g24 => mpp 32 rfl ?_)
    refine mp_a (a_iload_n dX2_lengthenBy_32 rfl) (mpp 33 rfl ?_)
    obtain ⟨z25, h26⟩ := ti_ex ((fv P a0_ 1) + v3 : Int32)
    have wz25 := ti_full z25
    refine mp_t (s_iadd (v := z25) dX2_lengthenBy_33 h26) (mpp 34 rfl ?_)
    try have e27 : z25.toInt = (fv P a0_ 1).toInt + v3.toInt := ti_addz h26 rfl rfl (by omega) (by omega)
    refine mp_a (a_aload_n dX2_lengthenBy_34 rfl) (mpp 35 rfl ?_)
    refine mt_getR (i := 9) (k := 3) hT dX2_lengthenBy_35 rfl ha1 (by decide) rfl (by decide) rfl (fun q28 => mpp 38 rfl ?_)
    generalize rv P a1_ 3 = b29 at q28 ⊢
    refine mp_a (a_iload_n dX2_lengthenBy_38 rfl) (mpp 39 rfl ?_)
    refine mp_calls (i := 48) (q' := q_12) (As := [.ref b29, .int v3]) (rest := [.int z25, .ref b22]) dX2_lengthenBy_39 rfl qm_12 (by decide) rfl (Nat.le_of_ble_eq_true rfl) rfl ⟨rfl, rfl⟩ ⟨Nat.le_of_ble_eq_true rfl, Nat.le_of_ble_eq_true rfl⟩ (EvP.mono (by decide) (c_F_at_sizes hT q28)) (fun r30 P31 g32 => mpp 42 rfl ?_)
    obtain ⟨⟨x33, rfl, g34⟩, e35⟩ := g32
    have e35 := e35.symm
    subst e35
    have wx33 := ti_full x33
    show MEvP _ none q_37 42 [(0, .ref a0_), (1, .ref a1_), (2, .int t2), (3, .int v3)] [.int x33, .int z25, .ref b22] _ _ _ _
    refine mp_calls (i := 29) (q' := q_22) (As := [.ref b22, .int z25, .int x33]) (rest := []) dX2_lengthenBy_42 rfl qm_22 (by decide) rfl (Nat.le_of_ble_eq_true rfl) rfl ⟨rfl, rfl⟩ ⟨Nat.le_of_ble_eq_true rfl, Nat.le_of_ble_eq_true rfl⟩ (EvP.mono (by decide) (c_F_put_sizes hT q21)) (fun r36 P37 g38 => mpp 45 rfl ?_)
    obtain ⟨⟨rfl, g40⟩, hT41, k42, R43⟩ := g38
    have k44 : KW [256, 320, 2113] Po P37 := KW.trans hK k42 rfl
    show MEvP _ none q_37 45 [(0, .ref a0_), (1, .ref a1_), (2, .int t2), (3, .int v3)] [] _ _ _ _
    refine mp_a (a_aload_n dX2_lengthenBy_45 rfl) (mpp 46 rfl ?_)
    refine mt_getR (i := 15) (k := 4) hT41 dX2_lengthenBy_46 rfl ha0 (by decide) rfl (by decide) rfl (fun q45 => mpp 49 rfl ?_)
    generalize rv P37 a0_ 4 = b46 at q45 ⊢
    refine mp_a (a_aload_n dX2_lengthenBy_49 rfl) (mpp 50 rfl ?_)
    have e47 : (fv P37 a0_ 1).toInt = (fv P a0_ 1).toInt := congrArg Int32.toInt (KW.at k42 1 ha0 rfl)
    refine mt_getI (i := 26) (k := 1) hT41 dX2_lengthenBy_50 rfl ha0 (by decide) rfl (by decide) rfl (fun g48 g49 => mpp 53 rfl ?_)
    refine mp_a (a_iload_n dX2_lengthenBy_53 rfl) (mpp 54 rfl ?_)
    obtain ⟨z50, h51⟩ := ti_ex ((fv P37 a0_ 1) + v3 : Int32)
    have wz50 := ti_full z50
    refine mp_t (s_iadd (v := z50) dX2_lengthenBy_54 h51) (mpp 55 rfl ?_)
    try have e52 : z50.toInt = (fv P37 a0_ 1).toInt + v3.toInt := ti_addz h51 rfl rfl (by omega) (by omega)
    refine mp_a (a_aload_n dX2_lengthenBy_55 rfl) (mpp 56 rfl ?_)
    refine mt_getR (i := 15) (k := 4) hT41 dX2_lengthenBy_56 rfl ha1 (by decide) rfl (by decide) rfl (fun q53 => mpp 59 rfl ?_)
    generalize rv P37 a1_ 4 = b54 at q53 ⊢
    refine mp_a (a_iload_n dX2_lengthenBy_59 rfl) (mpp 60 rfl ?_)
    refine mp_calls (i := 48) (q' := q_12) (As := [.ref b54, .int v3]) (rest := [.int z50, .ref b46]) dX2_lengthenBy_60 rfl qm_12 (by decide) rfl (Nat.le_of_ble_eq_true rfl) rfl ⟨rfl, rfl⟩ ⟨Nat.le_of_ble_eq_true rfl, Nat.le_of_ble_eq_true rfl⟩ (EvP.mono (by decide) (c_F_at_creases hT41 q53)) (fun r55 P56 g57 => mpp 63 rfl ?_)
    obtain ⟨⟨x58, rfl, g59⟩, e60⟩ := g57
    have e60 := e60.symm
    subst e60
    have wx58 := ti_full x58
    show MEvP _ none q_37 63 [(0, .ref a0_), (1, .ref a1_), (2, .int t2), (3, .int v3)] [.int x58, .int z50, .ref b46] _ _ _ _
    refine mp_calls (i := 29) (q' := q_22) (As := [.ref b46, .int z50, .int x58]) (rest := []) dX2_lengthenBy_63 rfl qm_22 (by decide) rfl (Nat.le_of_ble_eq_true rfl) rfl ⟨rfl, rfl⟩ ⟨Nat.le_of_ble_eq_true rfl, Nat.le_of_ble_eq_true rfl⟩ (EvP.mono (by decide) (c_F_put_creases hT41 q45)) (fun r61 P62 g63 => mpp 66 rfl ?_)
    obtain ⟨⟨rfl, g65⟩, hT66, k67, R68⟩ := g63
    have k69 : KW [256, 320, 2113] Po P62 := KW.trans k44 k67 rfl
    show MEvP _ none q_37 66 [(0, .ref a0_), (1, .ref a1_), (2, .int t2), (3, .int v3)] [] _ _ _ _
    obtain ⟨z70, h71⟩ := ti_ex (v3 + 1 : Int32)
    have wz70 := ti_full z70
    refine mp_a (a_iinc (v := z70) (L' := [(3, .int z70), (0, .ref a0_), (1, .ref a1_), (2, .int t2)]) dX2_lengthenBy_66 (by decide) rfl h71 rfl) (mpp 69 rfl ?_)
    try have e72 : z70.toInt = v3.toInt + 1 := ti_addz h71 rfl rfl (by omega) (by omega)
    refine mp_a (a_goto (t := 16) dX2_lengthenBy_69 (by decide)) ?_
    refine MEvP.less (L := [(0, .ref a0_), (1, .ref a1_), (2, .int t2), (3, .int z70)]) rfl rfl ⟨rfl, rfl, rfl, rfl, trivial⟩ ?_
    have e73 : (fv P62 a0_ 1).toInt = (fv P37 a0_ 1).toInt := congrArg Int32.toInt (KW.at k67 1 ha0 rfl)
    have i74 : (fv P62 a0_ 1).toInt = (fv Po a0_ 1).toInt := by omega
    have e75 : (fv P62 a1_ 1).toInt = (fv P a1_ 1).toInt := congrArg Int32.toInt ((KW.at k67 1 ha1 rfl).trans (KW.at k42 1 ha1 rfl))
    have i76 : (fv P62 a1_ 1).toInt = (fv Po a1_ 1).toInt := by omega
    have i77 : 0 ≤ z70.toInt := by omega
    exact ih _ (by omega) _ P62 hT66 k69 i74 i76 i77 rfl

set_option maxHeartbeats 4000000 in
theorem c_CP_lengthenBy_NPiece_NPiece {Po : mP} {a0_ : Nat} {a1_ : Nat} {t2 : Int32} (hT : Typ Po)  (hp0 : (fv Po a0_ 1).toInt + (fv Po a1_ 1).toInt ≤ 8) (ha0 : rl a0_ = 33) (ha1 : rl a1_ = 33) : EvP 2 37 [.ref a0_, .ref a1_, .int t2] Po (fun r P' => (r = none ∧ (True)) ∧ Typ P' ∧ KW [256, 320, 2113] Po P' ∧ True) := by
  refine EvP.of qm_37 (Nat.le_of_ble_eq_true rfl) rfl ?_
  show MEvP _ none q_37 0 [(0, .ref a0_), (1, .ref a1_), (2, .int t2)] [] _ 0 0 _
  have g1 : (0 : Int) ≤ (fv Po a0_ 1).toInt ∧ (fv Po a0_ 1).toInt ≤ 8 := Typ.rng hT ha0 (by decide) (by decide) rfl
  have g2 : (0 : Int) ≤ (fv Po a1_ 1).toInt ∧ (fv Po a1_ 1).toInt ≤ 8 := Typ.rng hT ha1 (by decide) (by decide) rfl
  refine mp_a (a_aload_n dX2_lengthenBy_0 rfl) (mpp 1 rfl ?_)
  refine mt_getR (i := 15) (k := 4) hT dX2_lengthenBy_1 rfl ha0 (by decide) rfl (by decide) rfl (fun q3 => mpp 4 rfl ?_)
  generalize rv Po a0_ 4 = b4 at q3 ⊢
  refine mp_a (a_aload_n dX2_lengthenBy_4 rfl) (mpp 5 rfl ?_)
  refine mt_getI (i := 26) (k := 1) hT dX2_lengthenBy_5 rfl ha0 (by decide) rfl (by decide) rfl (fun g5 g6 => mpp 8 rfl ?_)
  refine mp_a (a_iconst (v := 1) dX2_lengthenBy_8 rfl) (mpp 9 rfl ?_)
  obtain ⟨z7, h8⟩ := ti_ex ((fv Po a0_ 1) - 1 : Int32)
  have wz7 := ti_full z7
  refine mp_t (s_isub (v := z7) dX2_lengthenBy_9 h8) (mpp 10 rfl ?_)
  try have e9 : z7.toInt = (fv Po a0_ 1).toInt - 1 := ti_subz h8 rfl rfl (by omega) (by omega)
  refine mp_a (a_iload_n dX2_lengthenBy_10 rfl) (mpp 11 rfl ?_)
  refine mp_calls (i := 29) (q' := q_22) (As := [.ref b4, .int z7, .int t2]) (rest := []) dX2_lengthenBy_11 rfl qm_22 (by decide) rfl (Nat.le_of_ble_eq_true rfl) rfl ⟨rfl, rfl⟩ ⟨Nat.le_of_ble_eq_true rfl, Nat.le_of_ble_eq_true rfl⟩ (EvP.mono (by decide) (c_F_put_creases hT q3)) (fun r10 P11 g12 => mpp 14 rfl ?_)
  obtain ⟨⟨rfl, g14⟩, hT15, k16, R17⟩ := g12
  have k18 : KW [256, 320, 2113] Po P11 := KW.trans KW.refl k16 rfl
  show MEvP _ none q_37 14 [(0, .ref a0_), (1, .ref a1_), (2, .int t2)] [] _ _ _ _
  refine mp_a (a_iconst (v := 0) dX2_lengthenBy_14 rfl) (mpp 15 rfl ?_)
  refine mp_a (a_istore_n (L' := [(3, .int 0), (0, .ref a0_), (1, .ref a1_), (2, .int t2)]) dX2_lengthenBy_15 (by decide) rfl) (mpp 16 rfl ?_)
  refine MEvP.less (L := [(0, .ref a0_), (1, .ref a1_), (2, .int t2), (3, .int 0)]) rfl rfl ⟨rfl, rfl, rfl, rfl, trivial⟩ ?_
  have e19 : (fv P11 a0_ 1).toInt = (fv Po a0_ 1).toInt := congrArg Int32.toInt (KW.at k16 1 ha0 rfl)
  have i20 : (fv P11 a0_ 1).toInt = (fv Po a0_ 1).toInt := by omega
  have e21 : (fv P11 a1_ 1).toInt = (fv Po a1_ 1).toInt := congrArg Int32.toInt (KW.at k16 1 ha1 rfl)
  have i22 : (fv P11 a1_ 1).toInt = (fv Po a1_ 1).toInt := by omega
  have i23 : 0 ≤ (0 : Int) := by omega
  exact c_CP_lengthenBy_NPiece_NPiece_l16  hp0 ha0 ha1 _ _ P11 hT15 k18 i20 i22 i23 rfl

