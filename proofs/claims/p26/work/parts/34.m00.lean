/-! methods on typed pools, 0 (written by a program) -/
set_option maxHeartbeats 4000000 in
theorem c_CS_pieceAt_NState {Po : mP} {t1 : Int32} (hT : Typ Po)   : EvP 1 9 [.ref 1, .int t1] Po (fun r P' => (r = some .null ∨ ∃ b : Nat, r = some (.ref b) ∧ rl b = 33 ∧ (0 ≤ t1.toInt ∧ t1.toInt ≤ 7)) ∧ P' = Po) := by
  refine EvP.of qm_9 (Nat.le_of_ble_eq_true rfl) rfl ?_
  show MEvP _ none q_9 0 [(0, .ref 1), (1, .int t1)] [] _ 0 0 _
  refine mp_a (a_iload_n dX5_pieceAt_0 rfl) (mpp 1 rfl ?_)
  refine mp_Tb (t := 30) (j_if_lt dX5_pieceAt_1) (by decide) (fun c1 => ?_) (fun c1 => mpp 4 rfl ?_)
  · have c1 : t1.toInt < 0 := ti_lt c1
    refine mp_a (a_null dX5_pieceAt_30) (mpp 31 rfl ?_)
    exact mp_aretN ⟨Or.inl rfl, rfl⟩ dX5_pieceAt_31 rfl
  · have c1 : t1.toInt ≥ 0 := ti_lt_n c1
    refine mp_a (a_iload_n dX5_pieceAt_4 rfl) (mpp 5 rfl ?_)
    refine mp_a (a_aload_n dX5_pieceAt_5 rfl) (mpp 6 rfl ?_)
    have g2 := ti_full (fv Po 1 1)
    refine mt_getI (i := 22) (k := 1) hT dX5_pieceAt_6 rfl rl_1 (by decide) rfl (by decide) rfl (fun g3 g4 => mpp 9 rfl ?_)
    refine mp_Tb (t := 30) (j_icmp_ge dX5_pieceAt_9) (by decide) (fun c5 => ?_) (fun c5 => mpp 12 rfl ?_)
    · have c5 : t1.toInt ≥ (fv Po 1 1).toInt := ti_ge c5
      refine mp_a (a_null dX5_pieceAt_30) (mpp 31 rfl ?_)
      exact mp_aretN ⟨Or.inl rfl, rfl⟩ dX5_pieceAt_31 rfl
    · have c5 : t1.toInt < (fv Po 1 1).toInt := ti_ge_n c5
      refine mp_a (a_iload_n dX5_pieceAt_12 rfl) (mpp 13 rfl ?_)
      refine mp_a (a_aload_n dX5_pieceAt_13 rfl) (mpp 14 rfl ?_)
      refine mt_getU (i := 11) (k := 0) (A := 2) hT dX5_pieceAt_14 rfl rl_1 (by decide) rfl (by decide) rfl un_32 (mpp 17 rfl ?_)
      refine mt_len (n := 8) hT dX5_pieceAt_17 rl_2 (by decide) (by decide) rfl (mpp 18 rfl ?_)
      refine mp_Tb (t := 30) (j_icmp_ge dX5_pieceAt_18) (by decide) (fun c6 => ?_) (fun c6 => mpp 21 rfl ?_)
      · have c6 : t1.toInt ≥ 8 := ti_ge c6
        refine mp_a (a_null dX5_pieceAt_30) (mpp 31 rfl ?_)
        exact mp_aretN ⟨Or.inl rfl, rfl⟩ dX5_pieceAt_31 rfl
      · have c6 : t1.toInt < 8 := ti_ge_n c6
        refine mp_a (a_aload_n dX5_pieceAt_21 rfl) (mpp 22 rfl ?_)
        refine mt_getU (i := 11) (k := 0) (A := 2) hT dX5_pieceAt_22 rfl rl_1 (by decide) rfl (by decide) rfl un_32 (mpp 25 rfl ?_)
        refine mp_a (a_iload_n dX5_pieceAt_25 rfl) (mpp 26 rfl ?_)
        refine mt_aal (n := 8) hT dX5_pieceAt_26 rl_2 (by decide) (by decide) rfl (by omega) (by omega) rfl (fun q7 => mpp 27 rfl ?_)
        generalize rv Po 2 t1.toInt.toNat = b8 at q7 ⊢
        refine mp_a (a_goto (t := 31) dX5_pieceAt_27 (by decide)) ?_
        exact mp_aret ⟨Or.inr ⟨_, rfl, q7, by omega⟩, rfl⟩ dX5_pieceAt_31 rfl

set_option maxHeartbeats 4000000 in
theorem c_F_at_sizes {Po : mP} {a0_ : Nat} {t1 : Int32} (hT : Typ Po)  (ha0 : rl a0_ = 4) : EvP 1 12 [.ref a0_, .int t1] Po (fun r P' => (∃ x : Int32, r = some (.int x) ∧ (True)) ∧ P' = Po) := by
  refine EvP.of qm_12 (Nat.le_of_ble_eq_true rfl) rfl ?_
  show MEvP _ none q_12 0 [(0, .ref a0_), (1, .int t1)] [] _ 0 0 _
  refine mp_a (a_iload_n dX6_at_0 rfl) (mpp 1 rfl ?_)
  refine mp_Tb (t := 16) (j_if_lt dX6_at_1) (by decide) (fun c1 => ?_) (fun c1 => mpp 4 rfl ?_)
  · have c1 : t1.toInt < 0 := ti_lt c1
    refine mp_a (a_iconst (v := 0) dX6_at_16 rfl) (mpp 17 rfl ?_)
    exact mp_iret ⟨⟨_, rfl, trivial⟩, rfl⟩ dX6_at_17 (Or.inl rfl)
  · have c1 : t1.toInt ≥ 0 := ti_lt_n c1
    refine mp_a (a_iload_n dX6_at_4 rfl) (mpp 5 rfl ?_)
    refine mp_a (a_aload_n dX6_at_5 rfl) (mpp 6 rfl ?_)
    refine mt_len (n := 8) hT dX6_at_6 ha0 (by decide) (by decide) rfl (mpp 7 rfl ?_)
    refine mp_Tb (t := 16) (j_icmp_ge dX6_at_7) (by decide) (fun c2 => ?_) (fun c2 => mpp 10 rfl ?_)
    · have c2 : t1.toInt ≥ 8 := ti_ge c2
      refine mp_a (a_iconst (v := 0) dX6_at_16 rfl) (mpp 17 rfl ?_)
      exact mp_iret ⟨⟨_, rfl, trivial⟩, rfl⟩ dX6_at_17 (Or.inl rfl)
    · have c2 : t1.toInt < 8 := ti_ge_n c2
      refine mp_a (a_aload_n dX6_at_10 rfl) (mpp 11 rfl ?_)
      refine mp_a (a_iload_n dX6_at_11 rfl) (mpp 12 rfl ?_)
      refine mt_ial (n := 8) hT dX6_at_12 ha0 (by decide) rfl rfl (by omega) (by omega) rfl (fun g3 g4 => mpp 13 rfl ?_)
      refine mp_a (a_goto (t := 17) dX6_at_13 (by decide)) ?_
      exact mp_iret ⟨⟨_, rfl, trivial⟩, rfl⟩ dX6_at_17 (Or.inl rfl)

set_option maxHeartbeats 4000000 in
theorem c_CP_greatestSize_NPiece_l4 {Po : mP} {a0_ : Nat} (hT : Typ Po)  (ha0 : rl a0_ = 33) : ∀ (n : Nat) (v1 : Int32) (v2 : Int32), (0 ≤ v2.toInt) → (2147483647 - v2.toInt).toNat = n → MEvP 1 none q_11 4 [(0, .ref a0_), (1, .int v1), (2, .int v2)] [] Po 0 0 (fun r P' => (∃ x : Int32, r = some (.int x) ∧ (True)) ∧ P' = Po) := by
  intro n
  induction n using Nat.strongRecOn with | _ n ih => ?_
  intro v1 v2 i_0 hm
  have w_v1 := ti_full v1
  have w_v2 := ti_full v2
  refine mp_a (a_iload_n dX2_greatestSize_4 rfl) (mpp 5 rfl ?_)
  refine mp_a (a_aload_n dX2_greatestSize_5 rfl) (mpp 6 rfl ?_)
  have g1 : (0 : Int) ≤ (fv Po a0_ 1).toInt ∧ (fv Po a0_ 1).toInt ≤ 8 := Typ.rng hT ha0 (by decide) (by decide) rfl
  refine mt_getI (i := 26) (k := 1) hT dX2_greatestSize_6 rfl ha0 (by decide) rfl (by decide) rfl (fun g2 g3 => mpp 9 rfl ?_)
  refine mp_Tb (t := 31) (j_icmp_ge dX2_greatestSize_9) (by decide) (fun c4 => ?_) (fun c4 => mpp 12 rfl ?_)
  · have c4 : v2.toInt ≥ (fv Po a0_ 1).toInt := ti_ge c4
    refine mp_a (a_iload_n dX2_greatestSize_31 rfl) (mpp 32 rfl ?_)
    exact mp_iret ⟨⟨_, rfl, trivial⟩, rfl⟩ dX2_greatestSize_32 (Or.inl rfl)
  · have c4 : v2.toInt < (fv Po a0_ 1).toInt := ti_ge_n c4
    refine mp_a (a_iload_n dX2_greatestSize_12 rfl) (mpp 13 rfl ?_)
    refine mp_a (a_aload_n dX2_greatestSize_13 rfl) (mpp 14 rfl ?_)
    refine mt_getR (i := 9) (k := 3) hT dX2_greatestSize_14 rfl ha0 (by decide) rfl (by decide) rfl (fun q5 => mpp 17 rfl ?_)
    generalize rv Po a0_ 3 = b6 at q5 ⊢
    refine mp_a (a_iload_n dX2_greatestSize_17 rfl) (mpp 18 rfl ?_)
    refine mp_calls (i := 48) (q' := q_12) (As := [.ref b6, .int v2]) (rest := [.int v1]) dX2_greatestSize_18 rfl qm_12 (by decide) rfl (Nat.le_of_ble_eq_true rfl) rfl ⟨rfl, rfl⟩ ⟨Nat.le_of_ble_eq_true rfl, Nat.le_of_ble_eq_true rfl⟩ (EvP.mono (by decide) (c_F_at_sizes hT q5)) (fun r7 P8 g9 => mpp 21 rfl ?_)
    obtain ⟨⟨x10, rfl, g11⟩, e12⟩ := g9
    have e12 := e12.symm
    subst e12
    have wx10 := ti_full x10
    show MEvP _ none q_11 21 [(0, .ref a0_), (1, .int v1), (2, .int v2)] [.int x10, .int v1] _ _ _ _
    obtain ⟨z13, h14⟩ := ti_ex (if (7 : Nat) = 7 then (if v1 < x10 then x10 else v1) else (if x10 < v1 then x10 else v1) : Int32)
    have e15 : z13.toInt = max v1.toInt x10.toInt := ti_mm7 h14
    refine mp_math (i := 65) (k := 0) (v := z13) dX2_greatestSize_21 rfl (by decide) (Nat.le_of_ble_eq_true rfl) h14 ⟨Nat.le_of_ble_eq_true rfl, Nat.le_of_ble_eq_true rfl⟩ (mpp 24 rfl ?_)
    refine mp_a (a_istore_n (L' := [(1, .int z13), (0, .ref a0_), (2, .int v2)]) dX2_greatestSize_24 (by decide) rfl) (mpp 25 rfl ?_)
    obtain ⟨z16, h17⟩ := ti_ex (v2 + 1 : Int32)
    have wz16 := ti_full z16
    refine mp_a (a_iinc (v := z16) (L' := [(2, .int z16), (1, .int z13), (0, .ref a0_)]) dX2_greatestSize_25 (by decide) rfl h17 rfl) (mpp 28 rfl ?_)
    try have e18 : z16.toInt = v2.toInt + 1 := ti_addz h17 rfl rfl (by omega) (by omega)
    refine mp_a (a_goto (t := 4) dX2_greatestSize_28 (by decide)) ?_
    refine MEvP.less (L := [(0, .ref a0_), (1, .int z13), (2, .int z16)]) rfl rfl ⟨rfl, rfl, rfl, trivial⟩ ?_
    have i19 : 0 ≤ z16.toInt := by omega
    exact ih _ (by omega) _ _ i19 rfl

set_option maxHeartbeats 4000000 in
theorem c_CP_greatestSize_NPiece {Po : mP} {a0_ : Nat} (hT : Typ Po)  (ha0 : rl a0_ = 33) : EvP 2 11 [.ref a0_] Po (fun r P' => (∃ x : Int32, r = some (.int x) ∧ (True)) ∧ P' = Po) := by
  refine EvP.of qm_11 (Nat.le_of_ble_eq_true rfl) rfl ?_
  show MEvP _ none q_11 0 [(0, .ref a0_)] [] _ 0 0 _
  refine mp_a (a_iconst (v := 0) dX2_greatestSize_0 rfl) (mpp 1 rfl ?_)
  refine mp_a (a_istore_n (L' := [(1, .int 0), (0, .ref a0_)]) dX2_greatestSize_1 (by decide) rfl) (mpp 2 rfl ?_)
  refine mp_a (a_iconst (v := 0) dX2_greatestSize_2 rfl) (mpp 3 rfl ?_)
  refine mp_a (a_istore_n (L' := [(2, .int 0), (1, .int 0), (0, .ref a0_)]) dX2_greatestSize_3 (by decide) rfl) (mpp 4 rfl ?_)
  refine MEvP.less (L := [(0, .ref a0_), (1, .int 0), (2, .int 0)]) rfl rfl ⟨rfl, rfl, rfl, trivial⟩ ?_
  have i1 : 0 ≤ (0 : Int) := by omega
  exact c_CP_greatestSize_NPiece_l4 hT  ha0 _ _ _ i1 rfl

set_option maxHeartbeats 4000000 in
theorem c_CP_placeOf_NPiece_l4 {Po : mP} {a0_ : Nat} {t1 : Int32} (hT : Typ Po)  (ha0 : rl a0_ = 33) : ∀ (n : Nat) (v2 : Int32) (v3 : Int32), (0 ≤ v3.toInt) → (2147483647 - v3.toInt).toNat = n → MEvP 1 none q_13 4 [(0, .ref a0_), (1, .int t1), (2, .int v2), (3, .int v3)] [] Po 0 0 (fun r P' => (∃ x : Int32, r = some (.int x) ∧ (True)) ∧ P' = Po) := by
  intro n
  induction n using Nat.strongRecOn with | _ n ih => ?_
  intro v2 v3 i_0 hm
  have w_t1 := ti_full t1
  have w_v2 := ti_full v2
  have w_v3 := ti_full v3
  refine mp_a (a_iload_n dX2_placeOf_4 rfl) (mpp 5 rfl ?_)
  refine mp_a (a_iload_n dX2_placeOf_5 rfl) (mpp 6 rfl ?_)
  refine mp_Tb (t := 52) (j_icmp_ge dX2_placeOf_6) (by decide) (fun c1 => ?_) (fun c1 => mpp 9 rfl ?_)
  · have c1 : v3.toInt ≥ t1.toInt := ti_ge c1
    refine mp_a (a_iload_n dX2_placeOf_52 rfl) (mpp 53 rfl ?_)
    exact mp_iret ⟨⟨_, rfl, trivial⟩, rfl⟩ dX2_placeOf_53 (Or.inl rfl)
  · have c1 : v3.toInt < t1.toInt := ti_ge_n c1
    refine mp_a (a_iload_n dX2_placeOf_9 rfl) (mpp 10 rfl ?_)
    refine mp_a (a_aload_n dX2_placeOf_10 rfl) (mpp 11 rfl ?_)
    have g2 : (0 : Int) ≤ (fv Po a0_ 1).toInt ∧ (fv Po a0_ 1).toInt ≤ 8 := Typ.rng hT ha0 (by decide) (by decide) rfl
    refine mt_getI (i := 26) (k := 1) hT dX2_placeOf_11 rfl ha0 (by decide) rfl (by decide) rfl (fun g3 g4 => mpp 14 rfl ?_)
    refine mp_Tb (t := 52) (j_icmp_ge dX2_placeOf_14) (by decide) (fun c5 => ?_) (fun c5 => mpp 17 rfl ?_)
    · have c5 : v3.toInt ≥ (fv Po a0_ 1).toInt := ti_ge c5
      refine mp_a (a_iload_n dX2_placeOf_52 rfl) (mpp 53 rfl ?_)
      exact mp_iret ⟨⟨_, rfl, trivial⟩, rfl⟩ dX2_placeOf_53 (Or.inl rfl)
    · have c5 : v3.toInt < (fv Po a0_ 1).toInt := ti_ge_n c5
      refine mp_a (a_iload_n dX2_placeOf_17 rfl) (mpp 18 rfl ?_)
      refine mp_a (a_iload_n dX2_placeOf_18 rfl) (mpp 19 rfl ?_)
      refine mp_a (a_iconst (v := 2) dX2_placeOf_19 rfl) (mpp 20 rfl ?_)
      obtain ⟨z6, h7⟩ := ti_ex (v3 - v3 / 2 * 2 : Int32)
      have wz6 := ti_full z6
      try have e8 : 0 ≤ z6.toInt ∧ z6.toInt < 2 := ti_rem h7 (show (0 : Int) ≤ v3.toInt by omega) (show (0 : Int) < 2 by omega)
      refine mp_t (s_irem (v := z6) dX2_placeOf_20 (by decide) h7) (mpp 21 rfl ?_)
      refine mp_Tb (t := 35) (j_if_ne dX2_placeOf_21) (by decide) (fun c9 => ?_) (fun c9 => mpp 24 rfl ?_)
      · have c9 : z6.toInt ≠ 0 := ti_ne c9
        refine mp_a (a_aload_n dX2_placeOf_35 rfl) (mpp 36 rfl ?_)
        refine mt_getR (i := 9) (k := 3) hT dX2_placeOf_36 rfl ha0 (by decide) rfl (by decide) rfl (fun q10 => mpp 39 rfl ?_)
        generalize rv Po a0_ 3 = b11 at q10 ⊢
        refine mp_a (a_iload_n dX2_placeOf_39 rfl) (mpp 40 rfl ?_)
        refine mp_calls (i := 48) (q' := q_12) (As := [.ref b11, .int v3]) (rest := [.int v2]) dX2_placeOf_40 rfl qm_12 (by decide) rfl (Nat.le_of_ble_eq_true rfl) rfl ⟨rfl, rfl⟩ ⟨Nat.le_of_ble_eq_true rfl, Nat.le_of_ble_eq_true rfl⟩ (EvP.mono (by decide) (c_F_at_sizes hT q10)) (fun r12 P13 g14 => mpp 43 rfl ?_)
        obtain ⟨⟨x15, rfl, g16⟩, e17⟩ := g14
        have e17 := e17.symm
        subst e17
        have wx15 := ti_full x15
        show MEvP _ none q_13 43 [(0, .ref a0_), (1, .int t1), (2, .int v2), (3, .int v3)] [.int x15, .int v2] _ _ _ _
        obtain ⟨z18, h19⟩ := ti_ex (-x15 : Int32)
        have wz18 := ti_full z18
        refine mp_t (s_ineg (v := z18) dX2_placeOf_43 h19) (mpp 44 rfl ?_)
        obtain ⟨z20, h21⟩ := ti_ex (v2 + z18 : Int32)
        have wz20 := ti_full z20
        refine mp_t (s_iadd (v := z20) dX2_placeOf_44 h21) (mpp 45 rfl ?_)
        try have e22 : z20.toInt = v2.toInt + z18.toInt := ti_addz h21 rfl rfl (by omega) (by omega)
        refine mp_a (a_istore_n (L' := [(2, .int z20), (0, .ref a0_), (1, .int t1), (3, .int v3)]) dX2_placeOf_45 (by decide) rfl) (mpp 46 rfl ?_)
        obtain ⟨z23, h24⟩ := ti_ex (v3 + 1 : Int32)
        have wz23 := ti_full z23
        refine mp_a (a_iinc (v := z23) (L' := [(3, .int z23), (2, .int z20), (0, .ref a0_), (1, .int t1)]) dX2_placeOf_46 (by decide) rfl h24 rfl) (mpp 49 rfl ?_)
        try have e25 : z23.toInt = v3.toInt + 1 := ti_addz h24 rfl rfl (by omega) (by omega)
        refine mp_a (a_goto (t := 4) dX2_placeOf_49 (by decide)) ?_
        refine MEvP.less (L := [(0, .ref a0_), (1, .int t1), (2, .int z20), (3, .int z23)]) rfl rfl ⟨rfl, rfl, rfl, rfl, trivial⟩ ?_
        have i26 : 0 ≤ z23.toInt := by omega
        exact ih _ (by omega) _ _ i26 rfl
      · have c9 : z6.toInt = 0 := ti_ne_n c9
        refine mp_a (a_aload_n dX2_placeOf_24 rfl) (mpp 25 rfl ?_)
        refine mt_getR (i := 9) (k := 3) hT dX2_placeOf_25 rfl ha0 (by decide) rfl (by decide) rfl (fun q27 => mpp 28 rfl ?_)
        generalize rv Po a0_ 3 = b28 at q27 ⊢
        refine mp_a (a_iload_n dX2_placeOf_28 rfl) (mpp 29 rfl ?_)
        refine mp_calls (i := 48) (q' := q_12) (As := [.ref b28, .int v3]) (rest := [.int v2]) dX2_placeOf_29 rfl qm_12 (by decide) rfl (Nat.le_of_ble_eq_true rfl) rfl ⟨rfl, rfl⟩ ⟨Nat.le_of_ble_eq_true rfl, Nat.le_of_ble_eq_true rfl⟩ (EvP.mono (by decide) (c_F_at_sizes hT q27)) (fun r29 P30 g31 => mpp 32 rfl ?_)
        obtain ⟨⟨x32, rfl, g33⟩, e34⟩ := g31
        have e34 := e34.symm
        subst e34
        have wx32 := ti_full x32
        show MEvP _ none q_13 32 [(0, .ref a0_), (1, .int t1), (2, .int v2), (3, .int v3)] [.int x32, .int v2] _ _ _ _
        refine mp_a (a_goto (t := 44) dX2_placeOf_32 (by decide)) ?_
        obtain ⟨z35, h36⟩ := ti_ex (v2 + x32 : Int32)
        have wz35 := ti_full z35
        refine mp_t (s_iadd (v := z35) dX2_placeOf_44 h36) (mpp 45 rfl ?_)
        try have e37 : z35.toInt = v2.toInt + x32.toInt := ti_addz h36 rfl rfl (by omega) (by omega)
        refine mp_a (a_istore_n (L' := [(2, .int z35), (0, .ref a0_), (1, .int t1), (3, .int v3)]) dX2_placeOf_45 (by decide) rfl) (mpp 46 rfl ?_)
        obtain ⟨z38, h39⟩ := ti_ex (v3 + 1 : Int32)
        have wz38 := ti_full z38
        refine mp_a (a_iinc (v := z38) (L' := [(3, .int z38), (2, .int z35), (0, .ref a0_), (1, .int t1)]) dX2_placeOf_46 (by decide) rfl h39 rfl) (mpp 49 rfl ?_)
        try have e40 : z38.toInt = v3.toInt + 1 := ti_addz h39 rfl rfl (by omega) (by omega)
        refine mp_a (a_goto (t := 4) dX2_placeOf_49 (by decide)) ?_
        refine MEvP.less (L := [(0, .ref a0_), (1, .int t1), (2, .int z35), (3, .int z38)]) rfl rfl ⟨rfl, rfl, rfl, rfl, trivial⟩ ?_
        have i41 : 0 ≤ z38.toInt := by omega
        exact ih _ (by omega) _ _ i41 rfl

set_option maxHeartbeats 4000000 in
theorem c_CP_placeOf_NPiece {Po : mP} {a0_ : Nat} {t1 : Int32} (hT : Typ Po)  (ha0 : rl a0_ = 33) : EvP 2 13 [.ref a0_, .int t1] Po (fun r P' => (∃ x : Int32, r = some (.int x) ∧ (True)) ∧ P' = Po) := by
  refine EvP.of qm_13 (Nat.le_of_ble_eq_true rfl) rfl ?_
  show MEvP _ none q_13 0 [(0, .ref a0_), (1, .int t1)] [] _ 0 0 _
  refine mp_a (a_iconst (v := 0) dX2_placeOf_0 rfl) (mpp 1 rfl ?_)
  refine mp_a (a_istore_n (L' := [(2, .int 0), (0, .ref a0_), (1, .int t1)]) dX2_placeOf_1 (by decide) rfl) (mpp 2 rfl ?_)
  refine mp_a (a_iconst (v := 0) dX2_placeOf_2 rfl) (mpp 3 rfl ?_)
  refine mp_a (a_istore_n (L' := [(3, .int 0), (2, .int 0), (0, .ref a0_), (1, .int t1)]) dX2_placeOf_3 (by decide) rfl) (mpp 4 rfl ?_)
  refine MEvP.less (L := [(0, .ref a0_), (1, .int t1), (2, .int 0), (3, .int 0)]) rfl rfl ⟨rfl, rfl, rfl, rfl, trivial⟩ ?_
  have i1 : 0 ≤ (0 : Int) := by omega
  exact c_CP_placeOf_NPiece_l4 hT  ha0 _ _ _ i1 rfl

set_option maxHeartbeats 4000000 in
theorem c_CP_width_NPiece_l19 {Po : mP} {a0_ : Nat} (hT : Typ Po)  (ha0 : rl a0_ = 33) : ∀ (n : Nat) (v1 : Int32) (v2 : Int32) (v3 : Int32), (0 ≤ v3.toInt) → (2147483647 - v3.toInt).toNat = n → MEvP 2 none q_10 19 [(0, .ref a0_), (1, .int v1), (2, .int v2), (3, .int v3)] [] Po 0 0 (fun r P' => (∃ x : Int32, r = some (.int x) ∧ (True)) ∧ P' = Po) := by
  intro n
  induction n using Nat.strongRecOn with | _ n ih => ?_
  intro v1 v2 v3 i_0 hm
  have w_v1 := ti_full v1
  have w_v2 := ti_full v2
  have w_v3 := ti_full v3
  refine mp_a (a_iload_n dX2_width_19 rfl) (mpp 20 rfl ?_)
  refine mp_a (a_aload_n dX2_width_20 rfl) (mpp 21 rfl ?_)
  have g1 : (0 : Int) ≤ (fv Po a0_ 1).toInt ∧ (fv Po a0_ 1).toInt ≤ 8 := Typ.rng hT ha0 (by decide) (by decide) rfl
  refine mt_getI (i := 26) (k := 1) hT dX2_width_21 rfl ha0 (by decide) rfl (by decide) rfl (fun g2 g3 => mpp 24 rfl ?_)
  refine mp_Tb (t := 57) (j_icmp_ge dX2_width_24) (by decide) (fun c4 => ?_) (fun c4 => mpp 27 rfl ?_)
  · have c4 : v3.toInt ≥ (fv Po a0_ 1).toInt := ti_ge c4
    refine mp_a (a_iload_n dX2_width_57 rfl) (mpp 58 rfl ?_)
    refine mp_a (a_iload_n dX2_width_58 rfl) (mpp 59 rfl ?_)
    obtain ⟨z5, h6⟩ := ti_ex (v2 - v1 : Int32)
    have wz5 := ti_full z5
    refine mp_t (s_isub (v := z5) dX2_width_59 h6) (mpp 60 rfl ?_)
    try have e7 : z5.toInt = v2.toInt - v1.toInt := ti_subz h6 rfl rfl (by omega) (by omega)
    exact mp_iret ⟨⟨_, rfl, trivial⟩, rfl⟩ dX2_width_60 (Or.inl rfl)
  · have c4 : v3.toInt < (fv Po a0_ 1).toInt := ti_ge_n c4
    refine mp_a (a_iload_n dX2_width_27 rfl) (mpp 28 rfl ?_)
    refine mp_a (a_aload_n dX2_width_28 rfl) (mpp 29 rfl ?_)
    refine mp_a (a_iload_n dX2_width_29 rfl) (mpp 30 rfl ?_)
    refine mp_a (a_iconst (v := 1) dX2_width_30 rfl) (mpp 31 rfl ?_)
    obtain ⟨z8, h9⟩ := ti_ex (v3 + 1 : Int32)
    have wz8 := ti_full z8
    refine mp_t (s_iadd (v := z8) dX2_width_31 h9) (mpp 32 rfl ?_)
    try have e10 : z8.toInt = v3.toInt + 1 := ti_addz h9 rfl rfl (by omega) (by omega)
    refine mt_callv (i := 56) (q' := q_13) (As := [.int z8]) (rest := [.int v1]) hT dX2_width_32 rfl qm_13 (by decide) rfl ha0 (by decide) rfl (Nat.le_of_ble_eq_true rfl) rfl ⟨rfl, rfl⟩ ⟨Nat.le_of_ble_eq_true rfl, Nat.le_of_ble_eq_true rfl⟩ (EvP.mono (by decide) (c_CP_placeOf_NPiece hT ha0)) (fun r11 P12 g13 => mpp 35 rfl ?_)
    obtain ⟨⟨x14, rfl, g15⟩, e16⟩ := g13
    have e16 := e16.symm
    subst e16
    have wx14 := ti_full x14
    show MEvP _ none q_10 35 [(0, .ref a0_), (1, .int v1), (2, .int v2), (3, .int v3)] [.int x14, .int v1] _ _ _ _
    obtain ⟨z17, h18⟩ := ti_ex (if (8 : Nat) = 7 then (if v1 < x14 then x14 else v1) else (if x14 < v1 then x14 else v1) : Int32)
    have e19 : z17.toInt = min v1.toInt x14.toInt := ti_mm8 h18
    refine mp_math (i := 59) (k := 0) (v := z17) dX2_width_35 rfl (by decide) (Nat.le_of_ble_eq_true rfl) h18 ⟨Nat.le_of_ble_eq_true rfl, Nat.le_of_ble_eq_true rfl⟩ (mpp 38 rfl ?_)
    refine mp_a (a_istore_n (L' := [(1, .int z17), (0, .ref a0_), (2, .int v2), (3, .int v3)]) dX2_width_38 (by decide) rfl) (mpp 39 rfl ?_)
    refine mp_a (a_iload_n dX2_width_39 rfl) (mpp 40 rfl ?_)
    refine mp_a (a_aload_n dX2_width_40 rfl) (mpp 41 rfl ?_)
    refine mp_a (a_iload_n dX2_width_41 rfl) (mpp 42 rfl ?_)
    refine mp_a (a_iconst (v := 1) dX2_width_42 rfl) (mpp 43 rfl ?_)
    obtain ⟨z20, h21⟩ := ti_ex (v3 + 1 : Int32)
    have wz20 := ti_full z20
    refine mp_t (s_iadd (v := z20) dX2_width_43 h21) (mpp 44 rfl ?_)
    try have e22 : z20.toInt = v3.toInt + 1 := ti_addz h21 rfl rfl (by omega) (by omega)
    refine mt_callv (i := 56) (q' := q_13) (As := [.int z20]) (rest := [.int v2]) hT dX2_width_44 rfl qm_13 (by decide) rfl ha0 (by decide) rfl (Nat.le_of_ble_eq_true rfl) rfl ⟨rfl, rfl⟩ ⟨Nat.le_of_ble_eq_true rfl, Nat.le_of_ble_eq_true rfl⟩ (EvP.mono (by decide) (c_CP_placeOf_NPiece hT ha0)) (fun r23 P24 g25 => mpp 47 rfl ?_)
    obtain ⟨⟨x26, rfl, g27⟩, e28⟩ := g25
    have e28 := e28.symm
    subst e28
    have wx26 := ti_full x26
    show MEvP _ none q_10 47 [(1, .int z17), (0, .ref a0_), (2, .int v2), (3, .int v3)] [.int x26, .int v2] _ _ _ _
    obtain ⟨z29, h30⟩ := ti_ex (if (7 : Nat) = 7 then (if v2 < x26 then x26 else v2) else (if x26 < v2 then x26 else v2) : Int32)
    have e31 : z29.toInt = max v2.toInt x26.toInt := ti_mm7 h30
    refine mp_math (i := 65) (k := 0) (v := z29) dX2_width_47 rfl (by decide) (Nat.le_of_ble_eq_true rfl) h30 ⟨Nat.le_of_ble_eq_true rfl, Nat.le_of_ble_eq_true rfl⟩ (mpp 50 rfl ?_)
    refine mp_a (a_istore_n (L' := [(2, .int z29), (1, .int z17), (0, .ref a0_), (3, .int v3)]) dX2_width_50 (by decide) rfl) (mpp 51 rfl ?_)
    obtain ⟨z32, h33⟩ := ti_ex (v3 + 1 : Int32)
    have wz32 := ti_full z32
    refine mp_a (a_iinc (v := z32) (L' := [(3, .int z32), (2, .int z29), (1, .int z17), (0, .ref a0_)]) dX2_width_51 (by decide) rfl h33 rfl) (mpp 54 rfl ?_)
    try have e34 : z32.toInt = v3.toInt + 1 := ti_addz h33 rfl rfl (by omega) (by omega)
    refine mp_a (a_goto (t := 19) dX2_width_54 (by decide)) ?_
    refine MEvP.less (L := [(0, .ref a0_), (1, .int z17), (2, .int z29), (3, .int z32)]) rfl rfl ⟨rfl, rfl, rfl, rfl, trivial⟩ ?_
    have i35 : 0 ≤ z32.toInt := by omega
    exact ih _ (by omega) _ _ _ i35 rfl

set_option maxHeartbeats 4000000 in
theorem c_CP_width_NPiece {Po : mP} {a0_ : Nat} (hT : Typ Po)  (ha0 : rl a0_ = 33) : EvP 3 10 [.ref a0_] Po (fun r P' => (∃ x : Int32, r = some (.int x) ∧ (True)) ∧ P' = Po) := by
  refine EvP.of qm_10 (Nat.le_of_ble_eq_true rfl) rfl ?_
  show MEvP _ none q_10 0 [(0, .ref a0_)] [] _ 0 0 _
  refine mp_a (a_aload_n dX2_width_0 rfl) (mpp 1 rfl ?_)
  have g1 := ti_full (fv Po a0_ 0)
  refine mt_getI (i := 18) (k := 0) hT dX2_width_1 rfl ha0 (by decide) rfl (by decide) rfl (fun g2 g3 => mpp 4 rfl ?_)
  refine mp_a (a_iconst (v := 1) dX2_width_4 rfl) (mpp 5 rfl ?_)
  refine mp_Tb (t := 13) (j_icmp_ne dX2_width_5) (by decide) (fun c4 => ?_) (fun c4 => mpp 8 rfl ?_)
  · have c4 : (fv Po a0_ 0).toInt ≠ 1 := ti_ne c4
    refine mp_a (a_iconst (v := 0) dX2_width_13 rfl) (mpp 14 rfl ?_)
    refine mp_a (a_istore_n (L' := [(1, .int 0), (0, .ref a0_)]) dX2_width_14 (by decide) rfl) (mpp 15 rfl ?_)
    refine mp_a (a_iconst (v := 0) dX2_width_15 rfl) (mpp 16 rfl ?_)
    refine mp_a (a_istore_n (L' := [(2, .int 0), (1, .int 0), (0, .ref a0_)]) dX2_width_16 (by decide) rfl) (mpp 17 rfl ?_)
    refine mp_a (a_iconst (v := 0) dX2_width_17 rfl) (mpp 18 rfl ?_)
    refine mp_a (a_istore_n (L' := [(3, .int 0), (2, .int 0), (1, .int 0), (0, .ref a0_)]) dX2_width_18 (by decide) rfl) (mpp 19 rfl ?_)
    refine MEvP.less (L := [(0, .ref a0_), (1, .int 0), (2, .int 0), (3, .int 0)]) rfl rfl ⟨rfl, rfl, rfl, rfl, trivial⟩ ?_
    have i5 : 0 ≤ (0 : Int) := by omega
    exact c_CP_width_NPiece_l19 hT  ha0 _ _ _ _ i5 rfl
  · have c4 : (fv Po a0_ 0).toInt = 1 := ti_ne_n c4
    refine mp_a (a_aload_n dX2_width_8 rfl) (mpp 9 rfl ?_)
    refine mt_callv (i := 68) (q' := q_11) (As := []) (rest := []) hT dX2_width_9 rfl qm_11 (by decide) rfl ha0 (by decide) rfl (Nat.le_of_ble_eq_true rfl) rfl ⟨rfl, rfl⟩ ⟨Nat.le_of_ble_eq_true rfl, Nat.le_of_ble_eq_true rfl⟩ (EvP.mono (by decide) (c_CP_greatestSize_NPiece hT ha0)) (fun r6 P7 g8 => mpp 12 rfl ?_)
    obtain ⟨⟨x9, rfl, g10⟩, e11⟩ := g8
    have e11 := e11.symm
    subst e11
    have wx9 := ti_full x9
    show MEvP _ none q_10 12 [(0, .ref a0_)] [.int x9] _ _ _ _
    exact mp_iret ⟨⟨_, rfl, trivial⟩, rfl⟩ dX2_width_12 (Or.inl rfl)

set_option maxHeartbeats 4000000 in
theorem c_CS_occupied_NState_l4 {Po : mP}  (hT : Typ Po)   : ∀ (n : Nat) (v1 : Int32) (v2 : Int32), (0 ≤ v2.toInt) → (2147483647 - v2.toInt).toNat = n → MEvP 3 none q_8 4 [(0, .ref 1), (1, .int v1), (2, .int v2)] [] Po 0 0 (fun r P' => (∃ x : Int32, r = some (.int x) ∧ (True)) ∧ P' = Po) := by
  intro n
  induction n using Nat.strongRecOn with | _ n ih => ?_
  intro v1 v2 i_0 hm
  have w_v1 := ti_full v1
  have w_v2 := ti_full v2
  refine mp_a (a_iload_n dX5_occupied_4 rfl) (mpp 5 rfl ?_)
  refine mp_a (a_aload_n dX5_occupied_5 rfl) (mpp 6 rfl ?_)
  have g1 := ti_full (fv Po 1 1)
  refine mt_getI (i := 22) (k := 1) hT dX5_occupied_6 rfl rl_1 (by decide) rfl (by decide) rfl (fun g2 g3 => mpp 9 rfl ?_)
  refine mp_Tb (t := 42) (j_icmp_ge dX5_occupied_9) (by decide) (fun c4 => ?_) (fun c4 => mpp 12 rfl ?_)
  · have c4 : v2.toInt ≥ (fv Po 1 1).toInt := ti_ge c4
    refine mp_a (a_iload_n dX5_occupied_42 rfl) (mpp 43 rfl ?_)
    exact mp_iret ⟨⟨_, rfl, trivial⟩, rfl⟩ dX5_occupied_43 (Or.inl rfl)
  · have c4 : v2.toInt < (fv Po 1 1).toInt := ti_ge_n c4
    refine mp_a (a_aload_n dX5_occupied_12 rfl) (mpp 13 rfl ?_)
    refine mp_a (a_iload_n dX5_occupied_13 rfl) (mpp 14 rfl ?_)
    refine mt_callv (i := 28) (q' := q_9) (As := [.int v2]) (rest := []) hT dX5_occupied_14 rfl qm_9 (by decide) rfl rl_1 (by decide) rfl (Nat.le_of_ble_eq_true rfl) rfl ⟨rfl, rfl⟩ ⟨Nat.le_of_ble_eq_true rfl, Nat.le_of_ble_eq_true rfl⟩ (EvP.mono (by decide) (c_CS_pieceAt_NState hT )) (fun r5 P6 g7 => mpp 17 rfl ?_)
    obtain ⟨g7, e8⟩ := g7
    have e8 := e8.symm
    subst e8
    rcases g7 with rfl | ⟨b9, rfl, q10, q10r⟩
    · show MEvP _ none q_8 17 [(0, .ref 1), (1, .int v1), (2, .int v2)] [.null] _ _ _ _
      refine mp_a (a_astore_nN (L' := [(3, .null), (0, .ref 1), (1, .int v1), (2, .int v2)]) dX5_occupied_17 (by decide) rfl) (mpp 18 rfl ?_)
      refine mp_a (a_aload_nN dX5_occupied_18 rfl) (mpp 19 rfl ?_)
      refine mp_t (s_ifnullN (t := 36) dX5_occupied_19 (by decide)) ?_
      obtain ⟨z11, h12⟩ := ti_ex (v2 + 1 : Int32)
      have wz11 := ti_full z11
      refine mp_a (a_iinc (v := z11) (L' := [(2, .int z11), (3, .null), (0, .ref 1), (1, .int v1)]) dX5_occupied_36 (by decide) rfl h12 rfl) (mpp 39 rfl ?_)
      try have e13 : z11.toInt = v2.toInt + 1 := ti_addz h12 rfl rfl (by omega) (by omega)
      refine mp_a (a_goto (t := 4) dX5_occupied_39 (by decide)) ?_
      refine MEvP.less (L := [(0, .ref 1), (1, .int v1), (2, .int z11)]) rfl rfl ⟨rfl, rfl, rfl, trivial⟩ ?_
      have i14 : 0 ≤ z11.toInt := by omega
      exact ih _ (by omega) _ _ i14 rfl
    · show MEvP _ none q_8 17 [(0, .ref 1), (1, .int v1), (2, .int v2)] [.ref b9] _ _ _ _
      refine mp_a (a_astore_n (L' := [(3, .ref b9), (0, .ref 1), (1, .int v1), (2, .int v2)]) dX5_occupied_17 (by decide) rfl) (mpp 18 rfl ?_)
      refine mp_a (a_aload_n dX5_occupied_18 rfl) (mpp 19 rfl ?_)
      refine mp_t (s_ifnullR dX5_occupied_19) (mpp 22 rfl ?_)
      refine mp_a (a_aload_n dX5_occupied_22 rfl) (mpp 23 rfl ?_)
      have g15 : (0 : Int) ≤ (fv Po b9 2).toInt ∧ (fv Po b9 2).toInt ≤ 1 := Typ.rng hT q10 (by decide) (by decide) rfl
      refine mt_getI (i := 36) (k := 2) hT dX5_occupied_23 rfl q10 (by decide) rfl (by decide) rfl (fun g16 g17 => mpp 26 rfl ?_)
      refine mp_Tb (t := 36) (j_if_eq dX5_occupied_26) (by decide) (fun c18 => ?_) (fun c18 => mpp 29 rfl ?_)
      · have c18 : (fv Po b9 2).toInt = 0 := ti_eq c18
        obtain ⟨z19, h20⟩ := ti_ex (v2 + 1 : Int32)
        have wz19 := ti_full z19
        refine mp_a (a_iinc (v := z19) (L' := [(2, .int z19), (3, .ref b9), (0, .ref 1), (1, .int v1)]) dX5_occupied_36 (by decide) rfl h20 rfl) (mpp 39 rfl ?_)
        try have e21 : z19.toInt = v2.toInt + 1 := ti_addz h20 rfl rfl (by omega) (by omega)
        refine mp_a (a_goto (t := 4) dX5_occupied_39 (by decide)) ?_
        refine MEvP.less (L := [(0, .ref 1), (1, .int v1), (2, .int z19)]) rfl rfl ⟨rfl, rfl, rfl, trivial⟩ ?_
        have i22 : 0 ≤ z19.toInt := by omega
        exact ih _ (by omega) _ _ i22 rfl
      · have c18 : (fv Po b9 2).toInt ≠ 0 := ti_eq_n c18
        refine mp_a (a_iload_n dX5_occupied_29 rfl) (mpp 30 rfl ?_)
        refine mp_a (a_aload_n dX5_occupied_30 rfl) (mpp 31 rfl ?_)
        refine mt_callv (i := 40) (q' := q_10) (As := []) (rest := [.int v1]) hT dX5_occupied_31 rfl qm_10 (by decide) rfl q10 (by decide) rfl (Nat.le_of_ble_eq_true rfl) rfl ⟨rfl, rfl⟩ ⟨Nat.le_of_ble_eq_true rfl, Nat.le_of_ble_eq_true rfl⟩ (EvP.mono (by decide) (c_CP_width_NPiece hT q10)) (fun r23 P24 g25 => mpp 34 rfl ?_)
        obtain ⟨⟨x26, rfl, g27⟩, e28⟩ := g25
        have e28 := e28.symm
        subst e28
        have wx26 := ti_full x26
        show MEvP _ none q_8 34 [(3, .ref b9), (0, .ref 1), (1, .int v1), (2, .int v2)] [.int x26, .int v1] _ _ _ _
        obtain ⟨z29, h30⟩ := ti_ex (v1 + x26 : Int32)
        have wz29 := ti_full z29
        refine mp_t (s_iadd (v := z29) dX5_occupied_34 h30) (mpp 35 rfl ?_)
        try have e31 : z29.toInt = v1.toInt + x26.toInt := ti_addz h30 rfl rfl (by omega) (by omega)
        refine mp_a (a_istore_n (L' := [(1, .int z29), (3, .ref b9), (0, .ref 1), (2, .int v2)]) dX5_occupied_35 (by decide) rfl) (mpp 36 rfl ?_)
        obtain ⟨z32, h33⟩ := ti_ex (v2 + 1 : Int32)
        have wz32 := ti_full z32
        refine mp_a (a_iinc (v := z32) (L' := [(2, .int z32), (1, .int z29), (3, .ref b9), (0, .ref 1)]) dX5_occupied_36 (by decide) rfl h33 rfl) (mpp 39 rfl ?_)
        try have e34 : z32.toInt = v2.toInt + 1 := ti_addz h33 rfl rfl (by omega) (by omega)
        refine mp_a (a_goto (t := 4) dX5_occupied_39 (by decide)) ?_
        refine MEvP.less (L := [(0, .ref 1), (1, .int z29), (2, .int z32)]) rfl rfl ⟨rfl, rfl, rfl, trivial⟩ ?_
        have i35 : 0 ≤ z32.toInt := by omega
        exact ih _ (by omega) _ _ i35 rfl

set_option maxHeartbeats 4000000 in
theorem c_CS_occupied_NState {Po : mP}  (hT : Typ Po)   : EvP 4 8 [.ref 1] Po (fun r P' => (∃ x : Int32, r = some (.int x) ∧ (True)) ∧ P' = Po) := by
  refine EvP.of qm_8 (Nat.le_of_ble_eq_true rfl) rfl ?_
  show MEvP _ none q_8 0 [(0, .ref 1)] [] _ 0 0 _
  refine mp_a (a_iconst (v := 0) dX5_occupied_0 rfl) (mpp 1 rfl ?_)
  refine mp_a (a_istore_n (L' := [(1, .int 0), (0, .ref 1)]) dX5_occupied_1 (by decide) rfl) (mpp 2 rfl ?_)
  refine mp_a (a_iconst (v := 0) dX5_occupied_2 rfl) (mpp 3 rfl ?_)
  refine mp_a (a_istore_n (L' := [(2, .int 0), (1, .int 0), (0, .ref 1)]) dX5_occupied_3 (by decide) rfl) (mpp 4 rfl ?_)
  refine MEvP.less (L := [(0, .ref 1), (1, .int 0), (2, .int 0)]) rfl rfl ⟨rfl, rfl, rfl, trivial⟩ ?_
  have i1 : 0 ≤ (0 : Int) := by omega
  exact c_CS_occupied_NState_l4 hT  _ _ _ i1 rfl

set_option maxHeartbeats 4000000 in
theorem c_CH_stateAt_History {Po : mP} {t1 : Int32} (hT : Typ Po)   : EvP 1 16 [.ref 79, .int t1] Po (fun r P' => (r = some .null ∨ ∃ b : Nat, r = some (.ref b) ∧ rl b = 1) ∧ P' = Po) := by
  refine EvP.of qm_16 (Nat.le_of_ble_eq_true rfl) rfl ?_
  show MEvP _ none q_16 0 [(0, .ref 79), (1, .int t1)] [] _ 0 0 _
  refine mp_a (a_iload_n dX0_stateAt_0 rfl) (mpp 1 rfl ?_)
  refine mp_Tb (t := 22) (j_if_lt dX0_stateAt_1) (by decide) (fun c1 => ?_) (fun c1 => mpp 4 rfl ?_)
  · have c1 : t1.toInt < 0 := ti_lt c1
    refine mp_a (a_null dX0_stateAt_22) (mpp 23 rfl ?_)
    exact mp_aretN ⟨Or.inl rfl, rfl⟩ dX0_stateAt_23 rfl
  · have c1 : t1.toInt ≥ 0 := ti_lt_n c1
    refine mp_a (a_iload_n dX0_stateAt_4 rfl) (mpp 5 rfl ?_)
    refine mp_a (a_aload_n dX0_stateAt_5 rfl) (mpp 6 rfl ?_)
    refine mt_getU (i := 11) (k := 0) (A := 80) hT dX0_stateAt_6 rfl rl_79 (by decide) rfl (by decide) rfl un_7 (mpp 9 rfl ?_)
    refine mt_len (n := 8) hT dX0_stateAt_9 rl_80 (by decide) (by decide) rfl (mpp 10 rfl ?_)
    refine mp_Tb (t := 22) (j_icmp_ge dX0_stateAt_10) (by decide) (fun c2 => ?_) (fun c2 => mpp 13 rfl ?_)
    · have c2 : t1.toInt ≥ 8 := ti_ge c2
      refine mp_a (a_null dX0_stateAt_22) (mpp 23 rfl ?_)
      exact mp_aretN ⟨Or.inl rfl, rfl⟩ dX0_stateAt_23 rfl
    · have c2 : t1.toInt < 8 := ti_ge_n c2
      refine mp_a (a_aload_n dX0_stateAt_13 rfl) (mpp 14 rfl ?_)
      refine mt_getU (i := 11) (k := 0) (A := 80) hT dX0_stateAt_14 rfl rl_79 (by decide) rfl (by decide) rfl un_7 (mpp 17 rfl ?_)
      refine mp_a (a_iload_n dX0_stateAt_17 rfl) (mpp 18 rfl ?_)
      refine mt_aal (n := 8) hT dX0_stateAt_18 rl_80 (by decide) (by decide) rfl (by omega) (by omega) rfl (fun q3 => mpp 19 rfl ?_)
      generalize rv Po 80 t1.toInt.toNat = b4 at q3 ⊢
      refine mp_a (a_goto (t := 23) dX0_stateAt_19 (by decide)) ?_
      exact mp_aret ⟨Or.inr ⟨_, rfl, q3⟩, rfl⟩ dX0_stateAt_23 rfl

set_option maxHeartbeats 4000000 in
theorem c_CS_pieceAt_State {Po : mP} {a0_ : Nat} {t1 : Int32} (hT : Typ Po)  (ha0 : rl a0_ = 1) : EvP 1 9 [.ref a0_, .int t1] Po (fun r P' => (r = some .null ∨ ∃ b : Nat, r = some (.ref b) ∧ rl b = 3 ∧ (0 ≤ t1.toInt ∧ t1.toInt ≤ 7)) ∧ P' = Po) := by
  refine EvP.of qm_9 (Nat.le_of_ble_eq_true rfl) rfl ?_
  show MEvP _ none q_9 0 [(0, .ref a0_), (1, .int t1)] [] _ 0 0 _
  refine mp_a (a_iload_n dX5_pieceAt_0 rfl) (mpp 1 rfl ?_)
  refine mp_Tb (t := 30) (j_if_lt dX5_pieceAt_1) (by decide) (fun c1 => ?_) (fun c1 => mpp 4 rfl ?_)
  · have c1 : t1.toInt < 0 := ti_lt c1
    refine mp_a (a_null dX5_pieceAt_30) (mpp 31 rfl ?_)
    exact mp_aretN ⟨Or.inl rfl, rfl⟩ dX5_pieceAt_31 rfl
  · have c1 : t1.toInt ≥ 0 := ti_lt_n c1
    refine mp_a (a_iload_n dX5_pieceAt_4 rfl) (mpp 5 rfl ?_)
    refine mp_a (a_aload_n dX5_pieceAt_5 rfl) (mpp 6 rfl ?_)
    have g2 := ti_full (fv Po a0_ 1)
    refine mt_getI (i := 22) (k := 1) hT dX5_pieceAt_6 rfl ha0 (by decide) rfl (by decide) rfl (fun g3 g4 => mpp 9 rfl ?_)
    refine mp_Tb (t := 30) (j_icmp_ge dX5_pieceAt_9) (by decide) (fun c5 => ?_) (fun c5 => mpp 12 rfl ?_)
    · have c5 : t1.toInt ≥ (fv Po a0_ 1).toInt := ti_ge c5
      refine mp_a (a_null dX5_pieceAt_30) (mpp 31 rfl ?_)
      exact mp_aretN ⟨Or.inl rfl, rfl⟩ dX5_pieceAt_31 rfl
    · have c5 : t1.toInt < (fv Po a0_ 1).toInt := ti_ge_n c5
      refine mp_a (a_iload_n dX5_pieceAt_12 rfl) (mpp 13 rfl ?_)
      refine mp_a (a_aload_n dX5_pieceAt_13 rfl) (mpp 14 rfl ?_)
      refine mt_getR (i := 11) (k := 0) hT dX5_pieceAt_14 rfl ha0 (by decide) rfl (by decide) rfl (fun q6 => mpp 17 rfl ?_)
      generalize rv Po a0_ 0 = b7 at q6 ⊢
      refine mt_len (n := 8) hT dX5_pieceAt_17 q6 (by decide) (by decide) rfl (mpp 18 rfl ?_)
      refine mp_Tb (t := 30) (j_icmp_ge dX5_pieceAt_18) (by decide) (fun c8 => ?_) (fun c8 => mpp 21 rfl ?_)
      · have c8 : t1.toInt ≥ 8 := ti_ge c8
        refine mp_a (a_null dX5_pieceAt_30) (mpp 31 rfl ?_)
        exact mp_aretN ⟨Or.inl rfl, rfl⟩ dX5_pieceAt_31 rfl
      · have c8 : t1.toInt < 8 := ti_ge_n c8
        refine mp_a (a_aload_n dX5_pieceAt_21 rfl) (mpp 22 rfl ?_)
        refine mt_getR (i := 11) (k := 0) hT dX5_pieceAt_22 rfl ha0 (by decide) rfl (by decide) rfl (fun q9 => mpp 25 rfl ?_)
        generalize rv Po a0_ 0 = b10 at q9 ⊢
        refine mp_a (a_iload_n dX5_pieceAt_25 rfl) (mpp 26 rfl ?_)
        refine mt_aal (n := 8) hT dX5_pieceAt_26 q9 (by decide) (by decide) rfl (by omega) (by omega) rfl (fun q11 => mpp 27 rfl ?_)
        generalize rv Po b10 t1.toInt.toNat = b12 at q11 ⊢
        refine mp_a (a_goto (t := 31) dX5_pieceAt_27 (by decide)) ?_
        exact mp_aret ⟨Or.inr ⟨_, rfl, q11, by omega⟩, rfl⟩ dX5_pieceAt_31 rfl

set_option maxHeartbeats 4000000 in
theorem c_F_copyRow_sizes_sizes_l2 {Po : mP} {a0_ : Nat} {a1_ : Nat} (ha0 : rl a0_ = 4) (ha1 : rl a1_ = 4) : ∀ (n : Nat) (v2 : Int32), ∀ (P : mP), Typ P → KW [256] Po P → (0 ≤ v2.toInt) → (2147483647 - v2.toInt).toNat = n → MEvP 0 none q_19 2 [(0, .ref a0_), (1, .ref a1_), (2, .int v2)] [] P 0 0 (fun r P' => (r = none ∧ (True)) ∧ Typ P' ∧ KW [256] Po P' ∧ True) := by
  intro n
  induction n using Nat.strongRecOn with | _ n ih => ?_
  intro v2 P hT hK i_0 hm
  have w_v2 := ti_full v2
  refine mp_a (a_iload_n dX6_copyRow_2 rfl) (mpp 3 rfl ?_)
  refine mp_a (a_aload_n dX6_copyRow_3 rfl) (mpp 4 rfl ?_)
  refine mt_len (n := 8) hT dX6_copyRow_4 ha0 (by decide) (by decide) rfl (mpp 5 rfl ?_)
  refine mp_Tb (t := 26) (j_icmp_ge dX6_copyRow_5) (by decide) (fun c1 => ?_) (fun c1 => mpp 8 rfl ?_)
  · have c1 : v2.toInt ≥ 8 := ti_ge c1
    exact mp_ret ⟨⟨rfl, trivial⟩, hT, hK, trivial⟩ dX6_copyRow_26 rfl
  · have c1 : v2.toInt < 8 := ti_ge_n c1
    refine mp_a (a_iload_n dX6_copyRow_8 rfl) (mpp 9 rfl ?_)
    refine mp_a (a_aload_n dX6_copyRow_9 rfl) (mpp 10 rfl ?_)
    refine mt_len (n := 8) hT dX6_copyRow_10 ha1 (by decide) (by decide) rfl (mpp 11 rfl ?_)
    refine mp_Tb (t := 26) (j_icmp_ge dX6_copyRow_11) (by decide) (fun c2 => ?_) (fun c2 => mpp 14 rfl ?_)
    · have c2 : v2.toInt ≥ 8 := ti_ge c2
      exact mp_ret ⟨⟨rfl, trivial⟩, hT, hK, trivial⟩ dX6_copyRow_26 rfl
    · have c2 : v2.toInt < 8 := ti_ge_n c2
      refine mp_a (a_aload_n dX6_copyRow_14 rfl) (mpp 15 rfl ?_)
      refine mp_a (a_iload_n dX6_copyRow_15 rfl) (mpp 16 rfl ?_)
      refine mp_a (a_aload_n dX6_copyRow_16 rfl) (mpp 17 rfl ?_)
      refine mp_a (a_iload_n dX6_copyRow_17 rfl) (mpp 18 rfl ?_)
      refine mt_ial (n := 8) hT dX6_copyRow_18 ha0 (by decide) rfl rfl (by omega) (by omega) rfl (fun g3 g4 => mpp 19 rfl ?_)
      refine mt_ias (n := 8) hT dX6_copyRow_19 ha1 (by decide) rfl rfl (by omega) (by omega) rfl (ti_full (fv P a0_ v2.toInt.toNat)) (fun P5 hT6 f7 f8 => mpp 20 rfl ?_)
      have k9 : KW [256] Po P5 := KW.step hK ha1 rfl f8
      obtain ⟨z10, h11⟩ := ti_ex (v2 + 1 : Int32)
      have wz10 := ti_full z10
      refine mp_a (a_iinc (v := z10) (L' := [(2, .int z10), (0, .ref a0_), (1, .ref a1_)]) dX6_copyRow_20 (by decide) rfl h11 rfl) (mpp 23 rfl ?_)
      try have e12 : z10.toInt = v2.toInt + 1 := ti_addz h11 rfl rfl (by omega) (by omega)
      refine mp_a (a_goto (t := 2) dX6_copyRow_23 (by decide)) ?_
      refine MEvP.less (L := [(0, .ref a0_), (1, .ref a1_), (2, .int z10)]) rfl rfl ⟨rfl, rfl, rfl, trivial⟩ ?_
      have i13 : 0 ≤ z10.toInt := by omega
      exact ih _ (by omega) _ P5 hT6 k9 i13 rfl

set_option maxHeartbeats 4000000 in
theorem c_F_copyRow_sizes_sizes {Po : mP} {a0_ : Nat} {a1_ : Nat} (hT : Typ Po)  (ha0 : rl a0_ = 4) (ha1 : rl a1_ = 4) : EvP 1 19 [.ref a0_, .ref a1_] Po (fun r P' => (r = none ∧ (True)) ∧ Typ P' ∧ KW [256] Po P' ∧ True) := by
  refine EvP.of qm_19 (Nat.le_of_ble_eq_true rfl) rfl ?_
  show MEvP _ none q_19 0 [(0, .ref a0_), (1, .ref a1_)] [] _ 0 0 _
  refine mp_a (a_iconst (v := 0) dX6_copyRow_0 rfl) (mpp 1 rfl ?_)
  refine mp_a (a_istore_n (L' := [(2, .int 0), (0, .ref a0_), (1, .ref a1_)]) dX6_copyRow_1 (by decide) rfl) (mpp 2 rfl ?_)
  refine MEvP.less (L := [(0, .ref a0_), (1, .ref a1_), (2, .int 0)]) rfl rfl ⟨rfl, rfl, rfl, trivial⟩ ?_
  have i1 : 0 ≤ (0 : Int) := by omega
  exact c_F_copyRow_sizes_sizes_l2  ha0 ha1 _ _ Po hT KW.refl i1 rfl

set_option maxHeartbeats 4000000 in
theorem c_F_copyRow_creases_creases_l2 {Po : mP} {a0_ : Nat} {a1_ : Nat} (ha0 : rl a0_ = 5) (ha1 : rl a1_ = 5) : ∀ (n : Nat) (v2 : Int32), ∀ (P : mP), Typ P → KW [320] Po P → (0 ≤ v2.toInt) → (2147483647 - v2.toInt).toNat = n → MEvP 0 none q_19 2 [(0, .ref a0_), (1, .ref a1_), (2, .int v2)] [] P 0 0 (fun r P' => (r = none ∧ (True)) ∧ Typ P' ∧ KW [320] Po P' ∧ True) := by
  intro n
  induction n using Nat.strongRecOn with | _ n ih => ?_
  intro v2 P hT hK i_0 hm
  have w_v2 := ti_full v2
  refine mp_a (a_iload_n dX6_copyRow_2 rfl) (mpp 3 rfl ?_)
  refine mp_a (a_aload_n dX6_copyRow_3 rfl) (mpp 4 rfl ?_)
  refine mt_len (n := 8) hT dX6_copyRow_4 ha0 (by decide) (by decide) rfl (mpp 5 rfl ?_)
  refine mp_Tb (t := 26) (j_icmp_ge dX6_copyRow_5) (by decide) (fun c1 => ?_) (fun c1 => mpp 8 rfl ?_)
  · have c1 : v2.toInt ≥ 8 := ti_ge c1
    exact mp_ret ⟨⟨rfl, trivial⟩, hT, hK, trivial⟩ dX6_copyRow_26 rfl
  · have c1 : v2.toInt < 8 := ti_ge_n c1
    refine mp_a (a_iload_n dX6_copyRow_8 rfl) (mpp 9 rfl ?_)
    refine mp_a (a_aload_n dX6_copyRow_9 rfl) (mpp 10 rfl ?_)
    refine mt_len (n := 8) hT dX6_copyRow_10 ha1 (by decide) (by decide) rfl (mpp 11 rfl ?_)
    refine mp_Tb (t := 26) (j_icmp_ge dX6_copyRow_11) (by decide) (fun c2 => ?_) (fun c2 => mpp 14 rfl ?_)
    · have c2 : v2.toInt ≥ 8 := ti_ge c2
      exact mp_ret ⟨⟨rfl, trivial⟩, hT, hK, trivial⟩ dX6_copyRow_26 rfl
    · have c2 : v2.toInt < 8 := ti_ge_n c2
      refine mp_a (a_aload_n dX6_copyRow_14 rfl) (mpp 15 rfl ?_)
      refine mp_a (a_iload_n dX6_copyRow_15 rfl) (mpp 16 rfl ?_)
      refine mp_a (a_aload_n dX6_copyRow_16 rfl) (mpp 17 rfl ?_)
      refine mp_a (a_iload_n dX6_copyRow_17 rfl) (mpp 18 rfl ?_)
      refine mt_ial (n := 8) hT dX6_copyRow_18 ha0 (by decide) rfl rfl (by omega) (by omega) rfl (fun g3 g4 => mpp 19 rfl ?_)
      refine mt_ias (n := 8) hT dX6_copyRow_19 ha1 (by decide) rfl rfl (by omega) (by omega) rfl (ti_full (fv P a0_ v2.toInt.toNat)) (fun P5 hT6 f7 f8 => mpp 20 rfl ?_)
      have k9 : KW [320] Po P5 := KW.step hK ha1 rfl f8
      obtain ⟨z10, h11⟩ := ti_ex (v2 + 1 : Int32)
      have wz10 := ti_full z10
      refine mp_a (a_iinc (v := z10) (L' := [(2, .int z10), (0, .ref a0_), (1, .ref a1_)]) dX6_copyRow_20 (by decide) rfl h11 rfl) (mpp 23 rfl ?_)
      try have e12 : z10.toInt = v2.toInt + 1 := ti_addz h11 rfl rfl (by omega) (by omega)
      refine mp_a (a_goto (t := 2) dX6_copyRow_23 (by decide)) ?_
      refine MEvP.less (L := [(0, .ref a0_), (1, .ref a1_), (2, .int z10)]) rfl rfl ⟨rfl, rfl, rfl, trivial⟩ ?_
      have i13 : 0 ≤ z10.toInt := by omega
      exact ih _ (by omega) _ P5 hT6 k9 i13 rfl

set_option maxHeartbeats 4000000 in
theorem c_F_copyRow_creases_creases {Po : mP} {a0_ : Nat} {a1_ : Nat} (hT : Typ Po)  (ha0 : rl a0_ = 5) (ha1 : rl a1_ = 5) : EvP 1 19 [.ref a0_, .ref a1_] Po (fun r P' => (r = none ∧ (True)) ∧ Typ P' ∧ KW [320] Po P' ∧ True) := by
  refine EvP.of qm_19 (Nat.le_of_ble_eq_true rfl) rfl ?_
  show MEvP _ none q_19 0 [(0, .ref a0_), (1, .ref a1_)] [] _ 0 0 _
  refine mp_a (a_iconst (v := 0) dX6_copyRow_0 rfl) (mpp 1 rfl ?_)
  refine mp_a (a_istore_n (L' := [(2, .int 0), (0, .ref a0_), (1, .ref a1_)]) dX6_copyRow_1 (by decide) rfl) (mpp 2 rfl ?_)
  refine MEvP.less (L := [(0, .ref a0_), (1, .ref a1_), (2, .int 0)]) rfl rfl ⟨rfl, rfl, rfl, trivial⟩ ?_
  have i1 : 0 ≤ (0 : Int) := by omega
  exact c_F_copyRow_creases_creases_l2  ha0 ha1 _ _ Po hT KW.refl i1 rfl

set_option maxHeartbeats 4000000 in
theorem c_CP_copyFrom_Piece_NPiece {Po : mP} {a0_ : Nat} {a1_ : Nat} (hT : Typ Po)  (ha0 : rl a0_ = 3) (ha1 : rl a1_ = 33) : EvP 2 18 [.ref a0_, .ref a1_] Po (fun r P' => (r = none ∧ (True)) ∧ Typ P' ∧ KW [192, 193, 194, 256, 320] Po P' ∧ True) := by
  refine EvP.of qm_18 (Nat.le_of_ble_eq_true rfl) rfl ?_
  show MEvP _ none q_18 0 [(0, .ref a0_), (1, .ref a1_)] [] _ 0 0 _
  refine mp_a (a_aload_n dX2_copyFrom_0 rfl) (mpp 1 rfl ?_)
  refine mp_a (a_aload_n dX2_copyFrom_1 rfl) (mpp 2 rfl ?_)
  have g1 := ti_full (fv Po a1_ 0)
  refine mt_getI (i := 18) (k := 0) hT dX2_copyFrom_2 rfl ha1 (by decide) rfl (by decide) rfl (fun g2 g3 => mpp 5 rfl ?_)
  refine mt_putI (i := 18) (k := 0) (x := (fv Po a1_ 0)) hT dX2_copyFrom_5 rfl ha0 (by decide) rfl (by decide) rfl (ti_full (fv Po a1_ 0)) rfl rfl (fun P4 hT5 f6 f7 => mpp 8 rfl ?_)
  have k8 : KW [192, 193, 194, 256, 320] Po P4 := KW.step KW.refl ha0 rfl f7
  have e9 : (fv P4 a0_ 0).toInt = (fv Po a1_ 0).toInt := congrArg Int32.toInt f6
  refine mp_a (a_aload_n dX2_copyFrom_8 rfl) (mpp 9 rfl ?_)
  refine mp_a (a_aload_n dX2_copyFrom_9 rfl) (mpp 10 rfl ?_)
  have g10 : (0 : Int) ≤ (fv P4 a1_ 1).toInt ∧ (fv P4 a1_ 1).toInt ≤ 8 := Typ.rng hT5 ha1 (by decide) (by decide) rfl
  refine mt_getI (i := 26) (k := 1) hT5 dX2_copyFrom_10 rfl ha1 (by decide) rfl (by decide) rfl (fun g11 g12 => mpp 13 rfl ?_)
  refine mt_putI (i := 26) (k := 1) (x := (fv P4 a1_ 1)) hT5 dX2_copyFrom_13 rfl ha0 (by decide) rfl (by decide) rfl ⟨by omega, by omega⟩ rfl rfl (fun P13 hT14 f15 f16 => mpp 16 rfl ?_)
  have k17 : KW [192, 193, 194, 256, 320] Po P13 := KW.step k8 ha0 rfl f16
  have e18 : (fv P13 a0_ 1).toInt = (fv P4 a1_ 1).toInt := congrArg Int32.toInt f15
  refine mp_a (a_aload_n dX2_copyFrom_16 rfl) (mpp 17 rfl ?_)
  refine mp_a (a_aload_n dX2_copyFrom_17 rfl) (mpp 18 rfl ?_)
  have g19 : (0 : Int) ≤ (fv P13 a1_ 2).toInt ∧ (fv P13 a1_ 2).toInt ≤ 1 := Typ.rng hT14 ha1 (by decide) (by decide) rfl
  refine mt_getI (i := 22) (k := 2) hT14 dX2_copyFrom_18 rfl ha1 (by decide) rfl (by decide) rfl (fun g20 g21 => mpp 21 rfl ?_)
  refine mt_putI (i := 22) (k := 2) (x := (fv P13 a1_ 2)) hT14 dX2_copyFrom_21 rfl ha0 (by decide) rfl (by decide) rfl ⟨by omega, by omega⟩ (ti_fit (by omega)) rfl (fun P22 hT23 f24 f25 => mpp 24 rfl ?_)
  have k26 : KW [192, 193, 194, 256, 320] Po P22 := KW.step k17 ha0 rfl f25
  have e27 : (fv P22 a0_ 2).toInt = (fv P13 a1_ 2).toInt := congrArg Int32.toInt f24
  refine mp_a (a_aload_n dX2_copyFrom_24 rfl) (mpp 25 rfl ?_)
  refine mt_getR (i := 9) (k := 3) hT23 dX2_copyFrom_25 rfl ha1 (by decide) rfl (by decide) rfl (fun q28 => mpp 28 rfl ?_)
  generalize rv P22 a1_ 3 = b29 at q28 ⊢
  refine mp_a (a_aload_n dX2_copyFrom_28 rfl) (mpp 29 rfl ?_)
  refine mt_getR (i := 9) (k := 3) hT23 dX2_copyFrom_29 rfl ha0 (by decide) rfl (by decide) rfl (fun q30 => mpp 32 rfl ?_)
  generalize rv P22 a0_ 3 = b31 at q30 ⊢
  refine mp_calls (i := 44) (q' := q_19) (As := [.ref b29, .ref b31]) (rest := []) dX2_copyFrom_32 rfl qm_19 (by decide) rfl (Nat.le_of_ble_eq_true rfl) rfl ⟨rfl, rfl⟩ ⟨Nat.le_of_ble_eq_true rfl, Nat.le_of_ble_eq_true rfl⟩ (EvP.mono (by decide) (c_F_copyRow_sizes_sizes hT23 q28 q30)) (fun r32 P33 g34 => mpp 35 rfl ?_)
  obtain ⟨⟨rfl, g36⟩, hT37, k38, R39⟩ := g34
  have k40 : KW [192, 193, 194, 256, 320] Po P33 := KW.trans k26 k38 rfl
  show MEvP _ none q_18 35 [(0, .ref a0_), (1, .ref a1_)] [] _ _ _ _
  refine mp_a (a_aload_n dX2_copyFrom_35 rfl) (mpp 36 rfl ?_)
  refine mt_getR (i := 15) (k := 4) hT37 dX2_copyFrom_36 rfl ha1 (by decide) rfl (by decide) rfl (fun q41 => mpp 39 rfl ?_)
  generalize rv P33 a1_ 4 = b42 at q41 ⊢
  refine mp_a (a_aload_n dX2_copyFrom_39 rfl) (mpp 40 rfl ?_)
  refine mt_getR (i := 15) (k := 4) hT37 dX2_copyFrom_40 rfl ha0 (by decide) rfl (by decide) rfl (fun q43 => mpp 43 rfl ?_)
  generalize rv P33 a0_ 4 = b44 at q43 ⊢
  refine mp_calls (i := 44) (q' := q_19) (As := [.ref b42, .ref b44]) (rest := []) dX2_copyFrom_43 rfl qm_19 (by decide) rfl (Nat.le_of_ble_eq_true rfl) rfl ⟨rfl, rfl⟩ ⟨Nat.le_of_ble_eq_true rfl, Nat.le_of_ble_eq_true rfl⟩ (EvP.mono (by decide) (c_F_copyRow_creases_creases hT37 q41 q43)) (fun r45 P46 g47 => mpp 46 rfl ?_)
  obtain ⟨⟨rfl, g49⟩, hT50, k51, R52⟩ := g47
  have k53 : KW [192, 193, 194, 256, 320] Po P46 := KW.trans k40 k51 rfl
  show MEvP _ none q_18 46 [(0, .ref a0_), (1, .ref a1_)] [] _ _ _ _
  exact mp_ret ⟨⟨rfl, trivial⟩, hT50, k53, trivial⟩ dX2_copyFrom_46 rfl

set_option maxHeartbeats 4000000 in
theorem c_CS_copyFrom_State_NState_l26 {Po : mP} {a0_ : Nat} (ha0 : rl a0_ = 1) : ∀ (n : Nat) (v2 : Int32), ∀ (P : mP), Typ P → KW [65, 66, 67, 192, 193, 194, 256, 320] Po P → (0 ≤ v2.toInt) → (2147483647 - v2.toInt).toNat = n → MEvP 2 none q_17 26 [(0, .ref a0_), (1, .ref 1), (2, .int v2)] [] P 0 0 (fun r P' => (r = none ∧ (True)) ∧ Typ P' ∧ KW [65, 66, 67, 192, 193, 194, 256, 320] Po P' ∧ True) := by
  intro n
  induction n using Nat.strongRecOn with | _ n ih => ?_
  intro v2 P hT hK i_0 hm
  have w_v2 := ti_full v2
  refine mp_a (a_iload_n dX5_copyFrom_26 rfl) (mpp 27 rfl ?_)
  refine mp_a (a_aload_n dX5_copyFrom_27 rfl) (mpp 28 rfl ?_)
  have g1 := ti_full (fv P a0_ 1)
  refine mt_getI (i := 22) (k := 1) hT dX5_copyFrom_28 rfl ha0 (by decide) rfl (by decide) rfl (fun g2 g3 => mpp 31 rfl ?_)
  refine mp_Tb (t := 68) (j_icmp_ge dX5_copyFrom_31) (by decide) (fun c4 => ?_) (fun c4 => mpp 34 rfl ?_)
  · have c4 : v2.toInt ≥ (fv P a0_ 1).toInt := ti_ge c4
    exact mp_ret ⟨⟨rfl, trivial⟩, hT, hK, trivial⟩ dX5_copyFrom_68 rfl
  · have c4 : v2.toInt < (fv P a0_ 1).toInt := ti_ge_n c4
    refine mp_a (a_aload_n dX5_copyFrom_34 rfl) (mpp 35 rfl ?_)
    refine mp_a (a_iload_n dX5_copyFrom_35 rfl) (mpp 36 rfl ?_)
    refine mt_callv (i := 28) (q' := q_9) (As := [.int v2]) (rest := []) hT dX5_copyFrom_36 rfl qm_9 (by decide) rfl ha0 (by decide) rfl (Nat.le_of_ble_eq_true rfl) rfl ⟨rfl, rfl⟩ ⟨Nat.le_of_ble_eq_true rfl, Nat.le_of_ble_eq_true rfl⟩ (EvP.mono (by decide) (c_CS_pieceAt_State hT ha0)) (fun r5 P6 g7 => mpp 39 rfl ?_)
    obtain ⟨g7, e8⟩ := g7
    have e8 := e8.symm
    subst e8
    rcases g7 with rfl | ⟨b9, rfl, q10, q10r⟩
    · show MEvP _ none q_17 39 [(0, .ref a0_), (1, .ref 1), (2, .int v2)] [.null] _ _ _ _
      refine mp_a (a_astore_nN (L' := [(3, .null), (0, .ref a0_), (1, .ref 1), (2, .int v2)]) dX5_copyFrom_39 (by decide) rfl) (mpp 40 rfl ?_)
      refine mp_a (a_aload_n dX5_copyFrom_40 rfl) (mpp 41 rfl ?_)
      refine mp_a (a_iload_n dX5_copyFrom_41 rfl) (mpp 42 rfl ?_)
      refine mt_callv (i := 28) (q' := q_9) (As := [.int v2]) (rest := []) hT dX5_copyFrom_42 rfl qm_9 (by decide) rfl rl_1 (by decide) rfl (Nat.le_of_ble_eq_true rfl) rfl ⟨rfl, rfl⟩ ⟨Nat.le_of_ble_eq_true rfl, Nat.le_of_ble_eq_true rfl⟩ (EvP.mono (by decide) (c_CS_pieceAt_NState hT )) (fun r11 P12 g13 => mpp 45 rfl ?_)
      obtain ⟨g13, e14⟩ := g13
      have e14 := e14.symm
      subst e14
      rcases g13 with rfl | ⟨b15, rfl, q16, q16r⟩
      · show MEvP _ none q_17 45 [(3, .null), (0, .ref a0_), (1, .ref 1), (2, .int v2)] [.null] _ _ _ _
        refine mp_a (a_astoreN (L' := [(4, .null), (3, .null), (0, .ref a0_), (1, .ref 1), (2, .int v2)]) dX5_copyFrom_45 (by decide) rfl) (mpp 47 rfl ?_)
        refine mp_a (a_aload_nN dX5_copyFrom_47 rfl) (mpp 48 rfl ?_)
        refine mp_t (s_ifnullN (t := 62) dX5_copyFrom_48 (by decide)) ?_
        obtain ⟨z17, h18⟩ := ti_ex (v2 + 1 : Int32)
        have wz17 := ti_full z17
        refine mp_a (a_iinc (v := z17) (L' := [(2, .int z17), (4, .null), (3, .null), (0, .ref a0_), (1, .ref 1)]) dX5_copyFrom_62 (by decide) rfl h18 rfl) (mpp 65 rfl ?_)
        try have e19 : z17.toInt = v2.toInt + 1 := ti_addz h18 rfl rfl (by omega) (by omega)
        refine mp_a (a_goto (t := 26) dX5_copyFrom_65 (by decide)) ?_
        refine MEvP.less (L := [(0, .ref a0_), (1, .ref 1), (2, .int z17)]) rfl rfl ⟨rfl, rfl, rfl, trivial⟩ ?_
        have i20 : 0 ≤ z17.toInt := by omega
        exact ih _ (by omega) _ P hT hK i20 rfl
      · show MEvP _ none q_17 45 [(3, .null), (0, .ref a0_), (1, .ref 1), (2, .int v2)] [.ref b15] _ _ _ _
        refine mp_a (a_astore (L' := [(4, .ref b15), (3, .null), (0, .ref a0_), (1, .ref 1), (2, .int v2)]) dX5_copyFrom_45 (by decide) rfl) (mpp 47 rfl ?_)
        refine mp_a (a_aload_nN dX5_copyFrom_47 rfl) (mpp 48 rfl ?_)
        refine mp_t (s_ifnullN (t := 62) dX5_copyFrom_48 (by decide)) ?_
        obtain ⟨z21, h22⟩ := ti_ex (v2 + 1 : Int32)
        have wz21 := ti_full z21
        refine mp_a (a_iinc (v := z21) (L' := [(2, .int z21), (4, .ref b15), (3, .null), (0, .ref a0_), (1, .ref 1)]) dX5_copyFrom_62 (by decide) rfl h22 rfl) (mpp 65 rfl ?_)
        try have e23 : z21.toInt = v2.toInt + 1 := ti_addz h22 rfl rfl (by omega) (by omega)
        refine mp_a (a_goto (t := 26) dX5_copyFrom_65 (by decide)) ?_
        refine MEvP.less (L := [(0, .ref a0_), (1, .ref 1), (2, .int z21)]) rfl rfl ⟨rfl, rfl, rfl, trivial⟩ ?_
        have i24 : 0 ≤ z21.toInt := by omega
        exact ih _ (by omega) _ P hT hK i24 rfl
    · show MEvP _ none q_17 39 [(0, .ref a0_), (1, .ref 1), (2, .int v2)] [.ref b9] _ _ _ _
      refine mp_a (a_astore_n (L' := [(3, .ref b9), (0, .ref a0_), (1, .ref 1), (2, .int v2)]) dX5_copyFrom_39 (by decide) rfl) (mpp 40 rfl ?_)
      refine mp_a (a_aload_n dX5_copyFrom_40 rfl) (mpp 41 rfl ?_)
      refine mp_a (a_iload_n dX5_copyFrom_41 rfl) (mpp 42 rfl ?_)
      refine mt_callv (i := 28) (q' := q_9) (As := [.int v2]) (rest := []) hT dX5_copyFrom_42 rfl qm_9 (by decide) rfl rl_1 (by decide) rfl (Nat.le_of_ble_eq_true rfl) rfl ⟨rfl, rfl⟩ ⟨Nat.le_of_ble_eq_true rfl, Nat.le_of_ble_eq_true rfl⟩ (EvP.mono (by decide) (c_CS_pieceAt_NState hT )) (fun r25 P26 g27 => mpp 45 rfl ?_)
      obtain ⟨g27, e28⟩ := g27
      have e28 := e28.symm
      subst e28
      rcases g27 with rfl | ⟨b29, rfl, q30, q30r⟩
      · show MEvP _ none q_17 45 [(3, .ref b9), (0, .ref a0_), (1, .ref 1), (2, .int v2)] [.null] _ _ _ _
        refine mp_a (a_astoreN (L' := [(4, .null), (3, .ref b9), (0, .ref a0_), (1, .ref 1), (2, .int v2)]) dX5_copyFrom_45 (by decide) rfl) (mpp 47 rfl ?_)
        refine mp_a (a_aload_n dX5_copyFrom_47 rfl) (mpp 48 rfl ?_)
        refine mp_t (s_ifnullR dX5_copyFrom_48) (mpp 51 rfl ?_)
        refine mp_a (a_aloadN dX5_copyFrom_51 rfl) (mpp 53 rfl ?_)
        refine mp_t (s_ifnullN (t := 62) dX5_copyFrom_53 (by decide)) ?_
        obtain ⟨z31, h32⟩ := ti_ex (v2 + 1 : Int32)
        have wz31 := ti_full z31
        refine mp_a (a_iinc (v := z31) (L' := [(2, .int z31), (4, .null), (3, .ref b9), (0, .ref a0_), (1, .ref 1)]) dX5_copyFrom_62 (by decide) rfl h32 rfl) (mpp 65 rfl ?_)
        try have e33 : z31.toInt = v2.toInt + 1 := ti_addz h32 rfl rfl (by omega) (by omega)
        refine mp_a (a_goto (t := 26) dX5_copyFrom_65 (by decide)) ?_
        refine MEvP.less (L := [(0, .ref a0_), (1, .ref 1), (2, .int z31)]) rfl rfl ⟨rfl, rfl, rfl, trivial⟩ ?_
        have i34 : 0 ≤ z31.toInt := by omega
        exact ih _ (by omega) _ P hT hK i34 rfl
      · show MEvP _ none q_17 45 [(3, .ref b9), (0, .ref a0_), (1, .ref 1), (2, .int v2)] [.ref b29] _ _ _ _
        refine mp_a (a_astore (L' := [(4, .ref b29), (3, .ref b9), (0, .ref a0_), (1, .ref 1), (2, .int v2)]) dX5_copyFrom_45 (by decide) rfl) (mpp 47 rfl ?_)
        refine mp_a (a_aload_n dX5_copyFrom_47 rfl) (mpp 48 rfl ?_)
        refine mp_t (s_ifnullR dX5_copyFrom_48) (mpp 51 rfl ?_)
        refine mp_a (a_aload dX5_copyFrom_51 rfl) (mpp 53 rfl ?_)
        refine mp_t (s_ifnullR dX5_copyFrom_53) (mpp 56 rfl ?_)
        refine mp_a (a_aload_n dX5_copyFrom_56 rfl) (mpp 57 rfl ?_)
        refine mp_a (a_aload dX5_copyFrom_57 rfl) (mpp 59 rfl ?_)
        refine mt_callv (i := 32) (q' := q_18) (As := [.ref b29]) (rest := []) hT dX5_copyFrom_59 rfl qm_18 (by decide) rfl q10 (by decide) rfl (Nat.le_of_ble_eq_true rfl) rfl ⟨rfl, rfl⟩ ⟨Nat.le_of_ble_eq_true rfl, Nat.le_of_ble_eq_true rfl⟩ (EvP.mono (by decide) (c_CP_copyFrom_Piece_NPiece hT q10 q30)) (fun r35 P36 g37 => mpp 62 rfl ?_)
        obtain ⟨⟨rfl, g39⟩, hT40, k41, R42⟩ := g37
        have k43 : KW [65, 66, 67, 192, 193, 194, 256, 320] Po P36 := KW.trans hK k41 rfl
        show MEvP _ none q_17 62 [(4, .ref b29), (3, .ref b9), (0, .ref a0_), (1, .ref 1), (2, .int v2)] [] _ _ _ _
        obtain ⟨z44, h45⟩ := ti_ex (v2 + 1 : Int32)
        have wz44 := ti_full z44
        refine mp_a (a_iinc (v := z44) (L' := [(2, .int z44), (4, .ref b29), (3, .ref b9), (0, .ref a0_), (1, .ref 1)]) dX5_copyFrom_62 (by decide) rfl h45 rfl) (mpp 65 rfl ?_)
        try have e46 : z44.toInt = v2.toInt + 1 := ti_addz h45 rfl rfl (by omega) (by omega)
        refine mp_a (a_goto (t := 26) dX5_copyFrom_65 (by decide)) ?_
        refine MEvP.less (L := [(0, .ref a0_), (1, .ref 1), (2, .int z44)]) rfl rfl ⟨rfl, rfl, rfl, trivial⟩ ?_
        have i47 : 0 ≤ z44.toInt := by omega
        exact ih _ (by omega) _ P36 hT40 k43 i47 rfl

