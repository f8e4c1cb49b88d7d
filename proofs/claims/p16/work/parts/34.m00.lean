/-! methods on typed pools, 0 (written by a program) -/
set_option maxHeartbeats 4000000 in
theorem c_CS_pieceAt_NState {Po : mP} {t1 : Int32} (hT : Typ Po) (hX : XR Po)   : EvP 1 9 [.ref 1, .int t1] Po (fun r P' => (r = some .null ∧ (t1.toInt < 0 ∨ (fv Po 1 1).toInt ≤ t1.toInt ∨ 8 ≤ t1.toInt) ∨ ∃ b : Nat, r = some (.ref b) ∧ rl b = 33 ∧ (0 ≤ t1.toInt ∧ t1.toInt ≤ 7 ∧ t1.toInt + 1 ≤ (fv Po 1 1).toInt ∧ rv Po 2 t1.toInt.toNat = b)) ∧ P' = Po) := by
  refine EvP.of qm_9 (Nat.le_of_ble_eq_true rfl) rfl ?_
  show MEvP _ none q_9 0 [(0, .ref 1), (1, .int t1)] [] _ 0 0 _
  have w_t1 := ti_full t1
  refine mp_a (a_iload_n dX5_pieceAt_0 rfl) (mpp 1 rfl ?_)
  refine mp_Tb (t := 30) (j_if_lt dX5_pieceAt_1) (by decide) (fun c1 => ?_) (fun c1 => mpp 4 rfl ?_)
  · have c1 : t1.toInt < 0 := ti_lt c1
    refine mp_a (a_null dX5_pieceAt_30) (mpp 31 rfl ?_)
    have g2 : (0 : Int) ≤ (fv Po 1 1).toInt ∧ (fv Po 1 1).toInt ≤ 8 := Typ.rng hT rl_1 (by decide) (by decide) rfl
    exact mp_aretN ⟨Or.inl ⟨rfl, by omega⟩, rfl⟩ dX5_pieceAt_31 rfl
  · have c1 : t1.toInt ≥ 0 := ti_lt_n c1
    refine mp_a (a_iload_n dX5_pieceAt_4 rfl) (mpp 5 rfl ?_)
    refine mp_a (a_aload_n dX5_pieceAt_5 rfl) (mpp 6 rfl ?_)
    have g3 : (0 : Int) ≤ (fv Po 1 1).toInt ∧ (fv Po 1 1).toInt ≤ 8 := Typ.rng hT rl_1 (by decide) (by decide) rfl
    refine mt_getI (i := 22) (k := 1) hT dX5_pieceAt_6 rfl rl_1 (by decide) rfl (by decide) rfl (fun g4 g5 => mpp 9 rfl ?_)
    refine mp_Tb (t := 30) (j_icmp_ge dX5_pieceAt_9) (by decide) (fun c6 => ?_) (fun c6 => mpp 12 rfl ?_)
    · have c6 : t1.toInt ≥ (fv Po 1 1).toInt := ti_ge c6
      refine mp_a (a_null dX5_pieceAt_30) (mpp 31 rfl ?_)
      exact mp_aretN ⟨Or.inl ⟨rfl, by omega⟩, rfl⟩ dX5_pieceAt_31 rfl
    · have c6 : t1.toInt < (fv Po 1 1).toInt := ti_ge_n c6
      refine mp_a (a_iload_n dX5_pieceAt_12 rfl) (mpp 13 rfl ?_)
      refine mp_a (a_aload_n dX5_pieceAt_13 rfl) (mpp 14 rfl ?_)
      refine mt_getU (i := 11) (k := 0) (A := 2) hT dX5_pieceAt_14 rfl rl_1 (by decide) rfl (by decide) rfl un_32 (mpp 17 rfl ?_)
      refine mt_len (n := 8) hT dX5_pieceAt_17 rl_2 (by decide) (by decide) rfl (mpp 18 rfl ?_)
      refine mp_Tb (t := 30) (j_icmp_ge dX5_pieceAt_18) (by decide) (fun c7 => ?_) (fun c7 => mpp 21 rfl ?_)
      · have c7 : t1.toInt ≥ 8 := ti_ge c7
        refine mp_a (a_null dX5_pieceAt_30) (mpp 31 rfl ?_)
        exact mp_aretN ⟨Or.inl ⟨rfl, by omega⟩, rfl⟩ dX5_pieceAt_31 rfl
      · have c7 : t1.toInt < 8 := ti_ge_n c7
        refine mp_a (a_aload_n dX5_pieceAt_21 rfl) (mpp 22 rfl ?_)
        refine mt_getU (i := 11) (k := 0) (A := 2) hT dX5_pieceAt_22 rfl rl_1 (by decide) rfl (by decide) rfl un_32 (mpp 25 rfl ?_)
        refine mp_a (a_iload_n dX5_pieceAt_25 rfl) (mpp 26 rfl ?_)
        refine mt_aal (n := 8) hT dX5_pieceAt_26 rl_2 (by decide) (by decide) rfl (by omega) (by omega) rfl (fun q8 => mpp 27 rfl ?_)
        generalize h10 : rv Po 2 t1.toInt.toNat = b9 at q8 ⊢
        have e11 := np_ar q8
        refine mp_a (a_goto (t := 31) dX5_pieceAt_27 (by decide)) ?_
        exact mp_aret ⟨Or.inr ⟨_, rfl, q8, by omega, by omega, by omega, by first | exact h10 | rfl⟩, rfl⟩ dX5_pieceAt_31 rfl

set_option maxHeartbeats 4000000 in
theorem c_F_at_sizes {Po : mP} {a0_ : Nat} {t1 : Int32} (hT : Typ Po) (hX : XR Po)  (ha0 : rl a0_ = 4) : EvP 1 12 [.ref a0_, .int t1] Po (fun r P' => (∃ x : Int32, r = some (.int x) ∧ ((0 ≤ t1.toInt ∧ t1.toInt ≤ 7 ∧ x.toInt = (fv Po a0_ t1.toInt.toNat).toInt) ∨ ((t1.toInt < 0 ∨ 8 ≤ t1.toInt) ∧ x.toInt = 0))) ∧ P' = Po) := by
  refine EvP.of qm_12 (Nat.le_of_ble_eq_true rfl) rfl ?_
  show MEvP _ none q_12 0 [(0, .ref a0_), (1, .int t1)] [] _ 0 0 _
  have w_t1 := ti_full t1
  refine mp_a (a_iload_n dX6_at_0 rfl) (mpp 1 rfl ?_)
  refine mp_Tb (t := 16) (j_if_lt dX6_at_1) (by decide) (fun c1 => ?_) (fun c1 => mpp 4 rfl ?_)
  · have c1 : t1.toInt < 0 := ti_lt c1
    refine mp_a (a_iconst (v := 0) dX6_at_16 rfl) (mpp 17 rfl ?_)
    have u2 : (0 ≤ t1.toInt ∧ t1.toInt ≤ 7 ∧ (0 : Int) = (fv Po a0_ t1.toInt.toNat).toInt) ∨ ((t1.toInt < 0 ∨ 8 ≤ t1.toInt) ∧ (0 : Int) = 0) := by omega
    exact mp_iret ⟨⟨_, rfl, u2⟩, rfl⟩ dX6_at_17 (Or.inl rfl)
  · have c1 : t1.toInt ≥ 0 := ti_lt_n c1
    refine mp_a (a_iload_n dX6_at_4 rfl) (mpp 5 rfl ?_)
    refine mp_a (a_aload_n dX6_at_5 rfl) (mpp 6 rfl ?_)
    refine mt_len (n := 8) hT dX6_at_6 ha0 (by decide) (by decide) rfl (mpp 7 rfl ?_)
    refine mp_Tb (t := 16) (j_icmp_ge dX6_at_7) (by decide) (fun c3 => ?_) (fun c3 => mpp 10 rfl ?_)
    · have c3 : t1.toInt ≥ 8 := ti_ge c3
      refine mp_a (a_iconst (v := 0) dX6_at_16 rfl) (mpp 17 rfl ?_)
      have u4 : (0 ≤ t1.toInt ∧ t1.toInt ≤ 7 ∧ (0 : Int) = (fv Po a0_ t1.toInt.toNat).toInt) ∨ ((t1.toInt < 0 ∨ 8 ≤ t1.toInt) ∧ (0 : Int) = 0) := by omega
      exact mp_iret ⟨⟨_, rfl, u4⟩, rfl⟩ dX6_at_17 (Or.inl rfl)
    · have c3 : t1.toInt < 8 := ti_ge_n c3
      refine mp_a (a_aload_n dX6_at_10 rfl) (mpp 11 rfl ?_)
      refine mp_a (a_iload_n dX6_at_11 rfl) (mpp 12 rfl ?_)
      refine mt_ial (n := 8) hT dX6_at_12 ha0 (by decide) rfl rfl (by omega) (by omega) rfl (fun g5 g6 => mpp 13 rfl ?_)
      refine mp_a (a_goto (t := 17) dX6_at_13 (by decide)) ?_
      have u7 : (0 ≤ t1.toInt ∧ t1.toInt ≤ 7 ∧ (fv Po a0_ t1.toInt.toNat).toInt = (fv Po a0_ t1.toInt.toNat).toInt) ∨ ((t1.toInt < 0 ∨ 8 ≤ t1.toInt) ∧ (fv Po a0_ t1.toInt.toNat).toInt = 0) := by omega
      exact mp_iret ⟨⟨_, rfl, u7⟩, rfl⟩ dX6_at_17 (Or.inl rfl)

set_option maxHeartbeats 4000000 in
theorem c_CP_greatestSize_NPiece_l4 {Po : mP} {a0_ : Nat} (hT : Typ Po) (hX : XR Po)  (ha0 : rl a0_ = 33) : ∀ (n : Nat) (v1 : Int32) (v2 : Int32), (v1 = mxF (fun j : Nat => fv Po (a0_ + 1) j) v2.toInt.toNat) → (v2.toInt ≤ (fv Po a0_ 1).toInt) → (0 ≤ v2.toInt) → (2147483647 - v2.toInt).toNat = n → MEvP 1 none q_11 4 [(0, .ref a0_), (1, .int v1), (2, .int v2)] [] Po 0 0 (fun r P' => (∃ x : Int32, r = some (.int x) ∧ (x.toInt = (mxF (fun j : Nat => fv Po (a0_ + 1) j) (fv Po a0_ 1).toInt.toNat).toInt)) ∧ P' = Po) := by
  intro n
  induction n using Nat.strongRecOn with | _ n ih => ?_
  intro v1 v2 i_0 i_1 i_2 hm
  have w1 := np_ar ha0
  have w_v1 := ti_full v1
  have w_v2 := ti_full v2
  have g2 : (0 : Int) ≤ (fv Po a0_ 1).toInt ∧ (fv Po a0_ 1).toInt ≤ 8 := Typ.rng hT ha0 (by decide) (by decide) rfl
  refine mp_a (a_iload_n dX2_greatestSize_4 rfl) (mpp 5 rfl ?_)
  refine mp_a (a_aload_n dX2_greatestSize_5 rfl) (mpp 6 rfl ?_)
  refine mt_getI (i := 26) (k := 1) hT dX2_greatestSize_6 rfl ha0 (by decide) rfl (by decide) rfl (fun g3 g4 => mpp 9 rfl ?_)
  refine mp_Tb (t := 31) (j_icmp_ge dX2_greatestSize_9) (by decide) (fun c5 => ?_) (fun c5 => mpp 12 rfl ?_)
  · have c5 : v2.toInt ≥ (fv Po a0_ 1).toInt := ti_ge c5
    refine mp_a (a_iload_n dX2_greatestSize_31 rfl) (mpp 32 rfl ?_)
    have u6 : v1.toInt = (mxF (fun j : Nat => fv Po (a0_ + 1) j) (fv Po a0_ 1).toInt.toNat).toInt := congrArg Int32.toInt (i_0.trans (congrArg (mxF _) (by omega)))
    exact mp_iret ⟨⟨_, rfl, u6⟩, rfl⟩ dX2_greatestSize_32 (Or.inl rfl)
  · have c5 : v2.toInt < (fv Po a0_ 1).toInt := ti_ge_n c5
    refine mp_a (a_iload_n dX2_greatestSize_12 rfl) (mpp 13 rfl ?_)
    refine mp_a (a_aload_n dX2_greatestSize_13 rfl) (mpp 14 rfl ?_)
    refine mt_getE (i := 9) (k := 3) hT dX2_greatestSize_14 rfl ha0 (by decide) rfl (by decide) rfl (hX.1 a0_ (Or.inr ha0)).1 (fun q7 => mpp 17 rfl ?_)
    refine mp_a (a_iload_n dX2_greatestSize_17 rfl) (mpp 18 rfl ?_)
    refine mp_calls (i := 48) (q' := q_12) (As := [.ref (a0_ + 1), .int v2]) (rest := [.int v1]) dX2_greatestSize_18 rfl qm_12 (by decide) rfl (Nat.le_of_ble_eq_true rfl) rfl ⟨rfl, rfl⟩ ⟨Nat.le_of_ble_eq_true rfl, Nat.le_of_ble_eq_true rfl⟩ (EvP.mono (by decide) (c_F_at_sizes hT hX q7)) (fun r8 P9 g10 => mpp 21 rfl ?_)
    obtain ⟨⟨x11, rfl, g12⟩, e13⟩ := g10
    have e13 := e13.symm
    subst e13
    have wx11 := ti_full x11
    replace g12 : (0 ≤ v2.toInt ∧ v2.toInt ≤ 7 ∧ x11.toInt = (fv Po (a0_ + 1) v2.toInt.toNat).toInt) ∨ ((v2.toInt < 0 ∨ 8 ≤ v2.toInt) ∧ x11.toInt = 0) := g12
    try replace g12 : x11.toInt = (fv Po (a0_ + 1) v2.toInt.toNat).toInt := (g12.resolve_right (by omega)).2.2
    show MEvP _ none q_11 21 [(0, .ref a0_), (1, .int v1), (2, .int v2)] [.int x11, .int v1] _ _ _ _
    obtain ⟨z14, h15⟩ := ti_ex (if (7 : Nat) = 7 then (if v1 < x11 then x11 else v1) else (if x11 < v1 then x11 else v1) : Int32)
    have e16 : z14.toInt = max v1.toInt x11.toInt := ti_mm7 h15
    refine mp_math (i := 65) (k := 0) (v := z14) dX2_greatestSize_21 rfl (by decide) (Nat.le_of_ble_eq_true rfl) h15 ⟨Nat.le_of_ble_eq_true rfl, Nat.le_of_ble_eq_true rfl⟩ (mpp 24 rfl ?_)
    refine mp_a (a_istore_n (L' := [(1, .int z14), (0, .ref a0_), (2, .int v2)]) dX2_greatestSize_24 (by decide) rfl) (mpp 25 rfl ?_)
    obtain ⟨z17, h18⟩ := ti_ex (v2 + 1 : Int32)
    have wz17 := ti_full z17
    refine mp_a (a_iinc (v := z17) (L' := [(2, .int z17), (1, .int z14), (0, .ref a0_)]) dX2_greatestSize_25 (by decide) rfl h18 rfl) (mpp 28 rfl ?_)
    try have e19 : z17.toInt = v2.toInt + 1 := ti_addz h18 rfl rfl (by omega) (by omega)
    refine mp_a (a_goto (t := 4) dX2_greatestSize_28 (by decide)) ?_
    refine MEvP.less (L := [(0, .ref a0_), (1, .int z14), (2, .int z17)]) rfl rfl ⟨rfl, rfl, rfl, trivial⟩ ?_
    have i20 : z14 = mxF (fun j : Nat => fv Po (a0_ + 1) j) z17.toInt.toNat := mxF.step i_0 (by omega) (x := x11) (by show _ = (fv Po (a0_ + 1) v2.toInt.toNat).toInt; omega) (mxI_of (by omega))
    have i21 : z17.toInt ≤ (fv Po a0_ 1).toInt := by omega
    have i22 : 0 ≤ z17.toInt := by omega
    exact ih _ (by omega) _ _ i20 i21 i22 rfl

set_option maxHeartbeats 4000000 in
theorem c_CP_greatestSize_NPiece {Po : mP} {a0_ : Nat} (hT : Typ Po) (hX : XR Po)  (ha0 : rl a0_ = 33) : EvP 2 11 [.ref a0_] Po (fun r P' => (∃ x : Int32, r = some (.int x) ∧ (x.toInt = (mxF (fun j : Nat => fv Po (a0_ + 1) j) (fv Po a0_ 1).toInt.toNat).toInt)) ∧ P' = Po) := by
  refine EvP.of qm_11 (Nat.le_of_ble_eq_true rfl) rfl ?_
  show MEvP _ none q_11 0 [(0, .ref a0_)] [] _ 0 0 _
  have w1 := np_ar ha0
  have g2 : (0 : Int) ≤ (fv Po a0_ 1).toInt ∧ (fv Po a0_ 1).toInt ≤ 8 := Typ.rng hT ha0 (by decide) (by decide) rfl
  refine mp_a (a_iconst (v := 0) dX2_greatestSize_0 rfl) (mpp 1 rfl ?_)
  refine mp_a (a_istore_n (L' := [(1, .int 0), (0, .ref a0_)]) dX2_greatestSize_1 (by decide) rfl) (mpp 2 rfl ?_)
  refine mp_a (a_iconst (v := 0) dX2_greatestSize_2 rfl) (mpp 3 rfl ?_)
  refine mp_a (a_istore_n (L' := [(2, .int 0), (1, .int 0), (0, .ref a0_)]) dX2_greatestSize_3 (by decide) rfl) (mpp 4 rfl ?_)
  refine MEvP.less (L := [(0, .ref a0_), (1, .int 0), (2, .int 0)]) rfl rfl ⟨rfl, rfl, rfl, trivial⟩ ?_
  have i3 : 0 = mxF (fun j : Nat => fv Po (a0_ + 1) j) (0 : Int).toNat := rfl
  have i4 : (0 : Int) ≤ (fv Po a0_ 1).toInt := by omega
  have i5 : 0 ≤ (0 : Int) := by omega
  exact c_CP_greatestSize_NPiece_l4 hT hX  ha0 _ _ _ i3 i4 i5 rfl

set_option maxHeartbeats 4000000 in
theorem c_CP_placeOf_NPiece_l4 {Po : mP} {a0_ : Nat} {t1 : Int32} (hT : Typ Po) (hX : XR Po)  (ha0 : rl a0_ = 33) : ∀ (n : Nat) (v2 : Int32) (v3 : Int32), (v2 = plF (fun j : Nat => fv Po (a0_ + 1) j) v3.toInt.toNat) → (v3.toInt ≤ (fv Po a0_ 1).toInt) → (v3.toInt ≤ t1.toInt ∨ v3.toInt = 0) → (0 ≤ v3.toInt) → (2147483647 - v3.toInt).toNat = n → MEvP 1 none q_13 4 [(0, .ref a0_), (1, .int t1), (2, .int v2), (3, .int v3)] [] Po 0 0 (fun r P' => (∃ x : Int32, r = some (.int x) ∧ (x.toInt = (plF (fun j : Nat => fv Po (a0_ + 1) j) (min t1.toInt (fv Po a0_ 1).toInt).toNat).toInt)) ∧ P' = Po) := by
  intro n
  induction n using Nat.strongRecOn with | _ n ih => ?_
  intro v2 v3 i_0 i_1 i_2 i_3 hm
  have w1 := np_ar ha0
  have w_t1 := ti_full t1
  have w_v2 := ti_full v2
  have w_v3 := ti_full v3
  have g2 : (0 : Int) ≤ (fv Po a0_ 1).toInt ∧ (fv Po a0_ 1).toInt ≤ 8 := Typ.rng hT ha0 (by decide) (by decide) rfl
  refine mp_a (a_iload_n dX2_placeOf_4 rfl) (mpp 5 rfl ?_)
  refine mp_a (a_iload_n dX2_placeOf_5 rfl) (mpp 6 rfl ?_)
  refine mp_Tb (t := 52) (j_icmp_ge dX2_placeOf_6) (by decide) (fun c3 => ?_) (fun c3 => mpp 9 rfl ?_)
  · have c3 : v3.toInt ≥ t1.toInt := ti_ge c3
    refine mp_a (a_iload_n dX2_placeOf_52 rfl) (mpp 53 rfl ?_)
    have u4 : v2.toInt = (plF (fun j : Nat => fv Po (a0_ + 1) j) (min t1.toInt (fv Po a0_ 1).toInt).toNat).toInt := congrArg Int32.toInt (i_0.trans (congrArg (plF _) (by omega)))
    exact mp_iret ⟨⟨_, rfl, u4⟩, rfl⟩ dX2_placeOf_53 (Or.inl rfl)
  · have c3 : v3.toInt < t1.toInt := ti_ge_n c3
    refine mp_a (a_iload_n dX2_placeOf_9 rfl) (mpp 10 rfl ?_)
    refine mp_a (a_aload_n dX2_placeOf_10 rfl) (mpp 11 rfl ?_)
    refine mt_getI (i := 26) (k := 1) hT dX2_placeOf_11 rfl ha0 (by decide) rfl (by decide) rfl (fun g5 g6 => mpp 14 rfl ?_)
    refine mp_Tb (t := 52) (j_icmp_ge dX2_placeOf_14) (by decide) (fun c7 => ?_) (fun c7 => mpp 17 rfl ?_)
    · have c7 : v3.toInt ≥ (fv Po a0_ 1).toInt := ti_ge c7
      refine mp_a (a_iload_n dX2_placeOf_52 rfl) (mpp 53 rfl ?_)
      have u8 : v2.toInt = (plF (fun j : Nat => fv Po (a0_ + 1) j) (min t1.toInt (fv Po a0_ 1).toInt).toNat).toInt := congrArg Int32.toInt (i_0.trans (congrArg (plF _) (by omega)))
      exact mp_iret ⟨⟨_, rfl, u8⟩, rfl⟩ dX2_placeOf_53 (Or.inl rfl)
    · have c7 : v3.toInt < (fv Po a0_ 1).toInt := ti_ge_n c7
      refine mp_a (a_iload_n dX2_placeOf_17 rfl) (mpp 18 rfl ?_)
      refine mp_a (a_iload_n dX2_placeOf_18 rfl) (mpp 19 rfl ?_)
      refine mp_a (a_iconst (v := 2) dX2_placeOf_19 rfl) (mpp 20 rfl ?_)
      obtain ⟨z9, h10⟩ := ti_ex (v3 - v3 / 2 * 2 : Int32)
      have wz9 := ti_full z9
      try have e12 : z9.toInt = v3.toInt % 2 := ti_remx h10 (show (0 : Int) ≤ v3.toInt by omega) (show (0 : Int) < 2 by omega)
      try have e11 : 0 ≤ z9.toInt ∧ z9.toInt < 2 := ti_rem h10 (show (0 : Int) ≤ v3.toInt by omega) (show (0 : Int) < 2 by omega)
      refine mp_t (s_irem (v := z9) dX2_placeOf_20 (by decide) h10) (mpp 21 rfl ?_)
      refine mp_Tb (t := 35) (j_if_ne dX2_placeOf_21) (by decide) (fun c13 => ?_) (fun c13 => mpp 24 rfl ?_)
      · have c13 : z9.toInt ≠ 0 := ti_ne c13
        refine mp_a (a_aload_n dX2_placeOf_35 rfl) (mpp 36 rfl ?_)
        refine mt_getE (i := 9) (k := 3) hT dX2_placeOf_36 rfl ha0 (by decide) rfl (by decide) rfl (hX.1 a0_ (Or.inr ha0)).1 (fun q14 => mpp 39 rfl ?_)
        refine mp_a (a_iload_n dX2_placeOf_39 rfl) (mpp 40 rfl ?_)
        refine mp_calls (i := 48) (q' := q_12) (As := [.ref (a0_ + 1), .int v3]) (rest := [.int v2]) dX2_placeOf_40 rfl qm_12 (by decide) rfl (Nat.le_of_ble_eq_true rfl) rfl ⟨rfl, rfl⟩ ⟨Nat.le_of_ble_eq_true rfl, Nat.le_of_ble_eq_true rfl⟩ (EvP.mono (by decide) (c_F_at_sizes hT hX q14)) (fun r15 P16 g17 => mpp 43 rfl ?_)
        obtain ⟨⟨x18, rfl, g19⟩, e20⟩ := g17
        have e20 := e20.symm
        subst e20
        have wx18 := ti_full x18
        replace g19 : (0 ≤ v3.toInt ∧ v3.toInt ≤ 7 ∧ x18.toInt = (fv Po (a0_ + 1) v3.toInt.toNat).toInt) ∨ ((v3.toInt < 0 ∨ 8 ≤ v3.toInt) ∧ x18.toInt = 0) := g19
        try replace g19 : x18.toInt = (fv Po (a0_ + 1) v3.toInt.toNat).toInt := (g19.resolve_right (by omega)).2.2
        show MEvP _ none q_13 43 [(0, .ref a0_), (1, .int t1), (2, .int v2), (3, .int v3)] [.int x18, .int v2] _ _ _ _
        obtain ⟨z21, h22⟩ := ti_ex (-x18 : Int32)
        have wz21 := ti_full z21
        refine mp_t (s_ineg (v := z21) dX2_placeOf_43 h22) (mpp 44 rfl ?_)
        obtain ⟨z23, h24⟩ := ti_ex (v2 + z21 : Int32)
        have wz23 := ti_full z23
        refine mp_t (s_iadd (v := z23) dX2_placeOf_44 h24) (mpp 45 rfl ?_)
        try have e25 : z23.toInt = v2.toInt + z21.toInt := ti_addz h24 rfl rfl (by omega) (by omega)
        refine mp_a (a_istore_n (L' := [(2, .int z23), (0, .ref a0_), (1, .int t1), (3, .int v3)]) dX2_placeOf_45 (by decide) rfl) (mpp 46 rfl ?_)
        obtain ⟨z26, h27⟩ := ti_ex (v3 + 1 : Int32)
        have wz26 := ti_full z26
        refine mp_a (a_iinc (v := z26) (L' := [(3, .int z26), (2, .int z23), (0, .ref a0_), (1, .int t1)]) dX2_placeOf_46 (by decide) rfl h27 rfl) (mpp 49 rfl ?_)
        try have e28 : z26.toInt = v3.toInt + 1 := ti_addz h27 rfl rfl (by omega) (by omega)
        refine mp_a (a_goto (t := 4) dX2_placeOf_49 (by decide)) ?_
        refine MEvP.less (L := [(0, .ref a0_), (1, .int t1), (2, .int z23), (3, .int z26)]) rfl rfl ⟨rfl, rfl, rfl, rfl, trivial⟩ ?_
        have i29 : z23 = plF (fun j : Nat => fv Po (a0_ + 1) j) z26.toInt.toNat := plF.odd i_0 (by omega) (by omega) (by show _ = (fv Po (a0_ + 1) v3.toInt.toNat).toInt; omega) h22 h24
        have i30 : z26.toInt ≤ (fv Po a0_ 1).toInt := by omega
        have i31 : z26.toInt ≤ t1.toInt ∨ z26.toInt = 0 := by omega
        have i32 : 0 ≤ z26.toInt := by omega
        exact ih _ (by omega) _ _ i29 i30 i31 i32 rfl
      · have c13 : z9.toInt = 0 := ti_ne_n c13
        refine mp_a (a_aload_n dX2_placeOf_24 rfl) (mpp 25 rfl ?_)
        refine mt_getE (i := 9) (k := 3) hT dX2_placeOf_25 rfl ha0 (by decide) rfl (by decide) rfl (hX.1 a0_ (Or.inr ha0)).1 (fun q33 => mpp 28 rfl ?_)
        refine mp_a (a_iload_n dX2_placeOf_28 rfl) (mpp 29 rfl ?_)
        refine mp_calls (i := 48) (q' := q_12) (As := [.ref (a0_ + 1), .int v3]) (rest := [.int v2]) dX2_placeOf_29 rfl qm_12 (by decide) rfl (Nat.le_of_ble_eq_true rfl) rfl ⟨rfl, rfl⟩ ⟨Nat.le_of_ble_eq_true rfl, Nat.le_of_ble_eq_true rfl⟩ (EvP.mono (by decide) (c_F_at_sizes hT hX q33)) (fun r34 P35 g36 => mpp 32 rfl ?_)
        obtain ⟨⟨x37, rfl, g38⟩, e39⟩ := g36
        have e39 := e39.symm
        subst e39
        have wx37 := ti_full x37
        replace g38 : (0 ≤ v3.toInt ∧ v3.toInt ≤ 7 ∧ x37.toInt = (fv Po (a0_ + 1) v3.toInt.toNat).toInt) ∨ ((v3.toInt < 0 ∨ 8 ≤ v3.toInt) ∧ x37.toInt = 0) := g38
        try replace g38 : x37.toInt = (fv Po (a0_ + 1) v3.toInt.toNat).toInt := (g38.resolve_right (by omega)).2.2
        show MEvP _ none q_13 32 [(0, .ref a0_), (1, .int t1), (2, .int v2), (3, .int v3)] [.int x37, .int v2] _ _ _ _
        refine mp_a (a_goto (t := 44) dX2_placeOf_32 (by decide)) ?_
        obtain ⟨z40, h41⟩ := ti_ex (v2 + x37 : Int32)
        have wz40 := ti_full z40
        refine mp_t (s_iadd (v := z40) dX2_placeOf_44 h41) (mpp 45 rfl ?_)
        try have e42 : z40.toInt = v2.toInt + x37.toInt := ti_addz h41 rfl rfl (by omega) (by omega)
        refine mp_a (a_istore_n (L' := [(2, .int z40), (0, .ref a0_), (1, .int t1), (3, .int v3)]) dX2_placeOf_45 (by decide) rfl) (mpp 46 rfl ?_)
        obtain ⟨z43, h44⟩ := ti_ex (v3 + 1 : Int32)
        have wz43 := ti_full z43
        refine mp_a (a_iinc (v := z43) (L' := [(3, .int z43), (2, .int z40), (0, .ref a0_), (1, .int t1)]) dX2_placeOf_46 (by decide) rfl h44 rfl) (mpp 49 rfl ?_)
        try have e45 : z43.toInt = v3.toInt + 1 := ti_addz h44 rfl rfl (by omega) (by omega)
        refine mp_a (a_goto (t := 4) dX2_placeOf_49 (by decide)) ?_
        refine MEvP.less (L := [(0, .ref a0_), (1, .int t1), (2, .int z40), (3, .int z43)]) rfl rfl ⟨rfl, rfl, rfl, rfl, trivial⟩ ?_
        have i46 : z40 = plF (fun j : Nat => fv Po (a0_ + 1) j) z43.toInt.toNat := plF.even i_0 (by omega) (by omega) (by show _ = (fv Po (a0_ + 1) v3.toInt.toNat).toInt; omega) h41
        have i47 : z43.toInt ≤ (fv Po a0_ 1).toInt := by omega
        have i48 : z43.toInt ≤ t1.toInt ∨ z43.toInt = 0 := by omega
        have i49 : 0 ≤ z43.toInt := by omega
        exact ih _ (by omega) _ _ i46 i47 i48 i49 rfl

set_option maxHeartbeats 4000000 in
theorem c_CP_placeOf_NPiece {Po : mP} {a0_ : Nat} {t1 : Int32} (hT : Typ Po) (hX : XR Po)  (ha0 : rl a0_ = 33) : EvP 2 13 [.ref a0_, .int t1] Po (fun r P' => (∃ x : Int32, r = some (.int x) ∧ (x.toInt = (plF (fun j : Nat => fv Po (a0_ + 1) j) (min t1.toInt (fv Po a0_ 1).toInt).toNat).toInt)) ∧ P' = Po) := by
  refine EvP.of qm_13 (Nat.le_of_ble_eq_true rfl) rfl ?_
  show MEvP _ none q_13 0 [(0, .ref a0_), (1, .int t1)] [] _ 0 0 _
  have w1 := np_ar ha0
  have w_t1 := ti_full t1
  have g2 : (0 : Int) ≤ (fv Po a0_ 1).toInt ∧ (fv Po a0_ 1).toInt ≤ 8 := Typ.rng hT ha0 (by decide) (by decide) rfl
  refine mp_a (a_iconst (v := 0) dX2_placeOf_0 rfl) (mpp 1 rfl ?_)
  refine mp_a (a_istore_n (L' := [(2, .int 0), (0, .ref a0_), (1, .int t1)]) dX2_placeOf_1 (by decide) rfl) (mpp 2 rfl ?_)
  refine mp_a (a_iconst (v := 0) dX2_placeOf_2 rfl) (mpp 3 rfl ?_)
  refine mp_a (a_istore_n (L' := [(3, .int 0), (2, .int 0), (0, .ref a0_), (1, .int t1)]) dX2_placeOf_3 (by decide) rfl) (mpp 4 rfl ?_)
  refine MEvP.less (L := [(0, .ref a0_), (1, .int t1), (2, .int 0), (3, .int 0)]) rfl rfl ⟨rfl, rfl, rfl, rfl, trivial⟩ ?_
  have i3 : 0 = plF (fun j : Nat => fv Po (a0_ + 1) j) (0 : Int).toNat := rfl
  have i4 : (0 : Int) ≤ (fv Po a0_ 1).toInt := by omega
  have i5 : (0 : Int) ≤ t1.toInt ∨ (0 : Int) = 0 := by omega
  have i6 : 0 ≤ (0 : Int) := by omega
  exact c_CP_placeOf_NPiece_l4 hT hX  ha0 _ _ _ i3 i4 i5 i6 rfl

set_option maxHeartbeats 4000000 in
theorem c_CP_width_NPiece_l19 {Po : mP} {a0_ : Nat} (hT : Typ Po) (hX : XR Po)  (ha0 : rl a0_ = 33) : ∀ (n : Nat) (v1 : Int32) (v2 : Int32) (v3 : Int32), (v1 = loF (fun j : Nat => fv Po (a0_ + 1) j) v3.toInt.toNat) → (v2 = hiF (fun j : Nat => fv Po (a0_ + 1) j) v3.toInt.toNat) → (v3.toInt ≤ (fv Po a0_ 1).toInt) → (¬ (fv Po a0_ 0).toInt = 1) → (0 ≤ v3.toInt) → (2147483647 - v3.toInt).toNat = n → MEvP 2 none q_10 19 [(0, .ref a0_), (1, .int v1), (2, .int v2), (3, .int v3)] [] Po 0 0 (fun r P' => (∃ x : Int32, r = some (.int x) ∧ (x.toInt = (wdF (fv Po a0_ 0).toInt (fun j : Nat => fv Po (a0_ + 1) j) (fv Po a0_ 1).toInt.toNat).toInt)) ∧ P' = Po) := by
  intro n
  induction n using Nat.strongRecOn with | _ n ih => ?_
  intro v1 v2 v3 i_0 i_1 i_2 i_3 i_4 hm
  have w1 := np_ar ha0
  have w_v1 := ti_full v1
  have w_v2 := ti_full v2
  have w_v3 := ti_full v3
  have g2 := ti_full (fv Po a0_ 0)
  have g3 : (0 : Int) ≤ (fv Po a0_ 1).toInt ∧ (fv Po a0_ 1).toInt ≤ 8 := Typ.rng hT ha0 (by decide) (by decide) rfl
  refine mp_a (a_iload_n dX2_width_19 rfl) (mpp 20 rfl ?_)
  refine mp_a (a_aload_n dX2_width_20 rfl) (mpp 21 rfl ?_)
  refine mt_getI (i := 26) (k := 1) hT dX2_width_21 rfl ha0 (by decide) rfl (by decide) rfl (fun g4 g5 => mpp 24 rfl ?_)
  refine mp_Tb (t := 57) (j_icmp_ge dX2_width_24) (by decide) (fun c6 => ?_) (fun c6 => mpp 27 rfl ?_)
  · have c6 : v3.toInt ≥ (fv Po a0_ 1).toInt := ti_ge c6
    refine mp_a (a_iload_n dX2_width_57 rfl) (mpp 58 rfl ?_)
    refine mp_a (a_iload_n dX2_width_58 rfl) (mpp 59 rfl ?_)
    obtain ⟨z7, h8⟩ := ti_ex (v2 - v1 : Int32)
    have wz7 := ti_full z7
    refine mp_t (s_isub (v := z7) dX2_width_59 h8) (mpp 60 rfl ?_)
    try have e9 : z7.toInt = v2.toInt - v1.toInt := ti_subz h8 rfl rfl (by omega) (by omega)
    have u10 : z7.toInt = (wdF (fv Po a0_ 0).toInt (fun j : Nat => fv Po (a0_ + 1) j) (fv Po a0_ 1).toInt.toNat).toInt := wdF.s i_3 i_1 i_0 (by omega) h8
    exact mp_iret ⟨⟨_, rfl, u10⟩, rfl⟩ dX2_width_60 (Or.inl rfl)
  · have c6 : v3.toInt < (fv Po a0_ 1).toInt := ti_ge_n c6
    refine mp_a (a_iload_n dX2_width_27 rfl) (mpp 28 rfl ?_)
    refine mp_a (a_aload_n dX2_width_28 rfl) (mpp 29 rfl ?_)
    refine mp_a (a_iload_n dX2_width_29 rfl) (mpp 30 rfl ?_)
    refine mp_a (a_iconst (v := 1) dX2_width_30 rfl) (mpp 31 rfl ?_)
    obtain ⟨z11, h12⟩ := ti_ex (v3 + 1 : Int32)
    have wz11 := ti_full z11
    refine mp_t (s_iadd (v := z11) dX2_width_31 h12) (mpp 32 rfl ?_)
    try have e13 : z11.toInt = v3.toInt + 1 := ti_addz h12 rfl rfl (by omega) (by omega)
    refine mt_callv (i := 56) (q' := q_13) (As := [.int z11]) (rest := [.int v1]) hT dX2_width_32 rfl qm_13 (by decide) rfl ha0 (by decide) rfl (Nat.le_of_ble_eq_true rfl) rfl ⟨rfl, rfl⟩ ⟨Nat.le_of_ble_eq_true rfl, Nat.le_of_ble_eq_true rfl⟩ (EvP.mono (by decide) (c_CP_placeOf_NPiece hT hX ha0)) (fun r14 P15 g16 => mpp 35 rfl ?_)
    obtain ⟨⟨x17, rfl, g18⟩, e19⟩ := g16
    have e19 := e19.symm
    subst e19
    have wx17 := ti_full x17
    replace g18 : x17.toInt = (plF (fun j : Nat => fv Po (a0_ + 1) j) (min z11.toInt (fv Po a0_ 1).toInt).toNat).toInt := g18
    show MEvP _ none q_10 35 [(0, .ref a0_), (1, .int v1), (2, .int v2), (3, .int v3)] [.int x17, .int v1] _ _ _ _
    obtain ⟨z20, h21⟩ := ti_ex (if (8 : Nat) = 7 then (if v1 < x17 then x17 else v1) else (if x17 < v1 then x17 else v1) : Int32)
    have e22 : z20.toInt = min v1.toInt x17.toInt := ti_mm8 h21
    refine mp_math (i := 59) (k := 0) (v := z20) dX2_width_35 rfl (by decide) (Nat.le_of_ble_eq_true rfl) h21 ⟨Nat.le_of_ble_eq_true rfl, Nat.le_of_ble_eq_true rfl⟩ (mpp 38 rfl ?_)
    refine mp_a (a_istore_n (L' := [(1, .int z20), (0, .ref a0_), (2, .int v2), (3, .int v3)]) dX2_width_38 (by decide) rfl) (mpp 39 rfl ?_)
    refine mp_a (a_iload_n dX2_width_39 rfl) (mpp 40 rfl ?_)
    refine mp_a (a_aload_n dX2_width_40 rfl) (mpp 41 rfl ?_)
    refine mp_a (a_iload_n dX2_width_41 rfl) (mpp 42 rfl ?_)
    refine mp_a (a_iconst (v := 1) dX2_width_42 rfl) (mpp 43 rfl ?_)
    obtain ⟨z23, h24⟩ := ti_ex (v3 + 1 : Int32)
    have wz23 := ti_full z23
    refine mp_t (s_iadd (v := z23) dX2_width_43 h24) (mpp 44 rfl ?_)
    try have e25 : z23.toInt = v3.toInt + 1 := ti_addz h24 rfl rfl (by omega) (by omega)
    refine mt_callv (i := 56) (q' := q_13) (As := [.int z23]) (rest := [.int v2]) hT dX2_width_44 rfl qm_13 (by decide) rfl ha0 (by decide) rfl (Nat.le_of_ble_eq_true rfl) rfl ⟨rfl, rfl⟩ ⟨Nat.le_of_ble_eq_true rfl, Nat.le_of_ble_eq_true rfl⟩ (EvP.mono (by decide) (c_CP_placeOf_NPiece hT hX ha0)) (fun r26 P27 g28 => mpp 47 rfl ?_)
    obtain ⟨⟨x29, rfl, g30⟩, e31⟩ := g28
    have e31 := e31.symm
    subst e31
    have wx29 := ti_full x29
    replace g30 : x29.toInt = (plF (fun j : Nat => fv Po (a0_ + 1) j) (min z23.toInt (fv Po a0_ 1).toInt).toNat).toInt := g30
    show MEvP _ none q_10 47 [(1, .int z20), (0, .ref a0_), (2, .int v2), (3, .int v3)] [.int x29, .int v2] _ _ _ _
    obtain ⟨z32, h33⟩ := ti_ex (if (7 : Nat) = 7 then (if v2 < x29 then x29 else v2) else (if x29 < v2 then x29 else v2) : Int32)
    have e34 : z32.toInt = max v2.toInt x29.toInt := ti_mm7 h33
    refine mp_math (i := 65) (k := 0) (v := z32) dX2_width_47 rfl (by decide) (Nat.le_of_ble_eq_true rfl) h33 ⟨Nat.le_of_ble_eq_true rfl, Nat.le_of_ble_eq_true rfl⟩ (mpp 50 rfl ?_)
    refine mp_a (a_istore_n (L' := [(2, .int z32), (1, .int z20), (0, .ref a0_), (3, .int v3)]) dX2_width_50 (by decide) rfl) (mpp 51 rfl ?_)
    obtain ⟨z35, h36⟩ := ti_ex (v3 + 1 : Int32)
    have wz35 := ti_full z35
    refine mp_a (a_iinc (v := z35) (L' := [(3, .int z35), (2, .int z32), (1, .int z20), (0, .ref a0_)]) dX2_width_51 (by decide) rfl h36 rfl) (mpp 54 rfl ?_)
    try have e37 : z35.toInt = v3.toInt + 1 := ti_addz h36 rfl rfl (by omega) (by omega)
    refine mp_a (a_goto (t := 19) dX2_width_54 (by decide)) ?_
    refine MEvP.less (L := [(0, .ref a0_), (1, .int z20), (2, .int z32), (3, .int z35)]) rfl rfl ⟨rfl, rfl, rfl, rfl, trivial⟩ ?_
    have i38 : z20 = loF (fun j : Nat => fv Po (a0_ + 1) j) z35.toInt.toNat := loF.step i_0 (by omega) (x := x17) g18 (by omega) (mnI_of (by omega))
    have i39 : z32 = hiF (fun j : Nat => fv Po (a0_ + 1) j) z35.toInt.toNat := hiF.step i_1 (by omega) (x := x29) g30 (by omega) (mxI_of (by omega))
    have i40 : z35.toInt ≤ (fv Po a0_ 1).toInt := by omega
    have i41 : ¬ (fv Po a0_ 0).toInt = 1 := by omega
    have i42 : 0 ≤ z35.toInt := by omega
    exact ih _ (by omega) _ _ _ i38 i39 i40 i41 i42 rfl

set_option maxHeartbeats 4000000 in
theorem c_CP_width_NPiece {Po : mP} {a0_ : Nat} (hT : Typ Po) (hX : XR Po)  (ha0 : rl a0_ = 33) : EvP 3 10 [.ref a0_] Po (fun r P' => (∃ x : Int32, r = some (.int x) ∧ (x.toInt = (wdF (fv Po a0_ 0).toInt (fun j : Nat => fv Po (a0_ + 1) j) (fv Po a0_ 1).toInt.toNat).toInt)) ∧ P' = Po) := by
  refine EvP.of qm_10 (Nat.le_of_ble_eq_true rfl) rfl ?_
  show MEvP _ none q_10 0 [(0, .ref a0_)] [] _ 0 0 _
  have w1 := np_ar ha0
  have g2 := ti_full (fv Po a0_ 0)
  have g3 : (0 : Int) ≤ (fv Po a0_ 1).toInt ∧ (fv Po a0_ 1).toInt ≤ 8 := Typ.rng hT ha0 (by decide) (by decide) rfl
  refine mp_a (a_aload_n dX2_width_0 rfl) (mpp 1 rfl ?_)
  refine mt_getI (i := 18) (k := 0) hT dX2_width_1 rfl ha0 (by decide) rfl (by decide) rfl (fun g4 g5 => mpp 4 rfl ?_)
  refine mp_a (a_iconst (v := 1) dX2_width_4 rfl) (mpp 5 rfl ?_)
  refine mp_Tb (t := 13) (j_icmp_ne dX2_width_5) (by decide) (fun c6 => ?_) (fun c6 => mpp 8 rfl ?_)
  · have c6 : (fv Po a0_ 0).toInt ≠ 1 := ti_ne c6
    refine mp_a (a_iconst (v := 0) dX2_width_13 rfl) (mpp 14 rfl ?_)
    refine mp_a (a_istore_n (L' := [(1, .int 0), (0, .ref a0_)]) dX2_width_14 (by decide) rfl) (mpp 15 rfl ?_)
    refine mp_a (a_iconst (v := 0) dX2_width_15 rfl) (mpp 16 rfl ?_)
    refine mp_a (a_istore_n (L' := [(2, .int 0), (1, .int 0), (0, .ref a0_)]) dX2_width_16 (by decide) rfl) (mpp 17 rfl ?_)
    refine mp_a (a_iconst (v := 0) dX2_width_17 rfl) (mpp 18 rfl ?_)
    refine mp_a (a_istore_n (L' := [(3, .int 0), (2, .int 0), (1, .int 0), (0, .ref a0_)]) dX2_width_18 (by decide) rfl) (mpp 19 rfl ?_)
    refine MEvP.less (L := [(0, .ref a0_), (1, .int 0), (2, .int 0), (3, .int 0)]) rfl rfl ⟨rfl, rfl, rfl, rfl, trivial⟩ ?_
    have i7 : 0 = loF (fun j : Nat => fv Po (a0_ + 1) j) (0 : Int).toNat := rfl
    have i8 : 0 = hiF (fun j : Nat => fv Po (a0_ + 1) j) (0 : Int).toNat := rfl
    have i9 : (0 : Int) ≤ (fv Po a0_ 1).toInt := by omega
    have i10 : ¬ (fv Po a0_ 0).toInt = 1 := by omega
    have i11 : 0 ≤ (0 : Int) := by omega
    exact c_CP_width_NPiece_l19 hT hX  ha0 _ _ _ _ i7 i8 i9 i10 i11 rfl
  · have c6 : (fv Po a0_ 0).toInt = 1 := ti_ne_n c6
    refine mp_a (a_aload_n dX2_width_8 rfl) (mpp 9 rfl ?_)
    refine mt_callv (i := 68) (q' := q_11) (As := []) (rest := []) hT dX2_width_9 rfl qm_11 (by decide) rfl ha0 (by decide) rfl (Nat.le_of_ble_eq_true rfl) rfl ⟨rfl, rfl⟩ ⟨Nat.le_of_ble_eq_true rfl, Nat.le_of_ble_eq_true rfl⟩ (EvP.mono (by decide) (c_CP_greatestSize_NPiece hT hX ha0)) (fun r12 P13 g14 => mpp 12 rfl ?_)
    obtain ⟨⟨x15, rfl, g16⟩, e17⟩ := g14
    have e17 := e17.symm
    subst e17
    have wx15 := ti_full x15
    replace g16 : x15.toInt = (mxF (fun j : Nat => fv Po (a0_ + 1) j) (fv Po a0_ 1).toInt.toNat).toInt := g16
    show MEvP _ none q_10 12 [(0, .ref a0_)] [.int x15] _ _ _ _
    have u18 : x15.toInt = (wdF (fv Po a0_ 0).toInt (fun j : Nat => fv Po (a0_ + 1) j) (fv Po a0_ 1).toInt.toNat).toInt := wdF.c (by omega) g16 rfl
    exact mp_iret ⟨⟨_, rfl, u18⟩, rfl⟩ dX2_width_12 (Or.inl rfl)

set_option maxHeartbeats 4000000 in
theorem c_CS_occupied_NState_l4 {Po : mP}  (hT : Typ Po) (hX : XR Po)   : ∀ (n : Nat) (v1 : Int32) (v2 : Int32), (v1 = smF (fun k : Nat => wpC Po (rv Po 2 k)) v2.toInt.toNat) → (v2.toInt ≤ (fv Po 1 1).toInt) → (0 ≤ v2.toInt) → (2147483647 - v2.toInt).toNat = n → MEvP 3 none q_8 4 [(0, .ref 1), (1, .int v1), (2, .int v2)] [] Po 0 0 (fun r P' => (∃ x : Int32, r = some (.int x) ∧ (x.toInt = (smF (fun k : Nat => wpC Po (rv Po 2 k)) (fv Po 1 1).toInt.toNat).toInt)) ∧ P' = Po) := by
  intro n
  induction n using Nat.strongRecOn with | _ n ih => ?_
  intro v1 v2 i_0 i_1 i_2 hm
  have w_v1 := ti_full v1
  have w_v2 := ti_full v2
  have g1 : (0 : Int) ≤ (fv Po 1 1).toInt ∧ (fv Po 1 1).toInt ≤ 8 := Typ.rng hT rl_1 (by decide) (by decide) rfl
  refine mp_a (a_iload_n dX5_occupied_4 rfl) (mpp 5 rfl ?_)
  refine mp_a (a_aload_n dX5_occupied_5 rfl) (mpp 6 rfl ?_)
  refine mt_getI (i := 22) (k := 1) hT dX5_occupied_6 rfl rl_1 (by decide) rfl (by decide) rfl (fun g2 g3 => mpp 9 rfl ?_)
  refine mp_Tb (t := 42) (j_icmp_ge dX5_occupied_9) (by decide) (fun c4 => ?_) (fun c4 => mpp 12 rfl ?_)
  · have c4 : v2.toInt ≥ (fv Po 1 1).toInt := ti_ge c4
    refine mp_a (a_iload_n dX5_occupied_42 rfl) (mpp 43 rfl ?_)
    have u5 : v1.toInt = (smF (fun k : Nat => wpC Po (rv Po 2 k)) (fv Po 1 1).toInt.toNat).toInt := congrArg Int32.toInt (i_0.trans (congrArg (smF _) (by omega)))
    exact mp_iret ⟨⟨_, rfl, u5⟩, rfl⟩ dX5_occupied_43 (Or.inl rfl)
  · have c4 : v2.toInt < (fv Po 1 1).toInt := ti_ge_n c4
    refine mp_a (a_aload_n dX5_occupied_12 rfl) (mpp 13 rfl ?_)
    refine mp_a (a_iload_n dX5_occupied_13 rfl) (mpp 14 rfl ?_)
    refine mt_callv (i := 28) (q' := q_9) (As := [.int v2]) (rest := []) hT dX5_occupied_14 rfl qm_9 (by decide) rfl rl_1 (by decide) rfl (Nat.le_of_ble_eq_true rfl) rfl ⟨rfl, rfl⟩ ⟨Nat.le_of_ble_eq_true rfl, Nat.le_of_ble_eq_true rfl⟩ (EvP.mono (by decide) (c_CS_pieceAt_NState hT hX )) (fun r6 P7 g8 => mpp 17 rfl ?_)
    obtain ⟨g8, e9⟩ := g8
    have e9 := e9.symm
    subst e9
    rcases g8 with ⟨rfl, q11n⟩ | ⟨b10, rfl, q11, q11r⟩
    · show MEvP _ none q_8 17 [(0, .ref 1), (1, .int v1), (2, .int v2)] [.null] _ _ _ _
      replace q11n : v2.toInt < 0 ∨ (fv Po 1 1).toInt ≤ v2.toInt ∨ 8 ≤ v2.toInt := q11n
      refine mp_a (a_astore_nN (L' := [(3, .null), (0, .ref 1), (1, .int v1), (2, .int v2)]) dX5_occupied_17 (by decide) rfl) (mpp 18 rfl ?_)
      refine mp_a (a_aload_nN dX5_occupied_18 rfl) (mpp 19 rfl ?_)
      exfalso
      omega
    · show MEvP _ none q_8 17 [(0, .ref 1), (1, .int v1), (2, .int v2)] [.ref b10] _ _ _ _
      replace q11r : 0 ≤ v2.toInt ∧ v2.toInt ≤ 7 ∧ v2.toInt + 1 ≤ (fv Po 1 1).toInt ∧ rv Po 2 v2.toInt.toNat = b10 := q11r
      have w12 := np_ar q11
      refine mp_a (a_astore_n (L' := [(3, .ref b10), (0, .ref 1), (1, .int v1), (2, .int v2)]) dX5_occupied_17 (by decide) rfl) (mpp 18 rfl ?_)
      refine mp_a (a_aload_n dX5_occupied_18 rfl) (mpp 19 rfl ?_)
      refine mp_t (s_ifnullR dX5_occupied_19) (mpp 22 rfl ?_)
      refine mp_a (a_aload_n dX5_occupied_22 rfl) (mpp 23 rfl ?_)
      have g13 : (0 : Int) ≤ (fv Po b10 2).toInt ∧ (fv Po b10 2).toInt ≤ 1 := Typ.rng hT q11 (by decide) (by decide) rfl
      refine mt_getI (i := 36) (k := 2) hT dX5_occupied_23 rfl q11 (by decide) rfl (by decide) rfl (fun g14 g15 => mpp 26 rfl ?_)
      refine mp_Tb (t := 36) (j_if_eq dX5_occupied_26) (by decide) (fun c16 => ?_) (fun c16 => mpp 29 rfl ?_)
      · have c16 : (fv Po b10 2).toInt = 0 := ti_eq c16
        obtain ⟨z17, h18⟩ := ti_ex (v2 + 1 : Int32)
        have wz17 := ti_full z17
        refine mp_a (a_iinc (v := z17) (L' := [(2, .int z17), (3, .ref b10), (0, .ref 1), (1, .int v1)]) dX5_occupied_36 (by decide) rfl h18 rfl) (mpp 39 rfl ?_)
        try have e19 : z17.toInt = v2.toInt + 1 := ti_addz h18 rfl rfl (by omega) (by omega)
        refine mp_a (a_goto (t := 4) dX5_occupied_39 (by decide)) ?_
        refine MEvP.less (L := [(0, .ref 1), (1, .int v1), (2, .int z17)]) rfl rfl ⟨rfl, rfl, rfl, trivial⟩ ?_
        have i20 : v1 = smF (fun k : Nat => wpC Po (rv Po 2 k)) z17.toInt.toNat := smF.skip i_0 (by omega) (by show wpC Po (rv Po 2 v2.toInt.toNat) = 0; rw [q11r.2.2.2]; exact wpC.no (by omega))
        have i21 : z17.toInt ≤ (fv Po 1 1).toInt := by omega
        have i22 : 0 ≤ z17.toInt := by omega
        exact ih _ (by omega) _ _ i20 i21 i22 rfl
      · have c16 : (fv Po b10 2).toInt ≠ 0 := ti_eq_n c16
        refine mp_a (a_iload_n dX5_occupied_29 rfl) (mpp 30 rfl ?_)
        refine mp_a (a_aload_n dX5_occupied_30 rfl) (mpp 31 rfl ?_)
        refine mt_callv (i := 40) (q' := q_10) (As := []) (rest := [.int v1]) hT dX5_occupied_31 rfl qm_10 (by decide) rfl q11 (by decide) rfl (Nat.le_of_ble_eq_true rfl) rfl ⟨rfl, rfl⟩ ⟨Nat.le_of_ble_eq_true rfl, Nat.le_of_ble_eq_true rfl⟩ (EvP.mono (by decide) (c_CP_width_NPiece hT hX q11)) (fun r23 P24 g25 => mpp 34 rfl ?_)
        obtain ⟨⟨x26, rfl, g27⟩, e28⟩ := g25
        have e28 := e28.symm
        subst e28
        have wx26 := ti_full x26
        replace g27 : x26.toInt = (wdF (fv Po b10 0).toInt (fun j : Nat => fv Po (b10 + 1) j) (fv Po b10 1).toInt.toNat).toInt := g27
        have g29 := ti_full (fv Po b10 0)
        have g30 : (0 : Int) ≤ (fv Po b10 1).toInt ∧ (fv Po b10 1).toInt ≤ 8 := Typ.rng hT q11 (by decide) (by decide) rfl
        show MEvP _ none q_8 34 [(3, .ref b10), (0, .ref 1), (1, .int v1), (2, .int v2)] [.int x26, .int v1] _ _ _ _
        obtain ⟨z31, h32⟩ := ti_ex (v1 + x26 : Int32)
        have wz31 := ti_full z31
        refine mp_t (s_iadd (v := z31) dX5_occupied_34 h32) (mpp 35 rfl ?_)
        try have e33 : z31.toInt = v1.toInt + x26.toInt := ti_addz h32 rfl rfl (by omega) (by omega)
        refine mp_a (a_istore_n (L' := [(1, .int z31), (3, .ref b10), (0, .ref 1), (2, .int v2)]) dX5_occupied_35 (by decide) rfl) (mpp 36 rfl ?_)
        obtain ⟨z34, h35⟩ := ti_ex (v2 + 1 : Int32)
        have wz34 := ti_full z34
        refine mp_a (a_iinc (v := z34) (L' := [(2, .int z34), (1, .int z31), (3, .ref b10), (0, .ref 1)]) dX5_occupied_36 (by decide) rfl h35 rfl) (mpp 39 rfl ?_)
        try have e36 : z34.toInt = v2.toInt + 1 := ti_addz h35 rfl rfl (by omega) (by omega)
        refine mp_a (a_goto (t := 4) dX5_occupied_39 (by decide)) ?_
        refine MEvP.less (L := [(0, .ref 1), (1, .int z31), (2, .int z34)]) rfl rfl ⟨rfl, rfl, rfl, trivial⟩ ?_
        have i37 : z31 = smF (fun k : Nat => wpC Po (rv Po 2 k)) z34.toInt.toNat := smF.step i_0 (by omega) (by show _ = (wpC Po (rv Po 2 v2.toInt.toNat)).toInt; rw [q11r.2.2.2]; exact wpC.yes g27 (by omega)) h32
        have i38 : z34.toInt ≤ (fv Po 1 1).toInt := by omega
        have i39 : 0 ≤ z34.toInt := by omega
        exact ih _ (by omega) _ _ i37 i38 i39 rfl

set_option maxHeartbeats 4000000 in
theorem c_CS_occupied_NState {Po : mP}  (hT : Typ Po) (hX : XR Po)   : EvP 4 8 [.ref 1] Po (fun r P' => (∃ x : Int32, r = some (.int x) ∧ (x.toInt = (smF (fun k : Nat => wpC Po (rv Po 2 k)) (fv Po 1 1).toInt.toNat).toInt)) ∧ P' = Po) := by
  refine EvP.of qm_8 (Nat.le_of_ble_eq_true rfl) rfl ?_
  show MEvP _ none q_8 0 [(0, .ref 1)] [] _ 0 0 _
  have g1 : (0 : Int) ≤ (fv Po 1 1).toInt ∧ (fv Po 1 1).toInt ≤ 8 := Typ.rng hT rl_1 (by decide) (by decide) rfl
  refine mp_a (a_iconst (v := 0) dX5_occupied_0 rfl) (mpp 1 rfl ?_)
  refine mp_a (a_istore_n (L' := [(1, .int 0), (0, .ref 1)]) dX5_occupied_1 (by decide) rfl) (mpp 2 rfl ?_)
  refine mp_a (a_iconst (v := 0) dX5_occupied_2 rfl) (mpp 3 rfl ?_)
  refine mp_a (a_istore_n (L' := [(2, .int 0), (1, .int 0), (0, .ref 1)]) dX5_occupied_3 (by decide) rfl) (mpp 4 rfl ?_)
  refine MEvP.less (L := [(0, .ref 1), (1, .int 0), (2, .int 0)]) rfl rfl ⟨rfl, rfl, rfl, trivial⟩ ?_
  have i2 : 0 = smF (fun k : Nat => wpC Po (rv Po 2 k)) (0 : Int).toNat := rfl
  have i3 : (0 : Int) ≤ (fv Po 1 1).toInt := by omega
  have i4 : 0 ≤ (0 : Int) := by omega
  exact c_CS_occupied_NState_l4 hT hX   _ _ _ i2 i3 i4 rfl

set_option maxHeartbeats 4000000 in
theorem c_CH_stateAt_History {Po : mP} {t1 : Int32} (hT : Typ Po) (hX : XR Po)   : EvP 1 16 [.ref 79, .int t1] Po (fun r P' => (r = some .null ∧ (t1.toInt < 0 ∨ 8 ≤ t1.toInt) ∨ ∃ b : Nat, r = some (.ref b) ∧ rl b = 1 ∧ (0 ≤ t1.toInt ∧ t1.toInt ≤ 7 ∧ b = 81 + 26 * t1.toInt.toNat)) ∧ P' = Po) := by
  refine EvP.of qm_16 (Nat.le_of_ble_eq_true rfl) rfl ?_
  show MEvP _ none q_16 0 [(0, .ref 79), (1, .int t1)] [] _ 0 0 _
  have w_t1 := ti_full t1
  refine mp_a (a_iload_n dX0_stateAt_0 rfl) (mpp 1 rfl ?_)
  refine mp_Tb (t := 22) (j_if_lt dX0_stateAt_1) (by decide) (fun c1 => ?_) (fun c1 => mpp 4 rfl ?_)
  · have c1 : t1.toInt < 0 := ti_lt c1
    refine mp_a (a_null dX0_stateAt_22) (mpp 23 rfl ?_)
    exact mp_aretN ⟨Or.inl ⟨rfl, by omega⟩, rfl⟩ dX0_stateAt_23 rfl
  · have c1 : t1.toInt ≥ 0 := ti_lt_n c1
    refine mp_a (a_iload_n dX0_stateAt_4 rfl) (mpp 5 rfl ?_)
    refine mp_a (a_aload_n dX0_stateAt_5 rfl) (mpp 6 rfl ?_)
    refine mt_getU (i := 11) (k := 0) (A := 80) hT dX0_stateAt_6 rfl rl_79 (by decide) rfl (by decide) rfl un_7 (mpp 9 rfl ?_)
    refine mt_len (n := 8) hT dX0_stateAt_9 rl_80 (by decide) (by decide) rfl (mpp 10 rfl ?_)
    refine mp_Tb (t := 22) (j_icmp_ge dX0_stateAt_10) (by decide) (fun c2 => ?_) (fun c2 => mpp 13 rfl ?_)
    · have c2 : t1.toInt ≥ 8 := ti_ge c2
      refine mp_a (a_null dX0_stateAt_22) (mpp 23 rfl ?_)
      exact mp_aretN ⟨Or.inl ⟨rfl, by omega⟩, rfl⟩ dX0_stateAt_23 rfl
    · have c2 : t1.toInt < 8 := ti_ge_n c2
      refine mp_a (a_aload_n dX0_stateAt_13 rfl) (mpp 14 rfl ?_)
      refine mt_getU (i := 11) (k := 0) (A := 80) hT dX0_stateAt_14 rfl rl_79 (by decide) rfl (by decide) rfl un_7 (mpp 17 rfl ?_)
      refine mp_a (a_iload_n dX0_stateAt_17 rfl) (mpp 18 rfl ?_)
      refine mt_aal (n := 8) hT dX0_stateAt_18 rl_80 (by decide) (by decide) rfl (by omega) (by omega) rfl (fun q3 => mpp 19 rfl ?_)
      generalize h5 : rv Po 80 t1.toInt.toNat = b4 at q3 ⊢
      have e6 : b4 = 81 + 26 * t1.toInt.toNat := h5.symm.trans (hX.2.2.1 t1.toInt.toNat (by omega))
      refine mp_a (a_goto (t := 23) dX0_stateAt_19 (by decide)) ?_
      exact mp_aret ⟨Or.inr ⟨_, rfl, q3, by omega, by omega, by omega⟩, rfl⟩ dX0_stateAt_23 rfl

set_option maxHeartbeats 4000000 in
theorem c_CS_pieceAt_State {Po : mP} {a0_ : Nat} {t1 : Int32} (hT : Typ Po) (hX : XR Po)  (ha0 : rl a0_ = 1) : EvP 1 9 [.ref a0_, .int t1] Po (fun r P' => (r = some .null ∧ (t1.toInt < 0 ∨ (fv Po a0_ 1).toInt ≤ t1.toInt ∨ 8 ≤ t1.toInt) ∨ ∃ b : Nat, r = some (.ref b) ∧ rl b = 3 ∧ (0 ≤ t1.toInt ∧ t1.toInt ≤ 7 ∧ t1.toInt + 1 ≤ (fv Po a0_ 1).toInt ∧ b = a0_ + 2 + 3 * t1.toInt.toNat)) ∧ P' = Po) := by
  refine EvP.of qm_9 (Nat.le_of_ble_eq_true rfl) rfl ?_
  show MEvP _ none q_9 0 [(0, .ref a0_), (1, .int t1)] [] _ 0 0 _
  have w1 := st_ar ha0
  have w_t1 := ti_full t1
  refine mp_a (a_iload_n dX5_pieceAt_0 rfl) (mpp 1 rfl ?_)
  refine mp_Tb (t := 30) (j_if_lt dX5_pieceAt_1) (by decide) (fun c2 => ?_) (fun c2 => mpp 4 rfl ?_)
  · have c2 : t1.toInt < 0 := ti_lt c2
    refine mp_a (a_null dX5_pieceAt_30) (mpp 31 rfl ?_)
    have g3 : (0 : Int) ≤ (fv Po a0_ 1).toInt ∧ (fv Po a0_ 1).toInt ≤ 8 := Typ.rng hT ha0 (by decide) (by decide) rfl
    exact mp_aretN ⟨Or.inl ⟨rfl, by omega⟩, rfl⟩ dX5_pieceAt_31 rfl
  · have c2 : t1.toInt ≥ 0 := ti_lt_n c2
    refine mp_a (a_iload_n dX5_pieceAt_4 rfl) (mpp 5 rfl ?_)
    refine mp_a (a_aload_n dX5_pieceAt_5 rfl) (mpp 6 rfl ?_)
    have g4 : (0 : Int) ≤ (fv Po a0_ 1).toInt ∧ (fv Po a0_ 1).toInt ≤ 8 := Typ.rng hT ha0 (by decide) (by decide) rfl
    refine mt_getI (i := 22) (k := 1) hT dX5_pieceAt_6 rfl ha0 (by decide) rfl (by decide) rfl (fun g5 g6 => mpp 9 rfl ?_)
    refine mp_Tb (t := 30) (j_icmp_ge dX5_pieceAt_9) (by decide) (fun c7 => ?_) (fun c7 => mpp 12 rfl ?_)
    · have c7 : t1.toInt ≥ (fv Po a0_ 1).toInt := ti_ge c7
      refine mp_a (a_null dX5_pieceAt_30) (mpp 31 rfl ?_)
      exact mp_aretN ⟨Or.inl ⟨rfl, by omega⟩, rfl⟩ dX5_pieceAt_31 rfl
    · have c7 : t1.toInt < (fv Po a0_ 1).toInt := ti_ge_n c7
      refine mp_a (a_iload_n dX5_pieceAt_12 rfl) (mpp 13 rfl ?_)
      refine mp_a (a_aload_n dX5_pieceAt_13 rfl) (mpp 14 rfl ?_)
      refine mt_getE (i := 11) (k := 0) hT dX5_pieceAt_14 rfl ha0 (by decide) rfl (by decide) rfl (hX.2.1 a0_ ha0).1 (fun q8 => mpp 17 rfl ?_)
      refine mt_len (n := 8) hT dX5_pieceAt_17 q8 (by decide) (by decide) rfl (mpp 18 rfl ?_)
      refine mp_Tb (t := 30) (j_icmp_ge dX5_pieceAt_18) (by decide) (fun c9 => ?_) (fun c9 => mpp 21 rfl ?_)
      · have c9 : t1.toInt ≥ 8 := ti_ge c9
        refine mp_a (a_null dX5_pieceAt_30) (mpp 31 rfl ?_)
        exact mp_aretN ⟨Or.inl ⟨rfl, by omega⟩, rfl⟩ dX5_pieceAt_31 rfl
      · have c9 : t1.toInt < 8 := ti_ge_n c9
        refine mp_a (a_aload_n dX5_pieceAt_21 rfl) (mpp 22 rfl ?_)
        refine mt_getE (i := 11) (k := 0) hT dX5_pieceAt_22 rfl ha0 (by decide) rfl (by decide) rfl (hX.2.1 a0_ ha0).1 (fun q10 => mpp 25 rfl ?_)
        refine mp_a (a_iload_n dX5_pieceAt_25 rfl) (mpp 26 rfl ?_)
        refine mt_aal (n := 8) hT dX5_pieceAt_26 q10 (by decide) (by decide) rfl (by omega) (by omega) rfl (fun q11 => mpp 27 rfl ?_)
        generalize h13 : rv Po (a0_ + 1) t1.toInt.toNat = b12 at q11 ⊢
        have e14 : b12 = a0_ + 2 + 3 * t1.toInt.toNat := h13.symm.trans ((hX.2.1 a0_ ha0).2 t1.toInt.toNat (by omega))
        refine mp_a (a_goto (t := 31) dX5_pieceAt_27 (by decide)) ?_
        exact mp_aret ⟨Or.inr ⟨_, rfl, q11, by omega, by omega, by omega, by omega⟩, rfl⟩ dX5_pieceAt_31 rfl

set_option maxHeartbeats 4000000 in
theorem c_F_copyRow_sizes_sizes_l2 {Po : mP} {a0_ : Nat} {a1_ : Nat} (hTo : Typ Po) (hX : XR Po) (hp0 : ¬ a0_ = a1_) (ha0 : rl a0_ = 4) (ha1 : rl a1_ = 4) : ∀ (n : Nat) (v2 : Int32), ∀ (P : mP), Typ P → KW [256] Po P → (CPY Po P a0_ 0 a1_ 0 v2.toInt.toNat) → (v2.toInt ≤ 8) → (0 ≤ v2.toInt) → (2147483647 - v2.toInt).toNat = n → MEvP 0 none q_19 2 [(0, .ref a0_), (1, .ref a1_), (2, .int v2)] [] P 0 0 (fun r P' => (r = none ∧ (True)) ∧ Typ P' ∧ KW [256] Po P' ∧ (∀ j : Nat, j < 8 → fv P' a1_ j = fv Po a0_ j) ∧ KI a1_ (a1_ + 1) Po P') := by
  intro n
  induction n using Nat.strongRecOn with | _ n ih => ?_
  intro v2 P hT hK i_0 i_1 i_2 hm
  have w_v2 := ti_full v2
  refine mp_a (a_iload_n dX6_copyRow_2 rfl) (mpp 3 rfl ?_)
  refine mp_a (a_aload_n dX6_copyRow_3 rfl) (mpp 4 rfl ?_)
  refine mt_len (n := 8) hT dX6_copyRow_4 ha0 (by decide) (by decide) rfl (mpp 5 rfl ?_)
  refine mp_Tb (t := 26) (j_icmp_ge dX6_copyRow_5) (by decide) (fun c1 => ?_) (fun c1 => mpp 8 rfl ?_)
  · have c1 : v2.toInt ≥ 8 := ti_ge c1
    have u2 : (∀ j : Nat, j < 8 → fv P a1_ j = fv Po a0_ j) ∧ KI a1_ (a1_ + 1) Po P := ⟨fun j hj => by have q := i_0.1 j (by omega); rwa [Nat.zero_add] at q, fun x j hx => i_0.2 x j (by omega)⟩
    exact mp_ret ⟨⟨rfl, trivial⟩, hT, hK, u2⟩ dX6_copyRow_26 rfl
  · have c1 : v2.toInt < 8 := ti_ge_n c1
    refine mp_a (a_iload_n dX6_copyRow_8 rfl) (mpp 9 rfl ?_)
    refine mp_a (a_aload_n dX6_copyRow_9 rfl) (mpp 10 rfl ?_)
    refine mt_len (n := 8) hT dX6_copyRow_10 ha1 (by decide) (by decide) rfl (mpp 11 rfl ?_)
    refine mp_Tb (t := 26) (j_icmp_ge dX6_copyRow_11) (by decide) (fun c3 => ?_) (fun c3 => mpp 14 rfl ?_)
    · have c3 : v2.toInt ≥ 8 := ti_ge c3
      have u4 : (∀ j : Nat, j < 8 → fv P a1_ j = fv Po a0_ j) ∧ KI a1_ (a1_ + 1) Po P := ⟨fun j hj => by have q := i_0.1 j (by omega); rwa [Nat.zero_add] at q, fun x j hx => i_0.2 x j (by omega)⟩
      exact mp_ret ⟨⟨rfl, trivial⟩, hT, hK, u4⟩ dX6_copyRow_26 rfl
    · have c3 : v2.toInt < 8 := ti_ge_n c3
      refine mp_a (a_aload_n dX6_copyRow_14 rfl) (mpp 15 rfl ?_)
      refine mp_a (a_iload_n dX6_copyRow_15 rfl) (mpp 16 rfl ?_)
      refine mp_a (a_aload_n dX6_copyRow_16 rfl) (mpp 17 rfl ?_)
      refine mp_a (a_iload_n dX6_copyRow_17 rfl) (mpp 18 rfl ?_)
      refine mt_ial (n := 8) hT dX6_copyRow_18 ha0 (by decide) rfl rfl (by omega) (by omega) rfl (fun g5 g6 => mpp 19 rfl ?_)
      refine mt_ias (n := 8) hT dX6_copyRow_19 ha1 (by decide) rfl rfl (by omega) (by omega) rfl (ti_full (fv P a0_ v2.toInt.toNat)) (fun P7 hT8 f9 f10 f11 => mpp 20 rfl ?_)
      have k12 : KW [256] Po P7 := KW.step hK ha1 rfl f10 f11
      obtain ⟨z13, h14⟩ := ti_ex (v2 + 1 : Int32)
      have wz13 := ti_full z13
      refine mp_a (a_iinc (v := z13) (L' := [(2, .int z13), (0, .ref a0_), (1, .ref a1_)]) dX6_copyRow_20 (by decide) rfl h14 rfl) (mpp 23 rfl ?_)
      try have e15 : z13.toInt = v2.toInt + 1 := ti_addz h14 rfl rfl (by omega) (by omega)
      refine mp_a (a_goto (t := 2) dX6_copyRow_23 (by decide)) ?_
      refine MEvP.less (L := [(0, .ref a0_), (1, .ref a1_), (2, .int z13)]) rfl rfl ⟨rfl, rfl, rfl, trivial⟩ ?_
      have i16 : CPY Po P7 a0_ 0 a1_ 0 z13.toInt.toNat := CPY.step i_0 f9 f10 (by omega) (by omega) (by omega) (Or.inl hp0)
      have i17 : z13.toInt ≤ 8 := by omega
      have i18 : 0 ≤ z13.toInt := by omega
      exact ih _ (by omega) _ P7 hT8 k12 i16 i17 i18 rfl

set_option maxHeartbeats 4000000 in
theorem c_F_copyRow_sizes_sizes {Po : mP} {a0_ : Nat} {a1_ : Nat} (hT : Typ Po) (hX : XR Po)  (hp0 : ¬ a0_ = a1_) (ha0 : rl a0_ = 4) (ha1 : rl a1_ = 4) : EvP 1 19 [.ref a0_, .ref a1_] Po (fun r P' => (r = none ∧ (True)) ∧ Typ P' ∧ KW [256] Po P' ∧ (∀ j : Nat, j < 8 → fv P' a1_ j = fv Po a0_ j) ∧ KI a1_ (a1_ + 1) Po P') := by
  refine EvP.of qm_19 (Nat.le_of_ble_eq_true rfl) rfl ?_
  show MEvP _ none q_19 0 [(0, .ref a0_), (1, .ref a1_)] [] _ 0 0 _
  refine mp_a (a_iconst (v := 0) dX6_copyRow_0 rfl) (mpp 1 rfl ?_)
  refine mp_a (a_istore_n (L' := [(2, .int 0), (0, .ref a0_), (1, .ref a1_)]) dX6_copyRow_1 (by decide) rfl) (mpp 2 rfl ?_)
  refine MEvP.less (L := [(0, .ref a0_), (1, .ref a1_), (2, .int 0)]) rfl rfl ⟨rfl, rfl, rfl, trivial⟩ ?_
  have i1 : CPY Po Po a0_ 0 a1_ 0 (0 : Int).toNat := CPY.start (by decide)
  have i2 : (0 : Int) ≤ 8 := by omega
  have i3 : 0 ≤ (0 : Int) := by omega
  exact c_F_copyRow_sizes_sizes_l2 hT hX  hp0 ha0 ha1 _ _ Po hT KW.refl i1 i2 i3 rfl

set_option maxHeartbeats 4000000 in
theorem c_F_copyRow_creases_creases_l2 {Po : mP} {a0_ : Nat} {a1_ : Nat} (hTo : Typ Po) (hX : XR Po) (hp0 : ¬ a0_ = a1_) (ha0 : rl a0_ = 5) (ha1 : rl a1_ = 5) : ∀ (n : Nat) (v2 : Int32), ∀ (P : mP), Typ P → KW [320] Po P → (CPY Po P a0_ 0 a1_ 0 v2.toInt.toNat) → (v2.toInt ≤ 8) → (0 ≤ v2.toInt) → (2147483647 - v2.toInt).toNat = n → MEvP 0 none q_19 2 [(0, .ref a0_), (1, .ref a1_), (2, .int v2)] [] P 0 0 (fun r P' => (r = none ∧ (True)) ∧ Typ P' ∧ KW [320] Po P' ∧ (∀ j : Nat, j < 8 → fv P' a1_ j = fv Po a0_ j) ∧ KI a1_ (a1_ + 1) Po P') := by
  intro n
  induction n using Nat.strongRecOn with | _ n ih => ?_
  intro v2 P hT hK i_0 i_1 i_2 hm
  have w_v2 := ti_full v2
  refine mp_a (a_iload_n dX6_copyRow_2 rfl) (mpp 3 rfl ?_)
  refine mp_a (a_aload_n dX6_copyRow_3 rfl) (mpp 4 rfl ?_)
  refine mt_len (n := 8) hT dX6_copyRow_4 ha0 (by decide) (by decide) rfl (mpp 5 rfl ?_)
  refine mp_Tb (t := 26) (j_icmp_ge dX6_copyRow_5) (by decide) (fun c1 => ?_) (fun c1 => mpp 8 rfl ?_)
  · have c1 : v2.toInt ≥ 8 := ti_ge c1
    have u2 : (∀ j : Nat, j < 8 → fv P a1_ j = fv Po a0_ j) ∧ KI a1_ (a1_ + 1) Po P := ⟨fun j hj => by have q := i_0.1 j (by omega); rwa [Nat.zero_add] at q, fun x j hx => i_0.2 x j (by omega)⟩
    exact mp_ret ⟨⟨rfl, trivial⟩, hT, hK, u2⟩ dX6_copyRow_26 rfl
  · have c1 : v2.toInt < 8 := ti_ge_n c1
    refine mp_a (a_iload_n dX6_copyRow_8 rfl) (mpp 9 rfl ?_)
    refine mp_a (a_aload_n dX6_copyRow_9 rfl) (mpp 10 rfl ?_)
    refine mt_len (n := 8) hT dX6_copyRow_10 ha1 (by decide) (by decide) rfl (mpp 11 rfl ?_)
    refine mp_Tb (t := 26) (j_icmp_ge dX6_copyRow_11) (by decide) (fun c3 => ?_) (fun c3 => mpp 14 rfl ?_)
    · have c3 : v2.toInt ≥ 8 := ti_ge c3
      have u4 : (∀ j : Nat, j < 8 → fv P a1_ j = fv Po a0_ j) ∧ KI a1_ (a1_ + 1) Po P := ⟨fun j hj => by have q := i_0.1 j (by omega); rwa [Nat.zero_add] at q, fun x j hx => i_0.2 x j (by omega)⟩
      exact mp_ret ⟨⟨rfl, trivial⟩, hT, hK, u4⟩ dX6_copyRow_26 rfl
    · have c3 : v2.toInt < 8 := ti_ge_n c3
      refine mp_a (a_aload_n dX6_copyRow_14 rfl) (mpp 15 rfl ?_)
      refine mp_a (a_iload_n dX6_copyRow_15 rfl) (mpp 16 rfl ?_)
      refine mp_a (a_aload_n dX6_copyRow_16 rfl) (mpp 17 rfl ?_)
      refine mp_a (a_iload_n dX6_copyRow_17 rfl) (mpp 18 rfl ?_)
      refine mt_ial (n := 8) hT dX6_copyRow_18 ha0 (by decide) rfl rfl (by omega) (by omega) rfl (fun g5 g6 => mpp 19 rfl ?_)
      refine mt_ias (n := 8) hT dX6_copyRow_19 ha1 (by decide) rfl rfl (by omega) (by omega) rfl (ti_full (fv P a0_ v2.toInt.toNat)) (fun P7 hT8 f9 f10 f11 => mpp 20 rfl ?_)
      have k12 : KW [320] Po P7 := KW.step hK ha1 rfl f10 f11
      obtain ⟨z13, h14⟩ := ti_ex (v2 + 1 : Int32)
      have wz13 := ti_full z13
      refine mp_a (a_iinc (v := z13) (L' := [(2, .int z13), (0, .ref a0_), (1, .ref a1_)]) dX6_copyRow_20 (by decide) rfl h14 rfl) (mpp 23 rfl ?_)
      try have e15 : z13.toInt = v2.toInt + 1 := ti_addz h14 rfl rfl (by omega) (by omega)
      refine mp_a (a_goto (t := 2) dX6_copyRow_23 (by decide)) ?_
      refine MEvP.less (L := [(0, .ref a0_), (1, .ref a1_), (2, .int z13)]) rfl rfl ⟨rfl, rfl, rfl, trivial⟩ ?_
      have i16 : CPY Po P7 a0_ 0 a1_ 0 z13.toInt.toNat := CPY.step i_0 f9 f10 (by omega) (by omega) (by omega) (Or.inl hp0)
      have i17 : z13.toInt ≤ 8 := by omega
      have i18 : 0 ≤ z13.toInt := by omega
      exact ih _ (by omega) _ P7 hT8 k12 i16 i17 i18 rfl

set_option maxHeartbeats 4000000 in
theorem c_F_copyRow_creases_creases {Po : mP} {a0_ : Nat} {a1_ : Nat} (hT : Typ Po) (hX : XR Po)  (hp0 : ¬ a0_ = a1_) (ha0 : rl a0_ = 5) (ha1 : rl a1_ = 5) : EvP 1 19 [.ref a0_, .ref a1_] Po (fun r P' => (r = none ∧ (True)) ∧ Typ P' ∧ KW [320] Po P' ∧ (∀ j : Nat, j < 8 → fv P' a1_ j = fv Po a0_ j) ∧ KI a1_ (a1_ + 1) Po P') := by
  refine EvP.of qm_19 (Nat.le_of_ble_eq_true rfl) rfl ?_
  show MEvP _ none q_19 0 [(0, .ref a0_), (1, .ref a1_)] [] _ 0 0 _
  refine mp_a (a_iconst (v := 0) dX6_copyRow_0 rfl) (mpp 1 rfl ?_)
  refine mp_a (a_istore_n (L' := [(2, .int 0), (0, .ref a0_), (1, .ref a1_)]) dX6_copyRow_1 (by decide) rfl) (mpp 2 rfl ?_)
  refine MEvP.less (L := [(0, .ref a0_), (1, .ref a1_), (2, .int 0)]) rfl rfl ⟨rfl, rfl, rfl, trivial⟩ ?_
  have i1 : CPY Po Po a0_ 0 a1_ 0 (0 : Int).toNat := CPY.start (by decide)
  have i2 : (0 : Int) ≤ 8 := by omega
  have i3 : 0 ≤ (0 : Int) := by omega
  exact c_F_copyRow_creases_creases_l2 hT hX  hp0 ha0 ha1 _ _ Po hT KW.refl i1 i2 i3 rfl

set_option maxHeartbeats 4000000 in
theorem c_CP_copyFrom_Piece_NPiece {Po : mP} {a0_ : Nat} {a1_ : Nat} (hT : Typ Po) (hX : XR Po)  (hp0 : a0_ + 3 ≤ a1_ ∨ a1_ + 3 ≤ a0_) (ha0 : rl a0_ = 3) (ha1 : rl a1_ = 33) : EvP 2 18 [.ref a0_, .ref a1_] Po (fun r P' => (r = none ∧ (True)) ∧ Typ P' ∧ KW [192, 193, 194, 256, 320] Po P' ∧ fv P' a0_ 0 = fv Po a1_ 0 ∧ fv P' a0_ 1 = fv Po a1_ 1 ∧ fv P' a0_ 2 = fv Po a1_ 2 ∧ (∀ j : Nat, j < 8 → fv P' (a0_ + 1) j = fv Po (a1_ + 1) j) ∧ (∀ j : Nat, j < 8 → fv P' (a0_ + 2) j = fv Po (a1_ + 2) j) ∧ KI a0_ (a0_ + 3) Po P') := by
  refine EvP.of qm_18 (Nat.le_of_ble_eq_true rfl) rfl ?_
  show MEvP _ none q_18 0 [(0, .ref a0_), (1, .ref a1_)] [] _ 0 0 _
  have w1 := pc_ar ha0
  have w2 := np_ar ha1
  refine mp_a (a_aload_n dX2_copyFrom_0 rfl) (mpp 1 rfl ?_)
  refine mp_a (a_aload_n dX2_copyFrom_1 rfl) (mpp 2 rfl ?_)
  have g3 := ti_full (fv Po a1_ 0)
  refine mt_getI (i := 18) (k := 0) hT dX2_copyFrom_2 rfl ha1 (by decide) rfl (by decide) rfl (fun g4 g5 => mpp 5 rfl ?_)
  refine mt_putI (i := 18) (k := 0) (x := (fv Po a1_ 0)) hT dX2_copyFrom_5 rfl ha0 (by decide) rfl (by decide) rfl (ti_full (fv Po a1_ 0)) rfl rfl (fun P6 hT7 f8 f9 f10 => mpp 8 rfl ?_)
  have k11 : KW [192, 193, 194, 256, 320] Po P6 := KW.step KW.refl ha0 rfl f9 f10
  have e12 : (fv P6 a0_ 0).toInt = (fv Po a1_ 0).toInt := congrArg Int32.toInt f8
  refine mp_a (a_aload_n dX2_copyFrom_8 rfl) (mpp 9 rfl ?_)
  refine mp_a (a_aload_n dX2_copyFrom_9 rfl) (mpp 10 rfl ?_)
  have g13 : (0 : Int) ≤ (fv P6 a1_ 1).toInt ∧ (fv P6 a1_ 1).toInt ≤ 8 := Typ.rng hT7 ha1 (by decide) (by decide) rfl
  refine mt_getI (i := 26) (k := 1) hT7 dX2_copyFrom_10 rfl ha1 (by decide) rfl (by decide) rfl (fun g14 g15 => mpp 13 rfl ?_)
  refine mt_putI (i := 26) (k := 1) (x := (fv P6 a1_ 1)) hT7 dX2_copyFrom_13 rfl ha0 (by decide) rfl (by decide) rfl ⟨by omega, by omega⟩ rfl rfl (fun P16 hT17 f18 f19 f20 => mpp 16 rfl ?_)
  have k21 : KW [192, 193, 194, 256, 320] Po P16 := KW.step k11 ha0 rfl f19 f20
  have e22 : (fv P16 a0_ 1).toInt = (fv P6 a1_ 1).toInt := congrArg Int32.toInt f18
  refine mp_a (a_aload_n dX2_copyFrom_16 rfl) (mpp 17 rfl ?_)
  refine mp_a (a_aload_n dX2_copyFrom_17 rfl) (mpp 18 rfl ?_)
  have g23 : (0 : Int) ≤ (fv P16 a1_ 2).toInt ∧ (fv P16 a1_ 2).toInt ≤ 1 := Typ.rng hT17 ha1 (by decide) (by decide) rfl
  refine mt_getI (i := 22) (k := 2) hT17 dX2_copyFrom_18 rfl ha1 (by decide) rfl (by decide) rfl (fun g24 g25 => mpp 21 rfl ?_)
  refine mt_putI (i := 22) (k := 2) (x := (fv P16 a1_ 2)) hT17 dX2_copyFrom_21 rfl ha0 (by decide) rfl (by decide) rfl ⟨by omega, by omega⟩ (ti_fit (by omega)) rfl (fun P26 hT27 f28 f29 f30 => mpp 24 rfl ?_)
  have k31 : KW [192, 193, 194, 256, 320] Po P26 := KW.step k21 ha0 rfl f29 f30
  have e32 : (fv P26 a0_ 2).toInt = (fv P16 a1_ 2).toInt := congrArg Int32.toInt f28
  refine mp_a (a_aload_n dX2_copyFrom_24 rfl) (mpp 25 rfl ?_)
  refine mt_getE (i := 9) (k := 3) hT27 dX2_copyFrom_25 rfl ha1 (by decide) rfl (by decide) rfl ((KW.xr k31 hX).1 a1_ (Or.inr ha1)).1 (fun q33 => mpp 28 rfl ?_)
  refine mp_a (a_aload_n dX2_copyFrom_28 rfl) (mpp 29 rfl ?_)
  refine mt_getE (i := 9) (k := 3) hT27 dX2_copyFrom_29 rfl ha0 (by decide) rfl (by decide) rfl ((KW.xr k31 hX).1 a0_ (Or.inl ha0)).1 (fun q34 => mpp 32 rfl ?_)
  have p35 : ¬ (a1_ + 1) = (a0_ + 1) := by omega
  refine mp_calls (i := 44) (q' := q_19) (As := [.ref (a1_ + 1), .ref (a0_ + 1)]) (rest := []) dX2_copyFrom_32 rfl qm_19 (by decide) rfl (Nat.le_of_ble_eq_true rfl) rfl ⟨rfl, rfl⟩ ⟨Nat.le_of_ble_eq_true rfl, Nat.le_of_ble_eq_true rfl⟩ (EvP.mono (by decide) (c_F_copyRow_sizes_sizes hT27 (KW.xr k31 hX) p35 q33 q34)) (fun r36 P37 g38 => mpp 35 rfl ?_)
  obtain ⟨⟨rfl, g40⟩, hT41, k42, R43⟩ := g38
  have k44 : KW [192, 193, 194, 256, 320] Po P37 := KW.trans k31 k42 rfl
  show MEvP _ none q_18 35 [(0, .ref a0_), (1, .ref a1_)] [] _ _ _ _
  refine mp_a (a_aload_n dX2_copyFrom_35 rfl) (mpp 36 rfl ?_)
  refine mt_getE (i := 15) (k := 4) hT41 dX2_copyFrom_36 rfl ha1 (by decide) rfl (by decide) rfl ((KW.xr k44 hX).1 a1_ (Or.inr ha1)).2 (fun q46 => mpp 39 rfl ?_)
  refine mp_a (a_aload_n dX2_copyFrom_39 rfl) (mpp 40 rfl ?_)
  refine mt_getE (i := 15) (k := 4) hT41 dX2_copyFrom_40 rfl ha0 (by decide) rfl (by decide) rfl ((KW.xr k44 hX).1 a0_ (Or.inl ha0)).2 (fun q47 => mpp 43 rfl ?_)
  have p48 : ¬ (a1_ + 2) = (a0_ + 2) := by omega
  refine mp_calls (i := 44) (q' := q_19) (As := [.ref (a1_ + 2), .ref (a0_ + 2)]) (rest := []) dX2_copyFrom_43 rfl qm_19 (by decide) rfl (Nat.le_of_ble_eq_true rfl) rfl ⟨rfl, rfl⟩ ⟨Nat.le_of_ble_eq_true rfl, Nat.le_of_ble_eq_true rfl⟩ (EvP.mono (by decide) (c_F_copyRow_creases_creases hT41 (KW.xr k44 hX) p48 q46 q47)) (fun r49 P50 g51 => mpp 46 rfl ?_)
  obtain ⟨⟨rfl, g53⟩, hT54, k55, R56⟩ := g51
  have k57 : KW [192, 193, 194, 256, 320] Po P50 := KW.trans k44 k55 rfl
  show MEvP _ none q_18 46 [(0, .ref a0_), (1, .ref a1_)] [] _ _ _ _
  have u59 : fv P50 a0_ 0 = fv Po a1_ 0 := by rw [R56.2 a0_ 0 (by omega), R43.2 a0_ 0 (by omega), f29 a0_ 0 (by omega), f19 a0_ 0 (by omega), f8]
  have u60 : fv P50 a0_ 1 = fv Po a1_ 1 := by rw [R56.2 a0_ 1 (by omega), R43.2 a0_ 1 (by omega), f29 a0_ 1 (by omega), f18, f9 a1_ 1 (by omega)]
  have u61 : fv P50 a0_ 2 = fv Po a1_ 2 := by rw [R56.2 a0_ 2 (by omega), R43.2 a0_ 2 (by omega), f28, f19 a1_ 2 (by omega), f9 a1_ 2 (by omega)]
  have u62 : (∀ j : Nat, j < 8 → fv P50 (a0_ + 1) j = fv Po (a1_ + 1) j) := by
    intro j hj
    rw [R56.2 (a0_ + 1) j (by omega), R43.1 j (by omega), f29 (a1_ + 1) j (by omega), f19 (a1_ + 1) j (by omega), f9 (a1_ + 1) j (by omega)]
  have u63 : (∀ j : Nat, j < 8 → fv P50 (a0_ + 2) j = fv Po (a1_ + 2) j) := by
    intro j hj
    rw [R56.1 j (by omega), R43.2 (a1_ + 2) j (by omega), f29 (a1_ + 2) j (by omega), f19 (a1_ + 2) j (by omega), f9 (a1_ + 2) j (by omega)]
  have u64 : KI a0_ (a0_ + 3) Po P50 := by
    intro x j hx
    rw [R56.2 x j (by omega), R43.2 x j (by omega), f29 x j (by omega), f19 x j (by omega), f9 x j (by omega)]
  exact mp_ret ⟨⟨rfl, trivial⟩, hT54, k57, ⟨u59, u60, u61, u62, u63, u64⟩⟩ dX2_copyFrom_46 rfl

