/-! methods on typed pools, 15 (written by a program) -/
set_option maxHeartbeats 4000000 in
theorem c_CP_panelsBehind_NPiece_l4 {Po : mP} {a0_ : Nat} {t1 : Int32} (hT : Typ Po) (hX : XR Po)  (ha0 : rl a0_ = 33) : ∀ (n : Nat) (v2 : Int32) (v3 : Int32), (0 ≤ v2.toInt) → (v2.toInt ≤ v3.toInt) → (v3.toInt ≤ (fv Po a0_ 1).toInt) → (v2.toInt = pbF (fun j : Nat => fv Po (a0_ + 1) j) t1.toInt v3.toInt.toNat) → (0 ≤ v3.toInt) → (2147483647 - v3.toInt).toNat = n → MEvP 3 none q_88 4 [(0, .ref a0_), (1, .int t1), (2, .int v2), (3, .int v3)] [] Po 0 0 (fun r P' => (∃ x : Int32, r = some (.int x) ∧ (0 ≤ x.toInt ∧ x.toInt ≤ 8 ∧ x.toInt = pbF (fun j : Nat => fv Po (a0_ + 1) j) t1.toInt (fv Po a0_ 1).toInt.toNat)) ∧ P' = Po) := by
  intro n
  induction n using Nat.strongRecOn with | _ n ih => ?_
  intro v2 v3 i_0 i_1 i_2 i_3 i_4 hm
  have w1 := np_ar ha0
  have w_t1 := ti_full t1
  have w_v2 := ti_full v2
  have w_v3 := ti_full v3
  have g2 : (0 : Int) ≤ (fv Po a0_ 1).toInt ∧ (fv Po a0_ 1).toInt ≤ 8 := Typ.rng hT ha0 (by decide) (by decide) rfl
  refine mp_a (a_iload_n dX2_panelsBehind_4 rfl) (mpp 5 rfl ?_)
  refine mp_a (a_aload_n dX2_panelsBehind_5 rfl) (mpp 6 rfl ?_)
  refine mt_getI (i := 26) (k := 1) hT dX2_panelsBehind_6 rfl ha0 (by decide) rfl (by decide) rfl (fun g3 g4 => mpp 9 rfl ?_)
  refine mp_Tb (t := 39) (j_icmp_ge dX2_panelsBehind_9) (by decide) (fun c5 => ?_) (fun c5 => mpp 12 rfl ?_)
  · have c5 : v3.toInt ≥ (fv Po a0_ 1).toInt := ti_ge c5
    refine mp_a (a_iload_n dX2_panelsBehind_39 rfl) (mpp 40 rfl ?_)
    have u6 : 0 ≤ v2.toInt ∧ v2.toInt ≤ 8 ∧ v2.toInt = pbF (fun j : Nat => fv Po (a0_ + 1) j) t1.toInt (fv Po a0_ 1).toInt.toNat := ⟨by omega, by omega, i_3.trans (congrArg (pbF _ _) (by omega))⟩
    exact mp_iret ⟨⟨_, rfl, u6⟩, rfl⟩ dX2_panelsBehind_40 (Or.inl rfl)
  · have c5 : v3.toInt < (fv Po a0_ 1).toInt := ti_ge_n c5
    refine mp_a (a_aload_n dX2_panelsBehind_12 rfl) (mpp 13 rfl ?_)
    refine mp_a (a_iload_n dX2_panelsBehind_13 rfl) (mpp 14 rfl ?_)
    have p7 : 0 ≤ v3.toInt := by omega
    have p8 : v3.toInt + 1 ≤ (fv Po a0_ 1).toInt := by omega
    refine mt_callv (i := 71) (q' := q_87) (As := [.int v3]) (rest := []) hT dX2_panelsBehind_14 rfl qm_87 (by decide) rfl ha0 (by decide) rfl (Nat.le_of_ble_eq_true rfl) rfl ⟨rfl, rfl⟩ ⟨Nat.le_of_ble_eq_true rfl, Nat.le_of_ble_eq_true rfl⟩ (EvP.mono (by decide) (c_CP_leftEndOf_NPiece hT hX p7 p8 ha0)) (fun r9 P10 g11 => mpp 17 rfl ?_)
    obtain ⟨⟨x12, rfl, g13⟩, e14⟩ := g11
    have e14 := e14.symm
    subst e14
    have wx12 := ti_full x12
    replace g13 : x12.toInt = lfF (fun j : Nat => fv Po (a0_ + 1) j) v3.toInt.toNat := g13
    show MEvP _ none q_88 17 [(0, .ref a0_), (1, .int t1), (2, .int v2), (3, .int v3)] [.int x12] _ _ _ _
    refine mp_a (a_iload_n dX2_panelsBehind_17 rfl) (mpp 18 rfl ?_)
    refine mp_Tb (t := 33) (j_icmp_gt dX2_panelsBehind_18) (by decide) (fun c15 => ?_) (fun c15 => mpp 21 rfl ?_)
    · have c15 : x12.toInt > t1.toInt := ti_gt c15
      obtain ⟨z16, h17⟩ := ti_ex (v3 + 1 : Int32)
      have wz16 := ti_full z16
      refine mp_a (a_iinc (v := z16) (L' := [(3, .int z16), (0, .ref a0_), (1, .int t1), (2, .int v2)]) dX2_panelsBehind_33 (by decide) rfl h17 rfl) (mpp 36 rfl ?_)
      try have e18 : z16.toInt = v3.toInt + 1 := ti_addz h17 rfl rfl (by omega) (by omega)
      refine mp_a (a_goto (t := 4) dX2_panelsBehind_36 (by decide)) ?_
      refine MEvP.less (L := [(0, .ref a0_), (1, .int t1), (2, .int v2), (3, .int z16)]) rfl rfl ⟨rfl, rfl, rfl, rfl, trivial⟩ ?_
      have i19 : 0 ≤ v2.toInt := by omega
      have i20 : v2.toInt ≤ z16.toInt := by omega
      have i21 : z16.toInt ≤ (fv Po a0_ 1).toInt := by omega
      have i22 : v2.toInt = pbF (fun j : Nat => fv Po (a0_ + 1) j) t1.toInt z16.toInt.toNat := pbF.no i_3 (by omega) (by omega) rfl
      have i23 : 0 ≤ z16.toInt := by omega
      exact ih _ (by omega) _ _ i19 i20 i21 i22 i23 rfl
    · have c15 : x12.toInt ≤ t1.toInt := ti_gt_n c15
      refine mp_a (a_iload_n dX2_panelsBehind_21 rfl) (mpp 22 rfl ?_)
      refine mp_a (a_aload_n dX2_panelsBehind_22 rfl) (mpp 23 rfl ?_)
      refine mp_a (a_iload_n dX2_panelsBehind_23 rfl) (mpp 24 rfl ?_)
      have p24 : 0 ≤ v3.toInt := by omega
      have p25 : v3.toInt + 1 ≤ (fv Po a0_ 1).toInt := by omega
      refine mt_callv (i := 77) (q' := q_89) (As := [.int v3]) (rest := [.int t1]) hT dX2_panelsBehind_24 rfl qm_89 (by decide) rfl ha0 (by decide) rfl (Nat.le_of_ble_eq_true rfl) rfl ⟨rfl, rfl⟩ ⟨Nat.le_of_ble_eq_true rfl, Nat.le_of_ble_eq_true rfl⟩ (EvP.mono (by decide) (c_CP_rightEndOf_NPiece hT hX p24 p25 ha0)) (fun r26 P27 g28 => mpp 27 rfl ?_)
      obtain ⟨⟨x29, rfl, g30⟩, e31⟩ := g28
      have e31 := e31.symm
      subst e31
      have wx29 := ti_full x29
      replace g30 : x29.toInt = rgF (fun j : Nat => fv Po (a0_ + 1) j) v3.toInt.toNat := g30
      show MEvP _ none q_88 27 [(0, .ref a0_), (1, .int t1), (2, .int v2), (3, .int v3)] [.int x29, .int t1] _ _ _ _
      refine mp_Tb (t := 33) (j_icmp_ge dX2_panelsBehind_27) (by decide) (fun c32 => ?_) (fun c32 => mpp 30 rfl ?_)
      · have c32 : t1.toInt ≥ x29.toInt := ti_ge c32
        obtain ⟨z33, h34⟩ := ti_ex (v3 + 1 : Int32)
        have wz33 := ti_full z33
        refine mp_a (a_iinc (v := z33) (L' := [(3, .int z33), (0, .ref a0_), (1, .int t1), (2, .int v2)]) dX2_panelsBehind_33 (by decide) rfl h34 rfl) (mpp 36 rfl ?_)
        try have e35 : z33.toInt = v3.toInt + 1 := ti_addz h34 rfl rfl (by omega) (by omega)
        refine mp_a (a_goto (t := 4) dX2_panelsBehind_36 (by decide)) ?_
        refine MEvP.less (L := [(0, .ref a0_), (1, .int t1), (2, .int v2), (3, .int z33)]) rfl rfl ⟨rfl, rfl, rfl, rfl, trivial⟩ ?_
        have i36 : 0 ≤ v2.toInt := by omega
        have i37 : v2.toInt ≤ z33.toInt := by omega
        have i38 : z33.toInt ≤ (fv Po a0_ 1).toInt := by omega
        have i39 : v2.toInt = pbF (fun j : Nat => fv Po (a0_ + 1) j) t1.toInt z33.toInt.toNat := pbF.no i_3 (by omega) (by omega) rfl
        have i40 : 0 ≤ z33.toInt := by omega
        exact ih _ (by omega) _ _ i36 i37 i38 i39 i40 rfl
      · have c32 : t1.toInt < x29.toInt := ti_ge_n c32
        obtain ⟨z41, h42⟩ := ti_ex (v2 + 1 : Int32)
        have wz41 := ti_full z41
        refine mp_a (a_iinc (v := z41) (L' := [(2, .int z41), (0, .ref a0_), (1, .int t1), (3, .int v3)]) dX2_panelsBehind_30 (by decide) rfl h42 rfl) (mpp 33 rfl ?_)
        try have e43 : z41.toInt = v2.toInt + 1 := ti_addz h42 rfl rfl (by omega) (by omega)
        obtain ⟨z44, h45⟩ := ti_ex (v3 + 1 : Int32)
        have wz44 := ti_full z44
        refine mp_a (a_iinc (v := z44) (L' := [(3, .int z44), (2, .int z41), (0, .ref a0_), (1, .int t1)]) dX2_panelsBehind_33 (by decide) rfl h45 rfl) (mpp 36 rfl ?_)
        try have e46 : z44.toInt = v3.toInt + 1 := ti_addz h45 rfl rfl (by omega) (by omega)
        refine mp_a (a_goto (t := 4) dX2_panelsBehind_36 (by decide)) ?_
        refine MEvP.less (L := [(0, .ref a0_), (1, .int t1), (2, .int z41), (3, .int z44)]) rfl rfl ⟨rfl, rfl, rfl, rfl, trivial⟩ ?_
        have i47 : 0 ≤ z41.toInt := by omega
        have i48 : z41.toInt ≤ z44.toInt := by omega
        have i49 : z44.toInt ≤ (fv Po a0_ 1).toInt := by omega
        have i50 : z41.toInt = pbF (fun j : Nat => fv Po (a0_ + 1) j) t1.toInt z44.toInt.toNat := pbF.yes i_3 (by omega) (by omega) (by omega)
        have i51 : 0 ≤ z44.toInt := by omega
        exact ih _ (by omega) _ _ i47 i48 i49 i50 i51 rfl

set_option maxHeartbeats 4000000 in
theorem c_CP_panelsBehind_NPiece {Po : mP} {a0_ : Nat} {t1 : Int32} (hT : Typ Po) (hX : XR Po)  (ha0 : rl a0_ = 33) : EvP 4 88 [.ref a0_, .int t1] Po (fun r P' => (∃ x : Int32, r = some (.int x) ∧ (0 ≤ x.toInt ∧ x.toInt ≤ 8 ∧ x.toInt = pbF (fun j : Nat => fv Po (a0_ + 1) j) t1.toInt (fv Po a0_ 1).toInt.toNat)) ∧ P' = Po) := by
  refine EvP.of qm_88 (Nat.le_of_ble_eq_true rfl) rfl ?_
  show MEvP _ none q_88 0 [(0, .ref a0_), (1, .int t1)] [] _ 0 0 _
  have w1 := np_ar ha0
  have w_t1 := ti_full t1
  have g2 : (0 : Int) ≤ (fv Po a0_ 1).toInt ∧ (fv Po a0_ 1).toInt ≤ 8 := Typ.rng hT ha0 (by decide) (by decide) rfl
  refine mp_a (a_iconst (v := 0) dX2_panelsBehind_0 rfl) (mpp 1 rfl ?_)
  refine mp_a (a_istore_n (L' := [(2, .int 0), (0, .ref a0_), (1, .int t1)]) dX2_panelsBehind_1 (by decide) rfl) (mpp 2 rfl ?_)
  refine mp_a (a_iconst (v := 0) dX2_panelsBehind_2 rfl) (mpp 3 rfl ?_)
  refine mp_a (a_istore_n (L' := [(3, .int 0), (2, .int 0), (0, .ref a0_), (1, .int t1)]) dX2_panelsBehind_3 (by decide) rfl) (mpp 4 rfl ?_)
  refine MEvP.less (L := [(0, .ref a0_), (1, .int t1), (2, .int 0), (3, .int 0)]) rfl rfl ⟨rfl, rfl, rfl, rfl, trivial⟩ ?_
  have i3 : 0 ≤ (0 : Int) := by omega
  have i4 : (0 : Int) ≤ (0 : Int) := by omega
  have i5 : (0 : Int) ≤ (fv Po a0_ 1).toInt := by omega
  have i6 : (0 : Int) = pbF (fun j : Nat => fv Po (a0_ + 1) j) t1.toInt (0 : Int).toNat := rfl
  have i7 : 0 ≤ (0 : Int) := by omega
  exact c_CP_panelsBehind_NPiece_l4 hT hX  ha0 _ _ _ i3 i4 i5 i6 i7 rfl

set_option maxHeartbeats 4000000 in
theorem c_CP_thickness_NPiece_l4 {Po : mP} {a0_ : Nat} (hT : Typ Po) (hX : XR Po)  (ha0 : rl a0_ = 33) : ∀ (n : Nat) (v1 : Int32) (v2 : Int32), (v1.toInt = thF (fun j : Nat => fv Po (a0_ + 1) j) (fv Po a0_ 1).toInt.toNat v2.toInt.toNat) → (v2.toInt ≤ (fv Po a0_ 1).toInt) → (0 ≤ v2.toInt) → (2147483647 - v2.toInt).toNat = n → MEvP 4 none q_86 4 [(0, .ref a0_), (1, .int v1), (2, .int v2)] [] Po 0 0 (fun r P' => (∃ x : Int32, r = some (.int x) ∧ (x.toInt = thF (fun j : Nat => fv Po (a0_ + 1) j) (fv Po a0_ 1).toInt.toNat (fv Po a0_ 1).toInt.toNat)) ∧ P' = Po) := by
  intro n
  induction n using Nat.strongRecOn with | _ n ih => ?_
  intro v1 v2 i_0 i_1 i_2 hm
  have w1 := np_ar ha0
  have w_v1 := ti_full v1
  have w_v2 := ti_full v2
  have g2 : (0 : Int) ≤ (fv Po a0_ 1).toInt ∧ (fv Po a0_ 1).toInt ≤ 8 := Typ.rng hT ha0 (by decide) (by decide) rfl
  refine mp_a (a_iload_n dX2_thickness_4 rfl) (mpp 5 rfl ?_)
  refine mp_a (a_aload_n dX2_thickness_5 rfl) (mpp 6 rfl ?_)
  refine mt_getI (i := 26) (k := 1) hT dX2_thickness_6 rfl ha0 (by decide) rfl (by decide) rfl (fun g3 g4 => mpp 9 rfl ?_)
  refine mp_Tb (t := 32) (j_icmp_ge dX2_thickness_9) (by decide) (fun c5 => ?_) (fun c5 => mpp 12 rfl ?_)
  · have c5 : v2.toInt ≥ (fv Po a0_ 1).toInt := ti_ge c5
    refine mp_a (a_iload_n dX2_thickness_32 rfl) (mpp 33 rfl ?_)
    have u6 : v1.toInt = thF (fun j : Nat => fv Po (a0_ + 1) j) (fv Po a0_ 1).toInt.toNat (fv Po a0_ 1).toInt.toNat := i_0.trans (congrArg (thF _ _) (by omega))
    exact mp_iret ⟨⟨_, rfl, u6⟩, rfl⟩ dX2_thickness_33 (Or.inl rfl)
  · have c5 : v2.toInt < (fv Po a0_ 1).toInt := ti_ge_n c5
    refine mp_a (a_iload_n dX2_thickness_12 rfl) (mpp 13 rfl ?_)
    refine mp_a (a_aload_n dX2_thickness_13 rfl) (mpp 14 rfl ?_)
    refine mp_a (a_aload_n dX2_thickness_14 rfl) (mpp 15 rfl ?_)
    refine mp_a (a_iload_n dX2_thickness_15 rfl) (mpp 16 rfl ?_)
    have p7 : 0 ≤ v2.toInt := by omega
    have p8 : v2.toInt + 1 ≤ (fv Po a0_ 1).toInt := by omega
    refine mt_callv (i := 71) (q' := q_87) (As := [.int v2]) (rest := [.ref a0_, .int v1]) hT dX2_thickness_16 rfl qm_87 (by decide) rfl ha0 (by decide) rfl (Nat.le_of_ble_eq_true rfl) rfl ⟨rfl, rfl⟩ ⟨Nat.le_of_ble_eq_true rfl, Nat.le_of_ble_eq_true rfl⟩ (EvP.mono (by decide) (c_CP_leftEndOf_NPiece hT hX p7 p8 ha0)) (fun r9 P10 g11 => mpp 19 rfl ?_)
    obtain ⟨⟨x12, rfl, g13⟩, e14⟩ := g11
    have e14 := e14.symm
    subst e14
    have wx12 := ti_full x12
    replace g13 : x12.toInt = lfF (fun j : Nat => fv Po (a0_ + 1) j) v2.toInt.toNat := g13
    show MEvP _ none q_86 19 [(0, .ref a0_), (1, .int v1), (2, .int v2)] [.int x12, .ref a0_, .int v1] _ _ _ _
    refine mt_callv (i := 74) (q' := q_88) (As := [.int x12]) (rest := [.int v1]) hT dX2_thickness_19 rfl qm_88 (by decide) rfl ha0 (by decide) rfl (Nat.le_of_ble_eq_true rfl) rfl ⟨rfl, rfl⟩ ⟨Nat.le_of_ble_eq_true rfl, Nat.le_of_ble_eq_true rfl⟩ (EvP.mono (by decide) (c_CP_panelsBehind_NPiece hT hX ha0)) (fun r15 P16 g17 => mpp 22 rfl ?_)
    obtain ⟨⟨x18, rfl, g19⟩, e20⟩ := g17
    have e20 := e20.symm
    subst e20
    have wx18 := ti_full x18
    replace g19 : 0 ≤ x18.toInt ∧ x18.toInt ≤ 8 ∧ x18.toInt = pbF (fun j : Nat => fv Po (a0_ + 1) j) x12.toInt (fv Po a0_ 1).toInt.toNat := g19
    show MEvP _ none q_86 22 [(0, .ref a0_), (1, .int v1), (2, .int v2)] [.int x18, .int v1] _ _ _ _
    obtain ⟨z21, h22⟩ := ti_ex (if (7 : Nat) = 7 then (if v1 < x18 then x18 else v1) else (if x18 < v1 then x18 else v1) : Int32)
    have e23 : z21.toInt = max v1.toInt x18.toInt := ti_mm7 h22
    refine mp_math (i := 65) (k := 0) (v := z21) dX2_thickness_22 rfl (by decide) (Nat.le_of_ble_eq_true rfl) h22 ⟨Nat.le_of_ble_eq_true rfl, Nat.le_of_ble_eq_true rfl⟩ (mpp 25 rfl ?_)
    refine mp_a (a_istore_n (L' := [(1, .int z21), (0, .ref a0_), (2, .int v2)]) dX2_thickness_25 (by decide) rfl) (mpp 26 rfl ?_)
    obtain ⟨z24, h25⟩ := ti_ex (v2 + 1 : Int32)
    have wz24 := ti_full z24
    refine mp_a (a_iinc (v := z24) (L' := [(2, .int z24), (1, .int z21), (0, .ref a0_)]) dX2_thickness_26 (by decide) rfl h25 rfl) (mpp 29 rfl ?_)
    try have e26 : z24.toInt = v2.toInt + 1 := ti_addz h25 rfl rfl (by omega) (by omega)
    refine mp_a (a_goto (t := 4) dX2_thickness_29 (by decide)) ?_
    refine MEvP.less (L := [(0, .ref a0_), (1, .int z21), (2, .int z24)]) rfl rfl ⟨rfl, rfl, rfl, trivial⟩ ?_
    have w28_ := g19.2.2
    rw [g13] at w28_
    have i27 : z21.toInt = thF (fun j : Nat => fv Po (a0_ + 1) j) (fv Po a0_ 1).toInt.toNat z24.toInt.toNat := thF.step i_0 (by omega) (by rw [← w28_]; omega)
    have i29 : z24.toInt ≤ (fv Po a0_ 1).toInt := by omega
    have i30 : 0 ≤ z24.toInt := by omega
    exact ih _ (by omega) _ _ i27 i29 i30 rfl

set_option maxHeartbeats 4000000 in
theorem c_CP_thickness_NPiece {Po : mP} {a0_ : Nat} (hT : Typ Po) (hX : XR Po)  (ha0 : rl a0_ = 33) : EvP 5 86 [.ref a0_] Po (fun r P' => (∃ x : Int32, r = some (.int x) ∧ (x.toInt = thF (fun j : Nat => fv Po (a0_ + 1) j) (fv Po a0_ 1).toInt.toNat (fv Po a0_ 1).toInt.toNat)) ∧ P' = Po) := by
  refine EvP.of qm_86 (Nat.le_of_ble_eq_true rfl) rfl ?_
  show MEvP _ none q_86 0 [(0, .ref a0_)] [] _ 0 0 _
  have w1 := np_ar ha0
  have g2 : (0 : Int) ≤ (fv Po a0_ 1).toInt ∧ (fv Po a0_ 1).toInt ≤ 8 := Typ.rng hT ha0 (by decide) (by decide) rfl
  refine mp_a (a_iconst (v := 0) dX2_thickness_0 rfl) (mpp 1 rfl ?_)
  refine mp_a (a_istore_n (L' := [(1, .int 0), (0, .ref a0_)]) dX2_thickness_1 (by decide) rfl) (mpp 2 rfl ?_)
  refine mp_a (a_iconst (v := 0) dX2_thickness_2 rfl) (mpp 3 rfl ?_)
  refine mp_a (a_istore_n (L' := [(2, .int 0), (1, .int 0), (0, .ref a0_)]) dX2_thickness_3 (by decide) rfl) (mpp 4 rfl ?_)
  refine MEvP.less (L := [(0, .ref a0_), (1, .int 0), (2, .int 0)]) rfl rfl ⟨rfl, rfl, rfl, trivial⟩ ?_
  have i3 : (0 : Int) = thF (fun j : Nat => fv Po (a0_ + 1) j) (fv Po a0_ 1).toInt.toNat (0 : Int).toNat := rfl
  have i4 : (0 : Int) ≤ (fv Po a0_ 1).toInt := by omega
  have i5 : 0 ≤ (0 : Int) := by omega
  exact c_CP_thickness_NPiece_l4 hT hX  ha0 _ _ _ i3 i4 i5 rfl

set_option maxHeartbeats 4000000 in
theorem c_F_thickest {Po : mP} {t1 : Int32} (hT : Typ Po) (hX : XR Po)   : EvP 6 85 [.ref 0, .int t1] Po (fun r P' => (∃ x : Int32, r = some (.int x) ∧ (thickestC Po x.toInt t1.toInt)) ∧ P' = Po) := by
  refine EvP.of qm_85 (Nat.le_of_ble_eq_true rfl) rfl ?_
  show MEvP _ none q_85 0 [(0, .ref 0), (1, .int t1)] [] _ 0 0 _
  have w_t1 := ti_full t1
  refine mp_a (a_aload_n dX6_thickest_0 rfl) (mpp 1 rfl ?_)
  refine mt_getU (i := 10) (k := 0) (A := 1) hT dX6_thickest_1 rfl rl_0 (by decide) rfl (by decide) rfl un_31 (mpp 4 rfl ?_)
  refine mp_a (a_iload_n dX6_thickest_4 rfl) (mpp 5 rfl ?_)
  refine mt_callv (i := 94) (q' := q_9) (As := [.int t1]) (rest := []) hT dX6_thickest_5 rfl qm_9 (by decide) rfl rl_1 (by decide) rfl (Nat.le_of_ble_eq_true rfl) rfl ⟨rfl, rfl⟩ ⟨Nat.le_of_ble_eq_true rfl, Nat.le_of_ble_eq_true rfl⟩ (EvP.mono (by decide) (c_CS_pieceAt_NState hT hX )) (fun r1 P2 g3 => mpp 8 rfl ?_)
  obtain ⟨g3, e4⟩ := g3
  have e4 := e4.symm
  subst e4
  rcases g3 with ⟨rfl, q6n⟩ | ⟨b5, rfl, q6, q6r⟩
  · show MEvP _ none q_85 8 [(0, .ref 0), (1, .int t1)] [.null] _ _ _ _
    replace q6n : t1.toInt < 0 ∨ (fv Po 1 1).toInt ≤ t1.toInt ∨ 8 ≤ t1.toInt := q6n
    have g7 : (0 : Int) ≤ (fv Po 1 1).toInt ∧ (fv Po 1 1).toInt ≤ 8 := Typ.rng hT rl_1 (by decide) (by decide) rfl
    refine mp_a (a_astore_nN (L' := [(2, .null), (0, .ref 0), (1, .int t1)]) dX6_thickest_8 (by decide) rfl) (mpp 9 rfl ?_)
    refine mp_a (a_aload_nN dX6_thickest_9 rfl) (mpp 10 rfl ?_)
    refine mp_t (s_ifnonnullN dX6_thickest_10) (mpp 13 rfl ?_)
    refine mp_a (a_sipush (v := -1001) dX6_thickest_13 rfl) (mpp 16 rfl ?_)
    have u8 : thickestC Po (-1001 : Int) t1.toInt := (show ((-1001 : Int) = -1001 ∧ (t1.toInt < 0 ∨ (fv Po 1 1).toInt ≤ t1.toInt ∨ 8 ≤ t1.toInt)) ∨ ((0 ≤ t1.toInt ∧ t1.toInt + 1 ≤ (fv Po 1 1).toInt ∧ t1.toInt ≤ 7) ∧ ¬ (fv Po (rv Po 2 t1.toInt.toNat) 0).toInt = 0 ∧ (-1001 : Int) = -1002) ∨ ((0 ≤ t1.toInt ∧ t1.toInt + 1 ≤ (fv Po 1 1).toInt ∧ t1.toInt ≤ 7) ∧ (fv Po (rv Po 2 t1.toInt.toNat) 0).toInt = 0 ∧ (-1001 : Int) = thF (fun j : Nat => fv Po ((rv Po 2 t1.toInt.toNat) + 1) j) (fv Po (rv Po 2 t1.toInt.toNat) 1).toInt.toNat (fv Po (rv Po 2 t1.toInt.toNat) 1).toInt.toNat) from by exact Or.inl (⟨by omega, by omega⟩))
    exact mp_iret ⟨⟨_, rfl, u8⟩, rfl⟩ dX6_thickest_16 (Or.inl rfl)
  · show MEvP _ none q_85 8 [(0, .ref 0), (1, .int t1)] [.ref b5] _ _ _ _
    replace q6r : 0 ≤ t1.toInt ∧ t1.toInt ≤ 7 ∧ t1.toInt + 1 ≤ (fv Po 1 1).toInt ∧ rv Po 2 t1.toInt.toNat = b5 := q6r
    have g9 : (0 : Int) ≤ (fv Po 1 1).toInt ∧ (fv Po 1 1).toInt ≤ 8 := Typ.rng hT rl_1 (by decide) (by decide) rfl
    have w10 := np_ar q6
    refine mp_a (a_astore_n (L' := [(2, .ref b5), (0, .ref 0), (1, .int t1)]) dX6_thickest_8 (by decide) rfl) (mpp 9 rfl ?_)
    refine mp_a (a_aload_n dX6_thickest_9 rfl) (mpp 10 rfl ?_)
    refine mp_t (s_ifnonnullR (t := 17) dX6_thickest_10 (by decide)) ?_
    refine mp_a (a_aload_n dX6_thickest_17 rfl) (mpp 18 rfl ?_)
    have g11 := ti_full (fv Po b5 0)
    refine mt_getI (i := 130) (k := 0) hT dX6_thickest_18 rfl q6 (by decide) rfl (by decide) rfl (fun g12 g13 => mpp 21 rfl ?_)
    refine mp_Tb (t := 30) (j_if_eq dX6_thickest_21) (by decide) (fun c14 => ?_) (fun c14 => mpp 24 rfl ?_)
    · have c14 : (fv Po b5 0).toInt = 0 := ti_eq c14
      refine mp_a (a_aload_n dX6_thickest_30 rfl) (mpp 31 rfl ?_)
      refine mt_callv (i := 210) (q' := q_86) (As := []) (rest := []) hT dX6_thickest_31 rfl qm_86 (by decide) rfl q6 (by decide) rfl (Nat.le_of_ble_eq_true rfl) rfl ⟨rfl, rfl⟩ ⟨Nat.le_of_ble_eq_true rfl, Nat.le_of_ble_eq_true rfl⟩ (EvP.mono (by decide) (c_CP_thickness_NPiece hT hX q6)) (fun r15 P16 g17 => mpp 34 rfl ?_)
      obtain ⟨⟨x18, rfl, g19⟩, e20⟩ := g17
      have e20 := e20.symm
      subst e20
      have wx18 := ti_full x18
      replace g19 : x18.toInt = thF (fun j : Nat => fv Po (b5 + 1) j) (fv Po b5 1).toInt.toNat (fv Po b5 1).toInt.toNat := g19
      have g21 : (0 : Int) ≤ (fv Po b5 1).toInt ∧ (fv Po b5 1).toInt ≤ 8 := Typ.rng hT q6 (by decide) (by decide) rfl
      show MEvP _ none q_85 34 [(2, .ref b5), (0, .ref 0), (1, .int t1)] [.int x18] _ _ _ _
      have u22 : thickestC Po x18.toInt t1.toInt := (show (x18.toInt = -1001 ∧ (t1.toInt < 0 ∨ (fv Po 1 1).toInt ≤ t1.toInt ∨ 8 ≤ t1.toInt)) ∨ ((0 ≤ t1.toInt ∧ t1.toInt + 1 ≤ (fv Po 1 1).toInt ∧ t1.toInt ≤ 7) ∧ ¬ (fv Po (rv Po 2 t1.toInt.toNat) 0).toInt = 0 ∧ x18.toInt = -1002) ∨ ((0 ≤ t1.toInt ∧ t1.toInt + 1 ≤ (fv Po 1 1).toInt ∧ t1.toInt ≤ 7) ∧ (fv Po (rv Po 2 t1.toInt.toNat) 0).toInt = 0 ∧ x18.toInt = thF (fun j : Nat => fv Po ((rv Po 2 t1.toInt.toNat) + 1) j) (fv Po (rv Po 2 t1.toInt.toNat) 1).toInt.toNat (fv Po (rv Po 2 t1.toInt.toNat) 1).toInt.toNat) from by rw [q6r.2.2.2]; exact Or.inr (Or.inr (⟨by omega, by omega, g19⟩)))
      exact mp_iret ⟨⟨_, rfl, u22⟩, rfl⟩ dX6_thickest_34 (Or.inl rfl)
    · have c14 : (fv Po b5 0).toInt ≠ 0 := ti_eq_n c14
      refine mp_a (a_sipush (v := -1002) dX6_thickest_24 rfl) (mpp 27 rfl ?_)
      refine mp_a (a_goto (t := 34) dX6_thickest_27 (by decide)) ?_
      have u23 : thickestC Po (-1002 : Int) t1.toInt := (show ((-1002 : Int) = -1001 ∧ (t1.toInt < 0 ∨ (fv Po 1 1).toInt ≤ t1.toInt ∨ 8 ≤ t1.toInt)) ∨ ((0 ≤ t1.toInt ∧ t1.toInt + 1 ≤ (fv Po 1 1).toInt ∧ t1.toInt ≤ 7) ∧ ¬ (fv Po (rv Po 2 t1.toInt.toNat) 0).toInt = 0 ∧ (-1002 : Int) = -1002) ∨ ((0 ≤ t1.toInt ∧ t1.toInt + 1 ≤ (fv Po 1 1).toInt ∧ t1.toInt ≤ 7) ∧ (fv Po (rv Po 2 t1.toInt.toNat) 0).toInt = 0 ∧ (-1002 : Int) = thF (fun j : Nat => fv Po ((rv Po 2 t1.toInt.toNat) + 1) j) (fv Po (rv Po 2 t1.toInt.toNat) 1).toInt.toNat (fv Po (rv Po 2 t1.toInt.toNat) 1).toInt.toNat) from by rw [q6r.2.2.2]; exact Or.inr (Or.inl (⟨by omega, by omega, by omega⟩)))
      exact mp_iret ⟨⟨_, rfl, u23⟩, rfl⟩ dX6_thickest_34 (Or.inl rfl)

set_option maxHeartbeats 4000000 in
theorem c_F_floorMod_c24 {Po : mP} {t0 : Int32} (hT : Typ Po)  (hp0 : 1 ≤ (24 : Int))  : EvP 1 236 [.int t0, .int 24] Po (fun r P' => (∃ x : Int32, r = some (.int x) ∧ (x.toInt = t0.toInt % 24)) ∧ P' = Po) := by
  refine EvP.of qm_236 (Nat.le_of_ble_eq_true rfl) rfl ?_
  show MEvP _ none q_236 0 [(0, .int t0), (1, .int 24)] [] _ 0 0 _
  have w_t0 := ti_full t0
  refine mp_a (a_iload_n dJ9_floorMod_7cf53_0 rfl) (mpp 1 rfl ?_)
  refine mp_a (a_iload_n dJ9_floorMod_7cf53_1 rfl) (mpp 2 rfl ?_)
  obtain ⟨z1, h2⟩ := ti_ex (t0 - t0 / 24 * 24 : Int32)
  have wz1 := ti_full z1
  try have e4 : z1.toInt = t0.toInt % 24 := ti_remx h2 (show (0 : Int) ≤ t0.toInt by omega) (show (0 : Int) < 24 by omega)
  try have e3 : 0 ≤ z1.toInt ∧ z1.toInt < 24 := ti_rem h2 (show (0 : Int) ≤ t0.toInt by omega) (show (0 : Int) < 24 by omega)
  refine mp_t (s_irem (v := z1) dJ9_floorMod_7cf53_2 (by decide) h2) (mpp 3 rfl ?_)
  have q5 := ti_rem24 h2
  refine mp_a (a_istore_n (L' := [(2, .int z1), (0, .int t0), (1, .int 24)]) dJ9_floorMod_7cf53_3 (by decide) rfl) (mpp 4 rfl ?_)
  refine mp_a (a_iload_n dJ9_floorMod_7cf53_4 rfl) (mpp 5 rfl ?_)
  refine mp_a (a_iload_n dJ9_floorMod_7cf53_5 rfl) (mpp 6 rfl ?_)
  obtain ⟨z6, h7⟩ := ti_ex (t0 ^^^ 24 : Int32)
  have wz6 := ti_full z6
  refine mp_t (s_ixor (v := z6) dJ9_floorMod_7cf53_6 h7) (mpp 7 rfl ?_)
  refine mp_Tb (t := 18) (j_if_ge dJ9_floorMod_7cf53_7) (by decide) (fun c8 => ?_) (fun c8 => mpp 10 rfl ?_)
  · have c8 : z6.toInt ≥ 0 := ti_ge c8
    refine mp_a (a_iload_n dJ9_floorMod_7cf53_18 rfl) (mpp 19 rfl ?_)
    have q10 := xor24 h7
    have u9 : z1.toInt = t0.toInt % 24 := by omega
    exact mp_iret ⟨⟨_, rfl, u9⟩, rfl⟩ dJ9_floorMod_7cf53_19 (Or.inl rfl)
  · have c8 : z6.toInt < 0 := ti_ge_n c8
    refine mp_a (a_iload_n dJ9_floorMod_7cf53_10 rfl) (mpp 11 rfl ?_)
    refine mp_Tb (t := 18) (j_if_eq dJ9_floorMod_7cf53_11) (by decide) (fun c11 => ?_) (fun c11 => mpp 14 rfl ?_)
    · have c11 : z1.toInt = 0 := ti_eq c11
      refine mp_a (a_iload_n dJ9_floorMod_7cf53_18 rfl) (mpp 19 rfl ?_)
      have q13 := xor24 h7
      have u12 : z1.toInt = t0.toInt % 24 := by omega
      exact mp_iret ⟨⟨_, rfl, u12⟩, rfl⟩ dJ9_floorMod_7cf53_19 (Or.inl rfl)
    · have c11 : z1.toInt ≠ 0 := ti_eq_n c11
      refine mp_a (a_iload_n dJ9_floorMod_7cf53_14 rfl) (mpp 15 rfl ?_)
      refine mp_a (a_iload_n dJ9_floorMod_7cf53_15 rfl) (mpp 16 rfl ?_)
      obtain ⟨z14, h15⟩ := ti_ex (z1 + 24 : Int32)
      have wz14 := ti_full z14
      refine mp_t (s_iadd (v := z14) dJ9_floorMod_7cf53_16 h15) (mpp 17 rfl ?_)
      try have e16 : z14.toInt = z1.toInt + 24 := ti_addz h15 rfl rfl (by omega) (by omega)
      have q18 := xor24 h7
      have u17 : z14.toInt = t0.toInt % 24 := by omega
      exact mp_iret ⟨⟨_, rfl, u17⟩, rfl⟩ dJ9_floorMod_7cf53_17 (Or.inl rfl)

set_option maxHeartbeats 4000000 in
theorem c_CP_reflection_NPiece_l6 {Po : mP} {a0_ : Nat} (hT : Typ Po) (hX : XR Po)  (ha0 : rl a0_ = 33) : ∀ (n : Nat) (v1 : Int32) (v2 : Int32) (v3 : Int32), (v1.toInt = rfF (fun j : Nat => fv Po (a0_ + 1) j) v3.toInt.toNat) → (v2 = smF (fun j : Nat => fv Po (a0_ + 1) j) v3.toInt.toNat) → (v3.toInt ≤ (fv Po a0_ 1).toInt) → (0 ≤ v3.toInt) → (2147483647 - v3.toInt).toNat = n → MEvP 1 none q_91 6 [(0, .ref a0_), (1, .int v1), (2, .int v2), (3, .int v3)] [] Po 0 0 (fun r P' => (∃ x : Int32, r = some (.int x) ∧ (x.toInt = rfF (fun j : Nat => fv Po (a0_ + 1) j) (fv Po a0_ 1).toInt.toNat)) ∧ P' = Po) := by
  intro n
  induction n using Nat.strongRecOn with | _ n ih => ?_
  intro v1 v2 v3 i_0 i_1 i_2 i_3 hm
  have w1 := np_ar ha0
  have w_v1 := ti_full v1
  have w_v2 := ti_full v2
  have w_v3 := ti_full v3
  have g2 : (0 : Int) ≤ (fv Po a0_ 1).toInt ∧ (fv Po a0_ 1).toInt ≤ 8 := Typ.rng hT ha0 (by decide) (by decide) rfl
  refine mp_a (a_iload_n dX2_reflection_6 rfl) (mpp 7 rfl ?_)
  refine mp_a (a_aload_n dX2_reflection_7 rfl) (mpp 8 rfl ?_)
  refine mt_getI (i := 26) (k := 1) hT dX2_reflection_8 rfl ha0 (by decide) rfl (by decide) rfl (fun g3 g4 => mpp 11 rfl ?_)
  refine mp_Tb (t := 42) (j_icmp_ge dX2_reflection_11) (by decide) (fun c5 => ?_) (fun c5 => mpp 14 rfl ?_)
  · have c5 : v3.toInt ≥ (fv Po a0_ 1).toInt := ti_ge c5
    refine mp_a (a_iload_n dX2_reflection_42 rfl) (mpp 43 rfl ?_)
    have u6 : v1.toInt = rfF (fun j : Nat => fv Po (a0_ + 1) j) (fv Po a0_ 1).toInt.toNat := i_0.trans (congrArg (rfF _) (by omega))
    exact mp_iret ⟨⟨_, rfl, u6⟩, rfl⟩ dX2_reflection_43 (Or.inl rfl)
  · have c5 : v3.toInt < (fv Po a0_ 1).toInt := ti_ge_n c5
    refine mp_a (a_iconst (v := 2) dX2_reflection_14 rfl) (mpp 15 rfl ?_)
    refine mp_a (a_iload_n dX2_reflection_15 rfl) (mpp 16 rfl ?_)
    obtain ⟨z7, h8⟩ := ti_ex (2 * v2 : Int32)
    have wz7 := ti_full z7
    refine mp_t (s_imul (v := z7) dX2_reflection_16 h8) (mpp 17 rfl ?_)
    try have e9 : z7.toInt = 2 * v2.toInt := ti_mulz h8 rfl rfl (by omega) (by omega)
    refine mp_a (a_iload_n dX2_reflection_17 rfl) (mpp 18 rfl ?_)
    obtain ⟨z10, h11⟩ := ti_ex (z7 - v1 : Int32)
    have wz10 := ti_full z10
    refine mp_t (s_isub (v := z10) dX2_reflection_18 h11) (mpp 19 rfl ?_)
    try have e12 : z10.toInt = z7.toInt - v1.toInt := ti_subz h11 rfl rfl (by omega) (by omega)
    refine mp_a (a_bipush (v := 24) dX2_reflection_19 rfl) (mpp 21 rfl ?_)
    have p13 : 1 ≤ (24 : Int) := by omega
    refine mp_calls (i := 80) (q' := q_236) (As := [.int z10, .int 24]) (rest := []) dX2_reflection_21 rfl qm_236 (by decide) rfl (Nat.le_of_ble_eq_true rfl) rfl ⟨rfl, rfl⟩ ⟨Nat.le_of_ble_eq_true rfl, Nat.le_of_ble_eq_true rfl⟩ (EvP.mono (by decide) (c_F_floorMod_c24 hT p13 )) (fun r14 P15 g16 => mpp 24 rfl ?_)
    obtain ⟨⟨x17, rfl, g18⟩, e19⟩ := g16
    have e19 := e19.symm
    subst e19
    have wx17 := ti_full x17
    replace g18 : x17.toInt = z10.toInt % 24 := g18
    show MEvP _ none q_91 24 [(0, .ref a0_), (1, .int v1), (2, .int v2), (3, .int v3)] [.int x17] _ _ _ _
    refine mp_a (a_istore_n (L' := [(1, .int x17), (0, .ref a0_), (2, .int v2), (3, .int v3)]) dX2_reflection_24 (by decide) rfl) (mpp 25 rfl ?_)
    refine mp_a (a_iload_n dX2_reflection_25 rfl) (mpp 26 rfl ?_)
    refine mp_a (a_aload_n dX2_reflection_26 rfl) (mpp 27 rfl ?_)
    refine mt_getE (i := 9) (k := 3) hT dX2_reflection_27 rfl ha0 (by decide) rfl (by decide) rfl (hX.1 a0_ (Or.inr ha0)).1 (fun q20 => mpp 30 rfl ?_)
    refine mp_a (a_iload_n dX2_reflection_30 rfl) (mpp 31 rfl ?_)
    refine mp_calls (i := 48) (q' := q_12) (As := [.ref (a0_ + 1), .int v3]) (rest := [.int v2]) dX2_reflection_31 rfl qm_12 (by decide) rfl (Nat.le_of_ble_eq_true rfl) rfl ⟨rfl, rfl⟩ ⟨Nat.le_of_ble_eq_true rfl, Nat.le_of_ble_eq_true rfl⟩ (EvP.mono (by decide) (c_F_at_sizes hT hX q20)) (fun r21 P22 g23 => mpp 34 rfl ?_)
    obtain ⟨⟨x24, rfl, g25⟩, e26⟩ := g23
    have e26 := e26.symm
    subst e26
    have wx24 := ti_full x24
    replace g25 : (0 ≤ v3.toInt ∧ v3.toInt ≤ 7 ∧ x24.toInt = (fv Po (a0_ + 1) v3.toInt.toNat).toInt) ∨ ((v3.toInt < 0 ∨ 8 ≤ v3.toInt) ∧ x24.toInt = 0) := g25
    try replace g25 : x24.toInt = (fv Po (a0_ + 1) v3.toInt.toNat).toInt := (g25.resolve_right (by omega)).2.2
    show MEvP _ none q_91 34 [(1, .int x17), (0, .ref a0_), (2, .int v2), (3, .int v3)] [.int x24, .int v2] _ _ _ _
    obtain ⟨z27, h28⟩ := ti_ex (v2 + x24 : Int32)
    have wz27 := ti_full z27
    refine mp_t (s_iadd (v := z27) dX2_reflection_34 h28) (mpp 35 rfl ?_)
    try have e29 : z27.toInt = v2.toInt + x24.toInt := ti_addz h28 rfl rfl (by omega) (by omega)
    refine mp_a (a_istore_n (L' := [(2, .int z27), (1, .int x17), (0, .ref a0_), (3, .int v3)]) dX2_reflection_35 (by decide) rfl) (mpp 36 rfl ?_)
    obtain ⟨z30, h31⟩ := ti_ex (v3 + 1 : Int32)
    have wz30 := ti_full z30
    refine mp_a (a_iinc (v := z30) (L' := [(3, .int z30), (2, .int z27), (1, .int x17), (0, .ref a0_)]) dX2_reflection_36 (by decide) rfl h31 rfl) (mpp 39 rfl ?_)
    try have e32 : z30.toInt = v3.toInt + 1 := ti_addz h31 rfl rfl (by omega) (by omega)
    refine mp_a (a_goto (t := 6) dX2_reflection_39 (by decide)) ?_
    refine MEvP.less (L := [(0, .ref a0_), (1, .int x17), (2, .int z27), (3, .int z30)]) rfl rfl ⟨rfl, rfl, rfl, rfl, trivial⟩ ?_
    have i33 : x17.toInt = rfF (fun j : Nat => fv Po (a0_ + 1) j) z30.toInt.toNat := rfF.step i_0 i_1 h8 h11 (by omega) (by omega)
    have i34 : z27 = smF (fun j : Nat => fv Po (a0_ + 1) j) z30.toInt.toNat := smF.step i_1 (by omega) (by show _ = (fv Po (a0_ + 1) v3.toInt.toNat).toInt; omega) h28
    have i35 : z30.toInt ≤ (fv Po a0_ 1).toInt := by omega
    have i36 : 0 ≤ z30.toInt := by omega
    exact ih _ (by omega) _ _ _ i33 i34 i35 i36 rfl

set_option maxHeartbeats 4000000 in
theorem c_CP_reflection_NPiece {Po : mP} {a0_ : Nat} (hT : Typ Po) (hX : XR Po)  (ha0 : rl a0_ = 33) : EvP 2 91 [.ref a0_] Po (fun r P' => (∃ x : Int32, r = some (.int x) ∧ (x.toInt = rfF (fun j : Nat => fv Po (a0_ + 1) j) (fv Po a0_ 1).toInt.toNat)) ∧ P' = Po) := by
  refine EvP.of qm_91 (Nat.le_of_ble_eq_true rfl) rfl ?_
  show MEvP _ none q_91 0 [(0, .ref a0_)] [] _ 0 0 _
  have w1 := np_ar ha0
  have g2 : (0 : Int) ≤ (fv Po a0_ 1).toInt ∧ (fv Po a0_ 1).toInt ≤ 8 := Typ.rng hT ha0 (by decide) (by decide) rfl
  refine mp_a (a_iconst (v := 0) dX2_reflection_0 rfl) (mpp 1 rfl ?_)
  refine mp_a (a_istore_n (L' := [(1, .int 0), (0, .ref a0_)]) dX2_reflection_1 (by decide) rfl) (mpp 2 rfl ?_)
  refine mp_a (a_iconst (v := 0) dX2_reflection_2 rfl) (mpp 3 rfl ?_)
  refine mp_a (a_istore_n (L' := [(2, .int 0), (1, .int 0), (0, .ref a0_)]) dX2_reflection_3 (by decide) rfl) (mpp 4 rfl ?_)
  refine mp_a (a_iconst (v := 0) dX2_reflection_4 rfl) (mpp 5 rfl ?_)
  refine mp_a (a_istore_n (L' := [(3, .int 0), (2, .int 0), (1, .int 0), (0, .ref a0_)]) dX2_reflection_5 (by decide) rfl) (mpp 6 rfl ?_)
  refine MEvP.less (L := [(0, .ref a0_), (1, .int 0), (2, .int 0), (3, .int 0)]) rfl rfl ⟨rfl, rfl, rfl, rfl, trivial⟩ ?_
  have i3 : (0 : Int) = rfF (fun j : Nat => fv Po (a0_ + 1) j) (0 : Int).toNat := rfl
  have i4 : 0 = smF (fun j : Nat => fv Po (a0_ + 1) j) (0 : Int).toNat := rfl
  have i5 : (0 : Int) ≤ (fv Po a0_ 1).toInt := by omega
  have i6 : 0 ≤ (0 : Int) := by omega
  exact c_CP_reflection_NPiece_l6 hT hX  ha0 _ _ _ _ i3 i4 i5 i6 rfl

set_option maxHeartbeats 4000000 in
theorem c_F_reflected {Po : mP} {t1 : Int32} (hT : Typ Po) (hX : XR Po)   : EvP 3 90 [.ref 0, .int t1] Po (fun r P' => (∃ x : Int32, r = some (.int x) ∧ (reflectedC Po x.toInt t1.toInt)) ∧ P' = Po) := by
  refine EvP.of qm_90 (Nat.le_of_ble_eq_true rfl) rfl ?_
  show MEvP _ none q_90 0 [(0, .ref 0), (1, .int t1)] [] _ 0 0 _
  have w_t1 := ti_full t1
  refine mp_a (a_aload_n dX6_reflected_0 rfl) (mpp 1 rfl ?_)
  refine mt_getU (i := 10) (k := 0) (A := 1) hT dX6_reflected_1 rfl rl_0 (by decide) rfl (by decide) rfl un_31 (mpp 4 rfl ?_)
  refine mp_a (a_iload_n dX6_reflected_4 rfl) (mpp 5 rfl ?_)
  refine mt_callv (i := 94) (q' := q_9) (As := [.int t1]) (rest := []) hT dX6_reflected_5 rfl qm_9 (by decide) rfl rl_1 (by decide) rfl (Nat.le_of_ble_eq_true rfl) rfl ⟨rfl, rfl⟩ ⟨Nat.le_of_ble_eq_true rfl, Nat.le_of_ble_eq_true rfl⟩ (EvP.mono (by decide) (c_CS_pieceAt_NState hT hX )) (fun r1 P2 g3 => mpp 8 rfl ?_)
  obtain ⟨g3, e4⟩ := g3
  have e4 := e4.symm
  subst e4
  rcases g3 with ⟨rfl, q6n⟩ | ⟨b5, rfl, q6, q6r⟩
  · show MEvP _ none q_90 8 [(0, .ref 0), (1, .int t1)] [.null] _ _ _ _
    replace q6n : t1.toInt < 0 ∨ (fv Po 1 1).toInt ≤ t1.toInt ∨ 8 ≤ t1.toInt := q6n
    have g7 : (0 : Int) ≤ (fv Po 1 1).toInt ∧ (fv Po 1 1).toInt ≤ 8 := Typ.rng hT rl_1 (by decide) (by decide) rfl
    refine mp_a (a_astore_nN (L' := [(2, .null), (0, .ref 0), (1, .int t1)]) dX6_reflected_8 (by decide) rfl) (mpp 9 rfl ?_)
    refine mp_a (a_aload_nN dX6_reflected_9 rfl) (mpp 10 rfl ?_)
    refine mp_t (s_ifnonnullN dX6_reflected_10) (mpp 13 rfl ?_)
    refine mp_a (a_sipush (v := -1001) dX6_reflected_13 rfl) (mpp 16 rfl ?_)
    have u8 : reflectedC Po (-1001 : Int) t1.toInt := (show ((-1001 : Int) = -1001 ∧ (t1.toInt < 0 ∨ (fv Po 1 1).toInt ≤ t1.toInt ∨ 8 ≤ t1.toInt)) ∨ ((0 ≤ t1.toInt ∧ t1.toInt + 1 ≤ (fv Po 1 1).toInt ∧ t1.toInt ≤ 7) ∧ ¬ (fv Po (rv Po 2 t1.toInt.toNat) 0).toInt = 1 ∧ (-1001 : Int) = -1002) ∨ ((0 ≤ t1.toInt ∧ t1.toInt + 1 ≤ (fv Po 1 1).toInt ∧ t1.toInt ≤ 7) ∧ (fv Po (rv Po 2 t1.toInt.toNat) 0).toInt = 1 ∧ (-1001 : Int) = rfF (fun j : Nat => fv Po ((rv Po 2 t1.toInt.toNat) + 1) j) (fv Po (rv Po 2 t1.toInt.toNat) 1).toInt.toNat) from by exact Or.inl (⟨by omega, by omega⟩))
    exact mp_iret ⟨⟨_, rfl, u8⟩, rfl⟩ dX6_reflected_16 (Or.inl rfl)
  · show MEvP _ none q_90 8 [(0, .ref 0), (1, .int t1)] [.ref b5] _ _ _ _
    replace q6r : 0 ≤ t1.toInt ∧ t1.toInt ≤ 7 ∧ t1.toInt + 1 ≤ (fv Po 1 1).toInt ∧ rv Po 2 t1.toInt.toNat = b5 := q6r
    have g9 : (0 : Int) ≤ (fv Po 1 1).toInt ∧ (fv Po 1 1).toInt ≤ 8 := Typ.rng hT rl_1 (by decide) (by decide) rfl
    have w10 := np_ar q6
    refine mp_a (a_astore_n (L' := [(2, .ref b5), (0, .ref 0), (1, .int t1)]) dX6_reflected_8 (by decide) rfl) (mpp 9 rfl ?_)
    refine mp_a (a_aload_n dX6_reflected_9 rfl) (mpp 10 rfl ?_)
    refine mp_t (s_ifnonnullR (t := 17) dX6_reflected_10 (by decide)) ?_
    refine mp_a (a_aload_n dX6_reflected_17 rfl) (mpp 18 rfl ?_)
    have g11 := ti_full (fv Po b5 0)
    refine mt_getI (i := 130) (k := 0) hT dX6_reflected_18 rfl q6 (by decide) rfl (by decide) rfl (fun g12 g13 => mpp 21 rfl ?_)
    refine mp_a (a_iconst (v := 1) dX6_reflected_21 rfl) (mpp 22 rfl ?_)
    refine mp_Tb (t := 31) (j_icmp_eq dX6_reflected_22) (by decide) (fun c14 => ?_) (fun c14 => mpp 25 rfl ?_)
    · have c14 : (fv Po b5 0).toInt = 1 := ti_eq c14
      refine mp_a (a_aload_n dX6_reflected_31 rfl) (mpp 32 rfl ?_)
      refine mt_callv (i := 213) (q' := q_91) (As := []) (rest := []) hT dX6_reflected_32 rfl qm_91 (by decide) rfl q6 (by decide) rfl (Nat.le_of_ble_eq_true rfl) rfl ⟨rfl, rfl⟩ ⟨Nat.le_of_ble_eq_true rfl, Nat.le_of_ble_eq_true rfl⟩ (EvP.mono (by decide) (c_CP_reflection_NPiece hT hX q6)) (fun r15 P16 g17 => mpp 35 rfl ?_)
      obtain ⟨⟨x18, rfl, g19⟩, e20⟩ := g17
      have e20 := e20.symm
      subst e20
      have wx18 := ti_full x18
      replace g19 : x18.toInt = rfF (fun j : Nat => fv Po (b5 + 1) j) (fv Po b5 1).toInt.toNat := g19
      have g21 : (0 : Int) ≤ (fv Po b5 1).toInt ∧ (fv Po b5 1).toInt ≤ 8 := Typ.rng hT q6 (by decide) (by decide) rfl
      show MEvP _ none q_90 35 [(2, .ref b5), (0, .ref 0), (1, .int t1)] [.int x18] _ _ _ _
      have u22 : reflectedC Po x18.toInt t1.toInt := (show (x18.toInt = -1001 ∧ (t1.toInt < 0 ∨ (fv Po 1 1).toInt ≤ t1.toInt ∨ 8 ≤ t1.toInt)) ∨ ((0 ≤ t1.toInt ∧ t1.toInt + 1 ≤ (fv Po 1 1).toInt ∧ t1.toInt ≤ 7) ∧ ¬ (fv Po (rv Po 2 t1.toInt.toNat) 0).toInt = 1 ∧ x18.toInt = -1002) ∨ ((0 ≤ t1.toInt ∧ t1.toInt + 1 ≤ (fv Po 1 1).toInt ∧ t1.toInt ≤ 7) ∧ (fv Po (rv Po 2 t1.toInt.toNat) 0).toInt = 1 ∧ x18.toInt = rfF (fun j : Nat => fv Po ((rv Po 2 t1.toInt.toNat) + 1) j) (fv Po (rv Po 2 t1.toInt.toNat) 1).toInt.toNat) from by rw [q6r.2.2.2]; exact Or.inr (Or.inr (⟨by omega, by omega, g19⟩)))
      exact mp_iret ⟨⟨_, rfl, u22⟩, rfl⟩ dX6_reflected_35 (Or.inl rfl)
    · have c14 : (fv Po b5 0).toInt ≠ 1 := ti_eq_n c14
      refine mp_a (a_sipush (v := -1002) dX6_reflected_25 rfl) (mpp 28 rfl ?_)
      refine mp_a (a_goto (t := 35) dX6_reflected_28 (by decide)) ?_
      have u23 : reflectedC Po (-1002 : Int) t1.toInt := (show ((-1002 : Int) = -1001 ∧ (t1.toInt < 0 ∨ (fv Po 1 1).toInt ≤ t1.toInt ∨ 8 ≤ t1.toInt)) ∨ ((0 ≤ t1.toInt ∧ t1.toInt + 1 ≤ (fv Po 1 1).toInt ∧ t1.toInt ≤ 7) ∧ ¬ (fv Po (rv Po 2 t1.toInt.toNat) 0).toInt = 1 ∧ (-1002 : Int) = -1002) ∨ ((0 ≤ t1.toInt ∧ t1.toInt + 1 ≤ (fv Po 1 1).toInt ∧ t1.toInt ≤ 7) ∧ (fv Po (rv Po 2 t1.toInt.toNat) 0).toInt = 1 ∧ (-1002 : Int) = rfF (fun j : Nat => fv Po ((rv Po 2 t1.toInt.toNat) + 1) j) (fv Po (rv Po 2 t1.toInt.toNat) 1).toInt.toNat) from by rw [q6r.2.2.2]; exact Or.inr (Or.inl (⟨by omega, by omega, by omega⟩)))
      exact mp_iret ⟨⟨_, rfl, u23⟩, rfl⟩ dX6_reflected_35 (Or.inl rfl)

set_option maxHeartbeats 4000000 in
theorem c_F_put_codes {Po : mP} {t1 : Int32} {t2 : Int32} (hT : Typ Po) (hX : XR Po)   : EvP 1 22 [.ref 290, .int t1, .int t2] Po (fun r P' => (r = none ∧ (True)) ∧ Typ P' ∧ KW [576] Po P' ∧ ((t1.toInt < 0 ∨ 80 ≤ t1.toInt) ∨ (fv P' 290 t1.toInt.toNat).toInt = t2.toInt) ∧ (∀ x j : Nat, ¬ (x = 290 ∧ j = t1.toInt.toNat) → fv P' x j = fv Po x j) ∧ KI 290 (290 + 1) Po P') := by
  refine EvP.of qm_22 (Nat.le_of_ble_eq_true rfl) rfl ?_
  show MEvP _ none q_22 0 [(0, .ref 290), (1, .int t1), (2, .int t2)] [] _ 0 0 _
  have w_t1 := ti_full t1
  have w_t2 := ti_full t2
  refine mp_a (a_iload_n dX6_put_0 rfl) (mpp 1 rfl ?_)
  refine mp_Tb (t := 14) (j_if_lt dX6_put_1) (by decide) (fun c1 => ?_) (fun c1 => mpp 4 rfl ?_)
  · have c1 : t1.toInt < 0 := ti_lt c1
    have u2 : ((t1.toInt < 0 ∨ 80 ≤ t1.toInt) ∨ (fv Po 290 t1.toInt.toNat).toInt = t2.toInt) := Or.inl (by omega)
    have u3 : (∀ x j : Nat, ¬ (x = 290 ∧ j = t1.toInt.toNat) → fv Po x j = fv Po x j) := fun _ _ _ => rfl
    have u4 : KI 290 (290 + 1) Po Po := fun _ _ _ => rfl
    exact mp_ret ⟨⟨rfl, trivial⟩, hT, KW.refl, ⟨u2, u3, u4⟩⟩ dX6_put_14 rfl
  · have c1 : t1.toInt ≥ 0 := ti_lt_n c1
    refine mp_a (a_iload_n dX6_put_4 rfl) (mpp 5 rfl ?_)
    refine mp_a (a_aload_n dX6_put_5 rfl) (mpp 6 rfl ?_)
    refine mt_len (n := 80) hT dX6_put_6 rl_290 (by decide) (by decide) rfl (mpp 7 rfl ?_)
    refine mp_Tb (t := 14) (j_icmp_ge dX6_put_7) (by decide) (fun c5 => ?_) (fun c5 => mpp 10 rfl ?_)
    · have c5 : t1.toInt ≥ 80 := ti_ge c5
      have u6 : ((t1.toInt < 0 ∨ 80 ≤ t1.toInt) ∨ (fv Po 290 t1.toInt.toNat).toInt = t2.toInt) := Or.inl (by omega)
      have u7 : (∀ x j : Nat, ¬ (x = 290 ∧ j = t1.toInt.toNat) → fv Po x j = fv Po x j) := fun _ _ _ => rfl
      have u8 : KI 290 (290 + 1) Po Po := fun _ _ _ => rfl
      exact mp_ret ⟨⟨rfl, trivial⟩, hT, KW.refl, ⟨u6, u7, u8⟩⟩ dX6_put_14 rfl
    · have c5 : t1.toInt < 80 := ti_ge_n c5
      refine mp_a (a_aload_n dX6_put_10 rfl) (mpp 11 rfl ?_)
      refine mp_a (a_iload_n dX6_put_11 rfl) (mpp 12 rfl ?_)
      refine mp_a (a_iload_n dX6_put_12 rfl) (mpp 13 rfl ?_)
      refine mt_ias (n := 80) hT dX6_put_13 rl_290 (by decide) rfl rfl (by omega) (by omega) rfl (ti_full t2) (fun P9 hT10 f11 f12 f13 => mpp 14 rfl ?_)
      have k14 : KW [576] Po P9 := KW.step KW.refl rl_290 rfl f12 f13
      have u15 : ((t1.toInt < 0 ∨ 80 ≤ t1.toInt) ∨ (fv P9 290 t1.toInt.toNat).toInt = t2.toInt) := Or.inr (congrArg Int32.toInt f11)
      have u16 : (∀ x j : Nat, ¬ (x = 290 ∧ j = t1.toInt.toNat) → fv P9 x j = fv Po x j) := f12
      have u17 : KI 290 (290 + 1) Po P9 := by
        intro x j hx
        rw [f12 x j (by omega)]
      exact mp_ret ⟨⟨rfl, trivial⟩, hT10, k14, ⟨u15, u16, u17⟩⟩ dX6_put_14 rfl

set_option maxHeartbeats 4000000 in
theorem c_CS_write_Script {Po : mP} {t1 : Int32} (hT : Typ Po) (hX : XR Po)  (hp0 : (fv Po 289 1).toInt ≤ 79)  : EvP 2 93 [.ref 289, .int t1] Po (fun r P' => (r = none ∧ ((fv P' 289 1).toInt = (fv Po 289 1).toInt + 1 ∧ (fv P' 290 (fv Po 289 1).toInt.toNat).toInt = t1.toInt ∧ ∀ j : Nat, ¬ j = (fv Po 289 1).toInt.toNat → fv P' 290 j = fv Po 290 j)) ∧ Typ P' ∧ KW [513, 576] Po P' ∧ KI 289 291 Po P') := by
  refine EvP.of qm_93 (Nat.le_of_ble_eq_true rfl) rfl ?_
  show MEvP _ none q_93 0 [(0, .ref 289), (1, .int t1)] [] _ 0 0 _
  have w_t1 := ti_full t1
  have g1 : (0 : Int) ≤ (fv Po 289 1).toInt ∧ (fv Po 289 1).toInt ≤ 80 := Typ.rng hT rl_289 (by decide) (by decide) rfl
  refine mp_a (a_aload_n dX4_write_0 rfl) (mpp 1 rfl ?_)
  refine mt_getU (i := 9) (k := 0) (A := 290) hT dX4_write_1 rfl rl_289 (by decide) rfl (by decide) rfl un_9 (mpp 4 rfl ?_)
  refine mp_a (a_aload_n dX4_write_4 rfl) (mpp 5 rfl ?_)
  refine mt_getI (i := 15) (k := 1) hT dX4_write_5 rfl rl_289 (by decide) rfl (by decide) rfl (fun g2 g3 => mpp 8 rfl ?_)
  refine mp_a (a_iload_n dX4_write_8 rfl) (mpp 9 rfl ?_)
  refine mp_calls (i := 19) (q' := q_22) (As := [.ref 290, .int (fv Po 289 1), .int t1]) (rest := []) dX4_write_9 rfl qm_22 (by decide) rfl (Nat.le_of_ble_eq_true rfl) rfl ⟨rfl, rfl⟩ ⟨Nat.le_of_ble_eq_true rfl, Nat.le_of_ble_eq_true rfl⟩ (EvP.mono (by decide) (c_F_put_codes hT hX )) (fun r4 P5 g6 => mpp 12 rfl ?_)
  obtain ⟨⟨rfl, g8⟩, hT9, k10, R11⟩ := g6
  have k12 : KW [513, 576] Po P5 := KW.trans KW.refl k10 rfl
  show MEvP _ none q_93 12 [(0, .ref 289), (1, .int t1)] [] _ _ _ _
  refine mp_a (a_aload_n dX4_write_12 rfl) (mpp 13 rfl ?_)
  refine mp_t (s_dup dX4_write_13 rfl) (mpp 14 rfl ?_)
  have e14 : (fv P5 289 1).toInt = (fv Po 289 1).toInt := congrArg Int32.toInt (KW.at k10 1 rl_289 rfl)
  refine mt_getI (i := 15) (k := 1) hT9 dX4_write_14 rfl rl_289 (by decide) rfl (by decide) rfl (fun g15 g16 => mpp 17 rfl ?_)
  refine mp_a (a_iconst (v := 1) dX4_write_17 rfl) (mpp 18 rfl ?_)
  obtain ⟨z17, h18⟩ := ti_ex ((fv P5 289 1) + 1 : Int32)
  have wz17 := ti_full z17
  refine mp_t (s_iadd (v := z17) dX4_write_18 h18) (mpp 19 rfl ?_)
  try have e19 : z17.toInt = (fv P5 289 1).toInt + 1 := ti_addz h18 rfl rfl (by omega) (by omega)
  refine mt_putI (i := 15) (k := 1) (x := z17) hT9 dX4_write_19 rfl rl_289 (by decide) rfl (by decide) rfl ⟨by omega, by omega⟩ rfl rfl (fun P20 hT21 f22 f23 f24 => mpp 22 rfl ?_)
  have k25 : KW [513, 576] Po P20 := KW.step k12 rl_289 rfl f23 f24
  have e26 : (fv P20 289 1).toInt = z17.toInt := congrArg Int32.toInt f22
  have u27 : (fv P20 289 1).toInt = (fv Po 289 1).toInt + 1 ∧ (fv P20 290 (fv Po 289 1).toInt.toNat).toInt = t1.toInt ∧ ∀ j : Nat, ¬ j = (fv Po 289 1).toInt.toNat → fv P20 290 j = fv Po 290 j := ⟨by omega, by rw [f23 290 _ (by omega)]; exact R11.1.resolve_left (by omega), fun j hj => (f23 290 j (by omega)).trans (R11.2.1 290 j (fun e => hj e.2))⟩
  have u28 : KI 289 291 Po P20 := by
    intro x j hx
    rw [f23 x j (by omega), R11.2.2 x j (by omega)]
  exact mp_ret ⟨⟨rfl, u27⟩, hT21, k25, u28⟩ dX4_write_22 rfl

set_option maxHeartbeats 4000000 in
theorem c_F_append {Po : mP} {t1 : Int32} (hT : Typ Po) (hX : XR Po)   : EvP 3 92 [.ref 0, .int t1] Po (fun r P' => (∃ x : Int32, r = some (.int x) ∧ ((x.toInt = -1002 ∧ (t1.toInt < 32 ∨ 126 < t1.toInt ∨ 80 ≤ (fv Po 289 1).toInt) ∧ (fv P' 289 1).toInt = (fv Po 289 1).toInt ∧ ∀ j : Nat, fv P' 290 j = fv Po 290 j) ∨ (x.toInt = (fv Po 289 1).toInt + 1 ∧ 32 ≤ t1.toInt ∧ t1.toInt ≤ 126 ∧ (fv Po 289 1).toInt < 80 ∧ (fv P' 289 1).toInt = (fv Po 289 1).toInt + 1 ∧ (fv P' 290 (fv Po 289 1).toInt.toNat).toInt = t1.toInt ∧ ∀ j : Nat, ¬ j = (fv Po 289 1).toInt.toNat → fv P' 290 j = fv Po 290 j))) ∧ Typ P' ∧ KW [513, 576] Po P' ∧ True) := by
  refine EvP.of qm_92 (Nat.le_of_ble_eq_true rfl) rfl ?_
  show MEvP _ none q_92 0 [(0, .ref 0), (1, .int t1)] [] _ 0 0 _
  have w_t1 := ti_full t1
  have g1 : (0 : Int) ≤ (fv Po 289 1).toInt ∧ (fv Po 289 1).toInt ≤ 80 := Typ.rng hT rl_289 (by decide) (by decide) rfl
  refine mp_a (a_iload_n dX6_append_0 rfl) (mpp 1 rfl ?_)
  refine mp_a (a_bipush (v := 32) dX6_append_1 rfl) (mpp 3 rfl ?_)
  refine mp_Tb (t := 24) (j_icmp_lt dX6_append_3) (by decide) (fun c2 => ?_) (fun c2 => mpp 6 rfl ?_)
  · have c2 : t1.toInt < 32 := ti_lt c2
    refine mp_a (a_sipush (v := -1002) dX6_append_24 rfl) (mpp 27 rfl ?_)
    have u3 : ((-1002 : Int) = -1002 ∧ (t1.toInt < 32 ∨ 126 < t1.toInt ∨ 80 ≤ (fv Po 289 1).toInt) ∧ (fv Po 289 1).toInt = (fv Po 289 1).toInt ∧ ∀ j : Nat, fv Po 290 j = fv Po 290 j) ∨ ((-1002 : Int) = (fv Po 289 1).toInt + 1 ∧ 32 ≤ t1.toInt ∧ t1.toInt ≤ 126 ∧ (fv Po 289 1).toInt < 80 ∧ (fv Po 289 1).toInt = (fv Po 289 1).toInt + 1 ∧ (fv Po 290 (fv Po 289 1).toInt.toNat).toInt = t1.toInt ∧ ∀ j : Nat, ¬ j = (fv Po 289 1).toInt.toNat → fv Po 290 j = fv Po 290 j) := Or.inl ⟨rfl, by omega, by omega, fun _ => rfl⟩
    exact mp_iret ⟨⟨_, rfl, u3⟩, hT, KW.refl, trivial⟩ dX6_append_27 (Or.inl rfl)
  · have c2 : t1.toInt ≥ 32 := ti_lt_n c2
    refine mp_a (a_iload_n dX6_append_6 rfl) (mpp 7 rfl ?_)
    refine mp_a (a_bipush (v := 126) dX6_append_7 rfl) (mpp 9 rfl ?_)
    refine mp_Tb (t := 24) (j_icmp_gt dX6_append_9) (by decide) (fun c4 => ?_) (fun c4 => mpp 12 rfl ?_)
    · have c4 : t1.toInt > 126 := ti_gt c4
      refine mp_a (a_sipush (v := -1002) dX6_append_24 rfl) (mpp 27 rfl ?_)
      have u5 : ((-1002 : Int) = -1002 ∧ (t1.toInt < 32 ∨ 126 < t1.toInt ∨ 80 ≤ (fv Po 289 1).toInt) ∧ (fv Po 289 1).toInt = (fv Po 289 1).toInt ∧ ∀ j : Nat, fv Po 290 j = fv Po 290 j) ∨ ((-1002 : Int) = (fv Po 289 1).toInt + 1 ∧ 32 ≤ t1.toInt ∧ t1.toInt ≤ 126 ∧ (fv Po 289 1).toInt < 80 ∧ (fv Po 289 1).toInt = (fv Po 289 1).toInt + 1 ∧ (fv Po 290 (fv Po 289 1).toInt.toNat).toInt = t1.toInt ∧ ∀ j : Nat, ¬ j = (fv Po 289 1).toInt.toNat → fv Po 290 j = fv Po 290 j) := Or.inl ⟨rfl, by omega, by omega, fun _ => rfl⟩
      exact mp_iret ⟨⟨_, rfl, u5⟩, hT, KW.refl, trivial⟩ dX6_append_27 (Or.inl rfl)
    · have c4 : t1.toInt ≤ 126 := ti_gt_n c4
      refine mp_a (a_aload_n dX6_append_12 rfl) (mpp 13 rfl ?_)
      refine mt_getU (i := 32) (k := 4) (A := 289) hT dX6_append_13 rfl rl_0 (by decide) rfl (by decide) rfl un_8 (mpp 16 rfl ?_)
      refine mt_getI (i := 216) (k := 1) hT dX6_append_16 rfl rl_289 (by decide) rfl (by decide) rfl (fun g6 g7 => mpp 19 rfl ?_)
      refine mp_a (a_bipush (v := 80) dX6_append_19 rfl) (mpp 21 rfl ?_)
      refine mp_Tb (t := 28) (j_icmp_lt dX6_append_21) (by decide) (fun c8 => ?_) (fun c8 => mpp 24 rfl ?_)
      · have c8 : (fv Po 289 1).toInt < 80 := ti_lt c8
        refine mp_a (a_aload_n dX6_append_28 rfl) (mpp 29 rfl ?_)
        refine mt_getU (i := 32) (k := 4) (A := 289) hT dX6_append_29 rfl rl_0 (by decide) rfl (by decide) rfl un_8 (mpp 32 rfl ?_)
        refine mp_a (a_iload_n dX6_append_32 rfl) (mpp 33 rfl ?_)
        have p9 : (fv Po 289 1).toInt ≤ 79 := by omega
        refine mt_callv (i := 219) (q' := q_93) (As := [.int t1]) (rest := []) hT dX6_append_33 rfl qm_93 (by decide) rfl rl_289 (by decide) rfl (Nat.le_of_ble_eq_true rfl) rfl ⟨rfl, rfl⟩ ⟨Nat.le_of_ble_eq_true rfl, Nat.le_of_ble_eq_true rfl⟩ (EvP.mono (by decide) (c_CS_write_Script hT hX p9 )) (fun r10 P11 g12 => mpp 36 rfl ?_)
        obtain ⟨⟨rfl, g14⟩, hT15, k16, R17⟩ := g12
        have k18 : KW [513, 576] Po P11 := KW.trans KW.refl k16 rfl
        replace g14 : (fv P11 289 1).toInt = (fv Po 289 1).toInt + 1 ∧ (fv P11 290 (fv Po 289 1).toInt.toNat).toInt = t1.toInt ∧ ∀ j : Nat, ¬ j = (fv Po 289 1).toInt.toNat → fv P11 290 j = fv Po 290 j := g14
        have g20 : (0 : Int) ≤ (fv P11 289 1).toInt ∧ (fv P11 289 1).toInt ≤ 80 := Typ.rng hT15 rl_289 (by decide) (by decide) rfl
        show MEvP _ none q_92 36 [(0, .ref 0), (1, .int t1)] [] _ _ _ _
        refine mp_a (a_aload_n dX6_append_36 rfl) (mpp 37 rfl ?_)
        refine mt_getU (i := 32) (k := 4) (A := 289) hT15 dX6_append_37 rfl rl_0 (by decide) rfl (by decide) rfl un_8 (mpp 40 rfl ?_)
        refine mt_getI (i := 216) (k := 1) hT15 dX6_append_40 rfl rl_289 (by decide) rfl (by decide) rfl (fun g21 g22 => mpp 43 rfl ?_)
        have u23 : ((fv P11 289 1).toInt = -1002 ∧ (t1.toInt < 32 ∨ 126 < t1.toInt ∨ 80 ≤ (fv Po 289 1).toInt) ∧ (fv P11 289 1).toInt = (fv Po 289 1).toInt ∧ ∀ j : Nat, fv P11 290 j = fv Po 290 j) ∨ ((fv P11 289 1).toInt = (fv Po 289 1).toInt + 1 ∧ 32 ≤ t1.toInt ∧ t1.toInt ≤ 126 ∧ (fv Po 289 1).toInt < 80 ∧ (fv P11 289 1).toInt = (fv Po 289 1).toInt + 1 ∧ (fv P11 290 (fv Po 289 1).toInt.toNat).toInt = t1.toInt ∧ ∀ j : Nat, ¬ j = (fv Po 289 1).toInt.toNat → fv P11 290 j = fv Po 290 j) := Or.inr ⟨by omega, by omega, by omega, by omega, by omega, g14.2.1, g14.2.2⟩
        exact mp_iret ⟨⟨_, rfl, u23⟩, hT15, k18, trivial⟩ dX6_append_43 (Or.inl rfl)
      · have c8 : (fv Po 289 1).toInt ≥ 80 := ti_lt_n c8
        refine mp_a (a_sipush (v := -1002) dX6_append_24 rfl) (mpp 27 rfl ?_)
        have u24 : ((-1002 : Int) = -1002 ∧ (t1.toInt < 32 ∨ 126 < t1.toInt ∨ 80 ≤ (fv Po 289 1).toInt) ∧ (fv Po 289 1).toInt = (fv Po 289 1).toInt ∧ ∀ j : Nat, fv Po 290 j = fv Po 290 j) ∨ ((-1002 : Int) = (fv Po 289 1).toInt + 1 ∧ 32 ≤ t1.toInt ∧ t1.toInt ≤ 126 ∧ (fv Po 289 1).toInt < 80 ∧ (fv Po 289 1).toInt = (fv Po 289 1).toInt + 1 ∧ (fv Po 290 (fv Po 289 1).toInt.toNat).toInt = t1.toInt ∧ ∀ j : Nat, ¬ j = (fv Po 289 1).toInt.toNat → fv Po 290 j = fv Po 290 j) := Or.inl ⟨rfl, by omega, by omega, fun _ => rfl⟩
        exact mp_iret ⟨⟨_, rfl, u24⟩, hT, KW.refl, trivial⟩ dX6_append_27 (Or.inl rfl)

set_option maxHeartbeats 4000000 in
theorem c_CS_rewind_Script {Po : mP}  (hT : Typ Po) (hX : XR Po)   : EvP 1 96 [.ref 289] Po (fun r P' => (r = none ∧ ((fv P' 289 2).toInt = 0)) ∧ Typ P' ∧ KW [514] Po P' ∧ fv P' 289 1 = fv Po 289 1 ∧ KI 289 290 Po P') := by
  refine EvP.of qm_96 (Nat.le_of_ble_eq_true rfl) rfl ?_
  show MEvP _ none q_96 0 [(0, .ref 289)] [] _ 0 0 _
  refine mp_a (a_aload_n dX4_rewind_0 rfl) (mpp 1 rfl ?_)
  refine mp_a (a_iconst (v := 0) dX4_rewind_1 rfl) (mpp 2 rfl ?_)
  refine mt_putI (i := 23) (k := 2) (x := 0) hT dX4_rewind_2 rfl rl_289 (by decide) rfl (by decide) rfl (by decide) rfl rfl (fun P1 hT2 f3 f4 f5 => mpp 5 rfl ?_)
  have k6 : KW [514] Po P1 := KW.step KW.refl rl_289 rfl f4 f5
  have e7 : (fv P1 289 2).toInt = 0 := congrArg Int32.toInt f3
  have u8 : (fv P1 289 2).toInt = 0 := by omega
  have u9 : fv P1 289 1 = fv Po 289 1 := by rw [f4 289 1 (by omega)]
  have u10 : KI 289 290 Po P1 := by
    intro x j hx
    rw [f4 x j (by omega)]
  exact mp_ret ⟨⟨rfl, u8⟩, hT2, k6, ⟨u9, u10⟩⟩ dX4_rewind_5 rfl

set_option maxHeartbeats 4000000 in
theorem c_F_at_codes {Po : mP} {t1 : Int32} (hT : Typ Po) (hX : XR Po)   : EvP 1 12 [.ref 290, .int t1] Po (fun r P' => (∃ x : Int32, r = some (.int x) ∧ ((0 ≤ t1.toInt ∧ t1.toInt ≤ 79 ∧ x.toInt = (fv Po 290 t1.toInt.toNat).toInt) ∨ ((t1.toInt < 0 ∨ 80 ≤ t1.toInt) ∧ x.toInt = 0))) ∧ P' = Po) := by
  refine EvP.of qm_12 (Nat.le_of_ble_eq_true rfl) rfl ?_
  show MEvP _ none q_12 0 [(0, .ref 290), (1, .int t1)] [] _ 0 0 _
  have w_t1 := ti_full t1
  refine mp_a (a_iload_n dX6_at_0 rfl) (mpp 1 rfl ?_)
  refine mp_Tb (t := 16) (j_if_lt dX6_at_1) (by decide) (fun c1 => ?_) (fun c1 => mpp 4 rfl ?_)
  · have c1 : t1.toInt < 0 := ti_lt c1
    refine mp_a (a_iconst (v := 0) dX6_at_16 rfl) (mpp 17 rfl ?_)
    have u2 : (0 ≤ t1.toInt ∧ t1.toInt ≤ 79 ∧ (0 : Int) = (fv Po 290 t1.toInt.toNat).toInt) ∨ ((t1.toInt < 0 ∨ 80 ≤ t1.toInt) ∧ (0 : Int) = 0) := by omega
    exact mp_iret ⟨⟨_, rfl, u2⟩, rfl⟩ dX6_at_17 (Or.inl rfl)
  · have c1 : t1.toInt ≥ 0 := ti_lt_n c1
    refine mp_a (a_iload_n dX6_at_4 rfl) (mpp 5 rfl ?_)
    refine mp_a (a_aload_n dX6_at_5 rfl) (mpp 6 rfl ?_)
    refine mt_len (n := 80) hT dX6_at_6 rl_290 (by decide) (by decide) rfl (mpp 7 rfl ?_)
    refine mp_Tb (t := 16) (j_icmp_ge dX6_at_7) (by decide) (fun c3 => ?_) (fun c3 => mpp 10 rfl ?_)
    · have c3 : t1.toInt ≥ 80 := ti_ge c3
      refine mp_a (a_iconst (v := 0) dX6_at_16 rfl) (mpp 17 rfl ?_)
      have u4 : (0 ≤ t1.toInt ∧ t1.toInt ≤ 79 ∧ (0 : Int) = (fv Po 290 t1.toInt.toNat).toInt) ∨ ((t1.toInt < 0 ∨ 80 ≤ t1.toInt) ∧ (0 : Int) = 0) := by omega
      exact mp_iret ⟨⟨_, rfl, u4⟩, rfl⟩ dX6_at_17 (Or.inl rfl)
    · have c3 : t1.toInt < 80 := ti_ge_n c3
      refine mp_a (a_aload_n dX6_at_10 rfl) (mpp 11 rfl ?_)
      refine mp_a (a_iload_n dX6_at_11 rfl) (mpp 12 rfl ?_)
      refine mt_ial (n := 80) hT dX6_at_12 rl_290 (by decide) rfl rfl (by omega) (by omega) rfl (fun g5 g6 => mpp 13 rfl ?_)
      refine mp_a (a_goto (t := 17) dX6_at_13 (by decide)) ?_
      have u7 : (0 ≤ t1.toInt ∧ t1.toInt ≤ 79 ∧ (fv Po 290 t1.toInt.toNat).toInt = (fv Po 290 t1.toInt.toNat).toInt) ∨ ((t1.toInt < 0 ∨ 80 ≤ t1.toInt) ∧ (fv Po 290 t1.toInt.toNat).toInt = 0) := by omega
      exact mp_iret ⟨⟨_, rfl, u7⟩, rfl⟩ dX6_at_17 (Or.inl rfl)

set_option maxHeartbeats 4000000 in
theorem c_CS_codeHere_Script {Po : mP}  (hT : Typ Po) (hX : XR Po)  (hp0 : 0 ≤ (fv Po 289 2).toInt)  : EvP 2 98 [.ref 289] Po (fun r P' => (∃ x : Int32, r = some (.int x) ∧ (x.toInt = (chC Po (fv Po 289 2).toInt).toInt ∨ (x.toInt = 0 ∧ (chC Po (fv Po 289 2).toInt).toInt = -1))) ∧ P' = Po) := by
  refine EvP.of qm_98 (Nat.le_of_ble_eq_true rfl) rfl ?_
  show MEvP _ none q_98 0 [(0, .ref 289)] [] _ 0 0 _
  have g1 := ti_full (fv Po 289 2)
  refine mp_a (a_aload_n dX4_codeHere_0 rfl) (mpp 1 rfl ?_)
  refine mt_getI (i := 23) (k := 2) hT dX4_codeHere_1 rfl rl_289 (by decide) rfl (by decide) rfl (fun g2 g3 => mpp 4 rfl ?_)
  refine mp_a (a_aload_n dX4_codeHere_4 rfl) (mpp 5 rfl ?_)
  have g4 : (0 : Int) ≤ (fv Po 289 1).toInt ∧ (fv Po 289 1).toInt ≤ 80 := Typ.rng hT rl_289 (by decide) (by decide) rfl
  refine mt_getI (i := 15) (k := 1) hT dX4_codeHere_5 rfl rl_289 (by decide) rfl (by decide) rfl (fun g5 g6 => mpp 8 rfl ?_)
  refine mp_Tb (t := 25) (j_icmp_ge dX4_codeHere_8) (by decide) (fun c7 => ?_) (fun c7 => mpp 11 rfl ?_)
  · have c7 : (fv Po 289 2).toInt ≥ (fv Po 289 1).toInt := ti_ge c7
    refine mp_a (a_iconst (v := 0) dX4_codeHere_25 rfl) (mpp 26 rfl ?_)
    have u8 : (0 : Int) = (chC Po (fv Po 289 2).toInt).toInt ∨ ((0 : Int) = 0 ∧ (chC Po (fv Po 289 2).toInt).toInt = -1) := Or.inr ⟨rfl, by rw [show chC Po (fv Po 289 2).toInt = -1 from ch_out (by omega)]; rfl⟩
    exact mp_iret ⟨⟨_, rfl, u8⟩, rfl⟩ dX4_codeHere_26 (Or.inl rfl)
  · have c7 : (fv Po 289 2).toInt < (fv Po 289 1).toInt := ti_ge_n c7
    refine mp_a (a_aload_n dX4_codeHere_11 rfl) (mpp 12 rfl ?_)
    refine mt_getU (i := 9) (k := 0) (A := 290) hT dX4_codeHere_12 rfl rl_289 (by decide) rfl (by decide) rfl un_9 (mpp 15 rfl ?_)
    refine mp_a (a_aload_n dX4_codeHere_15 rfl) (mpp 16 rfl ?_)
    refine mt_getI (i := 23) (k := 2) hT dX4_codeHere_16 rfl rl_289 (by decide) rfl (by decide) rfl (fun g9 g10 => mpp 19 rfl ?_)
    refine mp_calls (i := 59) (q' := q_12) (As := [.ref 290, .int (fv Po 289 2)]) (rest := []) dX4_codeHere_19 rfl qm_12 (by decide) rfl (Nat.le_of_ble_eq_true rfl) rfl ⟨rfl, rfl⟩ ⟨Nat.le_of_ble_eq_true rfl, Nat.le_of_ble_eq_true rfl⟩ (EvP.mono (by decide) (c_F_at_codes hT hX )) (fun r11 P12 g13 => mpp 22 rfl ?_)
    obtain ⟨⟨x14, rfl, g15⟩, e16⟩ := g13
    have e16 := e16.symm
    subst e16
    have wx14 := ti_full x14
    replace g15 : (0 ≤ (fv Po 289 2).toInt ∧ (fv Po 289 2).toInt ≤ 79 ∧ x14.toInt = (fv Po 290 (fv Po 289 2).toInt.toNat).toInt) ∨ (((fv Po 289 2).toInt < 0 ∨ 80 ≤ (fv Po 289 2).toInt) ∧ x14.toInt = 0) := g15
    try replace g15 : x14.toInt = (fv Po 290 (fv Po 289 2).toInt.toNat).toInt := (g15.resolve_right (by omega)).2.2
    show MEvP _ none q_98 22 [(0, .ref 289)] [.int x14] _ _ _ _
    refine mp_a (a_goto (t := 26) dX4_codeHere_22 (by decide)) ?_
    have u17 : x14.toInt = (chC Po (fv Po 289 2).toInt).toInt ∨ (x14.toInt = 0 ∧ (chC Po (fv Po 289 2).toInt).toInt = -1) := Or.inl (by rw [show chC Po (fv Po 289 2).toInt = fv Po 290 (fv Po 289 2).toInt.toNat from ch_in ⟨by omega, by omega⟩]; omega)
    exact mp_iret ⟨⟨_, rfl, u17⟩, rfl⟩ dX4_codeHere_26 (Or.inl rfl)

