/-! methods on typed pools, 4 (written by a program) -/
set_option maxHeartbeats 4000000 in
theorem c_CP_turnOver_NPiece_l2 {Po : mP} {a0_ : Nat} (hTo : Typ Po) (hX : XR Po) (ha0 : rl a0_ = 33) : ∀ (n : Nat) (v1 : Int32), ∀ (P : mP), Typ P → KW [320] Po P → (ROW Po P (a0_ + 2) (fun j : Nat => flI (fv Po (a0_ + 2) j)) v1.toInt.toNat) → (KI (a0_ + 2) (a0_ + 3) Po P) → ((fv P a0_ 0).toInt = (fv Po a0_ 0).toInt) → ((fv P a0_ 1).toInt = (fv Po a0_ 1).toInt) → (((fv Po a0_ 0).toInt = 0 ∧ (v1.toInt ≤ (fv Po a0_ 1).toInt - 1 ∨ v1.toInt = 0)) ∨ ((fv Po a0_ 0).toInt ≠ 0 ∧ v1.toInt ≤ (fv Po a0_ 1).toInt)) → (0 ≤ v1.toInt) → (2147483647 - v1.toInt).toNat = n → MEvP 1 none q_31 2 [(0, .ref a0_), (1, .int v1)] [] P 0 0 (fun r P' => (r = none ∧ (True)) ∧ Typ P' ∧ KW [320] Po P' ∧ (ROW Po P' (a0_ + 2) (fun j : Nat => flI (fv Po (a0_ + 2) j)) (nC (fv Po a0_ 0).toInt (fv Po a0_ 1).toInt)) ∧ KI (a0_ + 2) (a0_ + 3) Po P') := by
  intro n
  induction n using Nat.strongRecOn with | _ n ih => ?_
  intro v1 P hT hK i_0 i_1 i_2 i_3 i_4 i_5 hm
  have w1 := np_ar ha0
  have w_v1 := ti_full v1
  have e2 : (fv P a0_ 0).toInt = (fv Po a0_ 0).toInt := congrArg Int32.toInt (KW.at hK 0 ha0 rfl)
  have g3 := ti_full (fv P a0_ 0)
  have e4 : (fv P a0_ 1).toInt = (fv Po a0_ 1).toInt := congrArg Int32.toInt (KW.at hK 1 ha0 rfl)
  have g5 : (0 : Int) ≤ (fv P a0_ 1).toInt ∧ (fv P a0_ 1).toInt ≤ 8 := Typ.rng hT ha0 (by decide) (by decide) rfl
  refine mp_a (a_iload_n dX2_turnOver_2 rfl) (mpp 3 rfl ?_)
  refine mp_a (a_aload_n dX2_turnOver_3 rfl) (mpp 4 rfl ?_)
  refine mt_callv (i := 37) (q' := q_25) (As := []) (rest := [.int v1]) hT dX2_turnOver_4 rfl qm_25 (by decide) rfl ha0 (by decide) rfl (Nat.le_of_ble_eq_true rfl) rfl ⟨rfl, rfl⟩ ⟨Nat.le_of_ble_eq_true rfl, Nat.le_of_ble_eq_true rfl⟩ (EvP.mono (by decide) (c_CP_creaseCount_NPiece hT (KW.xr hK hX) ha0)) (fun r6 P7 g8 => mpp 7 rfl ?_)
  obtain ⟨⟨x9, rfl, g10⟩, e11⟩ := g8
  have e11 := e11.symm
  subst e11
  have wx9 := ti_full x9
  replace g10 : -1 ≤ x9.toInt ∧ x9.toInt ≤ (fv P a0_ 1).toInt ∧ (((fv P a0_ 0).toInt = 0 ∧ x9.toInt = (fv P a0_ 1).toInt - 1) ∨ ((fv P a0_ 0).toInt ≠ 0 ∧ x9.toInt = (fv P a0_ 1).toInt)) := g10
  show MEvP _ none q_31 7 [(0, .ref a0_), (1, .int v1)] [.int x9, .int v1] _ _ _ _
  refine mp_Tb (t := 47) (j_icmp_ge dX2_turnOver_7) (by decide) (fun c12 => ?_) (fun c12 => mpp 10 rfl ?_)
  · have c12 : v1.toInt ≥ x9.toInt := ti_ge c12
    have u13 : (ROW Po P (a0_ + 2) (fun j : Nat => flI (fv Po (a0_ + 2) j)) (nC (fv Po a0_ 0).toInt (fv Po a0_ 1).toInt)) ∧ KI (a0_ + 2) (a0_ + 3) Po P := ⟨i_0.fin (by unfold nC; split <;> omega), i_1⟩
    exact mp_ret ⟨⟨rfl, trivial⟩, hT, hK, u13⟩ dX2_turnOver_47 rfl
  · have c12 : v1.toInt < x9.toInt := ti_ge_n c12
    refine mp_a (a_aload_n dX2_turnOver_10 rfl) (mpp 11 rfl ?_)
    refine mt_getE (i := 15) (k := 4) hT dX2_turnOver_11 rfl ha0 (by decide) rfl (by decide) rfl ((KW.xr hK hX).1 a0_ (Or.inr ha0)).2 (fun q14 => mpp 14 rfl ?_)
    refine mp_a (a_iload_n dX2_turnOver_14 rfl) (mpp 15 rfl ?_)
    refine mp_calls (i := 48) (q' := q_12) (As := [.ref (a0_ + 2), .int v1]) (rest := []) dX2_turnOver_15 rfl qm_12 (by decide) rfl (Nat.le_of_ble_eq_true rfl) rfl ⟨rfl, rfl⟩ ⟨Nat.le_of_ble_eq_true rfl, Nat.le_of_ble_eq_true rfl⟩ (EvP.mono (by decide) (c_F_at_creases hT (KW.xr hK hX) q14)) (fun r15 P16 g17 => mpp 18 rfl ?_)
    obtain ⟨⟨x18, rfl, g19⟩, e20⟩ := g17
    have e20 := e20.symm
    subst e20
    have wx18 := ti_full x18
    replace g19 : (0 ≤ v1.toInt ∧ v1.toInt ≤ 7 ∧ x18.toInt = (fv P (a0_ + 2) v1.toInt.toNat).toInt) ∨ ((v1.toInt < 0 ∨ 8 ≤ v1.toInt) ∧ x18.toInt = 0) := g19
    try replace g19 : x18.toInt = (fv P (a0_ + 2) v1.toInt.toNat).toInt := (g19.resolve_right (by omega)).2.2
    show MEvP _ none q_31 18 [(0, .ref a0_), (1, .int v1)] [.int x18] _ _ _ _
    refine mp_a (a_istore_n (L' := [(2, .int x18), (0, .ref a0_), (1, .int v1)]) dX2_turnOver_18 (by decide) rfl) (mpp 19 rfl ?_)
    refine mp_a (a_iload_n dX2_turnOver_19 rfl) (mpp 20 rfl ?_)
    refine mp_Tb (t := 41) (j_if_eq dX2_turnOver_20) (by decide) (fun c21 => ?_) (fun c21 => mpp 23 rfl ?_)
    · have c21 : x18.toInt = 0 := ti_eq c21
      obtain ⟨z22, h23⟩ := ti_ex (v1 + 1 : Int32)
      have wz22 := ti_full z22
      refine mp_a (a_iinc (v := z22) (L' := [(1, .int z22), (2, .int x18), (0, .ref a0_)]) dX2_turnOver_41 (by decide) rfl h23 rfl) (mpp 44 rfl ?_)
      try have e24 : z22.toInt = v1.toInt + 1 := ti_addz h23 rfl rfl (by omega) (by omega)
      refine mp_a (a_goto (t := 2) dX2_turnOver_44 (by decide)) ?_
      refine MEvP.less (L := [(0, .ref a0_), (1, .int z22)]) rfl rfl ⟨rfl, rfl, trivial⟩ ?_
      have i25 : ROW Po P (a0_ + 2) (fun j : Nat => flI (fv Po (a0_ + 2) j)) z22.toInt.toNat := ROW.skip i_0 (by omega) (flI.zero (by have := congrArg Int32.toInt (i_0.2 v1.toInt.toNat (Nat.le_refl _)); omega))
      have i26 : KI (a0_ + 2) (a0_ + 3) Po P := fun x j hx => by rw [i_1 x j (by omega)]
      have i27 : (fv P a0_ 0).toInt = (fv Po a0_ 0).toInt := by omega
      have i28 : (fv P a0_ 1).toInt = (fv Po a0_ 1).toInt := by omega
      have i29 : ((fv Po a0_ 0).toInt = 0 ∧ (z22.toInt ≤ (fv Po a0_ 1).toInt - 1 ∨ z22.toInt = 0)) ∨ ((fv Po a0_ 0).toInt ≠ 0 ∧ z22.toInt ≤ (fv Po a0_ 1).toInt) := by omega
      have i30 : 0 ≤ z22.toInt := by omega
      exact ih _ (by omega) _ P hT hK i25 i26 i27 i28 i29 i30 rfl
    · have c21 : x18.toInt ≠ 0 := ti_eq_n c21
      refine mp_a (a_aload_n dX2_turnOver_23 rfl) (mpp 24 rfl ?_)
      refine mt_getE (i := 15) (k := 4) hT dX2_turnOver_24 rfl ha0 (by decide) rfl (by decide) rfl ((KW.xr hK hX).1 a0_ (Or.inr ha0)).2 (fun q31 => mpp 27 rfl ?_)
      refine mp_a (a_iload_n dX2_turnOver_27 rfl) (mpp 28 rfl ?_)
      refine mp_a (a_iload_n dX2_turnOver_28 rfl) (mpp 29 rfl ?_)
      refine mp_a (a_iconst (v := 1) dX2_turnOver_29 rfl) (mpp 30 rfl ?_)
      refine mp_Tb (t := 37) (j_icmp_ne dX2_turnOver_30) (by decide) (fun c32 => ?_) (fun c32 => mpp 33 rfl ?_)
      · have c32 : x18.toInt ≠ 1 := ti_ne c32
        refine mp_a (a_iconst (v := 1) dX2_turnOver_37 rfl) (mpp 38 rfl ?_)
        refine mp_calls (i := 29) (q' := q_22) (As := [.ref (a0_ + 2), .int v1, .int 1]) (rest := []) dX2_turnOver_38 rfl qm_22 (by decide) rfl (Nat.le_of_ble_eq_true rfl) rfl ⟨rfl, rfl⟩ ⟨Nat.le_of_ble_eq_true rfl, Nat.le_of_ble_eq_true rfl⟩ (EvP.mono (by decide) (c_F_put_creases hT (KW.xr hK hX) q31)) (fun r33 P34 g35 => mpp 41 rfl ?_)
        obtain ⟨⟨rfl, g37⟩, hT38, k39, R40⟩ := g35
        have k41 : KW [320] Po P34 := KW.trans hK k39 rfl
        show MEvP _ none q_31 41 [(2, .int x18), (0, .ref a0_), (1, .int v1)] [] _ _ _ _
        obtain ⟨z43, h44⟩ := ti_ex (v1 + 1 : Int32)
        have wz43 := ti_full z43
        refine mp_a (a_iinc (v := z43) (L' := [(1, .int z43), (2, .int x18), (0, .ref a0_)]) dX2_turnOver_41 (by decide) rfl h44 rfl) (mpp 44 rfl ?_)
        try have e45 : z43.toInt = v1.toInt + 1 := ti_addz h44 rfl rfl (by omega) (by omega)
        refine mp_a (a_goto (t := 2) dX2_turnOver_44 (by decide)) ?_
        refine MEvP.less (L := [(0, .ref a0_), (1, .int z43)]) rfl rfl ⟨rfl, rfl, trivial⟩ ?_
        have i46 : ROW Po P34 (a0_ + 2) (fun j : Nat => flI (fv Po (a0_ + 2) j)) z43.toInt.toNat := ROW.step i_0 (by omega) rfl (R40.1.resolve_left (by omega)) (by have h0 := congrArg Int32.toInt (i_0.2 v1.toInt.toNat (Nat.le_refl _)); exact flI.two (by omega) (by omega) rfl) (fun j hj => R40.2.1 _ _ (fun e => hj e.2))
        have i47 : KI (a0_ + 2) (a0_ + 3) Po P34 := fun x j hx => by rw [R40.2.1 x j (by omega), i_1 x j (by omega)]
        have e48 : (fv P34 a0_ 0).toInt = (fv P a0_ 0).toInt := congrArg Int32.toInt (KW.at k39 0 ha0 rfl)
        have i49 : (fv P34 a0_ 0).toInt = (fv Po a0_ 0).toInt := by omega
        have e50 : (fv P34 a0_ 1).toInt = (fv P a0_ 1).toInt := congrArg Int32.toInt (KW.at k39 1 ha0 rfl)
        have i51 : (fv P34 a0_ 1).toInt = (fv Po a0_ 1).toInt := by omega
        have i52 : ((fv Po a0_ 0).toInt = 0 ∧ (z43.toInt ≤ (fv Po a0_ 1).toInt - 1 ∨ z43.toInt = 0)) ∨ ((fv Po a0_ 0).toInt ≠ 0 ∧ z43.toInt ≤ (fv Po a0_ 1).toInt) := by omega
        have i53 : 0 ≤ z43.toInt := by omega
        exact ih _ (by omega) _ P34 hT38 k41 i46 i47 i49 i51 i52 i53 rfl
      · have c32 : x18.toInt = 1 := ti_ne_n c32
        refine mp_a (a_iconst (v := 2) dX2_turnOver_33 rfl) (mpp 34 rfl ?_)
        refine mp_a (a_goto (t := 38) dX2_turnOver_34 (by decide)) ?_
        refine mp_calls (i := 29) (q' := q_22) (As := [.ref (a0_ + 2), .int v1, .int 2]) (rest := []) dX2_turnOver_38 rfl qm_22 (by decide) rfl (Nat.le_of_ble_eq_true rfl) rfl ⟨rfl, rfl⟩ ⟨Nat.le_of_ble_eq_true rfl, Nat.le_of_ble_eq_true rfl⟩ (EvP.mono (by decide) (c_F_put_creases hT (KW.xr hK hX) q31)) (fun r54 P55 g56 => mpp 41 rfl ?_)
        obtain ⟨⟨rfl, g58⟩, hT59, k60, R61⟩ := g56
        have k62 : KW [320] Po P55 := KW.trans hK k60 rfl
        show MEvP _ none q_31 41 [(2, .int x18), (0, .ref a0_), (1, .int v1)] [] _ _ _ _
        obtain ⟨z64, h65⟩ := ti_ex (v1 + 1 : Int32)
        have wz64 := ti_full z64
        refine mp_a (a_iinc (v := z64) (L' := [(1, .int z64), (2, .int x18), (0, .ref a0_)]) dX2_turnOver_41 (by decide) rfl h65 rfl) (mpp 44 rfl ?_)
        try have e66 : z64.toInt = v1.toInt + 1 := ti_addz h65 rfl rfl (by omega) (by omega)
        refine mp_a (a_goto (t := 2) dX2_turnOver_44 (by decide)) ?_
        refine MEvP.less (L := [(0, .ref a0_), (1, .int z64)]) rfl rfl ⟨rfl, rfl, trivial⟩ ?_
        have i67 : ROW Po P55 (a0_ + 2) (fun j : Nat => flI (fv Po (a0_ + 2) j)) z64.toInt.toNat := ROW.step i_0 (by omega) rfl (R61.1.resolve_left (by omega)) (by have h0 := congrArg Int32.toInt (i_0.2 v1.toInt.toNat (Nat.le_refl _)); exact flI.one (by omega) rfl) (fun j hj => R61.2.1 _ _ (fun e => hj e.2))
        have i68 : KI (a0_ + 2) (a0_ + 3) Po P55 := fun x j hx => by rw [R61.2.1 x j (by omega), i_1 x j (by omega)]
        have e69 : (fv P55 a0_ 0).toInt = (fv P a0_ 0).toInt := congrArg Int32.toInt (KW.at k60 0 ha0 rfl)
        have i70 : (fv P55 a0_ 0).toInt = (fv Po a0_ 0).toInt := by omega
        have e71 : (fv P55 a0_ 1).toInt = (fv P a0_ 1).toInt := congrArg Int32.toInt (KW.at k60 1 ha0 rfl)
        have i72 : (fv P55 a0_ 1).toInt = (fv Po a0_ 1).toInt := by omega
        have i73 : ((fv Po a0_ 0).toInt = 0 ∧ (z64.toInt ≤ (fv Po a0_ 1).toInt - 1 ∨ z64.toInt = 0)) ∨ ((fv Po a0_ 0).toInt ≠ 0 ∧ z64.toInt ≤ (fv Po a0_ 1).toInt) := by omega
        have i74 : 0 ≤ z64.toInt := by omega
        exact ih _ (by omega) _ P55 hT59 k62 i67 i68 i70 i72 i73 i74 rfl

set_option maxHeartbeats 4000000 in
theorem c_CP_turnOver_NPiece {Po : mP} {a0_ : Nat} (hT : Typ Po) (hX : XR Po)  (ha0 : rl a0_ = 33) : EvP 2 31 [.ref a0_] Po (fun r P' => (r = none ∧ (True)) ∧ Typ P' ∧ KW [320] Po P' ∧ (ROW Po P' (a0_ + 2) (fun j : Nat => flI (fv Po (a0_ + 2) j)) (nC (fv Po a0_ 0).toInt (fv Po a0_ 1).toInt)) ∧ KI (a0_ + 2) (a0_ + 3) Po P') := by
  refine EvP.of qm_31 (Nat.le_of_ble_eq_true rfl) rfl ?_
  show MEvP _ none q_31 0 [(0, .ref a0_)] [] _ 0 0 _
  have w1 := np_ar ha0
  have g2 := ti_full (fv Po a0_ 0)
  have g3 : (0 : Int) ≤ (fv Po a0_ 1).toInt ∧ (fv Po a0_ 1).toInt ≤ 8 := Typ.rng hT ha0 (by decide) (by decide) rfl
  refine mp_a (a_iconst (v := 0) dX2_turnOver_0 rfl) (mpp 1 rfl ?_)
  refine mp_a (a_istore_n (L' := [(1, .int 0), (0, .ref a0_)]) dX2_turnOver_1 (by decide) rfl) (mpp 2 rfl ?_)
  refine MEvP.less (L := [(0, .ref a0_), (1, .int 0)]) rfl rfl ⟨rfl, rfl, trivial⟩ ?_
  have i4 : ROW Po Po (a0_ + 2) (fun j : Nat => flI (fv Po (a0_ + 2) j)) (0 : Int).toNat := ROW.start rfl (fun _ => rfl)
  have i5 : KI (a0_ + 2) (a0_ + 3) Po Po := KI.refl
  have i6 : (fv Po a0_ 0).toInt = (fv Po a0_ 0).toInt := by omega
  have i7 : (fv Po a0_ 1).toInt = (fv Po a0_ 1).toInt := by omega
  have i8 : ((fv Po a0_ 0).toInt = 0 ∧ ((0 : Int) ≤ (fv Po a0_ 1).toInt - 1 ∨ (0 : Int) = 0)) ∨ ((fv Po a0_ 0).toInt ≠ 0 ∧ (0 : Int) ≤ (fv Po a0_ 1).toInt) := by omega
  have i9 : 0 ≤ (0 : Int) := by omega
  exact c_CP_turnOver_NPiece_l2 hT hX  ha0 _ _ Po hT KW.refl i4 i5 i6 i7 i8 i9 rfl

set_option maxHeartbeats 4000000 in
theorem c_CP_countOf_NPiece_l4 {Po : mP} {a0_ : Nat} {t1 : Int32} (hT : Typ Po) (hX : XR Po)  (ha0 : rl a0_ = 33) : ∀ (n : Nat) (v2 : Int32) (v3 : Int32), (0 ≤ v2.toInt) → (v2.toInt ≤ v3.toInt) → (v3.toInt ≤ 8) → (v2.toInt = cntF (fun j : Nat => fv Po (a0_ + 2) j) t1.toInt v3.toInt.toNat) → (((fv Po a0_ 0).toInt = 0 ∧ (v3.toInt ≤ (fv Po a0_ 1).toInt - 1 ∨ v3.toInt = 0)) ∨ ((fv Po a0_ 0).toInt ≠ 0 ∧ v3.toInt ≤ (fv Po a0_ 1).toInt)) → (0 ≤ v3.toInt) → (2147483647 - v3.toInt).toNat = n → MEvP 1 none q_32 4 [(0, .ref a0_), (1, .int t1), (2, .int v2), (3, .int v3)] [] Po 0 0 (fun r P' => (∃ x : Int32, r = some (.int x) ∧ (0 ≤ x.toInt ∧ x.toInt ≤ 8 ∧ x.toInt = cntF (fun j : Nat => fv Po (a0_ + 2) j) t1.toInt (nC (fv Po a0_ 0).toInt (fv Po a0_ 1).toInt))) ∧ P' = Po) := by
  intro n
  induction n using Nat.strongRecOn with | _ n ih => ?_
  intro v2 v3 i_0 i_1 i_2 i_3 i_4 i_5 hm
  have w1 := np_ar ha0
  have w_t1 := ti_full t1
  have w_v2 := ti_full v2
  have w_v3 := ti_full v3
  have g2 := ti_full (fv Po a0_ 0)
  have g3 : (0 : Int) ≤ (fv Po a0_ 1).toInt ∧ (fv Po a0_ 1).toInt ≤ 8 := Typ.rng hT ha0 (by decide) (by decide) rfl
  refine mp_a (a_iload_n dX2_countOf_4 rfl) (mpp 5 rfl ?_)
  refine mp_a (a_aload_n dX2_countOf_5 rfl) (mpp 6 rfl ?_)
  refine mt_callv (i := 37) (q' := q_25) (As := []) (rest := [.int v3]) hT dX2_countOf_6 rfl qm_25 (by decide) rfl ha0 (by decide) rfl (Nat.le_of_ble_eq_true rfl) rfl ⟨rfl, rfl⟩ ⟨Nat.le_of_ble_eq_true rfl, Nat.le_of_ble_eq_true rfl⟩ (EvP.mono (by decide) (c_CP_creaseCount_NPiece hT hX ha0)) (fun r4 P5 g6 => mpp 9 rfl ?_)
  obtain ⟨⟨x7, rfl, g8⟩, e9⟩ := g6
  have e9 := e9.symm
  subst e9
  have wx7 := ti_full x7
  replace g8 : -1 ≤ x7.toInt ∧ x7.toInt ≤ (fv Po a0_ 1).toInt ∧ (((fv Po a0_ 0).toInt = 0 ∧ x7.toInt = (fv Po a0_ 1).toInt - 1) ∨ ((fv Po a0_ 0).toInt ≠ 0 ∧ x7.toInt = (fv Po a0_ 1).toInt)) := g8
  show MEvP _ none q_32 9 [(0, .ref a0_), (1, .int t1), (2, .int v2), (3, .int v3)] [.int x7, .int v3] _ _ _ _
  refine mp_Tb (t := 33) (j_icmp_ge dX2_countOf_9) (by decide) (fun c10 => ?_) (fun c10 => mpp 12 rfl ?_)
  · have c10 : v3.toInt ≥ x7.toInt := ti_ge c10
    refine mp_a (a_iload_n dX2_countOf_33 rfl) (mpp 34 rfl ?_)
    have u11 : 0 ≤ v2.toInt ∧ v2.toInt ≤ 8 ∧ v2.toInt = cntF (fun j : Nat => fv Po (a0_ + 2) j) t1.toInt (nC (fv Po a0_ 0).toInt (fv Po a0_ 1).toInt) := ⟨by omega, by omega, i_3.trans (congrArg (cntF _ _) (by unfold nC; split <;> omega))⟩
    exact mp_iret ⟨⟨_, rfl, u11⟩, rfl⟩ dX2_countOf_34 (Or.inl rfl)
  · have c10 : v3.toInt < x7.toInt := ti_ge_n c10
    refine mp_a (a_aload_n dX2_countOf_12 rfl) (mpp 13 rfl ?_)
    refine mt_getE (i := 15) (k := 4) hT dX2_countOf_13 rfl ha0 (by decide) rfl (by decide) rfl (hX.1 a0_ (Or.inr ha0)).2 (fun q12 => mpp 16 rfl ?_)
    refine mp_a (a_iload_n dX2_countOf_16 rfl) (mpp 17 rfl ?_)
    refine mp_calls (i := 48) (q' := q_12) (As := [.ref (a0_ + 2), .int v3]) (rest := []) dX2_countOf_17 rfl qm_12 (by decide) rfl (Nat.le_of_ble_eq_true rfl) rfl ⟨rfl, rfl⟩ ⟨Nat.le_of_ble_eq_true rfl, Nat.le_of_ble_eq_true rfl⟩ (EvP.mono (by decide) (c_F_at_creases hT hX q12)) (fun r13 P14 g15 => mpp 20 rfl ?_)
    obtain ⟨⟨x16, rfl, g17⟩, e18⟩ := g15
    have e18 := e18.symm
    subst e18
    have wx16 := ti_full x16
    replace g17 : (0 ≤ v3.toInt ∧ v3.toInt ≤ 7 ∧ x16.toInt = (fv Po (a0_ + 2) v3.toInt.toNat).toInt) ∨ ((v3.toInt < 0 ∨ 8 ≤ v3.toInt) ∧ x16.toInt = 0) := g17
    try replace g17 : x16.toInt = (fv Po (a0_ + 2) v3.toInt.toNat).toInt := (g17.resolve_right (by omega)).2.2
    show MEvP _ none q_32 20 [(0, .ref a0_), (1, .int t1), (2, .int v2), (3, .int v3)] [.int x16] _ _ _ _
    refine mp_a (a_iload_n dX2_countOf_20 rfl) (mpp 21 rfl ?_)
    refine mp_Tb (t := 27) (j_icmp_ne dX2_countOf_21) (by decide) (fun c19 => ?_) (fun c19 => mpp 24 rfl ?_)
    · have c19 : x16.toInt ≠ t1.toInt := ti_ne c19
      obtain ⟨z20, h21⟩ := ti_ex (v3 + 1 : Int32)
      have wz20 := ti_full z20
      refine mp_a (a_iinc (v := z20) (L' := [(3, .int z20), (0, .ref a0_), (1, .int t1), (2, .int v2)]) dX2_countOf_27 (by decide) rfl h21 rfl) (mpp 30 rfl ?_)
      try have e22 : z20.toInt = v3.toInt + 1 := ti_addz h21 rfl rfl (by omega) (by omega)
      refine mp_a (a_goto (t := 4) dX2_countOf_30 (by decide)) ?_
      refine MEvP.less (L := [(0, .ref a0_), (1, .int t1), (2, .int v2), (3, .int z20)]) rfl rfl ⟨rfl, rfl, rfl, rfl, trivial⟩ ?_
      have i23 : 0 ≤ v2.toInt := by omega
      have i24 : v2.toInt ≤ z20.toInt := by omega
      have i25 : z20.toInt ≤ 8 := by omega
      have i26 : v2.toInt = cntF (fun j : Nat => fv Po (a0_ + 2) j) t1.toInt z20.toInt.toNat := cntF.no i_3 (by omega) (by show ¬ (fv Po (a0_ + 2) v3.toInt.toNat).toInt = t1.toInt; omega) rfl
      have i27 : ((fv Po a0_ 0).toInt = 0 ∧ (z20.toInt ≤ (fv Po a0_ 1).toInt - 1 ∨ z20.toInt = 0)) ∨ ((fv Po a0_ 0).toInt ≠ 0 ∧ z20.toInt ≤ (fv Po a0_ 1).toInt) := by omega
      have i28 : 0 ≤ z20.toInt := by omega
      exact ih _ (by omega) _ _ i23 i24 i25 i26 i27 i28 rfl
    · have c19 : x16.toInt = t1.toInt := ti_ne_n c19
      obtain ⟨z29, h30⟩ := ti_ex (v2 + 1 : Int32)
      have wz29 := ti_full z29
      refine mp_a (a_iinc (v := z29) (L' := [(2, .int z29), (0, .ref a0_), (1, .int t1), (3, .int v3)]) dX2_countOf_24 (by decide) rfl h30 rfl) (mpp 27 rfl ?_)
      try have e31 : z29.toInt = v2.toInt + 1 := ti_addz h30 rfl rfl (by omega) (by omega)
      obtain ⟨z32, h33⟩ := ti_ex (v3 + 1 : Int32)
      have wz32 := ti_full z32
      refine mp_a (a_iinc (v := z32) (L' := [(3, .int z32), (2, .int z29), (0, .ref a0_), (1, .int t1)]) dX2_countOf_27 (by decide) rfl h33 rfl) (mpp 30 rfl ?_)
      try have e34 : z32.toInt = v3.toInt + 1 := ti_addz h33 rfl rfl (by omega) (by omega)
      refine mp_a (a_goto (t := 4) dX2_countOf_30 (by decide)) ?_
      refine MEvP.less (L := [(0, .ref a0_), (1, .int t1), (2, .int z29), (3, .int z32)]) rfl rfl ⟨rfl, rfl, rfl, rfl, trivial⟩ ?_
      have i35 : 0 ≤ z29.toInt := by omega
      have i36 : z29.toInt ≤ z32.toInt := by omega
      have i37 : z32.toInt ≤ 8 := by omega
      have i38 : z29.toInt = cntF (fun j : Nat => fv Po (a0_ + 2) j) t1.toInt z32.toInt.toNat := cntF.yes i_3 (by omega) (by show (fv Po (a0_ + 2) v3.toInt.toNat).toInt = t1.toInt; omega) (by omega)
      have i39 : ((fv Po a0_ 0).toInt = 0 ∧ (z32.toInt ≤ (fv Po a0_ 1).toInt - 1 ∨ z32.toInt = 0)) ∨ ((fv Po a0_ 0).toInt ≠ 0 ∧ z32.toInt ≤ (fv Po a0_ 1).toInt) := by omega
      have i40 : 0 ≤ z32.toInt := by omega
      exact ih _ (by omega) _ _ i35 i36 i37 i38 i39 i40 rfl

set_option maxHeartbeats 4000000 in
theorem c_CP_countOf_NPiece {Po : mP} {a0_ : Nat} {t1 : Int32} (hT : Typ Po) (hX : XR Po)  (ha0 : rl a0_ = 33) : EvP 2 32 [.ref a0_, .int t1] Po (fun r P' => (∃ x : Int32, r = some (.int x) ∧ (0 ≤ x.toInt ∧ x.toInt ≤ 8 ∧ x.toInt = cntF (fun j : Nat => fv Po (a0_ + 2) j) t1.toInt (nC (fv Po a0_ 0).toInt (fv Po a0_ 1).toInt))) ∧ P' = Po) := by
  refine EvP.of qm_32 (Nat.le_of_ble_eq_true rfl) rfl ?_
  show MEvP _ none q_32 0 [(0, .ref a0_), (1, .int t1)] [] _ 0 0 _
  have w1 := np_ar ha0
  have w_t1 := ti_full t1
  have g2 := ti_full (fv Po a0_ 0)
  have g3 : (0 : Int) ≤ (fv Po a0_ 1).toInt ∧ (fv Po a0_ 1).toInt ≤ 8 := Typ.rng hT ha0 (by decide) (by decide) rfl
  refine mp_a (a_iconst (v := 0) dX2_countOf_0 rfl) (mpp 1 rfl ?_)
  refine mp_a (a_istore_n (L' := [(2, .int 0), (0, .ref a0_), (1, .int t1)]) dX2_countOf_1 (by decide) rfl) (mpp 2 rfl ?_)
  refine mp_a (a_iconst (v := 0) dX2_countOf_2 rfl) (mpp 3 rfl ?_)
  refine mp_a (a_istore_n (L' := [(3, .int 0), (2, .int 0), (0, .ref a0_), (1, .int t1)]) dX2_countOf_3 (by decide) rfl) (mpp 4 rfl ?_)
  refine MEvP.less (L := [(0, .ref a0_), (1, .int t1), (2, .int 0), (3, .int 0)]) rfl rfl ⟨rfl, rfl, rfl, rfl, trivial⟩ ?_
  have i4 : 0 ≤ (0 : Int) := by omega
  have i5 : (0 : Int) ≤ (0 : Int) := by omega
  have i6 : (0 : Int) ≤ 8 := by omega
  have i7 : (0 : Int) = cntF (fun j : Nat => fv Po (a0_ + 2) j) t1.toInt (0 : Int).toNat := rfl
  have i8 : ((fv Po a0_ 0).toInt = 0 ∧ ((0 : Int) ≤ (fv Po a0_ 1).toInt - 1 ∨ (0 : Int) = 0)) ∨ ((fv Po a0_ 0).toInt ≠ 0 ∧ (0 : Int) ≤ (fv Po a0_ 1).toInt) := by omega
  have i9 : 0 ≤ (0 : Int) := by omega
  exact c_CP_countOf_NPiece_l4 hT hX  ha0 _ _ _ i4 i5 i6 i7 i8 i9 rfl

set_option maxHeartbeats 4000000 in
theorem c_F_turn {Po : mP} {t1 : Int32} (hT : Typ Po) (hX : XR Po)  (hJ : Inj Po)  : EvP 5 30 [.ref 0, .int t1] Po (fun r P' => (∃ x : Int32, r = some (.int x) ∧ (KPX Po P' ∧ turnC Po P' x.toInt t1.toInt)) ∧ Typ P' ∧ KW [10, 11, 12, 65, 66, 67, 192, 193, 194, 256, 320, 385, 386] Po P' ∧ Inj P' ∧ True) := by
  refine EvP.of qm_30 (Nat.le_of_ble_eq_true rfl) rfl ?_
  show MEvP _ none q_30 0 [(0, .ref 0), (1, .int t1)] [] _ 0 0 _
  have w_t1 := ti_full t1
  refine mp_a (a_aload_n dX6_turn_0 rfl) (mpp 1 rfl ?_)
  refine mt_getU (i := 10) (k := 0) (A := 1) hT dX6_turn_1 rfl rl_0 (by decide) rfl (by decide) rfl un_31 (mpp 4 rfl ?_)
  refine mp_a (a_iload_n dX6_turn_4 rfl) (mpp 5 rfl ?_)
  refine mt_callv (i := 94) (q' := q_9) (As := [.int t1]) (rest := []) hT dX6_turn_5 rfl qm_9 (by decide) rfl rl_1 (by decide) rfl (Nat.le_of_ble_eq_true rfl) rfl ⟨rfl, rfl⟩ ⟨Nat.le_of_ble_eq_true rfl, Nat.le_of_ble_eq_true rfl⟩ (EvP.mono (by decide) (c_CS_pieceAt_NState hT hX )) (fun r1 P2 g3 => mpp 8 rfl ?_)
  obtain ⟨g3, e4⟩ := g3
  have e4 := e4.symm
  subst e4
  rcases g3 with ⟨rfl, q6n⟩ | ⟨b5, rfl, q6, q6r⟩
  · show MEvP _ none q_30 8 [(0, .ref 0), (1, .int t1)] [.null] _ _ _ _
    replace q6n : t1.toInt < 0 ∨ (fv Po 1 1).toInt ≤ t1.toInt ∨ 8 ≤ t1.toInt := q6n
    have g7 : (0 : Int) ≤ (fv Po 1 1).toInt ∧ (fv Po 1 1).toInt ≤ 8 := Typ.rng hT rl_1 (by decide) (by decide) rfl
    refine mp_a (a_astore_nN (L' := [(2, .null), (0, .ref 0), (1, .int t1)]) dX6_turn_8 (by decide) rfl) (mpp 9 rfl ?_)
    refine mp_a (a_aload_nN dX6_turn_9 rfl) (mpp 10 rfl ?_)
    refine mp_t (s_ifnonnullN dX6_turn_10) (mpp 13 rfl ?_)
    refine mp_a (a_sipush (v := -1001) dX6_turn_13 rfl) (mpp 16 rfl ?_)
    have u8 : KPX Po Po ∧ turnC Po Po (-1001 : Int) t1.toInt := ⟨⟨rfl, fun x j hx => rfl⟩, (show ((-1001 : Int) = -1001 ∧ (t1.toInt < 0 ∨ (fv Po 1 1).toInt ≤ t1.toInt ∨ 8 ≤ t1.toInt) ∧ NCH Po Po) ∨ ((-1001 : Int) = -1003 ∧ (0 ≤ t1.toInt ∧ t1.toInt + 1 ≤ (fv Po 1 1).toInt ∧ t1.toInt ≤ 7) ∧ (fv Po (rv Po 2 t1.toInt.toNat) 2).toInt = 1 ∧ NCH Po Po) ∨ ((0 ≤ t1.toInt ∧ t1.toInt + 1 ≤ (fv Po 1 1).toInt ∧ t1.toInt ≤ 7) ∧ (fv Po (rv Po 2 t1.toInt.toNat) 2).toInt = 0 ∧ (-1001 : Int) = (if (fv Po (rv Po 2 t1.toInt.toNat) 0).toInt = 0 then (fv Po (rv Po 2 t1.toInt.toNat) 1).toInt - 1 else (fv Po (rv Po 2 t1.toInt.toNat) 1).toInt) - cntF (fun j : Nat => fv Po ((rv Po 2 t1.toInt.toNat) + 2) j) 0 (nC (fv Po (rv Po 2 t1.toInt.toNat) 0).toInt (fv Po (rv Po 2 t1.toInt.toNat) 1).toInt) ∧ PSH Po Po ∧ ROW Po Po ((rv Po 2 t1.toInt.toNat) + 2) (fun j : Nat => flI (fv Po ((rv Po 2 t1.toInt.toNat) + 2) j)) (nC (fv Po (rv Po 2 t1.toInt.toNat) 0).toInt (fv Po (rv Po 2 t1.toInt.toNat) 1).toInt) ∧ (∀ x j : Nat, 1 ≤ x → x < 27 → ¬ x = (rv Po 2 t1.toInt.toNat) + 2 → fv Po x j = fv Po x j) ∧ ∀ k : Nat, rv Po 2 k = rv Po 2 k) from by exact Or.inl (⟨by omega, by omega, ⟨fun x j h1 h2 => rfl, fun k => rfl⟩⟩))⟩
    exact mp_iret ⟨⟨_, rfl, u8⟩, hT, KW.refl, hJ, trivial⟩ dX6_turn_16 (Or.inl rfl)
  · show MEvP _ none q_30 8 [(0, .ref 0), (1, .int t1)] [.ref b5] _ _ _ _
    replace q6r : 0 ≤ t1.toInt ∧ t1.toInt ≤ 7 ∧ t1.toInt + 1 ≤ (fv Po 1 1).toInt ∧ rv Po 2 t1.toInt.toNat = b5 := q6r
    have g9 : (0 : Int) ≤ (fv Po 1 1).toInt ∧ (fv Po 1 1).toInt ≤ 8 := Typ.rng hT rl_1 (by decide) (by decide) rfl
    have w10 := np_ar q6
    refine mp_a (a_astore_n (L' := [(2, .ref b5), (0, .ref 0), (1, .int t1)]) dX6_turn_8 (by decide) rfl) (mpp 9 rfl ?_)
    refine mp_a (a_aload_n dX6_turn_9 rfl) (mpp 10 rfl ?_)
    refine mp_t (s_ifnonnullR (t := 17) dX6_turn_10 (by decide)) ?_
    refine mp_a (a_aload_n dX6_turn_17 rfl) (mpp 18 rfl ?_)
    have g11 : (0 : Int) ≤ (fv Po b5 2).toInt ∧ (fv Po b5 2).toInt ≤ 1 := Typ.rng hT q6 (by decide) (by decide) rfl
    refine mt_getI (i := 104) (k := 2) hT dX6_turn_18 rfl q6 (by decide) rfl (by decide) rfl (fun g12 g13 => mpp 21 rfl ?_)
    refine mp_Tb (t := 31) (j_if_eq dX6_turn_21) (by decide) (fun c14 => ?_) (fun c14 => mpp 24 rfl ?_)
    · have c14 : (fv Po b5 2).toInt = 0 := ti_eq c14
      refine mp_a (a_aload_n dX6_turn_31 rfl) (mpp 32 rfl ?_)
      refine mt_getU (i := 25) (k := 3) (A := 79) hT dX6_turn_32 rfl rl_0 (by decide) rfl (by decide) rfl un_6 (mpp 35 rfl ?_)
      refine mp_a (a_aload_n dX6_turn_35 rfl) (mpp 36 rfl ?_)
      refine mt_getU (i := 10) (k := 0) (A := 1) hT dX6_turn_36 rfl rl_0 (by decide) rfl (by decide) rfl un_31 (mpp 39 rfl ?_)
      refine mt_callv (i := 72) (q' := q_15) (As := [.ref 1]) (rest := []) hT dX6_turn_39 rfl qm_15 (by decide) rfl rl_79 (by decide) rfl (Nat.le_of_ble_eq_true rfl) rfl ⟨rfl, rfl⟩ ⟨Nat.le_of_ble_eq_true rfl, Nat.le_of_ble_eq_true rfl⟩ (EvP.mono (by decide) (c_CH_push_History_NState hT hX hJ )) (fun r15 P16 g17 => mpp 42 rfl ?_)
      obtain ⟨⟨rfl, g19⟩, hT20, k21, J24, R22⟩ := g17
      have k23 : KW [10, 11, 12, 65, 66, 67, 192, 193, 194, 256, 320, 385, 386] Po P16 := KW.trans KW.refl k21 rfl
      show MEvP _ none q_30 42 [(2, .ref b5), (0, .ref 0), (1, .int t1)] [] _ _ _ _
      refine mp_a (a_aload_n dX6_turn_42 rfl) (mpp 43 rfl ?_)
      refine mt_callv (i := 120) (q' := q_31) (As := []) (rest := []) hT20 dX6_turn_43 rfl qm_31 (by decide) rfl q6 (by decide) rfl (Nat.le_of_ble_eq_true rfl) rfl ⟨rfl, rfl⟩ ⟨Nat.le_of_ble_eq_true rfl, Nat.le_of_ble_eq_true rfl⟩ (EvP.mono (by decide) (c_CP_turnOver_NPiece hT20 (KW.xr k23 hX) q6)) (fun r25 P26 g27 => mpp 46 rfl ?_)
      obtain ⟨⟨rfl, g29⟩, hT30, k31, R32⟩ := g27
      have k33 : KW [10, 11, 12, 65, 66, 67, 192, 193, 194, 256, 320, 385, 386] Po P26 := KW.trans k23 k31 rfl
      have J35 := Inj.kw J24 k31 rfl
      show MEvP _ none q_30 46 [(2, .ref b5), (0, .ref 0), (1, .int t1)] [] _ _ _ _
      refine mp_a (a_aload_n dX6_turn_46 rfl) (mpp 47 rfl ?_)
      refine mt_callv (i := 123) (q' := q_25) (As := []) (rest := []) hT30 dX6_turn_47 rfl qm_25 (by decide) rfl q6 (by decide) rfl (Nat.le_of_ble_eq_true rfl) rfl ⟨rfl, rfl⟩ ⟨Nat.le_of_ble_eq_true rfl, Nat.le_of_ble_eq_true rfl⟩ (EvP.mono (by decide) (c_CP_creaseCount_NPiece hT30 (KW.xr k33 hX) q6)) (fun r36 P37 g38 => mpp 50 rfl ?_)
      obtain ⟨⟨x39, rfl, g40⟩, e41⟩ := g38
      have e41 := e41.symm
      subst e41
      have wx39 := ti_full x39
      replace g40 : -1 ≤ x39.toInt ∧ x39.toInt ≤ (fv P26 b5 1).toInt ∧ (((fv P26 b5 0).toInt = 0 ∧ x39.toInt = (fv P26 b5 1).toInt - 1) ∨ ((fv P26 b5 0).toInt ≠ 0 ∧ x39.toInt = (fv P26 b5 1).toInt)) := g40
      have g42 : (0 : Int) ≤ (fv P26 b5 1).toInt ∧ (fv P26 b5 1).toInt ≤ 8 := Typ.rng hT30 q6 (by decide) (by decide) rfl
      have g43 := ti_full (fv P26 b5 0)
      show MEvP _ none q_30 50 [(2, .ref b5), (0, .ref 0), (1, .int t1)] [.int x39] _ _ _ _
      refine mp_a (a_aload_n dX6_turn_50 rfl) (mpp 51 rfl ?_)
      refine mp_a (a_iconst (v := 0) dX6_turn_51 rfl) (mpp 52 rfl ?_)
      refine mt_callv (i := 126) (q' := q_32) (As := [.int 0]) (rest := [.int x39]) hT30 dX6_turn_52 rfl qm_32 (by decide) rfl q6 (by decide) rfl (Nat.le_of_ble_eq_true rfl) rfl ⟨rfl, rfl⟩ ⟨Nat.le_of_ble_eq_true rfl, Nat.le_of_ble_eq_true rfl⟩ (EvP.mono (by decide) (c_CP_countOf_NPiece hT30 (KW.xr k33 hX) q6)) (fun r44 P45 g46 => mpp 55 rfl ?_)
      obtain ⟨⟨x47, rfl, g48⟩, e49⟩ := g46
      have e49 := e49.symm
      subst e49
      have wx47 := ti_full x47
      replace g48 : 0 ≤ x47.toInt ∧ x47.toInt ≤ 8 ∧ x47.toInt = cntF (fun j : Nat => fv P26 (b5 + 2) j) (0 : Int) (nC (fv P26 b5 0).toInt (fv P26 b5 1).toInt) := g48
      show MEvP _ none q_30 55 [(2, .ref b5), (0, .ref 0), (1, .int t1)] [.int x47, .int x39] _ _ _ _
      obtain ⟨z50, h51⟩ := ti_ex (x39 - x47 : Int32)
      have wz50 := ti_full z50
      refine mp_t (s_isub (v := z50) dX6_turn_55 h51) (mpp 56 rfl ?_)
      try have e52 : z50.toInt = x39.toInt - x47.toInt := ti_subz h51 rfl rfl (by omega) (by omega)
      have e54 : (fv P16 1 1).toInt = (fv Po 1 1).toInt := congrArg Int32.toInt (R22.2.2.2.2.2 1 1 (by omega))
      have e55 : (fv P16 1 2).toInt = (fv Po 1 2).toInt := congrArg Int32.toInt (R22.2.2.2.2.2 1 2 (by omega))
      have e56 : (fv P16 1 3).toInt = (fv Po 1 3).toInt := congrArg Int32.toInt (R22.2.2.2.2.2 1 3 (by omega))
      have e57 : (fv P26 1 1).toInt = (fv P16 1 1).toInt := congrArg Int32.toInt (R32.2 1 1 (by omega))
      have e58 : (fv P26 1 2).toInt = (fv P16 1 2).toInt := congrArg Int32.toInt (R32.2 1 2 (by omega))
      have e59 : (fv P26 1 3).toInt = (fv P16 1 3).toInt := congrArg Int32.toInt (R32.2 1 3 (by omega))
      have w61_ : fv P26 b5 0 = fv Po b5 0 := by rw [R32.2 b5 0 (by omega), R22.2.2.2.2.2 b5 0 (by omega)]
      have w62_ : fv P26 b5 1 = fv Po b5 1 := by rw [R32.2 b5 1 (by omega), R22.2.2.2.2.2 b5 1 (by omega)]
      have w63_ := g48.2.2
      rw [w61_, w62_] at w63_
      have w64_ := congrArg Int32.toInt w61_
      have w65_ := congrArg Int32.toInt w62_
      have w67_ : fv P16 b5 0 = fv Po b5 0 := by rw [R22.2.2.2.2.2 b5 0 (by omega)]
      have w68_ : fv P16 b5 1 = fv Po b5 1 := by rw [R22.2.2.2.2.2 b5 1 (by omega)]
      have w69_ : ∀ j : Nat, fv P16 (b5 + 2) j = fv Po (b5 + 2) j := fun j => by rw [R22.2.2.2.2.2 (b5 + 2) j (by omega)]
      have w70_ := R32.1
      rw [w67_, w68_] at w70_
      have u53 : KPX Po P26 ∧ turnC Po P26 z50.toInt t1.toInt := ⟨⟨by rw [R32.2 0 8 (by omega), R22.2.2.2.2.2 0 8 (by omega)], fun x j hx => by rw [R32.2 x j (by omega), R22.2.2.2.2.2 x j (by omega)]⟩, (show (z50.toInt = -1001 ∧ (t1.toInt < 0 ∨ (fv Po 1 1).toInt ≤ t1.toInt ∨ 8 ≤ t1.toInt) ∧ NCH Po P26) ∨ (z50.toInt = -1003 ∧ (0 ≤ t1.toInt ∧ t1.toInt + 1 ≤ (fv Po 1 1).toInt ∧ t1.toInt ≤ 7) ∧ (fv Po (rv Po 2 t1.toInt.toNat) 2).toInt = 1 ∧ NCH Po P26) ∨ ((0 ≤ t1.toInt ∧ t1.toInt + 1 ≤ (fv Po 1 1).toInt ∧ t1.toInt ≤ 7) ∧ (fv Po (rv Po 2 t1.toInt.toNat) 2).toInt = 0 ∧ z50.toInt = (if (fv Po (rv Po 2 t1.toInt.toNat) 0).toInt = 0 then (fv Po (rv Po 2 t1.toInt.toNat) 1).toInt - 1 else (fv Po (rv Po 2 t1.toInt.toNat) 1).toInt) - cntF (fun j : Nat => fv P26 ((rv Po 2 t1.toInt.toNat) + 2) j) 0 (nC (fv Po (rv Po 2 t1.toInt.toNat) 0).toInt (fv Po (rv Po 2 t1.toInt.toNat) 1).toInt) ∧ PSH Po P26 ∧ ROW Po P26 ((rv Po 2 t1.toInt.toNat) + 2) (fun j : Nat => flI (fv Po ((rv Po 2 t1.toInt.toNat) + 2) j)) (nC (fv Po (rv Po 2 t1.toInt.toNat) 0).toInt (fv Po (rv Po 2 t1.toInt.toNat) 1).toInt) ∧ (∀ x j : Nat, 1 ≤ x → x < 27 → ¬ x = (rv Po 2 t1.toInt.toNat) + 2 → fv P26 x j = fv Po x j) ∧ ∀ k : Nat, rv P26 2 k = rv Po 2 k) from by rw [q6r.2.2.2]; exact Or.inr (Or.inr (⟨by omega, by omega, by rw [← w63_]; split <;> omega, PSH.mk (P := Po) (Q := P16) hT R22.1 R22.2.1 R22.2.2.1 R22.2.2.2.1 R22.2.2.2.2.1 (fun x j h1 h2 => by rw [R32.2 x j (by omega)]) (fun x j hx => rfl) (fun k => rfl) (Typ.rng hT rl_79 (by decide) (by decide) rfl), w70_.src w69_ (fun j _ => congrArg flI (w69_ j)), fun x j h1 h2 h3 => by rw [R32.2 x j (by omega), R22.2.2.2.2.2 x j (by omega)], fun k => by rw [k31.2.2 rfl k, k21.2.2 rfl k]⟩)))⟩
      exact mp_iret ⟨⟨_, rfl, u53⟩, hT30, k33, J35, trivial⟩ dX6_turn_56 (Or.inl rfl)
    · have c14 : (fv Po b5 2).toInt ≠ 0 := ti_eq_n c14
      refine mp_a (a_aload_n dX6_turn_24 rfl) (mpp 25 rfl ?_)
      refine mp_a (a_iconst (v := 2) dX6_turn_25 rfl) (mpp 26 rfl ?_)
      refine mp_a (a_iload_n dX6_turn_26 rfl) (mpp 27 rfl ?_)
      refine mt_callv (i := 68) (q' := q_14) (As := [.int 2, .int t1]) (rest := []) hT dX6_turn_27 rfl qm_14 (by decide) rfl rl_0 (by decide) rfl (Nat.le_of_ble_eq_true rfl) rfl ⟨rfl, rfl⟩ ⟨Nat.le_of_ble_eq_true rfl, Nat.le_of_ble_eq_true rfl⟩ (EvP.mono (by decide) (c_F_refuse hT hX )) (fun r71 P72 g73 => mpp 30 rfl ?_)
      obtain ⟨⟨x74, rfl, g75⟩, hT76, k77, R78⟩ := g73
      have k79 : KW [10, 11, 12, 65, 66, 67, 192, 193, 194, 256, 320, 385, 386] Po P72 := KW.trans KW.refl k77 rfl
      have J81 := Inj.kw hJ k77 rfl
      have wx74 := ti_full x74
      replace g75 : x74.toInt = -1003 := g75
      show MEvP _ none q_30 30 [(2, .ref b5), (0, .ref 0), (1, .int t1)] [.int x74] _ _ _ _
      have e83 : (fv P72 1 1).toInt = (fv Po 1 1).toInt := congrArg Int32.toInt (R78.2 1 1 (by omega))
      have e84 : (fv P72 1 2).toInt = (fv Po 1 2).toInt := congrArg Int32.toInt (R78.2 1 2 (by omega))
      have e85 : (fv P72 1 3).toInt = (fv Po 1 3).toInt := congrArg Int32.toInt (R78.2 1 3 (by omega))
      have u82 : KPX Po P72 ∧ turnC Po P72 x74.toInt t1.toInt := ⟨⟨by rw [R78.1], fun x j hx => by rw [R78.2 x j (by omega)]⟩, (show (x74.toInt = -1001 ∧ (t1.toInt < 0 ∨ (fv Po 1 1).toInt ≤ t1.toInt ∨ 8 ≤ t1.toInt) ∧ NCH Po P72) ∨ (x74.toInt = -1003 ∧ (0 ≤ t1.toInt ∧ t1.toInt + 1 ≤ (fv Po 1 1).toInt ∧ t1.toInt ≤ 7) ∧ (fv Po (rv Po 2 t1.toInt.toNat) 2).toInt = 1 ∧ NCH Po P72) ∨ ((0 ≤ t1.toInt ∧ t1.toInt + 1 ≤ (fv Po 1 1).toInt ∧ t1.toInt ≤ 7) ∧ (fv Po (rv Po 2 t1.toInt.toNat) 2).toInt = 0 ∧ x74.toInt = (if (fv Po (rv Po 2 t1.toInt.toNat) 0).toInt = 0 then (fv Po (rv Po 2 t1.toInt.toNat) 1).toInt - 1 else (fv Po (rv Po 2 t1.toInt.toNat) 1).toInt) - cntF (fun j : Nat => fv P72 ((rv Po 2 t1.toInt.toNat) + 2) j) 0 (nC (fv Po (rv Po 2 t1.toInt.toNat) 0).toInt (fv Po (rv Po 2 t1.toInt.toNat) 1).toInt) ∧ PSH Po P72 ∧ ROW Po P72 ((rv Po 2 t1.toInt.toNat) + 2) (fun j : Nat => flI (fv Po ((rv Po 2 t1.toInt.toNat) + 2) j)) (nC (fv Po (rv Po 2 t1.toInt.toNat) 0).toInt (fv Po (rv Po 2 t1.toInt.toNat) 1).toInt) ∧ (∀ x j : Nat, 1 ≤ x → x < 27 → ¬ x = (rv Po 2 t1.toInt.toNat) + 2 → fv P72 x j = fv Po x j) ∧ ∀ k : Nat, rv P72 2 k = rv Po 2 k) from by rw [q6r.2.2.2]; exact Or.inr (Or.inl (⟨by omega, by omega, by omega, ⟨fun x j h1 h2 => by rw [R78.2 x j (by omega)], fun k => by rw [k77.2.2 rfl k]⟩⟩)))⟩
      exact mp_iret ⟨⟨_, rfl, u82⟩, hT76, k79, J81, trivial⟩ dX6_turn_30 (Or.inl rfl)

set_option maxHeartbeats 4000000 in
theorem c_CP_becomeRotated_NPiece_Piece_l2 {Po : mP} {a0_ : Nat} {a1_ : Nat} {t2 : Int32} (hTo : Typ Po) (hX : XR Po) (hp0 : 0 ≤ t2.toInt) (hp1 : t2.toInt < (fv Po a0_ 1).toInt) (hp2 : a0_ + 3 ≤ a1_ ∨ a1_ + 3 ≤ a0_) (ha0 : rl a0_ = 33) (ha1 : rl a1_ = 3) : ∀ (n : Nat) (v3 : Int32), ∀ (P : mP), Typ P → KW [256, 320] Po P → (ROW Po P (a0_ + 1) (fun j : Nat => fv Po (a1_ + 1) (if t2.toInt.toNat + j < (fv Po a0_ 1).toInt.toNat then t2.toInt.toNat + j else t2.toInt.toNat + j - (fv Po a0_ 1).toInt.toNat)) v3.toInt.toNat) → (ROW Po P (a0_ + 2) (fun j : Nat => fv Po (a1_ + 2) (if t2.toInt.toNat + j < (fv Po a0_ 1).toInt.toNat then t2.toInt.toNat + j else t2.toInt.toNat + j - (fv Po a0_ 1).toInt.toNat)) v3.toInt.toNat) → (KI (a0_ + 1) (a0_ + 3) Po P) → ((fv P a0_ 1).toInt = (fv Po a0_ 1).toInt) → (v3.toInt ≤ (fv Po a0_ 1).toInt) → (0 ≤ v3.toInt) → (2147483647 - v3.toInt).toNat = n → MEvP 1 none q_34 2 [(0, .ref a0_), (1, .ref a1_), (2, .int t2), (3, .int v3)] [] P 0 0 (fun r P' => (r = none ∧ (True)) ∧ Typ P' ∧ KW [256, 320] Po P' ∧ (ROW Po P' (a0_ + 1) (fun j : Nat => fv Po (a1_ + 1) (if t2.toInt.toNat + j < (fv Po a0_ 1).toInt.toNat then t2.toInt.toNat + j else t2.toInt.toNat + j - (fv Po a0_ 1).toInt.toNat)) (fv Po a0_ 1).toInt.toNat) ∧ (ROW Po P' (a0_ + 2) (fun j : Nat => fv Po (a1_ + 2) (if t2.toInt.toNat + j < (fv Po a0_ 1).toInt.toNat then t2.toInt.toNat + j else t2.toInt.toNat + j - (fv Po a0_ 1).toInt.toNat)) (fv Po a0_ 1).toInt.toNat) ∧ KI (a0_ + 1) (a0_ + 3) Po P') := by
  intro n
  induction n using Nat.strongRecOn with | _ n ih => ?_
  intro v3 P hT hK i_0 i_1 i_2 i_3 i_4 i_5 hm
  have w1 := np_ar ha0
  have w2 := pc_ar ha1
  have w_t2 := ti_full t2
  have w_v3 := ti_full v3
  have e3 : (fv P a0_ 1).toInt = (fv Po a0_ 1).toInt := congrArg Int32.toInt (KW.at hK 1 ha0 rfl)
  have g4 : (0 : Int) ≤ (fv P a0_ 1).toInt ∧ (fv P a0_ 1).toInt ≤ 8 := Typ.rng hT ha0 (by decide) (by decide) rfl
  refine mp_a (a_iload_n dX2_becomeRotated_2 rfl) (mpp 3 rfl ?_)
  refine mp_a (a_aload_n dX2_becomeRotated_3 rfl) (mpp 4 rfl ?_)
  refine mt_getI (i := 26) (k := 1) hT dX2_becomeRotated_4 rfl ha0 (by decide) rfl (by decide) rfl (fun g5 g6 => mpp 7 rfl ?_)
  refine mp_Tb (t := 76) (j_icmp_ge dX2_becomeRotated_7) (by decide) (fun c7 => ?_) (fun c7 => mpp 10 rfl ?_)
  · have c7 : v3.toInt ≥ (fv P a0_ 1).toInt := ti_ge c7
    have u8 : (ROW Po P (a0_ + 1) (fun j : Nat => fv Po (a1_ + 1) (if t2.toInt.toNat + j < (fv Po a0_ 1).toInt.toNat then t2.toInt.toNat + j else t2.toInt.toNat + j - (fv Po a0_ 1).toInt.toNat)) (fv Po a0_ 1).toInt.toNat) ∧ (ROW Po P (a0_ + 2) (fun j : Nat => fv Po (a1_ + 2) (if t2.toInt.toNat + j < (fv Po a0_ 1).toInt.toNat then t2.toInt.toNat + j else t2.toInt.toNat + j - (fv Po a0_ 1).toInt.toNat)) (fv Po a0_ 1).toInt.toNat) ∧ KI (a0_ + 1) (a0_ + 3) Po P := ⟨i_0.fin (by omega), i_1.fin (by omega), i_2⟩
    exact mp_ret ⟨⟨rfl, trivial⟩, hT, hK, u8⟩ dX2_becomeRotated_76 rfl
  · have c7 : v3.toInt < (fv P a0_ 1).toInt := ti_ge_n c7
    refine mp_a (a_iload_n dX2_becomeRotated_10 rfl) (mpp 11 rfl ?_)
    refine mp_a (a_iload_n dX2_becomeRotated_11 rfl) (mpp 12 rfl ?_)
    obtain ⟨z9, h10⟩ := ti_ex (t2 + v3 : Int32)
    have wz9 := ti_full z9
    refine mp_t (s_iadd (v := z9) dX2_becomeRotated_12 h10) (mpp 13 rfl ?_)
    try have e11 : z9.toInt = t2.toInt + v3.toInt := ti_addz h10 rfl rfl (by omega) (by omega)
    refine mp_a (a_aload_n dX2_becomeRotated_13 rfl) (mpp 14 rfl ?_)
    refine mt_getI (i := 26) (k := 1) hT dX2_becomeRotated_14 rfl ha0 (by decide) rfl (by decide) rfl (fun g12 g13 => mpp 17 rfl ?_)
    refine mp_Tb (t := 26) (j_icmp_ge dX2_becomeRotated_17) (by decide) (fun c14 => ?_) (fun c14 => mpp 20 rfl ?_)
    · have c14 : z9.toInt ≥ (fv P a0_ 1).toInt := ti_ge c14
      refine mp_a (a_iload_n dX2_becomeRotated_26 rfl) (mpp 27 rfl ?_)
      refine mp_a (a_iload_n dX2_becomeRotated_27 rfl) (mpp 28 rfl ?_)
      obtain ⟨z15, h16⟩ := ti_ex (t2 + v3 : Int32)
      have wz15 := ti_full z15
      refine mp_t (s_iadd (v := z15) dX2_becomeRotated_28 h16) (mpp 29 rfl ?_)
      try have e17 : z15.toInt = t2.toInt + v3.toInt := ti_addz h16 rfl rfl (by omega) (by omega)
      refine mp_a (a_aload_n dX2_becomeRotated_29 rfl) (mpp 30 rfl ?_)
      refine mt_getI (i := 26) (k := 1) hT dX2_becomeRotated_30 rfl ha0 (by decide) rfl (by decide) rfl (fun g18 g19 => mpp 33 rfl ?_)
      obtain ⟨z20, h21⟩ := ti_ex (z15 - (fv P a0_ 1) : Int32)
      have wz20 := ti_full z20
      refine mp_t (s_isub (v := z20) dX2_becomeRotated_33 h21) (mpp 34 rfl ?_)
      try have e22 : z20.toInt = z15.toInt - (fv P a0_ 1).toInt := ti_subz h21 rfl rfl (by omega) (by omega)
      refine mp_a (a_istore (L' := [(4, .int z20), (0, .ref a0_), (1, .ref a1_), (2, .int t2), (3, .int v3)]) dX2_becomeRotated_34 (by decide) rfl) (mpp 36 rfl ?_)
      refine mp_a (a_aload_n dX2_becomeRotated_36 rfl) (mpp 37 rfl ?_)
      refine mt_getE (i := 9) (k := 3) hT dX2_becomeRotated_37 rfl ha0 (by decide) rfl (by decide) rfl ((KW.xr hK hX).1 a0_ (Or.inr ha0)).1 (fun q23 => mpp 40 rfl ?_)
      refine mp_a (a_iload_n dX2_becomeRotated_40 rfl) (mpp 41 rfl ?_)
      refine mp_a (a_aload_n dX2_becomeRotated_41 rfl) (mpp 42 rfl ?_)
      refine mt_getE (i := 9) (k := 3) hT dX2_becomeRotated_42 rfl ha1 (by decide) rfl (by decide) rfl ((KW.xr hK hX).1 a1_ (Or.inl ha1)).1 (fun q24 => mpp 45 rfl ?_)
      refine mp_a (a_iload dX2_becomeRotated_45 rfl) (mpp 47 rfl ?_)
      refine mp_calls (i := 48) (q' := q_12) (As := [.ref (a1_ + 1), .int z20]) (rest := [.int v3, .ref (a0_ + 1)]) dX2_becomeRotated_47 rfl qm_12 (by decide) rfl (Nat.le_of_ble_eq_true rfl) rfl ⟨rfl, rfl⟩ ⟨Nat.le_of_ble_eq_true rfl, Nat.le_of_ble_eq_true rfl⟩ (EvP.mono (by decide) (c_F_at_sizes hT (KW.xr hK hX) q24)) (fun r25 P26 g27 => mpp 50 rfl ?_)
      obtain ⟨⟨x28, rfl, g29⟩, e30⟩ := g27
      have e30 := e30.symm
      subst e30
      have wx28 := ti_full x28
      replace g29 : (0 ≤ z20.toInt ∧ z20.toInt ≤ 7 ∧ x28.toInt = (fv P (a1_ + 1) z20.toInt.toNat).toInt) ∨ ((z20.toInt < 0 ∨ 8 ≤ z20.toInt) ∧ x28.toInt = 0) := g29
      try replace g29 : x28.toInt = (fv P (a1_ + 1) z20.toInt.toNat).toInt := (g29.resolve_right (by omega)).2.2
      show MEvP _ none q_34 50 [(4, .int z20), (0, .ref a0_), (1, .ref a1_), (2, .int t2), (3, .int v3)] [.int x28, .int v3, .ref (a0_ + 1)] _ _ _ _
      refine mp_calls (i := 29) (q' := q_22) (As := [.ref (a0_ + 1), .int v3, .int x28]) (rest := []) dX2_becomeRotated_50 rfl qm_22 (by decide) rfl (Nat.le_of_ble_eq_true rfl) rfl ⟨rfl, rfl⟩ ⟨Nat.le_of_ble_eq_true rfl, Nat.le_of_ble_eq_true rfl⟩ (EvP.mono (by decide) (c_F_put_sizes hT (KW.xr hK hX) q23)) (fun r31 P32 g33 => mpp 53 rfl ?_)
      obtain ⟨⟨rfl, g35⟩, hT36, k37, R38⟩ := g33
      have k39 : KW [256, 320] Po P32 := KW.trans hK k37 rfl
      show MEvP _ none q_34 53 [(4, .int z20), (0, .ref a0_), (1, .ref a1_), (2, .int t2), (3, .int v3)] [] _ _ _ _
      refine mp_a (a_aload_n dX2_becomeRotated_53 rfl) (mpp 54 rfl ?_)
      refine mt_getE (i := 15) (k := 4) hT36 dX2_becomeRotated_54 rfl ha0 (by decide) rfl (by decide) rfl ((KW.xr k39 hX).1 a0_ (Or.inr ha0)).2 (fun q41 => mpp 57 rfl ?_)
      refine mp_a (a_iload_n dX2_becomeRotated_57 rfl) (mpp 58 rfl ?_)
      refine mp_a (a_aload_n dX2_becomeRotated_58 rfl) (mpp 59 rfl ?_)
      refine mt_getE (i := 15) (k := 4) hT36 dX2_becomeRotated_59 rfl ha1 (by decide) rfl (by decide) rfl ((KW.xr k39 hX).1 a1_ (Or.inl ha1)).2 (fun q42 => mpp 62 rfl ?_)
      refine mp_a (a_iload dX2_becomeRotated_62 rfl) (mpp 64 rfl ?_)
      refine mp_calls (i := 48) (q' := q_12) (As := [.ref (a1_ + 2), .int z20]) (rest := [.int v3, .ref (a0_ + 2)]) dX2_becomeRotated_64 rfl qm_12 (by decide) rfl (Nat.le_of_ble_eq_true rfl) rfl ⟨rfl, rfl⟩ ⟨Nat.le_of_ble_eq_true rfl, Nat.le_of_ble_eq_true rfl⟩ (EvP.mono (by decide) (c_F_at_creases hT36 (KW.xr k39 hX) q42)) (fun r43 P44 g45 => mpp 67 rfl ?_)
      obtain ⟨⟨x46, rfl, g47⟩, e48⟩ := g45
      have e48 := e48.symm
      subst e48
      have wx46 := ti_full x46
      replace g47 : (0 ≤ z20.toInt ∧ z20.toInt ≤ 7 ∧ x46.toInt = (fv P32 (a1_ + 2) z20.toInt.toNat).toInt) ∨ ((z20.toInt < 0 ∨ 8 ≤ z20.toInt) ∧ x46.toInt = 0) := g47
      try replace g47 : x46.toInt = (fv P32 (a1_ + 2) z20.toInt.toNat).toInt := (g47.resolve_right (by omega)).2.2
      show MEvP _ none q_34 67 [(4, .int z20), (0, .ref a0_), (1, .ref a1_), (2, .int t2), (3, .int v3)] [.int x46, .int v3, .ref (a0_ + 2)] _ _ _ _
      refine mp_calls (i := 29) (q' := q_22) (As := [.ref (a0_ + 2), .int v3, .int x46]) (rest := []) dX2_becomeRotated_67 rfl qm_22 (by decide) rfl (Nat.le_of_ble_eq_true rfl) rfl ⟨rfl, rfl⟩ ⟨Nat.le_of_ble_eq_true rfl, Nat.le_of_ble_eq_true rfl⟩ (EvP.mono (by decide) (c_F_put_creases hT36 (KW.xr k39 hX) q41)) (fun r49 P50 g51 => mpp 70 rfl ?_)
      obtain ⟨⟨rfl, g53⟩, hT54, k55, R56⟩ := g51
      have k57 : KW [256, 320] Po P50 := KW.trans k39 k55 rfl
      show MEvP _ none q_34 70 [(4, .int z20), (0, .ref a0_), (1, .ref a1_), (2, .int t2), (3, .int v3)] [] _ _ _ _
      obtain ⟨z59, h60⟩ := ti_ex (v3 + 1 : Int32)
      have wz59 := ti_full z59
      refine mp_a (a_iinc (v := z59) (L' := [(3, .int z59), (4, .int z20), (0, .ref a0_), (1, .ref a1_), (2, .int t2)]) dX2_becomeRotated_70 (by decide) rfl h60 rfl) (mpp 73 rfl ?_)
      try have e61 : z59.toInt = v3.toInt + 1 := ti_addz h60 rfl rfl (by omega) (by omega)
      refine mp_a (a_goto (t := 2) dX2_becomeRotated_73 (by decide)) ?_
      refine MEvP.less (L := [(0, .ref a0_), (1, .ref a1_), (2, .int t2), (3, .int z59)]) rfl rfl ⟨rfl, rfl, rfl, rfl, trivial⟩ ?_
      have i62 : ROW Po P50 (a0_ + 1) (fun j : Nat => fv Po (a1_ + 1) (if t2.toInt.toNat + j < (fv Po a0_ 1).toInt.toNat then t2.toInt.toNat + j else t2.toInt.toNat + j - (fv Po a0_ 1).toInt.toNat)) z59.toInt.toNat := ROW.step (n := v3.toInt.toNat) (v := x28.toInt) i_0 (by omega) rfl (by rw [R56.2.1 (a0_ + 1) v3.toInt.toNat (by omega)]; exact R38.1.resolve_left (by omega)) (by show _ = (fv Po (a1_ + 1) (if t2.toInt.toNat + v3.toInt.toNat < (fv Po a0_ 1).toInt.toNat then t2.toInt.toNat + v3.toInt.toNat else t2.toInt.toNat + v3.toInt.toNat - (fv Po a0_ 1).toInt.toNat)).toInt; have h0 : fv P (a1_ + 1) z20.toInt.toNat = fv Po (a1_ + 1) z20.toInt.toNat := (by rw [i_2 (a1_ + 1) z20.toInt.toNat (by omega)]); have h1 := congrArg Int32.toInt h0; first | rw [if_pos (by omega), show t2.toInt.toNat + v3.toInt.toNat = z20.toInt.toNat from by omega]; omega | rw [if_neg (by omega), show t2.toInt.toNat + v3.toInt.toNat - (fv Po a0_ 1).toInt.toNat = z20.toInt.toNat from by omega]; omega) (fun j hj => by rw [R56.2.1 (a0_ + 1) j (by omega), R38.2.1 (a0_ + 1) j (fun e => hj e.2)])
      have i63 : ROW Po P50 (a0_ + 2) (fun j : Nat => fv Po (a1_ + 2) (if t2.toInt.toNat + j < (fv Po a0_ 1).toInt.toNat then t2.toInt.toNat + j else t2.toInt.toNat + j - (fv Po a0_ 1).toInt.toNat)) z59.toInt.toNat := ROW.step (n := v3.toInt.toNat) (v := x46.toInt) i_1 (by omega) rfl (R56.1.resolve_left (by omega)) (by show _ = (fv Po (a1_ + 2) (if t2.toInt.toNat + v3.toInt.toNat < (fv Po a0_ 1).toInt.toNat then t2.toInt.toNat + v3.toInt.toNat else t2.toInt.toNat + v3.toInt.toNat - (fv Po a0_ 1).toInt.toNat)).toInt; have h0 : fv P32 (a1_ + 2) z20.toInt.toNat = fv Po (a1_ + 2) z20.toInt.toNat := (by rw [R38.2.1 (a1_ + 2) z20.toInt.toNat (by omega), i_2 (a1_ + 2) z20.toInt.toNat (by omega)]); have h1 := congrArg Int32.toInt h0; first | rw [if_pos (by omega), show t2.toInt.toNat + v3.toInt.toNat = z20.toInt.toNat from by omega]; omega | rw [if_neg (by omega), show t2.toInt.toNat + v3.toInt.toNat - (fv Po a0_ 1).toInt.toNat = z20.toInt.toNat from by omega]; omega) (fun j hj => by rw [R56.2.1 (a0_ + 2) j (fun e => hj e.2), R38.2.1 (a0_ + 2) j (by omega)])
      have i64 : KI (a0_ + 1) (a0_ + 3) Po P50 := fun x j hx => by rw [R56.2.1 x j (by omega), R38.2.1 x j (by omega), i_2 x j (by omega)]
      have e65 : (fv P50 a0_ 1).toInt = (fv P a0_ 1).toInt := congrArg Int32.toInt ((KW.at k55 1 ha0 rfl).trans (KW.at k37 1 ha0 rfl))
      have i66 : (fv P50 a0_ 1).toInt = (fv Po a0_ 1).toInt := by omega
      have i67 : z59.toInt ≤ (fv Po a0_ 1).toInt := by omega
      have i68 : 0 ≤ z59.toInt := by omega
      exact ih _ (by omega) _ P50 hT54 k57 i62 i63 i64 i66 i67 i68 rfl
    · have c14 : z9.toInt < (fv P a0_ 1).toInt := ti_ge_n c14
      refine mp_a (a_iload_n dX2_becomeRotated_20 rfl) (mpp 21 rfl ?_)
      refine mp_a (a_iload_n dX2_becomeRotated_21 rfl) (mpp 22 rfl ?_)
      obtain ⟨z69, h70⟩ := ti_ex (t2 + v3 : Int32)
      have wz69 := ti_full z69
      refine mp_t (s_iadd (v := z69) dX2_becomeRotated_22 h70) (mpp 23 rfl ?_)
      try have e71 : z69.toInt = t2.toInt + v3.toInt := ti_addz h70 rfl rfl (by omega) (by omega)
      refine mp_a (a_goto (t := 34) dX2_becomeRotated_23 (by decide)) ?_
      refine mp_a (a_istore (L' := [(4, .int z69), (0, .ref a0_), (1, .ref a1_), (2, .int t2), (3, .int v3)]) dX2_becomeRotated_34 (by decide) rfl) (mpp 36 rfl ?_)
      refine mp_a (a_aload_n dX2_becomeRotated_36 rfl) (mpp 37 rfl ?_)
      refine mt_getE (i := 9) (k := 3) hT dX2_becomeRotated_37 rfl ha0 (by decide) rfl (by decide) rfl ((KW.xr hK hX).1 a0_ (Or.inr ha0)).1 (fun q72 => mpp 40 rfl ?_)
      refine mp_a (a_iload_n dX2_becomeRotated_40 rfl) (mpp 41 rfl ?_)
      refine mp_a (a_aload_n dX2_becomeRotated_41 rfl) (mpp 42 rfl ?_)
      refine mt_getE (i := 9) (k := 3) hT dX2_becomeRotated_42 rfl ha1 (by decide) rfl (by decide) rfl ((KW.xr hK hX).1 a1_ (Or.inl ha1)).1 (fun q73 => mpp 45 rfl ?_)
      refine mp_a (a_iload dX2_becomeRotated_45 rfl) (mpp 47 rfl ?_)
      refine mp_calls (i := 48) (q' := q_12) (As := [.ref (a1_ + 1), .int z69]) (rest := [.int v3, .ref (a0_ + 1)]) dX2_becomeRotated_47 rfl qm_12 (by decide) rfl (Nat.le_of_ble_eq_true rfl) rfl ⟨rfl, rfl⟩ ⟨Nat.le_of_ble_eq_true rfl, Nat.le_of_ble_eq_true rfl⟩ (EvP.mono (by decide) (c_F_at_sizes hT (KW.xr hK hX) q73)) (fun r74 P75 g76 => mpp 50 rfl ?_)
      obtain ⟨⟨x77, rfl, g78⟩, e79⟩ := g76
      have e79 := e79.symm
      subst e79
      have wx77 := ti_full x77
      replace g78 : (0 ≤ z69.toInt ∧ z69.toInt ≤ 7 ∧ x77.toInt = (fv P (a1_ + 1) z69.toInt.toNat).toInt) ∨ ((z69.toInt < 0 ∨ 8 ≤ z69.toInt) ∧ x77.toInt = 0) := g78
      try replace g78 : x77.toInt = (fv P (a1_ + 1) z69.toInt.toNat).toInt := (g78.resolve_right (by omega)).2.2
      show MEvP _ none q_34 50 [(4, .int z69), (0, .ref a0_), (1, .ref a1_), (2, .int t2), (3, .int v3)] [.int x77, .int v3, .ref (a0_ + 1)] _ _ _ _
      refine mp_calls (i := 29) (q' := q_22) (As := [.ref (a0_ + 1), .int v3, .int x77]) (rest := []) dX2_becomeRotated_50 rfl qm_22 (by decide) rfl (Nat.le_of_ble_eq_true rfl) rfl ⟨rfl, rfl⟩ ⟨Nat.le_of_ble_eq_true rfl, Nat.le_of_ble_eq_true rfl⟩ (EvP.mono (by decide) (c_F_put_sizes hT (KW.xr hK hX) q72)) (fun r80 P81 g82 => mpp 53 rfl ?_)
      obtain ⟨⟨rfl, g84⟩, hT85, k86, R87⟩ := g82
      have k88 : KW [256, 320] Po P81 := KW.trans hK k86 rfl
      show MEvP _ none q_34 53 [(4, .int z69), (0, .ref a0_), (1, .ref a1_), (2, .int t2), (3, .int v3)] [] _ _ _ _
      refine mp_a (a_aload_n dX2_becomeRotated_53 rfl) (mpp 54 rfl ?_)
      refine mt_getE (i := 15) (k := 4) hT85 dX2_becomeRotated_54 rfl ha0 (by decide) rfl (by decide) rfl ((KW.xr k88 hX).1 a0_ (Or.inr ha0)).2 (fun q90 => mpp 57 rfl ?_)
      refine mp_a (a_iload_n dX2_becomeRotated_57 rfl) (mpp 58 rfl ?_)
      refine mp_a (a_aload_n dX2_becomeRotated_58 rfl) (mpp 59 rfl ?_)
      refine mt_getE (i := 15) (k := 4) hT85 dX2_becomeRotated_59 rfl ha1 (by decide) rfl (by decide) rfl ((KW.xr k88 hX).1 a1_ (Or.inl ha1)).2 (fun q91 => mpp 62 rfl ?_)
      refine mp_a (a_iload dX2_becomeRotated_62 rfl) (mpp 64 rfl ?_)
      refine mp_calls (i := 48) (q' := q_12) (As := [.ref (a1_ + 2), .int z69]) (rest := [.int v3, .ref (a0_ + 2)]) dX2_becomeRotated_64 rfl qm_12 (by decide) rfl (Nat.le_of_ble_eq_true rfl) rfl ⟨rfl, rfl⟩ ⟨Nat.le_of_ble_eq_true rfl, Nat.le_of_ble_eq_true rfl⟩ (EvP.mono (by decide) (c_F_at_creases hT85 (KW.xr k88 hX) q91)) (fun r92 P93 g94 => mpp 67 rfl ?_)
      obtain ⟨⟨x95, rfl, g96⟩, e97⟩ := g94
      have e97 := e97.symm
      subst e97
      have wx95 := ti_full x95
      replace g96 : (0 ≤ z69.toInt ∧ z69.toInt ≤ 7 ∧ x95.toInt = (fv P81 (a1_ + 2) z69.toInt.toNat).toInt) ∨ ((z69.toInt < 0 ∨ 8 ≤ z69.toInt) ∧ x95.toInt = 0) := g96
      try replace g96 : x95.toInt = (fv P81 (a1_ + 2) z69.toInt.toNat).toInt := (g96.resolve_right (by omega)).2.2
      show MEvP _ none q_34 67 [(4, .int z69), (0, .ref a0_), (1, .ref a1_), (2, .int t2), (3, .int v3)] [.int x95, .int v3, .ref (a0_ + 2)] _ _ _ _
      refine mp_calls (i := 29) (q' := q_22) (As := [.ref (a0_ + 2), .int v3, .int x95]) (rest := []) dX2_becomeRotated_67 rfl qm_22 (by decide) rfl (Nat.le_of_ble_eq_true rfl) rfl ⟨rfl, rfl⟩ ⟨Nat.le_of_ble_eq_true rfl, Nat.le_of_ble_eq_true rfl⟩ (EvP.mono (by decide) (c_F_put_creases hT85 (KW.xr k88 hX) q90)) (fun r98 P99 g100 => mpp 70 rfl ?_)
      obtain ⟨⟨rfl, g102⟩, hT103, k104, R105⟩ := g100
      have k106 : KW [256, 320] Po P99 := KW.trans k88 k104 rfl
      show MEvP _ none q_34 70 [(4, .int z69), (0, .ref a0_), (1, .ref a1_), (2, .int t2), (3, .int v3)] [] _ _ _ _
      obtain ⟨z108, h109⟩ := ti_ex (v3 + 1 : Int32)
      have wz108 := ti_full z108
      refine mp_a (a_iinc (v := z108) (L' := [(3, .int z108), (4, .int z69), (0, .ref a0_), (1, .ref a1_), (2, .int t2)]) dX2_becomeRotated_70 (by decide) rfl h109 rfl) (mpp 73 rfl ?_)
      try have e110 : z108.toInt = v3.toInt + 1 := ti_addz h109 rfl rfl (by omega) (by omega)
      refine mp_a (a_goto (t := 2) dX2_becomeRotated_73 (by decide)) ?_
      refine MEvP.less (L := [(0, .ref a0_), (1, .ref a1_), (2, .int t2), (3, .int z108)]) rfl rfl ⟨rfl, rfl, rfl, rfl, trivial⟩ ?_
      have i111 : ROW Po P99 (a0_ + 1) (fun j : Nat => fv Po (a1_ + 1) (if t2.toInt.toNat + j < (fv Po a0_ 1).toInt.toNat then t2.toInt.toNat + j else t2.toInt.toNat + j - (fv Po a0_ 1).toInt.toNat)) z108.toInt.toNat := ROW.step (n := v3.toInt.toNat) (v := x77.toInt) i_0 (by omega) rfl (by rw [R105.2.1 (a0_ + 1) v3.toInt.toNat (by omega)]; exact R87.1.resolve_left (by omega)) (by show _ = (fv Po (a1_ + 1) (if t2.toInt.toNat + v3.toInt.toNat < (fv Po a0_ 1).toInt.toNat then t2.toInt.toNat + v3.toInt.toNat else t2.toInt.toNat + v3.toInt.toNat - (fv Po a0_ 1).toInt.toNat)).toInt; have h0 : fv P (a1_ + 1) z69.toInt.toNat = fv Po (a1_ + 1) z69.toInt.toNat := (by rw [i_2 (a1_ + 1) z69.toInt.toNat (by omega)]); have h1 := congrArg Int32.toInt h0; first | rw [if_pos (by omega), show t2.toInt.toNat + v3.toInt.toNat = z69.toInt.toNat from by omega]; omega | rw [if_neg (by omega), show t2.toInt.toNat + v3.toInt.toNat - (fv Po a0_ 1).toInt.toNat = z69.toInt.toNat from by omega]; omega) (fun j hj => by rw [R105.2.1 (a0_ + 1) j (by omega), R87.2.1 (a0_ + 1) j (fun e => hj e.2)])
      have i112 : ROW Po P99 (a0_ + 2) (fun j : Nat => fv Po (a1_ + 2) (if t2.toInt.toNat + j < (fv Po a0_ 1).toInt.toNat then t2.toInt.toNat + j else t2.toInt.toNat + j - (fv Po a0_ 1).toInt.toNat)) z108.toInt.toNat := ROW.step (n := v3.toInt.toNat) (v := x95.toInt) i_1 (by omega) rfl (R105.1.resolve_left (by omega)) (by show _ = (fv Po (a1_ + 2) (if t2.toInt.toNat + v3.toInt.toNat < (fv Po a0_ 1).toInt.toNat then t2.toInt.toNat + v3.toInt.toNat else t2.toInt.toNat + v3.toInt.toNat - (fv Po a0_ 1).toInt.toNat)).toInt; have h0 : fv P81 (a1_ + 2) z69.toInt.toNat = fv Po (a1_ + 2) z69.toInt.toNat := (by rw [R87.2.1 (a1_ + 2) z69.toInt.toNat (by omega), i_2 (a1_ + 2) z69.toInt.toNat (by omega)]); have h1 := congrArg Int32.toInt h0; first | rw [if_pos (by omega), show t2.toInt.toNat + v3.toInt.toNat = z69.toInt.toNat from by omega]; omega | rw [if_neg (by omega), show t2.toInt.toNat + v3.toInt.toNat - (fv Po a0_ 1).toInt.toNat = z69.toInt.toNat from by omega]; omega) (fun j hj => by rw [R105.2.1 (a0_ + 2) j (fun e => hj e.2), R87.2.1 (a0_ + 2) j (by omega)])
      have i113 : KI (a0_ + 1) (a0_ + 3) Po P99 := fun x j hx => by rw [R105.2.1 x j (by omega), R87.2.1 x j (by omega), i_2 x j (by omega)]
      have e114 : (fv P99 a0_ 1).toInt = (fv P a0_ 1).toInt := congrArg Int32.toInt ((KW.at k104 1 ha0 rfl).trans (KW.at k86 1 ha0 rfl))
      have i115 : (fv P99 a0_ 1).toInt = (fv Po a0_ 1).toInt := by omega
      have i116 : z108.toInt ≤ (fv Po a0_ 1).toInt := by omega
      have i117 : 0 ≤ z108.toInt := by omega
      exact ih _ (by omega) _ P99 hT103 k106 i111 i112 i113 i115 i116 i117 rfl

set_option maxHeartbeats 4000000 in
theorem c_CP_becomeRotated_NPiece_Piece {Po : mP} {a0_ : Nat} {a1_ : Nat} {t2 : Int32} (hT : Typ Po) (hX : XR Po)  (hp0 : 0 ≤ t2.toInt) (hp1 : t2.toInt < (fv Po a0_ 1).toInt) (hp2 : a0_ + 3 ≤ a1_ ∨ a1_ + 3 ≤ a0_) (ha0 : rl a0_ = 33) (ha1 : rl a1_ = 3) : EvP 2 34 [.ref a0_, .ref a1_, .int t2] Po (fun r P' => (r = none ∧ (True)) ∧ Typ P' ∧ KW [256, 320] Po P' ∧ (ROW Po P' (a0_ + 1) (fun j : Nat => fv Po (a1_ + 1) (if t2.toInt.toNat + j < (fv Po a0_ 1).toInt.toNat then t2.toInt.toNat + j else t2.toInt.toNat + j - (fv Po a0_ 1).toInt.toNat)) (fv Po a0_ 1).toInt.toNat) ∧ (ROW Po P' (a0_ + 2) (fun j : Nat => fv Po (a1_ + 2) (if t2.toInt.toNat + j < (fv Po a0_ 1).toInt.toNat then t2.toInt.toNat + j else t2.toInt.toNat + j - (fv Po a0_ 1).toInt.toNat)) (fv Po a0_ 1).toInt.toNat) ∧ KI (a0_ + 1) (a0_ + 3) Po P') := by
  refine EvP.of qm_34 (Nat.le_of_ble_eq_true rfl) rfl ?_
  show MEvP _ none q_34 0 [(0, .ref a0_), (1, .ref a1_), (2, .int t2)] [] _ 0 0 _
  have w1 := np_ar ha0
  have w2 := pc_ar ha1
  have w_t2 := ti_full t2
  have g3 : (0 : Int) ≤ (fv Po a0_ 1).toInt ∧ (fv Po a0_ 1).toInt ≤ 8 := Typ.rng hT ha0 (by decide) (by decide) rfl
  refine mp_a (a_iconst (v := 0) dX2_becomeRotated_0 rfl) (mpp 1 rfl ?_)
  refine mp_a (a_istore_n (L' := [(3, .int 0), (0, .ref a0_), (1, .ref a1_), (2, .int t2)]) dX2_becomeRotated_1 (by decide) rfl) (mpp 2 rfl ?_)
  refine MEvP.less (L := [(0, .ref a0_), (1, .ref a1_), (2, .int t2), (3, .int 0)]) rfl rfl ⟨rfl, rfl, rfl, rfl, trivial⟩ ?_
  have i4 : ROW Po Po (a0_ + 1) (fun j : Nat => fv Po (a1_ + 1) (if t2.toInt.toNat + j < (fv Po a0_ 1).toInt.toNat then t2.toInt.toNat + j else t2.toInt.toNat + j - (fv Po a0_ 1).toInt.toNat)) (0 : Int).toNat := ROW.start rfl (fun _ => rfl)
  have i5 : ROW Po Po (a0_ + 2) (fun j : Nat => fv Po (a1_ + 2) (if t2.toInt.toNat + j < (fv Po a0_ 1).toInt.toNat then t2.toInt.toNat + j else t2.toInt.toNat + j - (fv Po a0_ 1).toInt.toNat)) (0 : Int).toNat := ROW.start rfl (fun _ => rfl)
  have i6 : KI (a0_ + 1) (a0_ + 3) Po Po := KI.refl
  have i7 : (fv Po a0_ 1).toInt = (fv Po a0_ 1).toInt := by omega
  have i8 : (0 : Int) ≤ (fv Po a0_ 1).toInt := by omega
  have i9 : 0 ≤ (0 : Int) := by omega
  exact c_CP_becomeRotated_NPiece_Piece_l2 hT hX  hp0 hp1 hp2 ha0 ha1 _ _ Po hT KW.refl i4 i5 i6 i7 i8 i9 rfl

set_option maxHeartbeats 4000000 in
theorem c_CP_sizesAsNumber_NPiece_l4 {Po : mP} {a0_ : Nat} (hT : Typ Po) (hX : XR Po)  (ha0 : rl a0_ = 33) : ∀ (n : Nat) (v1 : Int32) (v2 : Int32), (v1 = nmF (fun j : Nat => fv Po (a0_ + 1) j) v2.toInt.toNat) → (v2.toInt ≤ (fv Po a0_ 1).toInt) → (0 ≤ v2.toInt) → (2147483647 - v2.toInt).toNat = n → MEvP 1 none q_35 4 [(0, .ref a0_), (1, .int v1), (2, .int v2)] [] Po 0 0 (fun r P' => (∃ x : Int32, r = some (.int x) ∧ (x.toInt = (nmF (fun j : Nat => fv Po (a0_ + 1) j) (fv Po a0_ 1).toInt.toNat).toInt)) ∧ P' = Po) := by
  intro n
  induction n using Nat.strongRecOn with | _ n ih => ?_
  intro v1 v2 i_0 i_1 i_2 hm
  have w1 := np_ar ha0
  have w_v1 := ti_full v1
  have w_v2 := ti_full v2
  have g2 : (0 : Int) ≤ (fv Po a0_ 1).toInt ∧ (fv Po a0_ 1).toInt ≤ 8 := Typ.rng hT ha0 (by decide) (by decide) rfl
  refine mp_a (a_iload_n dX2_sizesAsNumber_4 rfl) (mpp 5 rfl ?_)
  refine mp_a (a_aload_n dX2_sizesAsNumber_5 rfl) (mpp 6 rfl ?_)
  refine mt_getI (i := 26) (k := 1) hT dX2_sizesAsNumber_6 rfl ha0 (by decide) rfl (by decide) rfl (fun g3 g4 => mpp 9 rfl ?_)
  refine mp_Tb (t := 32) (j_icmp_ge dX2_sizesAsNumber_9) (by decide) (fun c5 => ?_) (fun c5 => mpp 12 rfl ?_)
  · have c5 : v2.toInt ≥ (fv Po a0_ 1).toInt := ti_ge c5
    refine mp_a (a_iload_n dX2_sizesAsNumber_32 rfl) (mpp 33 rfl ?_)
    have u6 : v1.toInt = (nmF (fun j : Nat => fv Po (a0_ + 1) j) (fv Po a0_ 1).toInt.toNat).toInt := congrArg Int32.toInt (i_0.trans (congrArg (nmF _) (by omega)))
    exact mp_iret ⟨⟨_, rfl, u6⟩, rfl⟩ dX2_sizesAsNumber_33 (Or.inl rfl)
  · have c5 : v2.toInt < (fv Po a0_ 1).toInt := ti_ge_n c5
    refine mp_a (a_iload_n dX2_sizesAsNumber_12 rfl) (mpp 13 rfl ?_)
    refine mp_a (a_bipush (v := 10) dX2_sizesAsNumber_13 rfl) (mpp 15 rfl ?_)
    obtain ⟨z7, h8⟩ := ti_ex (v1 * 10 : Int32)
    have wz7 := ti_full z7
    refine mp_t (s_imul (v := z7) dX2_sizesAsNumber_15 h8) (mpp 16 rfl ?_)
    try have e9 : z7.toInt = v1.toInt * 10 := ti_mulz h8 rfl rfl (by omega) (by omega)
    refine mp_a (a_aload_n dX2_sizesAsNumber_16 rfl) (mpp 17 rfl ?_)
    refine mt_getE (i := 9) (k := 3) hT dX2_sizesAsNumber_17 rfl ha0 (by decide) rfl (by decide) rfl (hX.1 a0_ (Or.inr ha0)).1 (fun q10 => mpp 20 rfl ?_)
    refine mp_a (a_iload_n dX2_sizesAsNumber_20 rfl) (mpp 21 rfl ?_)
    refine mp_calls (i := 48) (q' := q_12) (As := [.ref (a0_ + 1), .int v2]) (rest := [.int z7]) dX2_sizesAsNumber_21 rfl qm_12 (by decide) rfl (Nat.le_of_ble_eq_true rfl) rfl ⟨rfl, rfl⟩ ⟨Nat.le_of_ble_eq_true rfl, Nat.le_of_ble_eq_true rfl⟩ (EvP.mono (by decide) (c_F_at_sizes hT hX q10)) (fun r11 P12 g13 => mpp 24 rfl ?_)
    obtain ⟨⟨x14, rfl, g15⟩, e16⟩ := g13
    have e16 := e16.symm
    subst e16
    have wx14 := ti_full x14
    replace g15 : (0 ≤ v2.toInt ∧ v2.toInt ≤ 7 ∧ x14.toInt = (fv Po (a0_ + 1) v2.toInt.toNat).toInt) ∨ ((v2.toInt < 0 ∨ 8 ≤ v2.toInt) ∧ x14.toInt = 0) := g15
    try replace g15 : x14.toInt = (fv Po (a0_ + 1) v2.toInt.toNat).toInt := (g15.resolve_right (by omega)).2.2
    show MEvP _ none q_35 24 [(0, .ref a0_), (1, .int v1), (2, .int v2)] [.int x14, .int z7] _ _ _ _
    obtain ⟨z17, h18⟩ := ti_ex (z7 + x14 : Int32)
    have wz17 := ti_full z17
    refine mp_t (s_iadd (v := z17) dX2_sizesAsNumber_24 h18) (mpp 25 rfl ?_)
    try have e19 : z17.toInt = z7.toInt + x14.toInt := ti_addz h18 rfl rfl (by omega) (by omega)
    refine mp_a (a_istore_n (L' := [(1, .int z17), (0, .ref a0_), (2, .int v2)]) dX2_sizesAsNumber_25 (by decide) rfl) (mpp 26 rfl ?_)
    obtain ⟨z20, h21⟩ := ti_ex (v2 + 1 : Int32)
    have wz20 := ti_full z20
    refine mp_a (a_iinc (v := z20) (L' := [(2, .int z20), (1, .int z17), (0, .ref a0_)]) dX2_sizesAsNumber_26 (by decide) rfl h21 rfl) (mpp 29 rfl ?_)
    try have e22 : z20.toInt = v2.toInt + 1 := ti_addz h21 rfl rfl (by omega) (by omega)
    refine mp_a (a_goto (t := 4) dX2_sizesAsNumber_29 (by decide)) ?_
    refine MEvP.less (L := [(0, .ref a0_), (1, .int z17), (2, .int z20)]) rfl rfl ⟨rfl, rfl, rfl, trivial⟩ ?_
    have i23 : z17 = nmF (fun j : Nat => fv Po (a0_ + 1) j) z20.toInt.toNat := nmF.step i_0 (by omega) (by show _ = (fv Po (a0_ + 1) v2.toInt.toNat).toInt; omega) h8 h18
    have i24 : z20.toInt ≤ (fv Po a0_ 1).toInt := by omega
    have i25 : 0 ≤ z20.toInt := by omega
    exact ih _ (by omega) _ _ i23 i24 i25 rfl

set_option maxHeartbeats 4000000 in
theorem c_CP_sizesAsNumber_NPiece {Po : mP} {a0_ : Nat} (hT : Typ Po) (hX : XR Po)  (ha0 : rl a0_ = 33) : EvP 2 35 [.ref a0_] Po (fun r P' => (∃ x : Int32, r = some (.int x) ∧ (x.toInt = (nmF (fun j : Nat => fv Po (a0_ + 1) j) (fv Po a0_ 1).toInt.toNat).toInt)) ∧ P' = Po) := by
  refine EvP.of qm_35 (Nat.le_of_ble_eq_true rfl) rfl ?_
  show MEvP _ none q_35 0 [(0, .ref a0_)] [] _ 0 0 _
  have w1 := np_ar ha0
  have g2 : (0 : Int) ≤ (fv Po a0_ 1).toInt ∧ (fv Po a0_ 1).toInt ≤ 8 := Typ.rng hT ha0 (by decide) (by decide) rfl
  refine mp_a (a_iconst (v := 0) dX2_sizesAsNumber_0 rfl) (mpp 1 rfl ?_)
  refine mp_a (a_istore_n (L' := [(1, .int 0), (0, .ref a0_)]) dX2_sizesAsNumber_1 (by decide) rfl) (mpp 2 rfl ?_)
  refine mp_a (a_iconst (v := 0) dX2_sizesAsNumber_2 rfl) (mpp 3 rfl ?_)
  refine mp_a (a_istore_n (L' := [(2, .int 0), (1, .int 0), (0, .ref a0_)]) dX2_sizesAsNumber_3 (by decide) rfl) (mpp 4 rfl ?_)
  refine MEvP.less (L := [(0, .ref a0_), (1, .int 0), (2, .int 0)]) rfl rfl ⟨rfl, rfl, rfl, trivial⟩ ?_
  have i3 : 0 = nmF (fun j : Nat => fv Po (a0_ + 1) j) (0 : Int).toNat := rfl
  have i4 : (0 : Int) ≤ (fv Po a0_ 1).toInt := by omega
  have i5 : 0 ≤ (0 : Int) := by omega
  exact c_CP_sizesAsNumber_NPiece_l4 hT hX  ha0 _ _ _ i3 i4 i5 rfl

set_option maxHeartbeats 4000000 in
theorem c_F_rotate {Po : mP} {t1 : Int32} {t2 : Int32} (hT : Typ Po) (hX : XR Po)  (hJ : Inj Po)  : EvP 5 33 [.ref 0, .int t1, .int t2] Po (fun r P' => (∃ x : Int32, r = some (.int x) ∧ (KPX Po P' ∧ rotateC Po P' x.toInt t1.toInt t2.toInt)) ∧ Typ P' ∧ KW [10, 11, 12, 65, 66, 67, 192, 193, 194, 256, 320, 385, 386] Po P' ∧ Inj P' ∧ True) := by
  refine EvP.of qm_33 (Nat.le_of_ble_eq_true rfl) rfl ?_
  show MEvP _ none q_33 0 [(0, .ref 0), (1, .int t1), (2, .int t2)] [] _ 0 0 _
  have w_t1 := ti_full t1
  have w_t2 := ti_full t2
  refine mp_a (a_aload_n dX6_rotate_0 rfl) (mpp 1 rfl ?_)
  refine mt_getU (i := 10) (k := 0) (A := 1) hT dX6_rotate_1 rfl rl_0 (by decide) rfl (by decide) rfl un_31 (mpp 4 rfl ?_)
  refine mp_a (a_iload_n dX6_rotate_4 rfl) (mpp 5 rfl ?_)
  refine mt_callv (i := 94) (q' := q_9) (As := [.int t1]) (rest := []) hT dX6_rotate_5 rfl qm_9 (by decide) rfl rl_1 (by decide) rfl (Nat.le_of_ble_eq_true rfl) rfl ⟨rfl, rfl⟩ ⟨Nat.le_of_ble_eq_true rfl, Nat.le_of_ble_eq_true rfl⟩ (EvP.mono (by decide) (c_CS_pieceAt_NState hT hX )) (fun r1 P2 g3 => mpp 8 rfl ?_)
  obtain ⟨g3, e4⟩ := g3
  have e4 := e4.symm
  subst e4
  rcases g3 with ⟨rfl, q6n⟩ | ⟨b5, rfl, q6, q6r⟩
  · show MEvP _ none q_33 8 [(0, .ref 0), (1, .int t1), (2, .int t2)] [.null] _ _ _ _
    replace q6n : t1.toInt < 0 ∨ (fv Po 1 1).toInt ≤ t1.toInt ∨ 8 ≤ t1.toInt := q6n
    have g7 : (0 : Int) ≤ (fv Po 1 1).toInt ∧ (fv Po 1 1).toInt ≤ 8 := Typ.rng hT rl_1 (by decide) (by decide) rfl
    refine mp_a (a_astore_nN (L' := [(3, .null), (0, .ref 0), (1, .int t1), (2, .int t2)]) dX6_rotate_8 (by decide) rfl) (mpp 9 rfl ?_)
    refine mp_a (a_aload_nN dX6_rotate_9 rfl) (mpp 10 rfl ?_)
    refine mp_t (s_ifnullN (t := 21) dX6_rotate_10 (by decide)) ?_
    refine mp_a (a_sipush (v := -1001) dX6_rotate_21 rfl) (mpp 24 rfl ?_)
    have u8 : KPX Po Po ∧ rotateC Po Po (-1001 : Int) t1.toInt t2.toInt := ⟨⟨rfl, fun x j hx => rfl⟩, (show ((-1001 : Int) = -1001 ∧ ((t1.toInt < 0 ∨ (fv Po 1 1).toInt ≤ t1.toInt ∨ 8 ≤ t1.toInt) ∨ ((0 ≤ t1.toInt ∧ t1.toInt + 1 ≤ (fv Po 1 1).toInt ∧ t1.toInt ≤ 7) ∧ (t2.toInt < 0 ∨ ((fv Po (rv Po 2 t1.toInt.toNat) 0).toInt = 0 ∧ (fv Po (rv Po 2 t1.toInt.toNat) 1).toInt - 1 ≤ t2.toInt) ∨ ((fv Po (rv Po 2 t1.toInt.toNat) 0).toInt ≠ 0 ∧ (fv Po (rv Po 2 t1.toInt.toNat) 1).toInt ≤ t2.toInt)))) ∧ NCH Po Po) ∨ ((-1001 : Int) = -1003 ∧ (0 ≤ t1.toInt ∧ t1.toInt + 1 ≤ (fv Po 1 1).toInt ∧ t1.toInt ≤ 7) ∧ (0 ≤ t2.toInt ∧ (((fv Po (rv Po 2 t1.toInt.toNat) 0).toInt = 0 ∧ t2.toInt < (fv Po (rv Po 2 t1.toInt.toNat) 1).toInt - 1) ∨ ((fv Po (rv Po 2 t1.toInt.toNat) 0).toInt ≠ 0 ∧ t2.toInt < (fv Po (rv Po 2 t1.toInt.toNat) 1).toInt))) ∧ ((fv Po (rv Po 2 t1.toInt.toNat) 2).toInt = 1 ∨ ¬ (fv Po (rv Po 2 t1.toInt.toNat) 0).toInt = 1) ∧ NCH Po Po) ∨ ((0 ≤ t1.toInt ∧ t1.toInt + 1 ≤ (fv Po 1 1).toInt ∧ t1.toInt ≤ 7) ∧ (0 ≤ t2.toInt ∧ (((fv Po (rv Po 2 t1.toInt.toNat) 0).toInt = 0 ∧ t2.toInt < (fv Po (rv Po 2 t1.toInt.toNat) 1).toInt - 1) ∨ ((fv Po (rv Po 2 t1.toInt.toNat) 0).toInt ≠ 0 ∧ t2.toInt < (fv Po (rv Po 2 t1.toInt.toNat) 1).toInt))) ∧ (fv Po (rv Po 2 t1.toInt.toNat) 2).toInt = 0 ∧ (fv Po (rv Po 2 t1.toInt.toNat) 0).toInt = 1 ∧ (-1001 : Int) = (nmF (fun j : Nat => fv Po ((rv Po 2 t1.toInt.toNat) + 1) j) (fv Po (rv Po 2 t1.toInt.toNat) 1).toInt.toNat).toInt ∧ PSH Po Po ∧ ROW Po Po ((rv Po 2 t1.toInt.toNat) + 1) (fun j : Nat => fv Po ((rv Po 2 t1.toInt.toNat) + 1) (if t2.toInt.toNat + j < (fv Po (rv Po 2 t1.toInt.toNat) 1).toInt.toNat then t2.toInt.toNat + j else t2.toInt.toNat + j - (fv Po (rv Po 2 t1.toInt.toNat) 1).toInt.toNat)) (fv Po (rv Po 2 t1.toInt.toNat) 1).toInt.toNat ∧ ROW Po Po ((rv Po 2 t1.toInt.toNat) + 2) (fun j : Nat => fv Po ((rv Po 2 t1.toInt.toNat) + 2) (if t2.toInt.toNat + j < (fv Po (rv Po 2 t1.toInt.toNat) 1).toInt.toNat then t2.toInt.toNat + j else t2.toInt.toNat + j - (fv Po (rv Po 2 t1.toInt.toNat) 1).toInt.toNat)) (fv Po (rv Po 2 t1.toInt.toNat) 1).toInt.toNat ∧ (∀ x j : Nat, 1 ≤ x → x < 27 → ¬ x = (rv Po 2 t1.toInt.toNat) + 1 → ¬ x = (rv Po 2 t1.toInt.toNat) + 2 → fv Po x j = fv Po x j) ∧ ∀ k : Nat, rv Po 2 k = rv Po 2 k) from by exact Or.inl (⟨by omega, by omega, ⟨fun x j h1 h2 => rfl, fun k => rfl⟩⟩))⟩
    exact mp_iret ⟨⟨_, rfl, u8⟩, hT, KW.refl, hJ, trivial⟩ dX6_rotate_24 (Or.inl rfl)
  · show MEvP _ none q_33 8 [(0, .ref 0), (1, .int t1), (2, .int t2)] [.ref b5] _ _ _ _
    replace q6r : 0 ≤ t1.toInt ∧ t1.toInt ≤ 7 ∧ t1.toInt + 1 ≤ (fv Po 1 1).toInt ∧ rv Po 2 t1.toInt.toNat = b5 := q6r
    have g9 : (0 : Int) ≤ (fv Po 1 1).toInt ∧ (fv Po 1 1).toInt ≤ 8 := Typ.rng hT rl_1 (by decide) (by decide) rfl
    have w10 := np_ar q6
    refine mp_a (a_astore_n (L' := [(3, .ref b5), (0, .ref 0), (1, .int t1), (2, .int t2)]) dX6_rotate_8 (by decide) rfl) (mpp 9 rfl ?_)
    refine mp_a (a_aload_n dX6_rotate_9 rfl) (mpp 10 rfl ?_)
    refine mp_t (s_ifnullR dX6_rotate_10) (mpp 13 rfl ?_)
    refine mp_a (a_aload_n dX6_rotate_13 rfl) (mpp 14 rfl ?_)
    refine mp_a (a_iload_n dX6_rotate_14 rfl) (mpp 15 rfl ?_)
    refine mt_callv (i := 98) (q' := q_29) (As := [.int t2]) (rest := []) hT dX6_rotate_15 rfl qm_29 (by decide) rfl q6 (by decide) rfl (Nat.le_of_ble_eq_true rfl) rfl ⟨rfl, rfl⟩ ⟨Nat.le_of_ble_eq_true rfl, Nat.le_of_ble_eq_true rfl⟩ (EvP.mono (by decide) (c_CP_hasCrease_NPiece hT hX q6)) (fun r11 P12 g13 => mpp 18 rfl ?_)
    obtain ⟨⟨x14, rfl, g15⟩, e16⟩ := g13
    have e16 := e16.symm
    subst e16
    have wx14 := ti_full x14
    replace g15 : 0 ≤ x14.toInt ∧ x14.toInt ≤ 1 ∧ ((x14.toInt = 0 ∧ (t2.toInt < 0 ∨ ((fv Po b5 0).toInt = 0 ∧ (fv Po b5 1).toInt - 1 ≤ t2.toInt) ∨ ((fv Po b5 0).toInt ≠ 0 ∧ (fv Po b5 1).toInt ≤ t2.toInt))) ∨ (x14.toInt = 1 ∧ 0 ≤ t2.toInt ∧ t2.toInt + 1 ≤ (fv Po b5 1).toInt ∧ (((fv Po b5 0).toInt = 0 ∧ t2.toInt < (fv Po b5 1).toInt - 1) ∨ ((fv Po b5 0).toInt ≠ 0 ∧ t2.toInt < (fv Po b5 1).toInt)))) := g15
    have g17 := ti_full (fv Po b5 0)
    have g18 : (0 : Int) ≤ (fv Po b5 1).toInt ∧ (fv Po b5 1).toInt ≤ 8 := Typ.rng hT q6 (by decide) (by decide) rfl
    show MEvP _ none q_33 18 [(3, .ref b5), (0, .ref 0), (1, .int t1), (2, .int t2)] [.int x14] _ _ _ _
    refine mp_Tb (t := 25) (j_if_ne dX6_rotate_18) (by decide) (fun c19 => ?_) (fun c19 => mpp 21 rfl ?_)
    · have c19 : x14.toInt ≠ 0 := ti_ne c19
      refine mp_a (a_aload_n dX6_rotate_25 rfl) (mpp 26 rfl ?_)
      have g20 : (0 : Int) ≤ (fv Po b5 2).toInt ∧ (fv Po b5 2).toInt ≤ 1 := Typ.rng hT q6 (by decide) (by decide) rfl
      refine mt_getI (i := 104) (k := 2) hT dX6_rotate_26 rfl q6 (by decide) rfl (by decide) rfl (fun g21 g22 => mpp 29 rfl ?_)
      refine mp_Tb (t := 39) (j_if_eq dX6_rotate_29) (by decide) (fun c23 => ?_) (fun c23 => mpp 32 rfl ?_)
      · have c23 : (fv Po b5 2).toInt = 0 := ti_eq c23
        refine mp_a (a_aload_n dX6_rotate_39 rfl) (mpp 40 rfl ?_)
        refine mt_getI (i := 130) (k := 0) hT dX6_rotate_40 rfl q6 (by decide) rfl (by decide) rfl (fun g24 g25 => mpp 43 rfl ?_)
        refine mp_a (a_iconst (v := 1) dX6_rotate_43 rfl) (mpp 44 rfl ?_)
        refine mp_Tb (t := 54) (j_icmp_eq dX6_rotate_44) (by decide) (fun c26 => ?_) (fun c26 => mpp 47 rfl ?_)
        · have c26 : (fv Po b5 0).toInt = 1 := ti_eq c26
          refine mp_a (a_aload_n dX6_rotate_54 rfl) (mpp 55 rfl ?_)
          refine mt_getU (i := 25) (k := 3) (A := 79) hT dX6_rotate_55 rfl rl_0 (by decide) rfl (by decide) rfl un_6 (mpp 58 rfl ?_)
          refine mp_a (a_aload_n dX6_rotate_58 rfl) (mpp 59 rfl ?_)
          refine mt_getU (i := 10) (k := 0) (A := 1) hT dX6_rotate_59 rfl rl_0 (by decide) rfl (by decide) rfl un_31 (mpp 62 rfl ?_)
          refine mt_callv (i := 72) (q' := q_15) (As := [.ref 1]) (rest := []) hT dX6_rotate_62 rfl qm_15 (by decide) rfl rl_79 (by decide) rfl (Nat.le_of_ble_eq_true rfl) rfl ⟨rfl, rfl⟩ ⟨Nat.le_of_ble_eq_true rfl, Nat.le_of_ble_eq_true rfl⟩ (EvP.mono (by decide) (c_CH_push_History_NState hT hX hJ )) (fun r27 P28 g29 => mpp 65 rfl ?_)
          obtain ⟨⟨rfl, g31⟩, hT32, k33, J36, R34⟩ := g29
          have k35 : KW [10, 11, 12, 65, 66, 67, 192, 193, 194, 256, 320, 385, 386] Po P28 := KW.trans KW.refl k33 rfl
          show MEvP _ none q_33 65 [(3, .ref b5), (0, .ref 0), (1, .int t1), (2, .int t2)] [] _ _ _ _
          refine mp_a (a_aload_n dX6_rotate_65 rfl) (mpp 66 rfl ?_)
          refine mt_getE (i := 53) (k := 7) hT32 dX6_rotate_66 rfl rl_0 (by decide) rfl (by decide) rfl (KW.xr k35 hX).2.2.2.2.2 (fun q37 => mpp 69 rfl ?_)
          refine mp_a (a_aload_n dX6_rotate_69 rfl) (mpp 70 rfl ?_)
          have p38 : 298 + 3 ≤ b5 ∨ b5 + 3 ≤ 298 := by omega
          refine mt_callv (i := 133) (q' := q_18) (As := [.ref b5]) (rest := []) hT32 dX6_rotate_70 rfl qm_18 (by decide) rfl q37 (by decide) rfl (Nat.le_of_ble_eq_true rfl) rfl ⟨rfl, rfl⟩ ⟨Nat.le_of_ble_eq_true rfl, Nat.le_of_ble_eq_true rfl⟩ (EvP.mono (by decide) (c_CP_copyFrom_Piece_NPiece hT32 (KW.xr k35 hX) p38 q37 q6)) (fun r39 P40 g41 => mpp 73 rfl ?_)
          obtain ⟨⟨rfl, g43⟩, hT44, k45, R46⟩ := g41
          have k47 : KW [10, 11, 12, 65, 66, 67, 192, 193, 194, 256, 320, 385, 386] Po P40 := KW.trans k35 k45 rfl
          have J49 := Inj.kw J36 k45 rfl
          show MEvP _ none q_33 73 [(3, .ref b5), (0, .ref 0), (1, .int t1), (2, .int t2)] [] _ _ _ _
          refine mp_a (a_aload_n dX6_rotate_73 rfl) (mpp 74 rfl ?_)
          refine mp_a (a_aload_n dX6_rotate_74 rfl) (mpp 75 rfl ?_)
          refine mt_getE (i := 53) (k := 7) hT44 dX6_rotate_75 rfl rl_0 (by decide) rfl (by decide) rfl (KW.xr k47 hX).2.2.2.2.2 (fun q50 => mpp 78 rfl ?_)
          refine mp_a (a_iload_n dX6_rotate_78 rfl) (mpp 79 rfl ?_)
          have e51 : (fv P40 b5 1).toInt = (fv Po b5 1).toInt := congrArg Int32.toInt ((KW.at k45 1 q6 rfl).trans (KW.at k33 1 q6 rfl))
          have p52 : 0 ≤ t2.toInt := by omega
          have p53 : t2.toInt < (fv P40 b5 1).toInt := by omega
          have p54 : b5 + 3 ≤ 298 ∨ 298 + 3 ≤ b5 := by omega
          refine mt_callv (i := 136) (q' := q_34) (As := [.ref 298, .int t2]) (rest := []) hT44 dX6_rotate_79 rfl qm_34 (by decide) rfl q6 (by decide) rfl (Nat.le_of_ble_eq_true rfl) rfl ⟨rfl, rfl⟩ ⟨Nat.le_of_ble_eq_true rfl, Nat.le_of_ble_eq_true rfl⟩ (EvP.mono (by decide) (c_CP_becomeRotated_NPiece_Piece hT44 (KW.xr k47 hX) p52 p53 p54 q6 q50)) (fun r55 P56 g57 => mpp 82 rfl ?_)
          obtain ⟨⟨rfl, g59⟩, hT60, k61, R62⟩ := g57
          have k63 : KW [10, 11, 12, 65, 66, 67, 192, 193, 194, 256, 320, 385, 386] Po P56 := KW.trans k47 k61 rfl
          have J65 := Inj.kw J49 k61 rfl
          show MEvP _ none q_33 82 [(3, .ref b5), (0, .ref 0), (1, .int t1), (2, .int t2)] [] _ _ _ _
          refine mp_a (a_aload_n dX6_rotate_82 rfl) (mpp 83 rfl ?_)
          refine mt_callv (i := 140) (q' := q_35) (As := []) (rest := []) hT60 dX6_rotate_83 rfl qm_35 (by decide) rfl q6 (by decide) rfl (Nat.le_of_ble_eq_true rfl) rfl ⟨rfl, rfl⟩ ⟨Nat.le_of_ble_eq_true rfl, Nat.le_of_ble_eq_true rfl⟩ (EvP.mono (by decide) (c_CP_sizesAsNumber_NPiece hT60 (KW.xr k63 hX) q6)) (fun r66 P67 g68 => mpp 86 rfl ?_)
          obtain ⟨⟨x69, rfl, g70⟩, e71⟩ := g68
          have e71 := e71.symm
          subst e71
          have wx69 := ti_full x69
          replace g70 : x69.toInt = (nmF (fun j : Nat => fv P56 (b5 + 1) j) (fv P56 b5 1).toInt.toNat).toInt := g70
          have e72 : (fv P56 b5 1).toInt = (fv P40 b5 1).toInt := congrArg Int32.toInt (KW.at k61 1 q6 rfl)
          show MEvP _ none q_33 86 [(3, .ref b5), (0, .ref 0), (1, .int t1), (2, .int t2)] [.int x69] _ _ _ _
          have e74 : (fv P28 1 1).toInt = (fv Po 1 1).toInt := congrArg Int32.toInt (R34.2.2.2.2.2 1 1 (by omega))
          have e75 : (fv P28 1 2).toInt = (fv Po 1 2).toInt := congrArg Int32.toInt (R34.2.2.2.2.2 1 2 (by omega))
          have e76 : (fv P28 1 3).toInt = (fv Po 1 3).toInt := congrArg Int32.toInt (R34.2.2.2.2.2 1 3 (by omega))
          have e77 : (fv P40 1 1).toInt = (fv P28 1 1).toInt := congrArg Int32.toInt (R46.2.2.2.2.2 1 1 (by omega))
          have e78 : (fv P40 1 2).toInt = (fv P28 1 2).toInt := congrArg Int32.toInt (R46.2.2.2.2.2 1 2 (by omega))
          have e79 : (fv P40 1 3).toInt = (fv P28 1 3).toInt := congrArg Int32.toInt (R46.2.2.2.2.2 1 3 (by omega))
          have e80 : (fv P56 1 1).toInt = (fv P40 1 1).toInt := congrArg Int32.toInt (R62.2.2 1 1 (by omega))
          have e81 : (fv P56 1 2).toInt = (fv P40 1 2).toInt := congrArg Int32.toInt (R62.2.2 1 2 (by omega))
          have e82 : (fv P56 1 3).toInt = (fv P40 1 3).toInt := congrArg Int32.toInt (R62.2.2 1 3 (by omega))
          have w84_ : fv P40 b5 1 = fv Po b5 1 := by rw [R46.2.2.2.2.2 b5 1 (by omega), R34.2.2.2.2.2 b5 1 (by omega)]
          have w85_ : ∀ j : Nat, fv P40 (b5 + 1) j = fv Po (b5 + 1) j := fun j => by rw [R46.2.2.2.2.2 (b5 + 1) j (by omega), R34.2.2.2.2.2 (b5 + 1) j (by omega)]
          have w86_ : ∀ j : Nat, j < 8 → fv P40 (298 + 1) j = fv Po (b5 + 1) j := fun j hj => (R46.2.2.2.1 j hj).trans (by rw [R34.2.2.2.2.2 (b5 + 1) j (by omega)])
          have w87_ := R62.1
          rw [w84_] at w87_
          have w89_ : fv P40 b5 1 = fv Po b5 1 := by rw [R46.2.2.2.2.2 b5 1 (by omega), R34.2.2.2.2.2 b5 1 (by omega)]
          have w90_ : ∀ j : Nat, fv P40 (b5 + 2) j = fv Po (b5 + 2) j := fun j => by rw [R46.2.2.2.2.2 (b5 + 2) j (by omega), R34.2.2.2.2.2 (b5 + 2) j (by omega)]
          have w91_ : ∀ j : Nat, j < 8 → fv P40 (298 + 2) j = fv Po (b5 + 2) j := fun j hj => (R46.2.2.2.2.1 j hj).trans (by rw [R34.2.2.2.2.2 (b5 + 2) j (by omega)])
          have w92_ := R62.2.1
          rw [w89_] at w92_
          have u73 : KPX Po P56 ∧ rotateC Po P56 x69.toInt t1.toInt t2.toInt := ⟨⟨by rw [R62.2.2 0 8 (by omega), R46.2.2.2.2.2 0 8 (by omega), R34.2.2.2.2.2 0 8 (by omega)], fun x j hx => by rw [R62.2.2 x j (by omega), R46.2.2.2.2.2 x j (by omega), R34.2.2.2.2.2 x j (by omega)]⟩, (show (x69.toInt = -1001 ∧ ((t1.toInt < 0 ∨ (fv Po 1 1).toInt ≤ t1.toInt ∨ 8 ≤ t1.toInt) ∨ ((0 ≤ t1.toInt ∧ t1.toInt + 1 ≤ (fv Po 1 1).toInt ∧ t1.toInt ≤ 7) ∧ (t2.toInt < 0 ∨ ((fv Po (rv Po 2 t1.toInt.toNat) 0).toInt = 0 ∧ (fv Po (rv Po 2 t1.toInt.toNat) 1).toInt - 1 ≤ t2.toInt) ∨ ((fv Po (rv Po 2 t1.toInt.toNat) 0).toInt ≠ 0 ∧ (fv Po (rv Po 2 t1.toInt.toNat) 1).toInt ≤ t2.toInt)))) ∧ NCH Po P56) ∨ (x69.toInt = -1003 ∧ (0 ≤ t1.toInt ∧ t1.toInt + 1 ≤ (fv Po 1 1).toInt ∧ t1.toInt ≤ 7) ∧ (0 ≤ t2.toInt ∧ (((fv Po (rv Po 2 t1.toInt.toNat) 0).toInt = 0 ∧ t2.toInt < (fv Po (rv Po 2 t1.toInt.toNat) 1).toInt - 1) ∨ ((fv Po (rv Po 2 t1.toInt.toNat) 0).toInt ≠ 0 ∧ t2.toInt < (fv Po (rv Po 2 t1.toInt.toNat) 1).toInt))) ∧ ((fv Po (rv Po 2 t1.toInt.toNat) 2).toInt = 1 ∨ ¬ (fv Po (rv Po 2 t1.toInt.toNat) 0).toInt = 1) ∧ NCH Po P56) ∨ ((0 ≤ t1.toInt ∧ t1.toInt + 1 ≤ (fv Po 1 1).toInt ∧ t1.toInt ≤ 7) ∧ (0 ≤ t2.toInt ∧ (((fv Po (rv Po 2 t1.toInt.toNat) 0).toInt = 0 ∧ t2.toInt < (fv Po (rv Po 2 t1.toInt.toNat) 1).toInt - 1) ∨ ((fv Po (rv Po 2 t1.toInt.toNat) 0).toInt ≠ 0 ∧ t2.toInt < (fv Po (rv Po 2 t1.toInt.toNat) 1).toInt))) ∧ (fv Po (rv Po 2 t1.toInt.toNat) 2).toInt = 0 ∧ (fv Po (rv Po 2 t1.toInt.toNat) 0).toInt = 1 ∧ x69.toInt = (nmF (fun j : Nat => fv P56 ((rv Po 2 t1.toInt.toNat) + 1) j) (fv Po (rv Po 2 t1.toInt.toNat) 1).toInt.toNat).toInt ∧ PSH Po P56 ∧ ROW Po P56 ((rv Po 2 t1.toInt.toNat) + 1) (fun j : Nat => fv Po ((rv Po 2 t1.toInt.toNat) + 1) (if t2.toInt.toNat + j < (fv Po (rv Po 2 t1.toInt.toNat) 1).toInt.toNat then t2.toInt.toNat + j else t2.toInt.toNat + j - (fv Po (rv Po 2 t1.toInt.toNat) 1).toInt.toNat)) (fv Po (rv Po 2 t1.toInt.toNat) 1).toInt.toNat ∧ ROW Po P56 ((rv Po 2 t1.toInt.toNat) + 2) (fun j : Nat => fv Po ((rv Po 2 t1.toInt.toNat) + 2) (if t2.toInt.toNat + j < (fv Po (rv Po 2 t1.toInt.toNat) 1).toInt.toNat then t2.toInt.toNat + j else t2.toInt.toNat + j - (fv Po (rv Po 2 t1.toInt.toNat) 1).toInt.toNat)) (fv Po (rv Po 2 t1.toInt.toNat) 1).toInt.toNat ∧ (∀ x j : Nat, 1 ≤ x → x < 27 → ¬ x = (rv Po 2 t1.toInt.toNat) + 1 → ¬ x = (rv Po 2 t1.toInt.toNat) + 2 → fv P56 x j = fv Po x j) ∧ ∀ k : Nat, rv P56 2 k = rv Po 2 k) from by rw [q6r.2.2.2]; exact Or.inr (Or.inr (⟨by omega, by omega, by omega, by omega, by rw [g70]; exact congrArg (fun n : Int => (nmF (fun j : Nat => fv P56 (b5 + 1) j) n.toNat).toInt) (by omega), PSH.mk (P := Po) (Q := P28) hT R34.1 R34.2.1 R34.2.2.1 R34.2.2.2.1 R34.2.2.2.2.1 (fun x j h1 h2 => by rw [R62.2.2 x j (by omega), R46.2.2.2.2.2 x j (by omega)]) (fun x j hx => rfl) (fun k => rfl) (Typ.rng hT rl_79 (by decide) (by decide) rfl), w87_.src w85_ (fun j hj => w86_ _ (by split <;> omega)), w92_.src w90_ (fun j hj => w91_ _ (by split <;> omega)), fun x j h1 h2 h3 h4 => by rw [R62.2.2 x j (by omega), R46.2.2.2.2.2 x j (by omega), R34.2.2.2.2.2 x j (by omega)], fun k => by rw [k61.2.2 rfl k, k45.2.2 rfl k, k33.2.2 rfl k]⟩)))⟩
          exact mp_iret ⟨⟨_, rfl, u73⟩, hT60, k63, J65, trivial⟩ dX6_rotate_86 (Or.inl rfl)
        · have c26 : (fv Po b5 0).toInt ≠ 1 := ti_eq_n c26
          refine mp_a (a_aload_n dX6_rotate_47 rfl) (mpp 48 rfl ?_)
          refine mp_a (a_iconst (v := 3) dX6_rotate_48 rfl) (mpp 49 rfl ?_)
          refine mp_a (a_iload_n dX6_rotate_49 rfl) (mpp 50 rfl ?_)
          refine mt_callv (i := 68) (q' := q_14) (As := [.int 3, .int t1]) (rest := []) hT dX6_rotate_50 rfl qm_14 (by decide) rfl rl_0 (by decide) rfl (Nat.le_of_ble_eq_true rfl) rfl ⟨rfl, rfl⟩ ⟨Nat.le_of_ble_eq_true rfl, Nat.le_of_ble_eq_true rfl⟩ (EvP.mono (by decide) (c_F_refuse hT hX )) (fun r93 P94 g95 => mpp 53 rfl ?_)
          obtain ⟨⟨x96, rfl, g97⟩, hT98, k99, R100⟩ := g95
          have k101 : KW [10, 11, 12, 65, 66, 67, 192, 193, 194, 256, 320, 385, 386] Po P94 := KW.trans KW.refl k99 rfl
          have J103 := Inj.kw hJ k99 rfl
          have wx96 := ti_full x96
          replace g97 : x96.toInt = -1003 := g97
          show MEvP _ none q_33 53 [(3, .ref b5), (0, .ref 0), (1, .int t1), (2, .int t2)] [.int x96] _ _ _ _
          have e105 : (fv P94 1 1).toInt = (fv Po 1 1).toInt := congrArg Int32.toInt (R100.2 1 1 (by omega))
          have e106 : (fv P94 1 2).toInt = (fv Po 1 2).toInt := congrArg Int32.toInt (R100.2 1 2 (by omega))
          have e107 : (fv P94 1 3).toInt = (fv Po 1 3).toInt := congrArg Int32.toInt (R100.2 1 3 (by omega))
          have u104 : KPX Po P94 ∧ rotateC Po P94 x96.toInt t1.toInt t2.toInt := ⟨⟨by rw [R100.1], fun x j hx => by rw [R100.2 x j (by omega)]⟩, (show (x96.toInt = -1001 ∧ ((t1.toInt < 0 ∨ (fv Po 1 1).toInt ≤ t1.toInt ∨ 8 ≤ t1.toInt) ∨ ((0 ≤ t1.toInt ∧ t1.toInt + 1 ≤ (fv Po 1 1).toInt ∧ t1.toInt ≤ 7) ∧ (t2.toInt < 0 ∨ ((fv Po (rv Po 2 t1.toInt.toNat) 0).toInt = 0 ∧ (fv Po (rv Po 2 t1.toInt.toNat) 1).toInt - 1 ≤ t2.toInt) ∨ ((fv Po (rv Po 2 t1.toInt.toNat) 0).toInt ≠ 0 ∧ (fv Po (rv Po 2 t1.toInt.toNat) 1).toInt ≤ t2.toInt)))) ∧ NCH Po P94) ∨ (x96.toInt = -1003 ∧ (0 ≤ t1.toInt ∧ t1.toInt + 1 ≤ (fv Po 1 1).toInt ∧ t1.toInt ≤ 7) ∧ (0 ≤ t2.toInt ∧ (((fv Po (rv Po 2 t1.toInt.toNat) 0).toInt = 0 ∧ t2.toInt < (fv Po (rv Po 2 t1.toInt.toNat) 1).toInt - 1) ∨ ((fv Po (rv Po 2 t1.toInt.toNat) 0).toInt ≠ 0 ∧ t2.toInt < (fv Po (rv Po 2 t1.toInt.toNat) 1).toInt))) ∧ ((fv Po (rv Po 2 t1.toInt.toNat) 2).toInt = 1 ∨ ¬ (fv Po (rv Po 2 t1.toInt.toNat) 0).toInt = 1) ∧ NCH Po P94) ∨ ((0 ≤ t1.toInt ∧ t1.toInt + 1 ≤ (fv Po 1 1).toInt ∧ t1.toInt ≤ 7) ∧ (0 ≤ t2.toInt ∧ (((fv Po (rv Po 2 t1.toInt.toNat) 0).toInt = 0 ∧ t2.toInt < (fv Po (rv Po 2 t1.toInt.toNat) 1).toInt - 1) ∨ ((fv Po (rv Po 2 t1.toInt.toNat) 0).toInt ≠ 0 ∧ t2.toInt < (fv Po (rv Po 2 t1.toInt.toNat) 1).toInt))) ∧ (fv Po (rv Po 2 t1.toInt.toNat) 2).toInt = 0 ∧ (fv Po (rv Po 2 t1.toInt.toNat) 0).toInt = 1 ∧ x96.toInt = (nmF (fun j : Nat => fv P94 ((rv Po 2 t1.toInt.toNat) + 1) j) (fv Po (rv Po 2 t1.toInt.toNat) 1).toInt.toNat).toInt ∧ PSH Po P94 ∧ ROW Po P94 ((rv Po 2 t1.toInt.toNat) + 1) (fun j : Nat => fv Po ((rv Po 2 t1.toInt.toNat) + 1) (if t2.toInt.toNat + j < (fv Po (rv Po 2 t1.toInt.toNat) 1).toInt.toNat then t2.toInt.toNat + j else t2.toInt.toNat + j - (fv Po (rv Po 2 t1.toInt.toNat) 1).toInt.toNat)) (fv Po (rv Po 2 t1.toInt.toNat) 1).toInt.toNat ∧ ROW Po P94 ((rv Po 2 t1.toInt.toNat) + 2) (fun j : Nat => fv Po ((rv Po 2 t1.toInt.toNat) + 2) (if t2.toInt.toNat + j < (fv Po (rv Po 2 t1.toInt.toNat) 1).toInt.toNat then t2.toInt.toNat + j else t2.toInt.toNat + j - (fv Po (rv Po 2 t1.toInt.toNat) 1).toInt.toNat)) (fv Po (rv Po 2 t1.toInt.toNat) 1).toInt.toNat ∧ (∀ x j : Nat, 1 ≤ x → x < 27 → ¬ x = (rv Po 2 t1.toInt.toNat) + 1 → ¬ x = (rv Po 2 t1.toInt.toNat) + 2 → fv P94 x j = fv Po x j) ∧ ∀ k : Nat, rv P94 2 k = rv Po 2 k) from by rw [q6r.2.2.2]; exact Or.inr (Or.inl (⟨by omega, by omega, by omega, by omega, ⟨fun x j h1 h2 => by rw [R100.2 x j (by omega)], fun k => by rw [k99.2.2 rfl k]⟩⟩)))⟩
          exact mp_iret ⟨⟨_, rfl, u104⟩, hT98, k101, J103, trivial⟩ dX6_rotate_53 (Or.inl rfl)
      · have c23 : (fv Po b5 2).toInt ≠ 0 := ti_eq_n c23
        refine mp_a (a_aload_n dX6_rotate_32 rfl) (mpp 33 rfl ?_)
        refine mp_a (a_iconst (v := 2) dX6_rotate_33 rfl) (mpp 34 rfl ?_)
        refine mp_a (a_iload_n dX6_rotate_34 rfl) (mpp 35 rfl ?_)
        refine mt_callv (i := 68) (q' := q_14) (As := [.int 2, .int t1]) (rest := []) hT dX6_rotate_35 rfl qm_14 (by decide) rfl rl_0 (by decide) rfl (Nat.le_of_ble_eq_true rfl) rfl ⟨rfl, rfl⟩ ⟨Nat.le_of_ble_eq_true rfl, Nat.le_of_ble_eq_true rfl⟩ (EvP.mono (by decide) (c_F_refuse hT hX )) (fun r108 P109 g110 => mpp 38 rfl ?_)
        obtain ⟨⟨x111, rfl, g112⟩, hT113, k114, R115⟩ := g110
        have k116 : KW [10, 11, 12, 65, 66, 67, 192, 193, 194, 256, 320, 385, 386] Po P109 := KW.trans KW.refl k114 rfl
        have J118 := Inj.kw hJ k114 rfl
        have wx111 := ti_full x111
        replace g112 : x111.toInt = -1003 := g112
        show MEvP _ none q_33 38 [(3, .ref b5), (0, .ref 0), (1, .int t1), (2, .int t2)] [.int x111] _ _ _ _
        have e120 : (fv P109 1 1).toInt = (fv Po 1 1).toInt := congrArg Int32.toInt (R115.2 1 1 (by omega))
        have e121 : (fv P109 1 2).toInt = (fv Po 1 2).toInt := congrArg Int32.toInt (R115.2 1 2 (by omega))
        have e122 : (fv P109 1 3).toInt = (fv Po 1 3).toInt := congrArg Int32.toInt (R115.2 1 3 (by omega))
        have u119 : KPX Po P109 ∧ rotateC Po P109 x111.toInt t1.toInt t2.toInt := ⟨⟨by rw [R115.1], fun x j hx => by rw [R115.2 x j (by omega)]⟩, (show (x111.toInt = -1001 ∧ ((t1.toInt < 0 ∨ (fv Po 1 1).toInt ≤ t1.toInt ∨ 8 ≤ t1.toInt) ∨ ((0 ≤ t1.toInt ∧ t1.toInt + 1 ≤ (fv Po 1 1).toInt ∧ t1.toInt ≤ 7) ∧ (t2.toInt < 0 ∨ ((fv Po (rv Po 2 t1.toInt.toNat) 0).toInt = 0 ∧ (fv Po (rv Po 2 t1.toInt.toNat) 1).toInt - 1 ≤ t2.toInt) ∨ ((fv Po (rv Po 2 t1.toInt.toNat) 0).toInt ≠ 0 ∧ (fv Po (rv Po 2 t1.toInt.toNat) 1).toInt ≤ t2.toInt)))) ∧ NCH Po P109) ∨ (x111.toInt = -1003 ∧ (0 ≤ t1.toInt ∧ t1.toInt + 1 ≤ (fv Po 1 1).toInt ∧ t1.toInt ≤ 7) ∧ (0 ≤ t2.toInt ∧ (((fv Po (rv Po 2 t1.toInt.toNat) 0).toInt = 0 ∧ t2.toInt < (fv Po (rv Po 2 t1.toInt.toNat) 1).toInt - 1) ∨ ((fv Po (rv Po 2 t1.toInt.toNat) 0).toInt ≠ 0 ∧ t2.toInt < (fv Po (rv Po 2 t1.toInt.toNat) 1).toInt))) ∧ ((fv Po (rv Po 2 t1.toInt.toNat) 2).toInt = 1 ∨ ¬ (fv Po (rv Po 2 t1.toInt.toNat) 0).toInt = 1) ∧ NCH Po P109) ∨ ((0 ≤ t1.toInt ∧ t1.toInt + 1 ≤ (fv Po 1 1).toInt ∧ t1.toInt ≤ 7) ∧ (0 ≤ t2.toInt ∧ (((fv Po (rv Po 2 t1.toInt.toNat) 0).toInt = 0 ∧ t2.toInt < (fv Po (rv Po 2 t1.toInt.toNat) 1).toInt - 1) ∨ ((fv Po (rv Po 2 t1.toInt.toNat) 0).toInt ≠ 0 ∧ t2.toInt < (fv Po (rv Po 2 t1.toInt.toNat) 1).toInt))) ∧ (fv Po (rv Po 2 t1.toInt.toNat) 2).toInt = 0 ∧ (fv Po (rv Po 2 t1.toInt.toNat) 0).toInt = 1 ∧ x111.toInt = (nmF (fun j : Nat => fv P109 ((rv Po 2 t1.toInt.toNat) + 1) j) (fv Po (rv Po 2 t1.toInt.toNat) 1).toInt.toNat).toInt ∧ PSH Po P109 ∧ ROW Po P109 ((rv Po 2 t1.toInt.toNat) + 1) (fun j : Nat => fv Po ((rv Po 2 t1.toInt.toNat) + 1) (if t2.toInt.toNat + j < (fv Po (rv Po 2 t1.toInt.toNat) 1).toInt.toNat then t2.toInt.toNat + j else t2.toInt.toNat + j - (fv Po (rv Po 2 t1.toInt.toNat) 1).toInt.toNat)) (fv Po (rv Po 2 t1.toInt.toNat) 1).toInt.toNat ∧ ROW Po P109 ((rv Po 2 t1.toInt.toNat) + 2) (fun j : Nat => fv Po ((rv Po 2 t1.toInt.toNat) + 2) (if t2.toInt.toNat + j < (fv Po (rv Po 2 t1.toInt.toNat) 1).toInt.toNat then t2.toInt.toNat + j else t2.toInt.toNat + j - (fv Po (rv Po 2 t1.toInt.toNat) 1).toInt.toNat)) (fv Po (rv Po 2 t1.toInt.toNat) 1).toInt.toNat ∧ (∀ x j : Nat, 1 ≤ x → x < 27 → ¬ x = (rv Po 2 t1.toInt.toNat) + 1 → ¬ x = (rv Po 2 t1.toInt.toNat) + 2 → fv P109 x j = fv Po x j) ∧ ∀ k : Nat, rv P109 2 k = rv Po 2 k) from by rw [q6r.2.2.2]; exact Or.inr (Or.inl (⟨by omega, by omega, by omega, by omega, ⟨fun x j h1 h2 => by rw [R115.2 x j (by omega)], fun k => by rw [k114.2.2 rfl k]⟩⟩)))⟩
        exact mp_iret ⟨⟨_, rfl, u119⟩, hT113, k116, J118, trivial⟩ dX6_rotate_38 (Or.inl rfl)
    · have c19 : x14.toInt = 0 := ti_ne_n c19
      refine mp_a (a_sipush (v := -1001) dX6_rotate_21 rfl) (mpp 24 rfl ?_)
      have u123 : KPX Po Po ∧ rotateC Po Po (-1001 : Int) t1.toInt t2.toInt := ⟨⟨rfl, fun x j hx => rfl⟩, (show ((-1001 : Int) = -1001 ∧ ((t1.toInt < 0 ∨ (fv Po 1 1).toInt ≤ t1.toInt ∨ 8 ≤ t1.toInt) ∨ ((0 ≤ t1.toInt ∧ t1.toInt + 1 ≤ (fv Po 1 1).toInt ∧ t1.toInt ≤ 7) ∧ (t2.toInt < 0 ∨ ((fv Po (rv Po 2 t1.toInt.toNat) 0).toInt = 0 ∧ (fv Po (rv Po 2 t1.toInt.toNat) 1).toInt - 1 ≤ t2.toInt) ∨ ((fv Po (rv Po 2 t1.toInt.toNat) 0).toInt ≠ 0 ∧ (fv Po (rv Po 2 t1.toInt.toNat) 1).toInt ≤ t2.toInt)))) ∧ NCH Po Po) ∨ ((-1001 : Int) = -1003 ∧ (0 ≤ t1.toInt ∧ t1.toInt + 1 ≤ (fv Po 1 1).toInt ∧ t1.toInt ≤ 7) ∧ (0 ≤ t2.toInt ∧ (((fv Po (rv Po 2 t1.toInt.toNat) 0).toInt = 0 ∧ t2.toInt < (fv Po (rv Po 2 t1.toInt.toNat) 1).toInt - 1) ∨ ((fv Po (rv Po 2 t1.toInt.toNat) 0).toInt ≠ 0 ∧ t2.toInt < (fv Po (rv Po 2 t1.toInt.toNat) 1).toInt))) ∧ ((fv Po (rv Po 2 t1.toInt.toNat) 2).toInt = 1 ∨ ¬ (fv Po (rv Po 2 t1.toInt.toNat) 0).toInt = 1) ∧ NCH Po Po) ∨ ((0 ≤ t1.toInt ∧ t1.toInt + 1 ≤ (fv Po 1 1).toInt ∧ t1.toInt ≤ 7) ∧ (0 ≤ t2.toInt ∧ (((fv Po (rv Po 2 t1.toInt.toNat) 0).toInt = 0 ∧ t2.toInt < (fv Po (rv Po 2 t1.toInt.toNat) 1).toInt - 1) ∨ ((fv Po (rv Po 2 t1.toInt.toNat) 0).toInt ≠ 0 ∧ t2.toInt < (fv Po (rv Po 2 t1.toInt.toNat) 1).toInt))) ∧ (fv Po (rv Po 2 t1.toInt.toNat) 2).toInt = 0 ∧ (fv Po (rv Po 2 t1.toInt.toNat) 0).toInt = 1 ∧ (-1001 : Int) = (nmF (fun j : Nat => fv Po ((rv Po 2 t1.toInt.toNat) + 1) j) (fv Po (rv Po 2 t1.toInt.toNat) 1).toInt.toNat).toInt ∧ PSH Po Po ∧ ROW Po Po ((rv Po 2 t1.toInt.toNat) + 1) (fun j : Nat => fv Po ((rv Po 2 t1.toInt.toNat) + 1) (if t2.toInt.toNat + j < (fv Po (rv Po 2 t1.toInt.toNat) 1).toInt.toNat then t2.toInt.toNat + j else t2.toInt.toNat + j - (fv Po (rv Po 2 t1.toInt.toNat) 1).toInt.toNat)) (fv Po (rv Po 2 t1.toInt.toNat) 1).toInt.toNat ∧ ROW Po Po ((rv Po 2 t1.toInt.toNat) + 2) (fun j : Nat => fv Po ((rv Po 2 t1.toInt.toNat) + 2) (if t2.toInt.toNat + j < (fv Po (rv Po 2 t1.toInt.toNat) 1).toInt.toNat then t2.toInt.toNat + j else t2.toInt.toNat + j - (fv Po (rv Po 2 t1.toInt.toNat) 1).toInt.toNat)) (fv Po (rv Po 2 t1.toInt.toNat) 1).toInt.toNat ∧ (∀ x j : Nat, 1 ≤ x → x < 27 → ¬ x = (rv Po 2 t1.toInt.toNat) + 1 → ¬ x = (rv Po 2 t1.toInt.toNat) + 2 → fv Po x j = fv Po x j) ∧ ∀ k : Nat, rv Po 2 k = rv Po 2 k) from by rw [q6r.2.2.2]; exact Or.inl (⟨by omega, by omega, ⟨fun x j h1 h2 => rfl, fun k => rfl⟩⟩))⟩
      exact mp_iret ⟨⟨_, rfl, u123⟩, hT, KW.refl, hJ, trivial⟩ dX6_rotate_24 (Or.inl rfl)

