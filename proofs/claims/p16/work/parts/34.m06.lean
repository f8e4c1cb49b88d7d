/-! methods on typed pools, 6 (written by a program) -/
set_option maxHeartbeats 4000000 in
theorem c_CP_becomeEndOf_Piece_NPiece_l22 {Po : mP} {a0_ : Nat} {a1_ : Nat} {t2 : Int32} (hTo : Typ Po) (hX : XR Po) (hp0 : 0 ≤ t2.toInt) (hp1 : t2.toInt ≤ (fv Po a1_ 1).toInt) (hp2 : (fv Po a1_ 1).toInt ≤ 8) (hp3 : a0_ + 3 ≤ a1_ ∨ a1_ + 3 ≤ a0_) (ha0 : rl a0_ = 3) (ha1 : rl a1_ = 33) : ∀ (n : Nat) (v3 : Int32), ∀ (P : mP), Typ P → KW [192, 193, 194, 256, 320] Po P → (ROW Po P (a0_ + 1) (fun j : Nat => fv Po (a1_ + 1) (t2.toInt.toNat + j)) v3.toInt.toNat) → (ROW Po P (a0_ + 2) (fun j : Nat => fv Po (a1_ + 2) (t2.toInt.toNat + j)) v3.toInt.toNat) → (KI a0_ (a0_ + 3) Po P) → ((fv P a0_ 1).toInt = (fv Po a1_ 1).toInt - t2.toInt ∧ (fv P a0_ 0).toInt = 0 ∧ (fv P a0_ 2).toInt = 0) → (v3.toInt ≤ (fv Po a1_ 1).toInt - t2.toInt) → (0 ≤ v3.toInt) → (2147483647 - v3.toInt).toNat = n → MEvP 1 none q_40 22 [(0, .ref a0_), (1, .ref a1_), (2, .int t2), (3, .int v3)] [] P 0 0 (fun r P' => (r = none ∧ (True)) ∧ Typ P' ∧ KW [192, 193, 194, 256, 320] Po P' ∧ (fv P' a0_ 0).toInt = 0 ∧ (fv P' a0_ 2).toInt = 0 ∧ (fv P' a0_ 1).toInt = (fv Po a1_ 1).toInt - t2.toInt ∧ (ROW Po P' (a0_ + 1) (fun j : Nat => fv Po (a1_ + 1) (t2.toInt.toNat + j)) ((fv Po a1_ 1).toInt - t2.toInt).toNat) ∧ (ROW Po P' (a0_ + 2) (fun j : Nat => fv Po (a1_ + 2) (t2.toInt.toNat + j)) ((fv Po a1_ 1).toInt - t2.toInt).toNat) ∧ KI a0_ (a0_ + 3) Po P') := by
  intro n
  induction n using Nat.strongRecOn with | _ n ih => ?_
  intro v3 P hT hK i_0 i_1 i_2 i_3 i_4 i_5 hm
  have w1 := pc_ar ha0
  have w2 := np_ar ha1
  have w_t2 := ti_full t2
  have w_v3 := ti_full v3
  have g3 : (0 : Int) ≤ (fv P a0_ 1).toInt ∧ (fv P a0_ 1).toInt ≤ 8 := Typ.rng hT ha0 (by decide) (by decide) rfl
  have g4 : (0 : Int) ≤ (fv P a0_ 1).toInt ∧ (fv P a0_ 1).toInt ≤ 8 := Typ.rng hT ha0 (by decide) (by decide) rfl
  have g5 := ti_full (fv P a0_ 0)
  have g6 := ti_full (fv P a0_ 0)
  have g7 : (0 : Int) ≤ (fv P a0_ 2).toInt ∧ (fv P a0_ 2).toInt ≤ 1 := Typ.rng hT ha0 (by decide) (by decide) rfl
  have g8 : (0 : Int) ≤ (fv P a0_ 2).toInt ∧ (fv P a0_ 2).toInt ≤ 1 := Typ.rng hT ha0 (by decide) (by decide) rfl
  refine mp_a (a_iload_n dX2_becomeEndOf_22 rfl) (mpp 23 rfl ?_)
  refine mp_a (a_aload_n dX2_becomeEndOf_23 rfl) (mpp 24 rfl ?_)
  refine mt_getI (i := 26) (k := 1) hT dX2_becomeEndOf_24 rfl ha0 (by decide) rfl (by decide) rfl (fun g9 g10 => mpp 27 rfl ?_)
  refine mp_Tb (t := 72) (j_icmp_ge dX2_becomeEndOf_27) (by decide) (fun c11 => ?_) (fun c11 => mpp 30 rfl ?_)
  · have c11 : v3.toInt ≥ (fv P a0_ 1).toInt := ti_ge c11
    have u12 : (fv P a0_ 0).toInt = 0 ∧ (fv P a0_ 2).toInt = 0 ∧ (fv P a0_ 1).toInt = (fv Po a1_ 1).toInt - t2.toInt ∧ (ROW Po P (a0_ + 1) (fun j : Nat => fv Po (a1_ + 1) (t2.toInt.toNat + j)) ((fv Po a1_ 1).toInt - t2.toInt).toNat) ∧ (ROW Po P (a0_ + 2) (fun j : Nat => fv Po (a1_ + 2) (t2.toInt.toNat + j)) ((fv Po a1_ 1).toInt - t2.toInt).toNat) ∧ KI a0_ (a0_ + 3) Po P := ⟨i_3.2.1, i_3.2.2, i_3.1, i_0.fin (by omega), i_1.fin (by omega), i_2⟩
    exact mp_ret ⟨⟨rfl, trivial⟩, hT, hK, u12⟩ dX2_becomeEndOf_72 rfl
  · have c11 : v3.toInt < (fv P a0_ 1).toInt := ti_ge_n c11
    refine mp_a (a_aload_n dX2_becomeEndOf_30 rfl) (mpp 31 rfl ?_)
    refine mt_getE (i := 9) (k := 3) hT dX2_becomeEndOf_31 rfl ha0 (by decide) rfl (by decide) rfl ((KW.xr hK hX).1 a0_ (Or.inl ha0)).1 (fun q13 => mpp 34 rfl ?_)
    refine mp_a (a_iload_n dX2_becomeEndOf_34 rfl) (mpp 35 rfl ?_)
    refine mp_a (a_aload_n dX2_becomeEndOf_35 rfl) (mpp 36 rfl ?_)
    refine mt_getE (i := 9) (k := 3) hT dX2_becomeEndOf_36 rfl ha1 (by decide) rfl (by decide) rfl ((KW.xr hK hX).1 a1_ (Or.inr ha1)).1 (fun q14 => mpp 39 rfl ?_)
    refine mp_a (a_iload_n dX2_becomeEndOf_39 rfl) (mpp 40 rfl ?_)
    refine mp_a (a_iload_n dX2_becomeEndOf_40 rfl) (mpp 41 rfl ?_)
    obtain ⟨z15, h16⟩ := ti_ex (t2 + v3 : Int32)
    have wz15 := ti_full z15
    refine mp_t (s_iadd (v := z15) dX2_becomeEndOf_41 h16) (mpp 42 rfl ?_)
    try have e17 : z15.toInt = t2.toInt + v3.toInt := ti_addz h16 rfl rfl (by omega) (by omega)
    refine mp_calls (i := 48) (q' := q_12) (As := [.ref (a1_ + 1), .int z15]) (rest := [.int v3, .ref (a0_ + 1)]) dX2_becomeEndOf_42 rfl qm_12 (by decide) rfl (Nat.le_of_ble_eq_true rfl) rfl ⟨rfl, rfl⟩ ⟨Nat.le_of_ble_eq_true rfl, Nat.le_of_ble_eq_true rfl⟩ (EvP.mono (by decide) (c_F_at_sizes hT (KW.xr hK hX) q14)) (fun r18 P19 g20 => mpp 45 rfl ?_)
    obtain ⟨⟨x21, rfl, g22⟩, e23⟩ := g20
    have e23 := e23.symm
    subst e23
    have wx21 := ti_full x21
    replace g22 : (0 ≤ z15.toInt ∧ z15.toInt ≤ 7 ∧ x21.toInt = (fv P (a1_ + 1) z15.toInt.toNat).toInt) ∨ ((z15.toInt < 0 ∨ 8 ≤ z15.toInt) ∧ x21.toInt = 0) := g22
    try replace g22 : x21.toInt = (fv P (a1_ + 1) z15.toInt.toNat).toInt := (g22.resolve_right (by omega)).2.2
    show MEvP _ none q_40 45 [(0, .ref a0_), (1, .ref a1_), (2, .int t2), (3, .int v3)] [.int x21, .int v3, .ref (a0_ + 1)] _ _ _ _
    refine mp_calls (i := 29) (q' := q_22) (As := [.ref (a0_ + 1), .int v3, .int x21]) (rest := []) dX2_becomeEndOf_45 rfl qm_22 (by decide) rfl (Nat.le_of_ble_eq_true rfl) rfl ⟨rfl, rfl⟩ ⟨Nat.le_of_ble_eq_true rfl, Nat.le_of_ble_eq_true rfl⟩ (EvP.mono (by decide) (c_F_put_sizes hT (KW.xr hK hX) q13)) (fun r24 P25 g26 => mpp 48 rfl ?_)
    obtain ⟨⟨rfl, g28⟩, hT29, k30, R31⟩ := g26
    have k32 : KW [192, 193, 194, 256, 320] Po P25 := KW.trans hK k30 rfl
    show MEvP _ none q_40 48 [(0, .ref a0_), (1, .ref a1_), (2, .int t2), (3, .int v3)] [] _ _ _ _
    refine mp_a (a_aload_n dX2_becomeEndOf_48 rfl) (mpp 49 rfl ?_)
    refine mt_getE (i := 15) (k := 4) hT29 dX2_becomeEndOf_49 rfl ha0 (by decide) rfl (by decide) rfl ((KW.xr k32 hX).1 a0_ (Or.inl ha0)).2 (fun q34 => mpp 52 rfl ?_)
    refine mp_a (a_iload_n dX2_becomeEndOf_52 rfl) (mpp 53 rfl ?_)
    refine mp_a (a_aload_n dX2_becomeEndOf_53 rfl) (mpp 54 rfl ?_)
    refine mt_getE (i := 15) (k := 4) hT29 dX2_becomeEndOf_54 rfl ha1 (by decide) rfl (by decide) rfl ((KW.xr k32 hX).1 a1_ (Or.inr ha1)).2 (fun q35 => mpp 57 rfl ?_)
    refine mp_a (a_iload_n dX2_becomeEndOf_57 rfl) (mpp 58 rfl ?_)
    refine mp_a (a_iload_n dX2_becomeEndOf_58 rfl) (mpp 59 rfl ?_)
    obtain ⟨z36, h37⟩ := ti_ex (t2 + v3 : Int32)
    have wz36 := ti_full z36
    refine mp_t (s_iadd (v := z36) dX2_becomeEndOf_59 h37) (mpp 60 rfl ?_)
    try have e38 : z36.toInt = t2.toInt + v3.toInt := ti_addz h37 rfl rfl (by omega) (by omega)
    refine mp_calls (i := 48) (q' := q_12) (As := [.ref (a1_ + 2), .int z36]) (rest := [.int v3, .ref (a0_ + 2)]) dX2_becomeEndOf_60 rfl qm_12 (by decide) rfl (Nat.le_of_ble_eq_true rfl) rfl ⟨rfl, rfl⟩ ⟨Nat.le_of_ble_eq_true rfl, Nat.le_of_ble_eq_true rfl⟩ (EvP.mono (by decide) (c_F_at_creases hT29 (KW.xr k32 hX) q35)) (fun r39 P40 g41 => mpp 63 rfl ?_)
    obtain ⟨⟨x42, rfl, g43⟩, e44⟩ := g41
    have e44 := e44.symm
    subst e44
    have wx42 := ti_full x42
    replace g43 : (0 ≤ z36.toInt ∧ z36.toInt ≤ 7 ∧ x42.toInt = (fv P25 (a1_ + 2) z36.toInt.toNat).toInt) ∨ ((z36.toInt < 0 ∨ 8 ≤ z36.toInt) ∧ x42.toInt = 0) := g43
    try replace g43 : x42.toInt = (fv P25 (a1_ + 2) z36.toInt.toNat).toInt := (g43.resolve_right (by omega)).2.2
    show MEvP _ none q_40 63 [(0, .ref a0_), (1, .ref a1_), (2, .int t2), (3, .int v3)] [.int x42, .int v3, .ref (a0_ + 2)] _ _ _ _
    refine mp_calls (i := 29) (q' := q_22) (As := [.ref (a0_ + 2), .int v3, .int x42]) (rest := []) dX2_becomeEndOf_63 rfl qm_22 (by decide) rfl (Nat.le_of_ble_eq_true rfl) rfl ⟨rfl, rfl⟩ ⟨Nat.le_of_ble_eq_true rfl, Nat.le_of_ble_eq_true rfl⟩ (EvP.mono (by decide) (c_F_put_creases hT29 (KW.xr k32 hX) q34)) (fun r45 P46 g47 => mpp 66 rfl ?_)
    obtain ⟨⟨rfl, g49⟩, hT50, k51, R52⟩ := g47
    have k53 : KW [192, 193, 194, 256, 320] Po P46 := KW.trans k32 k51 rfl
    show MEvP _ none q_40 66 [(0, .ref a0_), (1, .ref a1_), (2, .int t2), (3, .int v3)] [] _ _ _ _
    obtain ⟨z55, h56⟩ := ti_ex (v3 + 1 : Int32)
    have wz55 := ti_full z55
    refine mp_a (a_iinc (v := z55) (L' := [(3, .int z55), (0, .ref a0_), (1, .ref a1_), (2, .int t2)]) dX2_becomeEndOf_66 (by decide) rfl h56 rfl) (mpp 69 rfl ?_)
    try have e57 : z55.toInt = v3.toInt + 1 := ti_addz h56 rfl rfl (by omega) (by omega)
    refine mp_a (a_goto (t := 22) dX2_becomeEndOf_69 (by decide)) ?_
    refine MEvP.less (L := [(0, .ref a0_), (1, .ref a1_), (2, .int t2), (3, .int z55)]) rfl rfl ⟨rfl, rfl, rfl, rfl, trivial⟩ ?_
    have i58 : ROW Po P46 (a0_ + 1) (fun j : Nat => fv Po (a1_ + 1) (t2.toInt.toNat + j)) z55.toInt.toNat := ROW.step (n := v3.toInt.toNat) (v := x21.toInt) i_0 (by omega) rfl (by rw [R52.2.1 (a0_ + 1) v3.toInt.toNat (by omega)]; exact R31.1.resolve_left (by omega)) (by show _ = (fv Po (a1_ + 1) (t2.toInt.toNat + v3.toInt.toNat)).toInt; have h0 : fv P (a1_ + 1) z15.toInt.toNat = fv Po (a1_ + 1) z15.toInt.toNat := (by rw [i_2 (a1_ + 1) z15.toInt.toNat (by omega)]); have h1 := congrArg Int32.toInt h0; rw [show t2.toInt.toNat + v3.toInt.toNat = z15.toInt.toNat from by omega]; omega) (fun j hj => by rw [R52.2.1 (a0_ + 1) j (by omega), R31.2.1 (a0_ + 1) j (fun e => hj e.2)])
    have i59 : ROW Po P46 (a0_ + 2) (fun j : Nat => fv Po (a1_ + 2) (t2.toInt.toNat + j)) z55.toInt.toNat := ROW.step (n := v3.toInt.toNat) (v := x42.toInt) i_1 (by omega) rfl (R52.1.resolve_left (by omega)) (by show _ = (fv Po (a1_ + 2) (t2.toInt.toNat + v3.toInt.toNat)).toInt; have h0 : fv P25 (a1_ + 2) z36.toInt.toNat = fv Po (a1_ + 2) z36.toInt.toNat := (by rw [R31.2.1 (a1_ + 2) z36.toInt.toNat (by omega), i_2 (a1_ + 2) z36.toInt.toNat (by omega)]); have h1 := congrArg Int32.toInt h0; rw [show t2.toInt.toNat + v3.toInt.toNat = z36.toInt.toNat from by omega]; omega) (fun j hj => by rw [R52.2.1 (a0_ + 2) j (fun e => hj e.2), R31.2.1 (a0_ + 2) j (by omega)])
    have i60 : KI a0_ (a0_ + 3) Po P46 := fun x j hx => by rw [R52.2.1 x j (by omega), R31.2.1 x j (by omega), i_2 x j (by omega)]
    have e61 : (fv P46 a0_ 1).toInt = (fv P a0_ 1).toInt := congrArg Int32.toInt ((KW.at k51 1 ha0 rfl).trans (KW.at k30 1 ha0 rfl))
    have e62 : (fv P46 a0_ 0).toInt = (fv P a0_ 0).toInt := congrArg Int32.toInt ((KW.at k51 0 ha0 rfl).trans (KW.at k30 0 ha0 rfl))
    have e63 : (fv P46 a0_ 2).toInt = (fv P a0_ 2).toInt := congrArg Int32.toInt ((KW.at k51 2 ha0 rfl).trans (KW.at k30 2 ha0 rfl))
    have i64 : (fv P46 a0_ 1).toInt = (fv Po a1_ 1).toInt - t2.toInt ∧ (fv P46 a0_ 0).toInt = 0 ∧ (fv P46 a0_ 2).toInt = 0 := by omega
    have i65 : z55.toInt ≤ (fv Po a1_ 1).toInt - t2.toInt := by omega
    have i66 : 0 ≤ z55.toInt := by omega
    exact ih _ (by omega) _ P46 hT50 k53 i58 i59 i60 i64 i65 i66 rfl

set_option maxHeartbeats 4000000 in
theorem c_CP_becomeEndOf_Piece_NPiece {Po : mP} {a0_ : Nat} {a1_ : Nat} {t2 : Int32} (hT : Typ Po) (hX : XR Po)  (hp0 : 0 ≤ t2.toInt) (hp1 : t2.toInt ≤ (fv Po a1_ 1).toInt) (hp2 : (fv Po a1_ 1).toInt ≤ 8) (hp3 : a0_ + 3 ≤ a1_ ∨ a1_ + 3 ≤ a0_) (ha0 : rl a0_ = 3) (ha1 : rl a1_ = 33) : EvP 2 40 [.ref a0_, .ref a1_, .int t2] Po (fun r P' => (r = none ∧ (True)) ∧ Typ P' ∧ KW [192, 193, 194, 256, 320] Po P' ∧ (fv P' a0_ 0).toInt = 0 ∧ (fv P' a0_ 2).toInt = 0 ∧ (fv P' a0_ 1).toInt = (fv Po a1_ 1).toInt - t2.toInt ∧ (ROW Po P' (a0_ + 1) (fun j : Nat => fv Po (a1_ + 1) (t2.toInt.toNat + j)) ((fv Po a1_ 1).toInt - t2.toInt).toNat) ∧ (ROW Po P' (a0_ + 2) (fun j : Nat => fv Po (a1_ + 2) (t2.toInt.toNat + j)) ((fv Po a1_ 1).toInt - t2.toInt).toNat) ∧ KI a0_ (a0_ + 3) Po P') := by
  refine EvP.of qm_40 (Nat.le_of_ble_eq_true rfl) rfl ?_
  show MEvP _ none q_40 0 [(0, .ref a0_), (1, .ref a1_), (2, .int t2)] [] _ 0 0 _
  have w1 := pc_ar ha0
  have w2 := np_ar ha1
  have w_t2 := ti_full t2
  have g3 : (0 : Int) ≤ (fv Po a1_ 1).toInt ∧ (fv Po a1_ 1).toInt ≤ 8 := Typ.rng hT ha1 (by decide) (by decide) rfl
  refine mp_a (a_aload_n dX2_becomeEndOf_0 rfl) (mpp 1 rfl ?_)
  refine mp_a (a_iconst (v := 0) dX2_becomeEndOf_1 rfl) (mpp 2 rfl ?_)
  refine mt_putI (i := 18) (k := 0) (x := 0) hT dX2_becomeEndOf_2 rfl ha0 (by decide) rfl (by decide) rfl (by decide) rfl rfl (fun P4 hT5 f6 f7 f8 => mpp 5 rfl ?_)
  have k9 : KW [192, 193, 194, 256, 320] Po P4 := KW.step KW.refl ha0 rfl f7 f8
  have e10 : (fv P4 a0_ 0).toInt = 0 := congrArg Int32.toInt f6
  refine mp_a (a_aload_n dX2_becomeEndOf_5 rfl) (mpp 6 rfl ?_)
  refine mp_a (a_iconst (v := 0) dX2_becomeEndOf_6 rfl) (mpp 7 rfl ?_)
  refine mt_putI (i := 22) (k := 2) (x := 0) hT5 dX2_becomeEndOf_7 rfl ha0 (by decide) rfl (by decide) rfl (by decide) rfl rfl (fun P11 hT12 f13 f14 f15 => mpp 10 rfl ?_)
  have k16 : KW [192, 193, 194, 256, 320] Po P11 := KW.step k9 ha0 rfl f14 f15
  have e17 : (fv P11 a0_ 2).toInt = 0 := congrArg Int32.toInt f13
  refine mp_a (a_aload_n dX2_becomeEndOf_10 rfl) (mpp 11 rfl ?_)
  refine mp_a (a_aload_n dX2_becomeEndOf_11 rfl) (mpp 12 rfl ?_)
  have e18 : (fv P11 a1_ 1).toInt = (fv Po a1_ 1).toInt := congrArg Int32.toInt ((f14 a1_ 1 (ne_r ha1 ha0 rfl)).trans (f7 a1_ 1 (ne_r ha1 ha0 rfl)))
  refine mt_getI (i := 26) (k := 1) hT12 dX2_becomeEndOf_12 rfl ha1 (by decide) rfl (by decide) rfl (fun g19 g20 => mpp 15 rfl ?_)
  refine mp_a (a_iload_n dX2_becomeEndOf_15 rfl) (mpp 16 rfl ?_)
  obtain ⟨z21, h22⟩ := ti_ex ((fv P11 a1_ 1) - t2 : Int32)
  have wz21 := ti_full z21
  refine mp_t (s_isub (v := z21) dX2_becomeEndOf_16 h22) (mpp 17 rfl ?_)
  try have e23 : z21.toInt = (fv P11 a1_ 1).toInt - t2.toInt := ti_subz h22 rfl rfl (by omega) (by omega)
  refine mt_putI (i := 26) (k := 1) (x := z21) hT12 dX2_becomeEndOf_17 rfl ha0 (by decide) rfl (by decide) rfl ⟨by omega, by omega⟩ rfl rfl (fun P24 hT25 f26 f27 f28 => mpp 20 rfl ?_)
  have k29 : KW [192, 193, 194, 256, 320] Po P24 := KW.step k16 ha0 rfl f27 f28
  have e30 : (fv P24 a0_ 1).toInt = z21.toInt := congrArg Int32.toInt f26
  refine mp_a (a_iconst (v := 0) dX2_becomeEndOf_20 rfl) (mpp 21 rfl ?_)
  refine mp_a (a_istore_n (L' := [(3, .int 0), (0, .ref a0_), (1, .ref a1_), (2, .int t2)]) dX2_becomeEndOf_21 (by decide) rfl) (mpp 22 rfl ?_)
  refine MEvP.less (L := [(0, .ref a0_), (1, .ref a1_), (2, .int t2), (3, .int 0)]) rfl rfl ⟨rfl, rfl, rfl, rfl, trivial⟩ ?_
  have i31 : ROW Po P24 (a0_ + 1) (fun j : Nat => fv Po (a1_ + 1) (t2.toInt.toNat + j)) (0 : Int).toNat := ROW.start rfl (fun j => by rw [f27 (a0_ + 1) j (by omega), f14 (a0_ + 1) j (by omega), f7 (a0_ + 1) j (by omega)])
  have i32 : ROW Po P24 (a0_ + 2) (fun j : Nat => fv Po (a1_ + 2) (t2.toInt.toNat + j)) (0 : Int).toNat := ROW.start rfl (fun j => by rw [f27 (a0_ + 2) j (by omega), f14 (a0_ + 2) j (by omega), f7 (a0_ + 2) j (by omega)])
  have i33 : KI a0_ (a0_ + 3) Po P24 := fun x j hx => by rw [f27 x j (by omega), f14 x j (by omega), f7 x j (by omega)]
  have e34 : (fv P24 a0_ 0).toInt = (fv P4 a0_ 0).toInt := congrArg Int32.toInt ((f27 a0_ 0 (ne_k rfl)).trans (f14 a0_ 0 (ne_k rfl)))
  have e35 : (fv P24 a0_ 2).toInt = (fv P11 a0_ 2).toInt := congrArg Int32.toInt (f27 a0_ 2 (ne_k rfl))
  have i36 : (fv P24 a0_ 1).toInt = (fv Po a1_ 1).toInt - t2.toInt ∧ (fv P24 a0_ 0).toInt = 0 ∧ (fv P24 a0_ 2).toInt = 0 := by omega
  have i37 : (0 : Int) ≤ (fv Po a1_ 1).toInt - t2.toInt := by omega
  have i38 : 0 ≤ (0 : Int) := by omega
  exact c_CP_becomeEndOf_Piece_NPiece_l22 hT hX  hp0 hp1 hp2 hp3 ha0 ha1 _ _ P24 hT25 k29 i31 i32 i33 i36 i37 i38 rfl

set_option maxHeartbeats 4000000 in
theorem c_F_cut {Po : mP} {t1 : Int32} {t2 : Int32} (hT : Typ Po) (hX : XR Po)  (hJ : Inj Po)  : EvP 5 39 [.ref 0, .int t1, .int t2] Po (fun r P' => (∃ x : Int32, r = some (.int x) ∧ (KPX Po P' ∧ cutC Po P' x.toInt t1.toInt t2.toInt)) ∧ Typ P' ∧ KW [10, 11, 12, 65, 66, 67, 192, 193, 194, 256, 320, 385, 386, 1985, 2112, 2113, 2114] Po P' ∧ Inj P' ∧ True) := by
  refine EvP.of qm_39 (Nat.le_of_ble_eq_true rfl) rfl ?_
  show MEvP _ none q_39 0 [(0, .ref 0), (1, .int t1), (2, .int t2)] [] _ 0 0 _
  have w_t1 := ti_full t1
  have w_t2 := ti_full t2
  refine mp_a (a_aload_n dX6_cut_0 rfl) (mpp 1 rfl ?_)
  refine mt_getU (i := 10) (k := 0) (A := 1) hT dX6_cut_1 rfl rl_0 (by decide) rfl (by decide) rfl un_31 (mpp 4 rfl ?_)
  refine mp_a (a_iload_n dX6_cut_4 rfl) (mpp 5 rfl ?_)
  refine mt_callv (i := 94) (q' := q_9) (As := [.int t1]) (rest := []) hT dX6_cut_5 rfl qm_9 (by decide) rfl rl_1 (by decide) rfl (Nat.le_of_ble_eq_true rfl) rfl ⟨rfl, rfl⟩ ⟨Nat.le_of_ble_eq_true rfl, Nat.le_of_ble_eq_true rfl⟩ (EvP.mono (by decide) (c_CS_pieceAt_NState hT hX )) (fun r1 P2 g3 => mpp 8 rfl ?_)
  obtain ⟨g3, e4⟩ := g3
  have e4 := e4.symm
  subst e4
  rcases g3 with ⟨rfl, q6n⟩ | ⟨b5, rfl, q6, q6r⟩
  · show MEvP _ none q_39 8 [(0, .ref 0), (1, .int t1), (2, .int t2)] [.null] _ _ _ _
    replace q6n : t1.toInt < 0 ∨ (fv Po 1 1).toInt ≤ t1.toInt ∨ 8 ≤ t1.toInt := q6n
    have g7 : (0 : Int) ≤ (fv Po 1 1).toInt ∧ (fv Po 1 1).toInt ≤ 8 := Typ.rng hT rl_1 (by decide) (by decide) rfl
    refine mp_a (a_astore_nN (L' := [(3, .null), (0, .ref 0), (1, .int t1), (2, .int t2)]) dX6_cut_8 (by decide) rfl) (mpp 9 rfl ?_)
    refine mp_a (a_aload_nN dX6_cut_9 rfl) (mpp 10 rfl ?_)
    refine mp_t (s_ifnullN (t := 21) dX6_cut_10 (by decide)) ?_
    refine mp_a (a_sipush (v := -1001) dX6_cut_21 rfl) (mpp 24 rfl ?_)
    have u8 : KPX Po Po ∧ cutC Po Po (-1001 : Int) t1.toInt t2.toInt := ⟨⟨rfl, fun x j hx => rfl⟩, (show ((-1001 : Int) = -1001 ∧ ((t1.toInt < 0 ∨ (fv Po 1 1).toInt ≤ t1.toInt ∨ 8 ≤ t1.toInt) ∨ ((0 ≤ t1.toInt ∧ t1.toInt + 1 ≤ (fv Po 1 1).toInt ∧ t1.toInt ≤ 7) ∧ (t2.toInt < 0 ∨ ((fv Po (rv Po 2 t1.toInt.toNat) 0).toInt = 0 ∧ (fv Po (rv Po 2 t1.toInt.toNat) 1).toInt - 1 ≤ t2.toInt) ∨ ((fv Po (rv Po 2 t1.toInt.toNat) 0).toInt ≠ 0 ∧ (fv Po (rv Po 2 t1.toInt.toNat) 1).toInt ≤ t2.toInt)))) ∧ NCH Po Po) ∨ ((-1001 : Int) = -1003 ∧ (0 ≤ t1.toInt ∧ t1.toInt + 1 ≤ (fv Po 1 1).toInt ∧ t1.toInt ≤ 7) ∧ (0 ≤ t2.toInt ∧ (((fv Po (rv Po 2 t1.toInt.toNat) 0).toInt = 0 ∧ t2.toInt < (fv Po (rv Po 2 t1.toInt.toNat) 1).toInt - 1) ∨ ((fv Po (rv Po 2 t1.toInt.toNat) 0).toInt ≠ 0 ∧ t2.toInt < (fv Po (rv Po 2 t1.toInt.toNat) 1).toInt))) ∧ (8 ≤ (fv Po 1 1).toInt ∨ (fv Po (rv Po 2 t1.toInt.toNat) 2).toInt = 1 ∨ ¬ (fv Po (rv Po 2 t1.toInt.toNat) 0).toInt = 0 ∨ t2.toInt + 1 < 2 ∨ (fv Po (rv Po 2 t1.toInt.toNat) 1).toInt - (t2.toInt + 1) < 2) ∧ NCH Po Po) ∨ ((0 ≤ t1.toInt ∧ t1.toInt + 1 ≤ (fv Po 1 1).toInt ∧ t1.toInt ≤ 7) ∧ (0 ≤ t2.toInt ∧ (((fv Po (rv Po 2 t1.toInt.toNat) 0).toInt = 0 ∧ t2.toInt < (fv Po (rv Po 2 t1.toInt.toNat) 1).toInt - 1) ∨ ((fv Po (rv Po 2 t1.toInt.toNat) 0).toInt ≠ 0 ∧ t2.toInt < (fv Po (rv Po 2 t1.toInt.toNat) 1).toInt))) ∧ ((fv Po 1 1).toInt ≤ 7 ∧ (fv Po (rv Po 2 t1.toInt.toNat) 2).toInt = 0 ∧ (fv Po (rv Po 2 t1.toInt.toNat) 0).toInt = 0 ∧ 2 ≤ t2.toInt + 1 ∧ 2 ≤ (fv Po (rv Po 2 t1.toInt.toNat) 1).toInt - (t2.toInt + 1)) ∧ (-1001 : Int) = (fv Po 1 1).toInt ∧ PSH Po Po ∧ (fv Po 1 1).toInt = (fv Po 1 1).toInt + 1 ∧ (fv Po 1 2).toInt = (fv Po 1 2).toInt ∧ (fv Po 1 3).toInt = (fv Po 1 3).toInt ∧ (fv Po (rv Po 2 t1.toInt.toNat) 1).toInt = t2.toInt + 1 ∧ (fv Po (rv Po 2 (fv Po 1 1).toInt.toNat) 0).toInt = 0 ∧ (fv Po (rv Po 2 (fv Po 1 1).toInt.toNat) 2).toInt = 0 ∧ (fv Po (rv Po 2 (fv Po 1 1).toInt.toNat) 1).toInt = (fv Po (rv Po 2 t1.toInt.toNat) 1).toInt - (t2.toInt + 1) ∧ (∀ j : Nat, j < 8 → (j : Int) < (fv Po (rv Po 2 t1.toInt.toNat) 1).toInt - (t2.toInt + 1) → fv Po ((rv Po 2 (fv Po 1 1).toInt.toNat) + 1) j = fv Po ((rv Po 2 t1.toInt.toNat) + 1) ((t2.toInt + 1).toNat + j)) ∧ (∀ j : Nat, j < 8 → (j : Int) < (fv Po (rv Po 2 t1.toInt.toNat) 1).toInt - (t2.toInt + 1) → fv Po ((rv Po 2 (fv Po 1 1).toInt.toNat) + 2) j = fv Po ((rv Po 2 t1.toInt.toNat) + 2) ((t2.toInt + 1).toNat + j)) ∧ (∀ k : Nat, k < 8 → ¬ (k : Int) = (fv Po 1 1).toInt → PEx Po Po (rv Po 2 k) (rv Po 2 t1.toInt.toNat)) ∧ ∀ k : Nat, rv Po 2 k = rv Po 2 k) from by exact Or.inl (⟨by omega, by omega, ⟨fun x j h1 h2 => rfl, fun k => rfl⟩⟩))⟩
    exact mp_iret ⟨⟨_, rfl, u8⟩, hT, KW.refl, hJ, trivial⟩ dX6_cut_24 (Or.inl rfl)
  · show MEvP _ none q_39 8 [(0, .ref 0), (1, .int t1), (2, .int t2)] [.ref b5] _ _ _ _
    replace q6r : 0 ≤ t1.toInt ∧ t1.toInt ≤ 7 ∧ t1.toInt + 1 ≤ (fv Po 1 1).toInt ∧ rv Po 2 t1.toInt.toNat = b5 := q6r
    have g9 : (0 : Int) ≤ (fv Po 1 1).toInt ∧ (fv Po 1 1).toInt ≤ 8 := Typ.rng hT rl_1 (by decide) (by decide) rfl
    have w10 := np_ar q6
    refine mp_a (a_astore_n (L' := [(3, .ref b5), (0, .ref 0), (1, .int t1), (2, .int t2)]) dX6_cut_8 (by decide) rfl) (mpp 9 rfl ?_)
    refine mp_a (a_aload_n dX6_cut_9 rfl) (mpp 10 rfl ?_)
    refine mp_t (s_ifnullR dX6_cut_10) (mpp 13 rfl ?_)
    refine mp_a (a_aload_n dX6_cut_13 rfl) (mpp 14 rfl ?_)
    refine mp_a (a_iload_n dX6_cut_14 rfl) (mpp 15 rfl ?_)
    refine mt_callv (i := 98) (q' := q_29) (As := [.int t2]) (rest := []) hT dX6_cut_15 rfl qm_29 (by decide) rfl q6 (by decide) rfl (Nat.le_of_ble_eq_true rfl) rfl ⟨rfl, rfl⟩ ⟨Nat.le_of_ble_eq_true rfl, Nat.le_of_ble_eq_true rfl⟩ (EvP.mono (by decide) (c_CP_hasCrease_NPiece hT hX q6)) (fun r11 P12 g13 => mpp 18 rfl ?_)
    obtain ⟨⟨x14, rfl, g15⟩, e16⟩ := g13
    have e16 := e16.symm
    subst e16
    have wx14 := ti_full x14
    replace g15 : 0 ≤ x14.toInt ∧ x14.toInt ≤ 1 ∧ ((x14.toInt = 0 ∧ (t2.toInt < 0 ∨ ((fv Po b5 0).toInt = 0 ∧ (fv Po b5 1).toInt - 1 ≤ t2.toInt) ∨ ((fv Po b5 0).toInt ≠ 0 ∧ (fv Po b5 1).toInt ≤ t2.toInt))) ∨ (x14.toInt = 1 ∧ 0 ≤ t2.toInt ∧ t2.toInt + 1 ≤ (fv Po b5 1).toInt ∧ (((fv Po b5 0).toInt = 0 ∧ t2.toInt < (fv Po b5 1).toInt - 1) ∨ ((fv Po b5 0).toInt ≠ 0 ∧ t2.toInt < (fv Po b5 1).toInt)))) := g15
    have g17 := ti_full (fv Po b5 0)
    have g18 : (0 : Int) ≤ (fv Po b5 1).toInt ∧ (fv Po b5 1).toInt ≤ 8 := Typ.rng hT q6 (by decide) (by decide) rfl
    show MEvP _ none q_39 18 [(3, .ref b5), (0, .ref 0), (1, .int t1), (2, .int t2)] [.int x14] _ _ _ _
    refine mp_Tb (t := 25) (j_if_ne dX6_cut_18) (by decide) (fun c19 => ?_) (fun c19 => mpp 21 rfl ?_)
    · have c19 : x14.toInt ≠ 0 := ti_ne c19
      refine mp_a (a_aload_n dX6_cut_25 rfl) (mpp 26 rfl ?_)
      refine mt_getU (i := 10) (k := 0) (A := 1) hT dX6_cut_26 rfl rl_0 (by decide) rfl (by decide) rfl un_31 (mpp 29 rfl ?_)
      refine mt_getI (i := 87) (k := 1) hT dX6_cut_29 rfl rl_1 (by decide) rfl (by decide) rfl (fun g20 g21 => mpp 32 rfl ?_)
      refine mp_a (a_bipush (v := 8) dX6_cut_32 rfl) (mpp 34 rfl ?_)
      refine mp_Tb (t := 45) (j_icmp_lt dX6_cut_34) (by decide) (fun c22 => ?_) (fun c22 => mpp 37 rfl ?_)
      · have c22 : (fv Po 1 1).toInt < 8 := ti_lt c22
        refine mp_a (a_aload_n dX6_cut_45 rfl) (mpp 46 rfl ?_)
        have g23 : (0 : Int) ≤ (fv Po b5 2).toInt ∧ (fv Po b5 2).toInt ≤ 1 := Typ.rng hT q6 (by decide) (by decide) rfl
        refine mt_getI (i := 104) (k := 2) hT dX6_cut_46 rfl q6 (by decide) rfl (by decide) rfl (fun g24 g25 => mpp 49 rfl ?_)
        refine mp_Tb (t := 59) (j_if_eq dX6_cut_49) (by decide) (fun c26 => ?_) (fun c26 => mpp 52 rfl ?_)
        · have c26 : (fv Po b5 2).toInt = 0 := ti_eq c26
          refine mp_a (a_aload_n dX6_cut_59 rfl) (mpp 60 rfl ?_)
          refine mt_getI (i := 130) (k := 0) hT dX6_cut_60 rfl q6 (by decide) rfl (by decide) rfl (fun g27 g28 => mpp 63 rfl ?_)
          refine mp_Tb (t := 73) (j_if_eq dX6_cut_63) (by decide) (fun c29 => ?_) (fun c29 => mpp 66 rfl ?_)
          · have c29 : (fv Po b5 0).toInt = 0 := ti_eq c29
            refine mp_a (a_iload_n dX6_cut_73 rfl) (mpp 74 rfl ?_)
            refine mp_a (a_iconst (v := 1) dX6_cut_74 rfl) (mpp 75 rfl ?_)
            obtain ⟨z30, h31⟩ := ti_ex (t2 + 1 : Int32)
            have wz30 := ti_full z30
            refine mp_t (s_iadd (v := z30) dX6_cut_75 h31) (mpp 76 rfl ?_)
            try have e32 : z30.toInt = t2.toInt + 1 := ti_addz h31 rfl rfl (by omega) (by omega)
            refine mp_a (a_istore (L' := [(4, .int z30), (3, .ref b5), (0, .ref 0), (1, .int t1), (2, .int t2)]) dX6_cut_76 (by decide) rfl) (mpp 78 rfl ?_)
            refine mp_a (a_iload dX6_cut_78 rfl) (mpp 80 rfl ?_)
            refine mp_a (a_aload_n dX6_cut_80 rfl) (mpp 81 rfl ?_)
            refine mt_getI (i := 143) (k := 1) hT dX6_cut_81 rfl q6 (by decide) rfl (by decide) rfl (fun g33 g34 => mpp 84 rfl ?_)
            refine mp_a (a_iload dX6_cut_84 rfl) (mpp 86 rfl ?_)
            obtain ⟨z35, h36⟩ := ti_ex ((fv Po b5 1) - z30 : Int32)
            have wz35 := ti_full z35
            refine mp_t (s_isub (v := z35) dX6_cut_86 h36) (mpp 87 rfl ?_)
            try have e37 : z35.toInt = (fv Po b5 1).toInt - z30.toInt := ti_subz h36 rfl rfl (by omega) (by omega)
            obtain ⟨z38, h39⟩ := ti_ex (if (8 : Nat) = 7 then (if z30 < z35 then z35 else z30) else (if z35 < z30 then z35 else z30) : Int32)
            have e40 : z38.toInt = min z30.toInt z35.toInt := ti_mm8 h39
            refine mp_math (i := 151) (k := 0) (v := z38) dX6_cut_87 rfl (by decide) (Nat.le_of_ble_eq_true rfl) h39 ⟨Nat.le_of_ble_eq_true rfl, Nat.le_of_ble_eq_true rfl⟩ (mpp 90 rfl ?_)
            refine mp_a (a_istore (L' := [(5, .int z38), (4, .int z30), (3, .ref b5), (0, .ref 0), (1, .int t1), (2, .int t2)]) dX6_cut_90 (by decide) rfl) (mpp 92 rfl ?_)
            refine mp_a (a_iload dX6_cut_92 rfl) (mpp 94 rfl ?_)
            refine mp_a (a_iconst (v := 2) dX6_cut_94 rfl) (mpp 95 rfl ?_)
            refine mp_Tb (t := 107) (j_icmp_ge dX6_cut_95) (by decide) (fun c41 => ?_) (fun c41 => mpp 98 rfl ?_)
            · have c41 : z38.toInt ≥ 2 := ti_ge c41
              refine mp_a (a_aload_n dX6_cut_107 rfl) (mpp 108 rfl ?_)
              refine mt_getU (i := 25) (k := 3) (A := 79) hT dX6_cut_108 rfl rl_0 (by decide) rfl (by decide) rfl un_6 (mpp 111 rfl ?_)
              refine mp_a (a_aload_n dX6_cut_111 rfl) (mpp 112 rfl ?_)
              refine mt_getU (i := 10) (k := 0) (A := 1) hT dX6_cut_112 rfl rl_0 (by decide) rfl (by decide) rfl un_31 (mpp 115 rfl ?_)
              refine mt_callv (i := 72) (q' := q_15) (As := [.ref 1]) (rest := []) hT dX6_cut_115 rfl qm_15 (by decide) rfl rl_79 (by decide) rfl (Nat.le_of_ble_eq_true rfl) rfl ⟨rfl, rfl⟩ ⟨Nat.le_of_ble_eq_true rfl, Nat.le_of_ble_eq_true rfl⟩ (EvP.mono (by decide) (c_CH_push_History_NState hT hX hJ )) (fun r42 P43 g44 => mpp 118 rfl ?_)
              obtain ⟨⟨rfl, g46⟩, hT47, k48, J51, R49⟩ := g44
              have k50 : KW [10, 11, 12, 65, 66, 67, 192, 193, 194, 256, 320, 385, 386, 1985, 2112, 2113, 2114] Po P43 := KW.trans KW.refl k48 rfl
              show MEvP _ none q_39 118 [(5, .int z38), (4, .int z30), (3, .ref b5), (0, .ref 0), (1, .int t1), (2, .int t2)] [] _ _ _ _
              refine mp_a (a_aload_n dX6_cut_118 rfl) (mpp 119 rfl ?_)
              refine mt_getE (i := 53) (k := 7) hT47 dX6_cut_119 rfl rl_0 (by decide) rfl (by decide) rfl (KW.xr k50 hX).2.2.2.2.2 (fun q52 => mpp 122 rfl ?_)
              refine mp_a (a_aload_n dX6_cut_122 rfl) (mpp 123 rfl ?_)
              refine mp_a (a_iload dX6_cut_123 rfl) (mpp 125 rfl ?_)
              have e53 : (fv P43 b5 1).toInt = (fv Po b5 1).toInt := congrArg Int32.toInt (KW.at k48 1 q6 rfl)
              have p54 : 0 ≤ z30.toInt := by omega
              have p55 : z30.toInt ≤ (fv P43 b5 1).toInt := by omega
              have p56 : (fv P43 b5 1).toInt ≤ 8 := by omega
              have p57 : 298 + 3 ≤ b5 ∨ b5 + 3 ≤ 298 := by omega
              refine mt_callv (i := 156) (q' := q_40) (As := [.ref b5, .int z30]) (rest := []) hT47 dX6_cut_125 rfl qm_40 (by decide) rfl q52 (by decide) rfl (Nat.le_of_ble_eq_true rfl) rfl ⟨rfl, rfl⟩ ⟨Nat.le_of_ble_eq_true rfl, Nat.le_of_ble_eq_true rfl⟩ (EvP.mono (by decide) (c_CP_becomeEndOf_Piece_NPiece hT47 (KW.xr k50 hX) p54 p55 p56 p57 q52 q6)) (fun r58 P59 g60 => mpp 128 rfl ?_)
              obtain ⟨⟨rfl, g62⟩, hT63, k64, R65⟩ := g60
              have k66 : KW [10, 11, 12, 65, 66, 67, 192, 193, 194, 256, 320, 385, 386, 1985, 2112, 2113, 2114] Po P59 := KW.trans k50 k64 rfl
              have J68 := Inj.kw J51 k64 rfl
              show MEvP _ none q_39 128 [(5, .int z38), (4, .int z30), (3, .ref b5), (0, .ref 0), (1, .int t1), (2, .int t2)] [] _ _ _ _
              refine mp_a (a_aload_n dX6_cut_128 rfl) (mpp 129 rfl ?_)
              refine mp_a (a_iload dX6_cut_129 rfl) (mpp 131 rfl ?_)
              refine mt_putI (i := 143) (k := 1) (x := z30) hT63 dX6_cut_131 rfl q6 (by decide) rfl (by decide) rfl ⟨by omega, by omega⟩ rfl rfl (fun P69 hT70 f71 f72 f73 => mpp 134 rfl ?_)
              have k74 : KW [10, 11, 12, 65, 66, 67, 192, 193, 194, 256, 320, 385, 386, 1985, 2112, 2113, 2114] Po P69 := KW.step k66 q6 rfl f72 f73
              have J75 := Inj.st J68 f73
              have e76 : (fv P69 b5 1).toInt = z30.toInt := congrArg Int32.toInt f71
              refine mp_a (a_aload_n dX6_cut_134 rfl) (mpp 135 rfl ?_)
              refine mt_getU (i := 10) (k := 0) (A := 1) hT70 dX6_cut_135 rfl rl_0 (by decide) rfl (by decide) rfl un_31 (mpp 138 rfl ?_)
              refine mp_a (a_aload_n dX6_cut_138 rfl) (mpp 139 rfl ?_)
              refine mt_getE (i := 53) (k := 7) hT70 dX6_cut_139 rfl rl_0 (by decide) rfl (by decide) rfl (KW.xr k74 hX).2.2.2.2.2 (fun q77 => mpp 142 rfl ?_)
              have e78 : (fv P69 1 1).toInt = (fv Po 1 1).toInt := congrArg Int32.toInt ((f72 1 1 (ne_r rl_1 q6 rfl)).trans ((KW.at k64 1 rl_1 rfl).trans (KW.at k48 1 rl_1 rfl)))
              have p79 : (fv P69 1 1).toInt ≤ 7 := by omega
              refine mt_callv (i := 90) (q' := q_27) (As := [.ref 298]) (rest := []) hT70 dX6_cut_142 rfl qm_27 (by decide) rfl rl_1 (by decide) rfl (Nat.le_of_ble_eq_true rfl) rfl ⟨rfl, rfl⟩ ⟨Nat.le_of_ble_eq_true rfl, Nat.le_of_ble_eq_true rfl⟩ (EvP.mono (by decide) (c_CS_addCopyOf_NState_Piece hT70 (KW.xr k74 hX) J75 p79 q77)) (fun r80 P81 g82 => mpp 145 rfl ?_)
              obtain ⟨⟨rfl, g84⟩, hT85, k86, J89, R87⟩ := g82
              have k88 : KW [10, 11, 12, 65, 66, 67, 192, 193, 194, 256, 320, 385, 386, 1985, 2112, 2113, 2114] Po P81 := KW.trans k74 k86 rfl
              show MEvP _ none q_39 145 [(5, .int z38), (4, .int z30), (3, .ref b5), (0, .ref 0), (1, .int t1), (2, .int t2)] [] _ _ _ _
              refine mp_a (a_aload_n dX6_cut_145 rfl) (mpp 146 rfl ?_)
              refine mt_getU (i := 10) (k := 0) (A := 1) hT85 dX6_cut_146 rfl rl_0 (by decide) rfl (by decide) rfl un_31 (mpp 149 rfl ?_)
              have g90 : (0 : Int) ≤ (fv P81 1 1).toInt ∧ (fv P81 1 1).toInt ≤ 8 := Typ.rng hT85 rl_1 (by decide) (by decide) rfl
              refine mt_getI (i := 87) (k := 1) hT85 dX6_cut_149 rfl rl_1 (by decide) rfl (by decide) rfl (fun g91 g92 => mpp 152 rfl ?_)
              refine mp_a (a_iconst (v := 1) dX6_cut_152 rfl) (mpp 153 rfl ?_)
              obtain ⟨z93, h94⟩ := ti_ex ((fv P81 1 1) - 1 : Int32)
              have wz93 := ti_full z93
              refine mp_t (s_isub (v := z93) dX6_cut_153 h94) (mpp 154 rfl ?_)
              try have e95 : z93.toInt = (fv P81 1 1).toInt - 1 := ti_subz h94 rfl rfl (by omega) (by omega)
              have e97 : (fv P43 1 1).toInt = (fv Po 1 1).toInt := congrArg Int32.toInt (R49.2.2.2.2.2 1 1 (by omega))
              have e98 : (fv P43 1 2).toInt = (fv Po 1 2).toInt := congrArg Int32.toInt (R49.2.2.2.2.2 1 2 (by omega))
              have e99 : (fv P43 1 3).toInt = (fv Po 1 3).toInt := congrArg Int32.toInt (R49.2.2.2.2.2 1 3 (by omega))
              have e100 : (fv P59 1 1).toInt = (fv P43 1 1).toInt := congrArg Int32.toInt (R65.2.2.2.2.2 1 1 (by omega))
              have e101 : (fv P59 1 2).toInt = (fv P43 1 2).toInt := congrArg Int32.toInt (R65.2.2.2.2.2 1 2 (by omega))
              have e102 : (fv P59 1 3).toInt = (fv P43 1 3).toInt := congrArg Int32.toInt (R65.2.2.2.2.2 1 3 (by omega))
              have e103 : (fv P69 1 1).toInt = (fv P59 1 1).toInt := congrArg Int32.toInt (f72 1 1 (by omega))
              have e104 : (fv P69 1 2).toInt = (fv P59 1 2).toInt := congrArg Int32.toInt (f72 1 2 (by omega))
              have e105 : (fv P69 1 3).toInt = (fv P59 1 3).toInt := congrArg Int32.toInt (f72 1 3 (by omega))
              have e106 : (fv P81 1 2).toInt = (fv P69 1 2).toInt := congrArg Int32.toInt (R87.2.1)
              have e107 : (fv P81 1 3).toInt = (fv P69 1 3).toInt := congrArg Int32.toInt (R87.2.2.1)
              have v108_ : ∀ k : Nat, rv P69 2 k = rv Po 2 k := fun k => by rw [f73 2 k, k64.2.2 rfl k, k48.2.2 rfl k]
              have v109_ := R87.2.2.2.1
              rw [v108_, show (fv P69 1 1).toInt.toNat = (fv Po 1 1).toInt.toNat from by omega] at v109_
              have w111_ := R87.2.2.2.2.1 t1.toInt.toNat (by omega) (by omega)
              rw [v108_, q6r.2.2.2] at w111_
              have w112_ := congrArg Int32.toInt w111_.2.1
              have u96 : KPX Po P81 ∧ cutC Po P81 z93.toInt t1.toInt t2.toInt := ⟨⟨by rw [R87.2.2.2.2.2 0 8 (by omega), f72 0 8 (by omega), R65.2.2.2.2.2 0 8 (by omega), R49.2.2.2.2.2 0 8 (by omega)], fun x j hx => by rw [R87.2.2.2.2.2 x j (by omega), f72 x j (by omega), R65.2.2.2.2.2 x j (by omega), R49.2.2.2.2.2 x j (by omega)]⟩, (show (z93.toInt = -1001 ∧ ((t1.toInt < 0 ∨ (fv Po 1 1).toInt ≤ t1.toInt ∨ 8 ≤ t1.toInt) ∨ ((0 ≤ t1.toInt ∧ t1.toInt + 1 ≤ (fv Po 1 1).toInt ∧ t1.toInt ≤ 7) ∧ (t2.toInt < 0 ∨ ((fv Po (rv Po 2 t1.toInt.toNat) 0).toInt = 0 ∧ (fv Po (rv Po 2 t1.toInt.toNat) 1).toInt - 1 ≤ t2.toInt) ∨ ((fv Po (rv Po 2 t1.toInt.toNat) 0).toInt ≠ 0 ∧ (fv Po (rv Po 2 t1.toInt.toNat) 1).toInt ≤ t2.toInt)))) ∧ NCH Po P81) ∨ (z93.toInt = -1003 ∧ (0 ≤ t1.toInt ∧ t1.toInt + 1 ≤ (fv Po 1 1).toInt ∧ t1.toInt ≤ 7) ∧ (0 ≤ t2.toInt ∧ (((fv Po (rv Po 2 t1.toInt.toNat) 0).toInt = 0 ∧ t2.toInt < (fv Po (rv Po 2 t1.toInt.toNat) 1).toInt - 1) ∨ ((fv Po (rv Po 2 t1.toInt.toNat) 0).toInt ≠ 0 ∧ t2.toInt < (fv Po (rv Po 2 t1.toInt.toNat) 1).toInt))) ∧ (8 ≤ (fv Po 1 1).toInt ∨ (fv Po (rv Po 2 t1.toInt.toNat) 2).toInt = 1 ∨ ¬ (fv Po (rv Po 2 t1.toInt.toNat) 0).toInt = 0 ∨ t2.toInt + 1 < 2 ∨ (fv Po (rv Po 2 t1.toInt.toNat) 1).toInt - (t2.toInt + 1) < 2) ∧ NCH Po P81) ∨ ((0 ≤ t1.toInt ∧ t1.toInt + 1 ≤ (fv Po 1 1).toInt ∧ t1.toInt ≤ 7) ∧ (0 ≤ t2.toInt ∧ (((fv Po (rv Po 2 t1.toInt.toNat) 0).toInt = 0 ∧ t2.toInt < (fv Po (rv Po 2 t1.toInt.toNat) 1).toInt - 1) ∨ ((fv Po (rv Po 2 t1.toInt.toNat) 0).toInt ≠ 0 ∧ t2.toInt < (fv Po (rv Po 2 t1.toInt.toNat) 1).toInt))) ∧ ((fv Po 1 1).toInt ≤ 7 ∧ (fv Po (rv Po 2 t1.toInt.toNat) 2).toInt = 0 ∧ (fv Po (rv Po 2 t1.toInt.toNat) 0).toInt = 0 ∧ 2 ≤ t2.toInt + 1 ∧ 2 ≤ (fv Po (rv Po 2 t1.toInt.toNat) 1).toInt - (t2.toInt + 1)) ∧ z93.toInt = (fv Po 1 1).toInt ∧ PSH Po P81 ∧ (fv P81 1 1).toInt = (fv Po 1 1).toInt + 1 ∧ (fv P81 1 2).toInt = (fv Po 1 2).toInt ∧ (fv P81 1 3).toInt = (fv Po 1 3).toInt ∧ (fv P81 (rv Po 2 t1.toInt.toNat) 1).toInt = t2.toInt + 1 ∧ (fv P81 (rv Po 2 (fv Po 1 1).toInt.toNat) 0).toInt = 0 ∧ (fv P81 (rv Po 2 (fv Po 1 1).toInt.toNat) 2).toInt = 0 ∧ (fv P81 (rv Po 2 (fv Po 1 1).toInt.toNat) 1).toInt = (fv Po (rv Po 2 t1.toInt.toNat) 1).toInt - (t2.toInt + 1) ∧ (∀ j : Nat, j < 8 → (j : Int) < (fv Po (rv Po 2 t1.toInt.toNat) 1).toInt - (t2.toInt + 1) → fv P81 ((rv Po 2 (fv Po 1 1).toInt.toNat) + 1) j = fv Po ((rv Po 2 t1.toInt.toNat) + 1) ((t2.toInt + 1).toNat + j)) ∧ (∀ j : Nat, j < 8 → (j : Int) < (fv Po (rv Po 2 t1.toInt.toNat) 1).toInt - (t2.toInt + 1) → fv P81 ((rv Po 2 (fv Po 1 1).toInt.toNat) + 2) j = fv Po ((rv Po 2 t1.toInt.toNat) + 2) ((t2.toInt + 1).toNat + j)) ∧ (∀ k : Nat, k < 8 → ¬ (k : Int) = (fv Po 1 1).toInt → PEx P81 Po (rv Po 2 k) (rv Po 2 t1.toInt.toNat)) ∧ ∀ k : Nat, rv P81 2 k = rv Po 2 k) from by rw [q6r.2.2.2]; exact Or.inr (Or.inr (⟨by omega, by omega, by omega, by omega, PSH.mk (P := Po) (Q := P43) hT R49.1 R49.2.1 R49.2.2.1 R49.2.2.2.1 R49.2.2.2.2.1 (fun x j h1 h2 => by rw [R87.2.2.2.2.2 x j (by omega), f72 x j (by omega), R65.2.2.2.2.2 x j (by omega)]) (fun x j hx => rfl) (fun k => rfl) (Typ.rng hT rl_79 (by decide) (by decide) rfl), by omega, by omega, by omega, by omega, by have w := congrArg Int32.toInt (v109_.1.trans (f72 298 0 (by omega))); have w2 := R65.1; omega, by have w := congrArg Int32.toInt (v109_.2.2.1.trans (f72 298 2 (by omega))); have w2 := R65.2.1; omega, by have w := congrArg Int32.toInt (v109_.2.1.trans (f72 298 1 (by omega))); have w2 := R65.2.2.1; omega, fun j h8 hj => (v109_.2.2.2.1 j h8).trans ((f72 (298 + 1) j (by omega)).trans ((R65.2.2.2.1.1 j (by omega)).trans (show fv P43 (b5 + 1) (z30.toInt.toNat + j) = fv Po (b5 + 1) ((t2.toInt + 1).toNat + j) from by rw [show (t2.toInt + 1).toNat + j = z30.toInt.toNat + j from by omega]; exact by rw [R49.2.2.2.2.2 (b5 + 1) _ (by omega)]))), fun j h8 hj => (v109_.2.2.2.2 j h8).trans ((f72 (298 + 2) j (by omega)).trans ((R65.2.2.2.2.1.1 j (by omega)).trans (show fv P43 (b5 + 2) (z30.toInt.toNat + j) = fv Po (b5 + 2) ((t2.toInt + 1).toNat + j) from by rw [show (t2.toInt + 1).toNat + j = z30.toInt.toNat + j from by omega]; exact by rw [R49.2.2.2.2.2 (b5 + 2) _ (by omega)]))), PEx.mk hT v108_ R87.2.2.2.2.1 (fun x j h1 h2 h3 => by rw [f72 x j (by omega), R65.2.2.2.2.2 x j (by omega), R49.2.2.2.2.2 x j (by omega)]) (by omega) (by omega), fun k => by rw [k86.2.2 rfl k, f73 2 k, k64.2.2 rfl k, k48.2.2 rfl k]⟩)))⟩
              exact mp_iret ⟨⟨_, rfl, u96⟩, hT85, k88, J89, trivial⟩ dX6_cut_154 (Or.inl rfl)
            · have c41 : z38.toInt < 2 := ti_ge_n c41
              refine mp_a (a_aload_n dX6_cut_98 rfl) (mpp 99 rfl ?_)
              refine mp_a (a_bipush (v := 6) dX6_cut_99 rfl) (mpp 101 rfl ?_)
              refine mp_a (a_iload dX6_cut_101 rfl) (mpp 103 rfl ?_)
              refine mt_callv (i := 68) (q' := q_14) (As := [.int 6, .int z38]) (rest := []) hT dX6_cut_103 rfl qm_14 (by decide) rfl rl_0 (by decide) rfl (Nat.le_of_ble_eq_true rfl) rfl ⟨rfl, rfl⟩ ⟨Nat.le_of_ble_eq_true rfl, Nat.le_of_ble_eq_true rfl⟩ (EvP.mono (by decide) (c_F_refuse hT hX )) (fun r113 P114 g115 => mpp 106 rfl ?_)
              obtain ⟨⟨x116, rfl, g117⟩, hT118, k119, R120⟩ := g115
              have k121 : KW [10, 11, 12, 65, 66, 67, 192, 193, 194, 256, 320, 385, 386, 1985, 2112, 2113, 2114] Po P114 := KW.trans KW.refl k119 rfl
              have J123 := Inj.kw hJ k119 rfl
              have wx116 := ti_full x116
              replace g117 : x116.toInt = -1003 := g117
              show MEvP _ none q_39 106 [(5, .int z38), (4, .int z30), (3, .ref b5), (0, .ref 0), (1, .int t1), (2, .int t2)] [.int x116] _ _ _ _
              have e125 : (fv P114 1 1).toInt = (fv Po 1 1).toInt := congrArg Int32.toInt (R120.2 1 1 (by omega))
              have e126 : (fv P114 1 2).toInt = (fv Po 1 2).toInt := congrArg Int32.toInt (R120.2 1 2 (by omega))
              have e127 : (fv P114 1 3).toInt = (fv Po 1 3).toInt := congrArg Int32.toInt (R120.2 1 3 (by omega))
              have u124 : KPX Po P114 ∧ cutC Po P114 x116.toInt t1.toInt t2.toInt := ⟨⟨by rw [R120.1], fun x j hx => by rw [R120.2 x j (by omega)]⟩, (show (x116.toInt = -1001 ∧ ((t1.toInt < 0 ∨ (fv Po 1 1).toInt ≤ t1.toInt ∨ 8 ≤ t1.toInt) ∨ ((0 ≤ t1.toInt ∧ t1.toInt + 1 ≤ (fv Po 1 1).toInt ∧ t1.toInt ≤ 7) ∧ (t2.toInt < 0 ∨ ((fv Po (rv Po 2 t1.toInt.toNat) 0).toInt = 0 ∧ (fv Po (rv Po 2 t1.toInt.toNat) 1).toInt - 1 ≤ t2.toInt) ∨ ((fv Po (rv Po 2 t1.toInt.toNat) 0).toInt ≠ 0 ∧ (fv Po (rv Po 2 t1.toInt.toNat) 1).toInt ≤ t2.toInt)))) ∧ NCH Po P114) ∨ (x116.toInt = -1003 ∧ (0 ≤ t1.toInt ∧ t1.toInt + 1 ≤ (fv Po 1 1).toInt ∧ t1.toInt ≤ 7) ∧ (0 ≤ t2.toInt ∧ (((fv Po (rv Po 2 t1.toInt.toNat) 0).toInt = 0 ∧ t2.toInt < (fv Po (rv Po 2 t1.toInt.toNat) 1).toInt - 1) ∨ ((fv Po (rv Po 2 t1.toInt.toNat) 0).toInt ≠ 0 ∧ t2.toInt < (fv Po (rv Po 2 t1.toInt.toNat) 1).toInt))) ∧ (8 ≤ (fv Po 1 1).toInt ∨ (fv Po (rv Po 2 t1.toInt.toNat) 2).toInt = 1 ∨ ¬ (fv Po (rv Po 2 t1.toInt.toNat) 0).toInt = 0 ∨ t2.toInt + 1 < 2 ∨ (fv Po (rv Po 2 t1.toInt.toNat) 1).toInt - (t2.toInt + 1) < 2) ∧ NCH Po P114) ∨ ((0 ≤ t1.toInt ∧ t1.toInt + 1 ≤ (fv Po 1 1).toInt ∧ t1.toInt ≤ 7) ∧ (0 ≤ t2.toInt ∧ (((fv Po (rv Po 2 t1.toInt.toNat) 0).toInt = 0 ∧ t2.toInt < (fv Po (rv Po 2 t1.toInt.toNat) 1).toInt - 1) ∨ ((fv Po (rv Po 2 t1.toInt.toNat) 0).toInt ≠ 0 ∧ t2.toInt < (fv Po (rv Po 2 t1.toInt.toNat) 1).toInt))) ∧ ((fv Po 1 1).toInt ≤ 7 ∧ (fv Po (rv Po 2 t1.toInt.toNat) 2).toInt = 0 ∧ (fv Po (rv Po 2 t1.toInt.toNat) 0).toInt = 0 ∧ 2 ≤ t2.toInt + 1 ∧ 2 ≤ (fv Po (rv Po 2 t1.toInt.toNat) 1).toInt - (t2.toInt + 1)) ∧ x116.toInt = (fv Po 1 1).toInt ∧ PSH Po P114 ∧ (fv P114 1 1).toInt = (fv Po 1 1).toInt + 1 ∧ (fv P114 1 2).toInt = (fv Po 1 2).toInt ∧ (fv P114 1 3).toInt = (fv Po 1 3).toInt ∧ (fv P114 (rv Po 2 t1.toInt.toNat) 1).toInt = t2.toInt + 1 ∧ (fv P114 (rv Po 2 (fv Po 1 1).toInt.toNat) 0).toInt = 0 ∧ (fv P114 (rv Po 2 (fv Po 1 1).toInt.toNat) 2).toInt = 0 ∧ (fv P114 (rv Po 2 (fv Po 1 1).toInt.toNat) 1).toInt = (fv Po (rv Po 2 t1.toInt.toNat) 1).toInt - (t2.toInt + 1) ∧ (∀ j : Nat, j < 8 → (j : Int) < (fv Po (rv Po 2 t1.toInt.toNat) 1).toInt - (t2.toInt + 1) → fv P114 ((rv Po 2 (fv Po 1 1).toInt.toNat) + 1) j = fv Po ((rv Po 2 t1.toInt.toNat) + 1) ((t2.toInt + 1).toNat + j)) ∧ (∀ j : Nat, j < 8 → (j : Int) < (fv Po (rv Po 2 t1.toInt.toNat) 1).toInt - (t2.toInt + 1) → fv P114 ((rv Po 2 (fv Po 1 1).toInt.toNat) + 2) j = fv Po ((rv Po 2 t1.toInt.toNat) + 2) ((t2.toInt + 1).toNat + j)) ∧ (∀ k : Nat, k < 8 → ¬ (k : Int) = (fv Po 1 1).toInt → PEx P114 Po (rv Po 2 k) (rv Po 2 t1.toInt.toNat)) ∧ ∀ k : Nat, rv P114 2 k = rv Po 2 k) from by rw [q6r.2.2.2]; exact Or.inr (Or.inl (⟨by omega, by omega, by omega, by omega, ⟨fun x j h1 h2 => by rw [R120.2 x j (by omega)], fun k => by rw [k119.2.2 rfl k]⟩⟩)))⟩
              exact mp_iret ⟨⟨_, rfl, u124⟩, hT118, k121, J123, trivial⟩ dX6_cut_106 (Or.inl rfl)
          · have c29 : (fv Po b5 0).toInt ≠ 0 := ti_eq_n c29
            refine mp_a (a_aload_n dX6_cut_66 rfl) (mpp 67 rfl ?_)
            refine mp_a (a_iconst (v := 3) dX6_cut_67 rfl) (mpp 68 rfl ?_)
            refine mp_a (a_iload_n dX6_cut_68 rfl) (mpp 69 rfl ?_)
            refine mt_callv (i := 68) (q' := q_14) (As := [.int 3, .int t1]) (rest := []) hT dX6_cut_69 rfl qm_14 (by decide) rfl rl_0 (by decide) rfl (Nat.le_of_ble_eq_true rfl) rfl ⟨rfl, rfl⟩ ⟨Nat.le_of_ble_eq_true rfl, Nat.le_of_ble_eq_true rfl⟩ (EvP.mono (by decide) (c_F_refuse hT hX )) (fun r128 P129 g130 => mpp 72 rfl ?_)
            obtain ⟨⟨x131, rfl, g132⟩, hT133, k134, R135⟩ := g130
            have k136 : KW [10, 11, 12, 65, 66, 67, 192, 193, 194, 256, 320, 385, 386, 1985, 2112, 2113, 2114] Po P129 := KW.trans KW.refl k134 rfl
            have J138 := Inj.kw hJ k134 rfl
            have wx131 := ti_full x131
            replace g132 : x131.toInt = -1003 := g132
            show MEvP _ none q_39 72 [(3, .ref b5), (0, .ref 0), (1, .int t1), (2, .int t2)] [.int x131] _ _ _ _
            have e140 : (fv P129 1 1).toInt = (fv Po 1 1).toInt := congrArg Int32.toInt (R135.2 1 1 (by omega))
            have e141 : (fv P129 1 2).toInt = (fv Po 1 2).toInt := congrArg Int32.toInt (R135.2 1 2 (by omega))
            have e142 : (fv P129 1 3).toInt = (fv Po 1 3).toInt := congrArg Int32.toInt (R135.2 1 3 (by omega))
            have u139 : KPX Po P129 ∧ cutC Po P129 x131.toInt t1.toInt t2.toInt := ⟨⟨by rw [R135.1], fun x j hx => by rw [R135.2 x j (by omega)]⟩, (show (x131.toInt = -1001 ∧ ((t1.toInt < 0 ∨ (fv Po 1 1).toInt ≤ t1.toInt ∨ 8 ≤ t1.toInt) ∨ ((0 ≤ t1.toInt ∧ t1.toInt + 1 ≤ (fv Po 1 1).toInt ∧ t1.toInt ≤ 7) ∧ (t2.toInt < 0 ∨ ((fv Po (rv Po 2 t1.toInt.toNat) 0).toInt = 0 ∧ (fv Po (rv Po 2 t1.toInt.toNat) 1).toInt - 1 ≤ t2.toInt) ∨ ((fv Po (rv Po 2 t1.toInt.toNat) 0).toInt ≠ 0 ∧ (fv Po (rv Po 2 t1.toInt.toNat) 1).toInt ≤ t2.toInt)))) ∧ NCH Po P129) ∨ (x131.toInt = -1003 ∧ (0 ≤ t1.toInt ∧ t1.toInt + 1 ≤ (fv Po 1 1).toInt ∧ t1.toInt ≤ 7) ∧ (0 ≤ t2.toInt ∧ (((fv Po (rv Po 2 t1.toInt.toNat) 0).toInt = 0 ∧ t2.toInt < (fv Po (rv Po 2 t1.toInt.toNat) 1).toInt - 1) ∨ ((fv Po (rv Po 2 t1.toInt.toNat) 0).toInt ≠ 0 ∧ t2.toInt < (fv Po (rv Po 2 t1.toInt.toNat) 1).toInt))) ∧ (8 ≤ (fv Po 1 1).toInt ∨ (fv Po (rv Po 2 t1.toInt.toNat) 2).toInt = 1 ∨ ¬ (fv Po (rv Po 2 t1.toInt.toNat) 0).toInt = 0 ∨ t2.toInt + 1 < 2 ∨ (fv Po (rv Po 2 t1.toInt.toNat) 1).toInt - (t2.toInt + 1) < 2) ∧ NCH Po P129) ∨ ((0 ≤ t1.toInt ∧ t1.toInt + 1 ≤ (fv Po 1 1).toInt ∧ t1.toInt ≤ 7) ∧ (0 ≤ t2.toInt ∧ (((fv Po (rv Po 2 t1.toInt.toNat) 0).toInt = 0 ∧ t2.toInt < (fv Po (rv Po 2 t1.toInt.toNat) 1).toInt - 1) ∨ ((fv Po (rv Po 2 t1.toInt.toNat) 0).toInt ≠ 0 ∧ t2.toInt < (fv Po (rv Po 2 t1.toInt.toNat) 1).toInt))) ∧ ((fv Po 1 1).toInt ≤ 7 ∧ (fv Po (rv Po 2 t1.toInt.toNat) 2).toInt = 0 ∧ (fv Po (rv Po 2 t1.toInt.toNat) 0).toInt = 0 ∧ 2 ≤ t2.toInt + 1 ∧ 2 ≤ (fv Po (rv Po 2 t1.toInt.toNat) 1).toInt - (t2.toInt + 1)) ∧ x131.toInt = (fv Po 1 1).toInt ∧ PSH Po P129 ∧ (fv P129 1 1).toInt = (fv Po 1 1).toInt + 1 ∧ (fv P129 1 2).toInt = (fv Po 1 2).toInt ∧ (fv P129 1 3).toInt = (fv Po 1 3).toInt ∧ (fv P129 (rv Po 2 t1.toInt.toNat) 1).toInt = t2.toInt + 1 ∧ (fv P129 (rv Po 2 (fv Po 1 1).toInt.toNat) 0).toInt = 0 ∧ (fv P129 (rv Po 2 (fv Po 1 1).toInt.toNat) 2).toInt = 0 ∧ (fv P129 (rv Po 2 (fv Po 1 1).toInt.toNat) 1).toInt = (fv Po (rv Po 2 t1.toInt.toNat) 1).toInt - (t2.toInt + 1) ∧ (∀ j : Nat, j < 8 → (j : Int) < (fv Po (rv Po 2 t1.toInt.toNat) 1).toInt - (t2.toInt + 1) → fv P129 ((rv Po 2 (fv Po 1 1).toInt.toNat) + 1) j = fv Po ((rv Po 2 t1.toInt.toNat) + 1) ((t2.toInt + 1).toNat + j)) ∧ (∀ j : Nat, j < 8 → (j : Int) < (fv Po (rv Po 2 t1.toInt.toNat) 1).toInt - (t2.toInt + 1) → fv P129 ((rv Po 2 (fv Po 1 1).toInt.toNat) + 2) j = fv Po ((rv Po 2 t1.toInt.toNat) + 2) ((t2.toInt + 1).toNat + j)) ∧ (∀ k : Nat, k < 8 → ¬ (k : Int) = (fv Po 1 1).toInt → PEx P129 Po (rv Po 2 k) (rv Po 2 t1.toInt.toNat)) ∧ ∀ k : Nat, rv P129 2 k = rv Po 2 k) from by rw [q6r.2.2.2]; exact Or.inr (Or.inl (⟨by omega, by omega, by omega, by omega, ⟨fun x j h1 h2 => by rw [R135.2 x j (by omega)], fun k => by rw [k134.2.2 rfl k]⟩⟩)))⟩
            exact mp_iret ⟨⟨_, rfl, u139⟩, hT133, k136, J138, trivial⟩ dX6_cut_72 (Or.inl rfl)
        · have c26 : (fv Po b5 2).toInt ≠ 0 := ti_eq_n c26
          refine mp_a (a_aload_n dX6_cut_52 rfl) (mpp 53 rfl ?_)
          refine mp_a (a_iconst (v := 2) dX6_cut_53 rfl) (mpp 54 rfl ?_)
          refine mp_a (a_iload_n dX6_cut_54 rfl) (mpp 55 rfl ?_)
          refine mt_callv (i := 68) (q' := q_14) (As := [.int 2, .int t1]) (rest := []) hT dX6_cut_55 rfl qm_14 (by decide) rfl rl_0 (by decide) rfl (Nat.le_of_ble_eq_true rfl) rfl ⟨rfl, rfl⟩ ⟨Nat.le_of_ble_eq_true rfl, Nat.le_of_ble_eq_true rfl⟩ (EvP.mono (by decide) (c_F_refuse hT hX )) (fun r143 P144 g145 => mpp 58 rfl ?_)
          obtain ⟨⟨x146, rfl, g147⟩, hT148, k149, R150⟩ := g145
          have k151 : KW [10, 11, 12, 65, 66, 67, 192, 193, 194, 256, 320, 385, 386, 1985, 2112, 2113, 2114] Po P144 := KW.trans KW.refl k149 rfl
          have J153 := Inj.kw hJ k149 rfl
          have wx146 := ti_full x146
          replace g147 : x146.toInt = -1003 := g147
          show MEvP _ none q_39 58 [(3, .ref b5), (0, .ref 0), (1, .int t1), (2, .int t2)] [.int x146] _ _ _ _
          have e155 : (fv P144 1 1).toInt = (fv Po 1 1).toInt := congrArg Int32.toInt (R150.2 1 1 (by omega))
          have e156 : (fv P144 1 2).toInt = (fv Po 1 2).toInt := congrArg Int32.toInt (R150.2 1 2 (by omega))
          have e157 : (fv P144 1 3).toInt = (fv Po 1 3).toInt := congrArg Int32.toInt (R150.2 1 3 (by omega))
          have u154 : KPX Po P144 ∧ cutC Po P144 x146.toInt t1.toInt t2.toInt := ⟨⟨by rw [R150.1], fun x j hx => by rw [R150.2 x j (by omega)]⟩, (show (x146.toInt = -1001 ∧ ((t1.toInt < 0 ∨ (fv Po 1 1).toInt ≤ t1.toInt ∨ 8 ≤ t1.toInt) ∨ ((0 ≤ t1.toInt ∧ t1.toInt + 1 ≤ (fv Po 1 1).toInt ∧ t1.toInt ≤ 7) ∧ (t2.toInt < 0 ∨ ((fv Po (rv Po 2 t1.toInt.toNat) 0).toInt = 0 ∧ (fv Po (rv Po 2 t1.toInt.toNat) 1).toInt - 1 ≤ t2.toInt) ∨ ((fv Po (rv Po 2 t1.toInt.toNat) 0).toInt ≠ 0 ∧ (fv Po (rv Po 2 t1.toInt.toNat) 1).toInt ≤ t2.toInt)))) ∧ NCH Po P144) ∨ (x146.toInt = -1003 ∧ (0 ≤ t1.toInt ∧ t1.toInt + 1 ≤ (fv Po 1 1).toInt ∧ t1.toInt ≤ 7) ∧ (0 ≤ t2.toInt ∧ (((fv Po (rv Po 2 t1.toInt.toNat) 0).toInt = 0 ∧ t2.toInt < (fv Po (rv Po 2 t1.toInt.toNat) 1).toInt - 1) ∨ ((fv Po (rv Po 2 t1.toInt.toNat) 0).toInt ≠ 0 ∧ t2.toInt < (fv Po (rv Po 2 t1.toInt.toNat) 1).toInt))) ∧ (8 ≤ (fv Po 1 1).toInt ∨ (fv Po (rv Po 2 t1.toInt.toNat) 2).toInt = 1 ∨ ¬ (fv Po (rv Po 2 t1.toInt.toNat) 0).toInt = 0 ∨ t2.toInt + 1 < 2 ∨ (fv Po (rv Po 2 t1.toInt.toNat) 1).toInt - (t2.toInt + 1) < 2) ∧ NCH Po P144) ∨ ((0 ≤ t1.toInt ∧ t1.toInt + 1 ≤ (fv Po 1 1).toInt ∧ t1.toInt ≤ 7) ∧ (0 ≤ t2.toInt ∧ (((fv Po (rv Po 2 t1.toInt.toNat) 0).toInt = 0 ∧ t2.toInt < (fv Po (rv Po 2 t1.toInt.toNat) 1).toInt - 1) ∨ ((fv Po (rv Po 2 t1.toInt.toNat) 0).toInt ≠ 0 ∧ t2.toInt < (fv Po (rv Po 2 t1.toInt.toNat) 1).toInt))) ∧ ((fv Po 1 1).toInt ≤ 7 ∧ (fv Po (rv Po 2 t1.toInt.toNat) 2).toInt = 0 ∧ (fv Po (rv Po 2 t1.toInt.toNat) 0).toInt = 0 ∧ 2 ≤ t2.toInt + 1 ∧ 2 ≤ (fv Po (rv Po 2 t1.toInt.toNat) 1).toInt - (t2.toInt + 1)) ∧ x146.toInt = (fv Po 1 1).toInt ∧ PSH Po P144 ∧ (fv P144 1 1).toInt = (fv Po 1 1).toInt + 1 ∧ (fv P144 1 2).toInt = (fv Po 1 2).toInt ∧ (fv P144 1 3).toInt = (fv Po 1 3).toInt ∧ (fv P144 (rv Po 2 t1.toInt.toNat) 1).toInt = t2.toInt + 1 ∧ (fv P144 (rv Po 2 (fv Po 1 1).toInt.toNat) 0).toInt = 0 ∧ (fv P144 (rv Po 2 (fv Po 1 1).toInt.toNat) 2).toInt = 0 ∧ (fv P144 (rv Po 2 (fv Po 1 1).toInt.toNat) 1).toInt = (fv Po (rv Po 2 t1.toInt.toNat) 1).toInt - (t2.toInt + 1) ∧ (∀ j : Nat, j < 8 → (j : Int) < (fv Po (rv Po 2 t1.toInt.toNat) 1).toInt - (t2.toInt + 1) → fv P144 ((rv Po 2 (fv Po 1 1).toInt.toNat) + 1) j = fv Po ((rv Po 2 t1.toInt.toNat) + 1) ((t2.toInt + 1).toNat + j)) ∧ (∀ j : Nat, j < 8 → (j : Int) < (fv Po (rv Po 2 t1.toInt.toNat) 1).toInt - (t2.toInt + 1) → fv P144 ((rv Po 2 (fv Po 1 1).toInt.toNat) + 2) j = fv Po ((rv Po 2 t1.toInt.toNat) + 2) ((t2.toInt + 1).toNat + j)) ∧ (∀ k : Nat, k < 8 → ¬ (k : Int) = (fv Po 1 1).toInt → PEx P144 Po (rv Po 2 k) (rv Po 2 t1.toInt.toNat)) ∧ ∀ k : Nat, rv P144 2 k = rv Po 2 k) from by rw [q6r.2.2.2]; exact Or.inr (Or.inl (⟨by omega, by omega, by omega, by omega, ⟨fun x j h1 h2 => by rw [R150.2 x j (by omega)], fun k => by rw [k149.2.2 rfl k]⟩⟩)))⟩
          exact mp_iret ⟨⟨_, rfl, u154⟩, hT148, k151, J153, trivial⟩ dX6_cut_58 (Or.inl rfl)
      · have c22 : (fv Po 1 1).toInt ≥ 8 := ti_lt_n c22
        refine mp_a (a_aload_n dX6_cut_37 rfl) (mpp 38 rfl ?_)
        refine mp_a (a_iconst (v := 1) dX6_cut_38 rfl) (mpp 39 rfl ?_)
        refine mp_a (a_bipush (v := 8) dX6_cut_39 rfl) (mpp 41 rfl ?_)
        refine mt_callv (i := 68) (q' := q_14) (As := [.int 1, .int 8]) (rest := []) hT dX6_cut_41 rfl qm_14 (by decide) rfl rl_0 (by decide) rfl (Nat.le_of_ble_eq_true rfl) rfl ⟨rfl, rfl⟩ ⟨Nat.le_of_ble_eq_true rfl, Nat.le_of_ble_eq_true rfl⟩ (EvP.mono (by decide) (c_F_refuse hT hX )) (fun r158 P159 g160 => mpp 44 rfl ?_)
        obtain ⟨⟨x161, rfl, g162⟩, hT163, k164, R165⟩ := g160
        have k166 : KW [10, 11, 12, 65, 66, 67, 192, 193, 194, 256, 320, 385, 386, 1985, 2112, 2113, 2114] Po P159 := KW.trans KW.refl k164 rfl
        have J168 := Inj.kw hJ k164 rfl
        have wx161 := ti_full x161
        replace g162 : x161.toInt = -1003 := g162
        show MEvP _ none q_39 44 [(3, .ref b5), (0, .ref 0), (1, .int t1), (2, .int t2)] [.int x161] _ _ _ _
        have e170 : (fv P159 1 1).toInt = (fv Po 1 1).toInt := congrArg Int32.toInt (R165.2 1 1 (by omega))
        have e171 : (fv P159 1 2).toInt = (fv Po 1 2).toInt := congrArg Int32.toInt (R165.2 1 2 (by omega))
        have e172 : (fv P159 1 3).toInt = (fv Po 1 3).toInt := congrArg Int32.toInt (R165.2 1 3 (by omega))
        have u169 : KPX Po P159 ∧ cutC Po P159 x161.toInt t1.toInt t2.toInt := ⟨⟨by rw [R165.1], fun x j hx => by rw [R165.2 x j (by omega)]⟩, (show (x161.toInt = -1001 ∧ ((t1.toInt < 0 ∨ (fv Po 1 1).toInt ≤ t1.toInt ∨ 8 ≤ t1.toInt) ∨ ((0 ≤ t1.toInt ∧ t1.toInt + 1 ≤ (fv Po 1 1).toInt ∧ t1.toInt ≤ 7) ∧ (t2.toInt < 0 ∨ ((fv Po (rv Po 2 t1.toInt.toNat) 0).toInt = 0 ∧ (fv Po (rv Po 2 t1.toInt.toNat) 1).toInt - 1 ≤ t2.toInt) ∨ ((fv Po (rv Po 2 t1.toInt.toNat) 0).toInt ≠ 0 ∧ (fv Po (rv Po 2 t1.toInt.toNat) 1).toInt ≤ t2.toInt)))) ∧ NCH Po P159) ∨ (x161.toInt = -1003 ∧ (0 ≤ t1.toInt ∧ t1.toInt + 1 ≤ (fv Po 1 1).toInt ∧ t1.toInt ≤ 7) ∧ (0 ≤ t2.toInt ∧ (((fv Po (rv Po 2 t1.toInt.toNat) 0).toInt = 0 ∧ t2.toInt < (fv Po (rv Po 2 t1.toInt.toNat) 1).toInt - 1) ∨ ((fv Po (rv Po 2 t1.toInt.toNat) 0).toInt ≠ 0 ∧ t2.toInt < (fv Po (rv Po 2 t1.toInt.toNat) 1).toInt))) ∧ (8 ≤ (fv Po 1 1).toInt ∨ (fv Po (rv Po 2 t1.toInt.toNat) 2).toInt = 1 ∨ ¬ (fv Po (rv Po 2 t1.toInt.toNat) 0).toInt = 0 ∨ t2.toInt + 1 < 2 ∨ (fv Po (rv Po 2 t1.toInt.toNat) 1).toInt - (t2.toInt + 1) < 2) ∧ NCH Po P159) ∨ ((0 ≤ t1.toInt ∧ t1.toInt + 1 ≤ (fv Po 1 1).toInt ∧ t1.toInt ≤ 7) ∧ (0 ≤ t2.toInt ∧ (((fv Po (rv Po 2 t1.toInt.toNat) 0).toInt = 0 ∧ t2.toInt < (fv Po (rv Po 2 t1.toInt.toNat) 1).toInt - 1) ∨ ((fv Po (rv Po 2 t1.toInt.toNat) 0).toInt ≠ 0 ∧ t2.toInt < (fv Po (rv Po 2 t1.toInt.toNat) 1).toInt))) ∧ ((fv Po 1 1).toInt ≤ 7 ∧ (fv Po (rv Po 2 t1.toInt.toNat) 2).toInt = 0 ∧ (fv Po (rv Po 2 t1.toInt.toNat) 0).toInt = 0 ∧ 2 ≤ t2.toInt + 1 ∧ 2 ≤ (fv Po (rv Po 2 t1.toInt.toNat) 1).toInt - (t2.toInt + 1)) ∧ x161.toInt = (fv Po 1 1).toInt ∧ PSH Po P159 ∧ (fv P159 1 1).toInt = (fv Po 1 1).toInt + 1 ∧ (fv P159 1 2).toInt = (fv Po 1 2).toInt ∧ (fv P159 1 3).toInt = (fv Po 1 3).toInt ∧ (fv P159 (rv Po 2 t1.toInt.toNat) 1).toInt = t2.toInt + 1 ∧ (fv P159 (rv Po 2 (fv Po 1 1).toInt.toNat) 0).toInt = 0 ∧ (fv P159 (rv Po 2 (fv Po 1 1).toInt.toNat) 2).toInt = 0 ∧ (fv P159 (rv Po 2 (fv Po 1 1).toInt.toNat) 1).toInt = (fv Po (rv Po 2 t1.toInt.toNat) 1).toInt - (t2.toInt + 1) ∧ (∀ j : Nat, j < 8 → (j : Int) < (fv Po (rv Po 2 t1.toInt.toNat) 1).toInt - (t2.toInt + 1) → fv P159 ((rv Po 2 (fv Po 1 1).toInt.toNat) + 1) j = fv Po ((rv Po 2 t1.toInt.toNat) + 1) ((t2.toInt + 1).toNat + j)) ∧ (∀ j : Nat, j < 8 → (j : Int) < (fv Po (rv Po 2 t1.toInt.toNat) 1).toInt - (t2.toInt + 1) → fv P159 ((rv Po 2 (fv Po 1 1).toInt.toNat) + 2) j = fv Po ((rv Po 2 t1.toInt.toNat) + 2) ((t2.toInt + 1).toNat + j)) ∧ (∀ k : Nat, k < 8 → ¬ (k : Int) = (fv Po 1 1).toInt → PEx P159 Po (rv Po 2 k) (rv Po 2 t1.toInt.toNat)) ∧ ∀ k : Nat, rv P159 2 k = rv Po 2 k) from by rw [q6r.2.2.2]; exact Or.inr (Or.inl (⟨by omega, by omega, by omega, by omega, ⟨fun x j h1 h2 => by rw [R165.2 x j (by omega)], fun k => by rw [k164.2.2 rfl k]⟩⟩)))⟩
        exact mp_iret ⟨⟨_, rfl, u169⟩, hT163, k166, J168, trivial⟩ dX6_cut_44 (Or.inl rfl)
    · have c19 : x14.toInt = 0 := ti_ne_n c19
      refine mp_a (a_sipush (v := -1001) dX6_cut_21 rfl) (mpp 24 rfl ?_)
      have u173 : KPX Po Po ∧ cutC Po Po (-1001 : Int) t1.toInt t2.toInt := ⟨⟨rfl, fun x j hx => rfl⟩, (show ((-1001 : Int) = -1001 ∧ ((t1.toInt < 0 ∨ (fv Po 1 1).toInt ≤ t1.toInt ∨ 8 ≤ t1.toInt) ∨ ((0 ≤ t1.toInt ∧ t1.toInt + 1 ≤ (fv Po 1 1).toInt ∧ t1.toInt ≤ 7) ∧ (t2.toInt < 0 ∨ ((fv Po (rv Po 2 t1.toInt.toNat) 0).toInt = 0 ∧ (fv Po (rv Po 2 t1.toInt.toNat) 1).toInt - 1 ≤ t2.toInt) ∨ ((fv Po (rv Po 2 t1.toInt.toNat) 0).toInt ≠ 0 ∧ (fv Po (rv Po 2 t1.toInt.toNat) 1).toInt ≤ t2.toInt)))) ∧ NCH Po Po) ∨ ((-1001 : Int) = -1003 ∧ (0 ≤ t1.toInt ∧ t1.toInt + 1 ≤ (fv Po 1 1).toInt ∧ t1.toInt ≤ 7) ∧ (0 ≤ t2.toInt ∧ (((fv Po (rv Po 2 t1.toInt.toNat) 0).toInt = 0 ∧ t2.toInt < (fv Po (rv Po 2 t1.toInt.toNat) 1).toInt - 1) ∨ ((fv Po (rv Po 2 t1.toInt.toNat) 0).toInt ≠ 0 ∧ t2.toInt < (fv Po (rv Po 2 t1.toInt.toNat) 1).toInt))) ∧ (8 ≤ (fv Po 1 1).toInt ∨ (fv Po (rv Po 2 t1.toInt.toNat) 2).toInt = 1 ∨ ¬ (fv Po (rv Po 2 t1.toInt.toNat) 0).toInt = 0 ∨ t2.toInt + 1 < 2 ∨ (fv Po (rv Po 2 t1.toInt.toNat) 1).toInt - (t2.toInt + 1) < 2) ∧ NCH Po Po) ∨ ((0 ≤ t1.toInt ∧ t1.toInt + 1 ≤ (fv Po 1 1).toInt ∧ t1.toInt ≤ 7) ∧ (0 ≤ t2.toInt ∧ (((fv Po (rv Po 2 t1.toInt.toNat) 0).toInt = 0 ∧ t2.toInt < (fv Po (rv Po 2 t1.toInt.toNat) 1).toInt - 1) ∨ ((fv Po (rv Po 2 t1.toInt.toNat) 0).toInt ≠ 0 ∧ t2.toInt < (fv Po (rv Po 2 t1.toInt.toNat) 1).toInt))) ∧ ((fv Po 1 1).toInt ≤ 7 ∧ (fv Po (rv Po 2 t1.toInt.toNat) 2).toInt = 0 ∧ (fv Po (rv Po 2 t1.toInt.toNat) 0).toInt = 0 ∧ 2 ≤ t2.toInt + 1 ∧ 2 ≤ (fv Po (rv Po 2 t1.toInt.toNat) 1).toInt - (t2.toInt + 1)) ∧ (-1001 : Int) = (fv Po 1 1).toInt ∧ PSH Po Po ∧ (fv Po 1 1).toInt = (fv Po 1 1).toInt + 1 ∧ (fv Po 1 2).toInt = (fv Po 1 2).toInt ∧ (fv Po 1 3).toInt = (fv Po 1 3).toInt ∧ (fv Po (rv Po 2 t1.toInt.toNat) 1).toInt = t2.toInt + 1 ∧ (fv Po (rv Po 2 (fv Po 1 1).toInt.toNat) 0).toInt = 0 ∧ (fv Po (rv Po 2 (fv Po 1 1).toInt.toNat) 2).toInt = 0 ∧ (fv Po (rv Po 2 (fv Po 1 1).toInt.toNat) 1).toInt = (fv Po (rv Po 2 t1.toInt.toNat) 1).toInt - (t2.toInt + 1) ∧ (∀ j : Nat, j < 8 → (j : Int) < (fv Po (rv Po 2 t1.toInt.toNat) 1).toInt - (t2.toInt + 1) → fv Po ((rv Po 2 (fv Po 1 1).toInt.toNat) + 1) j = fv Po ((rv Po 2 t1.toInt.toNat) + 1) ((t2.toInt + 1).toNat + j)) ∧ (∀ j : Nat, j < 8 → (j : Int) < (fv Po (rv Po 2 t1.toInt.toNat) 1).toInt - (t2.toInt + 1) → fv Po ((rv Po 2 (fv Po 1 1).toInt.toNat) + 2) j = fv Po ((rv Po 2 t1.toInt.toNat) + 2) ((t2.toInt + 1).toNat + j)) ∧ (∀ k : Nat, k < 8 → ¬ (k : Int) = (fv Po 1 1).toInt → PEx Po Po (rv Po 2 k) (rv Po 2 t1.toInt.toNat)) ∧ ∀ k : Nat, rv Po 2 k = rv Po 2 k) from by rw [q6r.2.2.2]; exact Or.inl (⟨by omega, by omega, ⟨fun x j h1 h2 => rfl, fun k => rfl⟩⟩))⟩
      exact mp_iret ⟨⟨_, rfl, u173⟩, hT, KW.refl, hJ, trivial⟩ dX6_cut_24 (Or.inl rfl)

set_option maxHeartbeats 4000000 in
theorem c_CP_isUndecided_NPiece {Po : mP} {a0_ : Nat} (hT : Typ Po) (hX : XR Po)  (ha0 : rl a0_ = 33) : EvP 3 42 [.ref a0_] Po (fun r P' => (∃ x : Int32, r = some (.int x) ∧ (0 ≤ x.toInt ∧ x.toInt ≤ 1 ∧ ((x.toInt = 1 ∧ 1 ≤ cntF (fun j : Nat => fv Po (a0_ + 2) j) 0 (nC (fv Po a0_ 0).toInt (fv Po a0_ 1).toInt)) ∨ (x.toInt = 0 ∧ cntF (fun j : Nat => fv Po (a0_ + 2) j) 0 (nC (fv Po a0_ 0).toInt (fv Po a0_ 1).toInt) = 0)))) ∧ P' = Po) := by
  refine EvP.of qm_42 (Nat.le_of_ble_eq_true rfl) rfl ?_
  show MEvP _ none q_42 0 [(0, .ref a0_)] [] _ 0 0 _
  have w1 := np_ar ha0
  have g2 := ti_full (fv Po a0_ 0)
  have g3 : (0 : Int) ≤ (fv Po a0_ 1).toInt ∧ (fv Po a0_ 1).toInt ≤ 8 := Typ.rng hT ha0 (by decide) (by decide) rfl
  refine mp_a (a_aload_n dX2_isUndecided_0 rfl) (mpp 1 rfl ?_)
  refine mp_a (a_iconst (v := 0) dX2_isUndecided_1 rfl) (mpp 2 rfl ?_)
  refine mt_callv (i := 52) (q' := q_32) (As := [.int 0]) (rest := []) hT dX2_isUndecided_2 rfl qm_32 (by decide) rfl ha0 (by decide) rfl (Nat.le_of_ble_eq_true rfl) rfl ⟨rfl, rfl⟩ ⟨Nat.le_of_ble_eq_true rfl, Nat.le_of_ble_eq_true rfl⟩ (EvP.mono (by decide) (c_CP_countOf_NPiece hT hX ha0)) (fun r4 P5 g6 => mpp 5 rfl ?_)
  obtain ⟨⟨x7, rfl, g8⟩, e9⟩ := g6
  have e9 := e9.symm
  subst e9
  have wx7 := ti_full x7
  replace g8 : 0 ≤ x7.toInt ∧ x7.toInt ≤ 8 ∧ x7.toInt = cntF (fun j : Nat => fv Po (a0_ + 2) j) (0 : Int) (nC (fv Po a0_ 0).toInt (fv Po a0_ 1).toInt) := g8
  show MEvP _ none q_42 5 [(0, .ref a0_)] [.int x7] _ _ _ _
  refine mp_Tb (t := 12) (j_if_le dX2_isUndecided_5) (by decide) (fun c10 => ?_) (fun c10 => mpp 8 rfl ?_)
  · have c10 : x7.toInt ≤ 0 := ti_le c10
    refine mp_a (a_iconst (v := 0) dX2_isUndecided_12 rfl) (mpp 13 rfl ?_)
    have u11 : 0 ≤ (0 : Int) ∧ (0 : Int) ≤ 1 ∧ (((0 : Int) = 1 ∧ 1 ≤ cntF (fun j : Nat => fv Po (a0_ + 2) j) 0 (nC (fv Po a0_ 0).toInt (fv Po a0_ 1).toInt)) ∨ ((0 : Int) = 0 ∧ cntF (fun j : Nat => fv Po (a0_ + 2) j) 0 (nC (fv Po a0_ 0).toInt (fv Po a0_ 1).toInt) = 0)) := by omega
    exact mp_iret ⟨⟨_, rfl, u11⟩, rfl⟩ dX2_isUndecided_13 (Or.inr ⟨rfl, by decide⟩)
  · have c10 : x7.toInt > 0 := ti_le_n c10
    refine mp_a (a_iconst (v := 1) dX2_isUndecided_8 rfl) (mpp 9 rfl ?_)
    refine mp_a (a_goto (t := 13) dX2_isUndecided_9 (by decide)) ?_
    have u12 : 0 ≤ (1 : Int) ∧ (1 : Int) ≤ 1 ∧ (((1 : Int) = 1 ∧ 1 ≤ cntF (fun j : Nat => fv Po (a0_ + 2) j) 0 (nC (fv Po a0_ 0).toInt (fv Po a0_ 1).toInt)) ∨ ((1 : Int) = 0 ∧ cntF (fun j : Nat => fv Po (a0_ + 2) j) 0 (nC (fv Po a0_ 0).toInt (fv Po a0_ 1).toInt) = 0)) := by omega
    exact mp_iret ⟨⟨_, rfl, u12⟩, rfl⟩ dX2_isUndecided_13 (Or.inr ⟨rfl, by decide⟩)

set_option maxHeartbeats 4000000 in
theorem c_F_copyRow_sizes_rsizes_l2 {Po : mP} {a0_ : Nat} (hTo : Typ Po) (hX : XR Po) (hp0 : ¬ a0_ = 292) (ha0 : rl a0_ = 4) : ∀ (n : Nat) (v2 : Int32), ∀ (P : mP), Typ P → KW [704] Po P → (CPY Po P a0_ 0 292 0 v2.toInt.toNat) → (v2.toInt ≤ 8) → (0 ≤ v2.toInt) → (2147483647 - v2.toInt).toNat = n → MEvP 0 none q_19 2 [(0, .ref a0_), (1, .ref 292), (2, .int v2)] [] P 0 0 (fun r P' => (r = none ∧ (True)) ∧ Typ P' ∧ KW [704] Po P' ∧ (∀ j : Nat, j < 8 → fv P' 292 j = fv Po a0_ j) ∧ KI 292 (292 + 1) Po P') := by
  intro n
  induction n using Nat.strongRecOn with | _ n ih => ?_
  intro v2 P hT hK i_0 i_1 i_2 hm
  have w_v2 := ti_full v2
  refine mp_a (a_iload_n dX6_copyRow_2 rfl) (mpp 3 rfl ?_)
  refine mp_a (a_aload_n dX6_copyRow_3 rfl) (mpp 4 rfl ?_)
  refine mt_len (n := 8) hT dX6_copyRow_4 ha0 (by decide) (by decide) rfl (mpp 5 rfl ?_)
  refine mp_Tb (t := 26) (j_icmp_ge dX6_copyRow_5) (by decide) (fun c1 => ?_) (fun c1 => mpp 8 rfl ?_)
  · have c1 : v2.toInt ≥ 8 := ti_ge c1
    have u2 : (∀ j : Nat, j < 8 → fv P 292 j = fv Po a0_ j) ∧ KI 292 (292 + 1) Po P := ⟨fun j hj => by have q := i_0.1 j (by omega); rwa [Nat.zero_add] at q, fun x j hx => i_0.2 x j (by omega)⟩
    exact mp_ret ⟨⟨rfl, trivial⟩, hT, hK, u2⟩ dX6_copyRow_26 rfl
  · have c1 : v2.toInt < 8 := ti_ge_n c1
    refine mp_a (a_iload_n dX6_copyRow_8 rfl) (mpp 9 rfl ?_)
    refine mp_a (a_aload_n dX6_copyRow_9 rfl) (mpp 10 rfl ?_)
    refine mt_len (n := 8) hT dX6_copyRow_10 rl_292 (by decide) (by decide) rfl (mpp 11 rfl ?_)
    refine mp_Tb (t := 26) (j_icmp_ge dX6_copyRow_11) (by decide) (fun c3 => ?_) (fun c3 => mpp 14 rfl ?_)
    · have c3 : v2.toInt ≥ 8 := ti_ge c3
      have u4 : (∀ j : Nat, j < 8 → fv P 292 j = fv Po a0_ j) ∧ KI 292 (292 + 1) Po P := ⟨fun j hj => by have q := i_0.1 j (by omega); rwa [Nat.zero_add] at q, fun x j hx => i_0.2 x j (by omega)⟩
      exact mp_ret ⟨⟨rfl, trivial⟩, hT, hK, u4⟩ dX6_copyRow_26 rfl
    · have c3 : v2.toInt < 8 := ti_ge_n c3
      refine mp_a (a_aload_n dX6_copyRow_14 rfl) (mpp 15 rfl ?_)
      refine mp_a (a_iload_n dX6_copyRow_15 rfl) (mpp 16 rfl ?_)
      refine mp_a (a_aload_n dX6_copyRow_16 rfl) (mpp 17 rfl ?_)
      refine mp_a (a_iload_n dX6_copyRow_17 rfl) (mpp 18 rfl ?_)
      refine mt_ial (n := 8) hT dX6_copyRow_18 ha0 (by decide) rfl rfl (by omega) (by omega) rfl (fun g5 g6 => mpp 19 rfl ?_)
      refine mt_ias (n := 8) hT dX6_copyRow_19 rl_292 (by decide) rfl rfl (by omega) (by omega) rfl (ti_full (fv P a0_ v2.toInt.toNat)) (fun P7 hT8 f9 f10 f11 => mpp 20 rfl ?_)
      have k12 : KW [704] Po P7 := KW.step hK rl_292 rfl f10 f11
      obtain ⟨z13, h14⟩ := ti_ex (v2 + 1 : Int32)
      have wz13 := ti_full z13
      refine mp_a (a_iinc (v := z13) (L' := [(2, .int z13), (0, .ref a0_), (1, .ref 292)]) dX6_copyRow_20 (by decide) rfl h14 rfl) (mpp 23 rfl ?_)
      try have e15 : z13.toInt = v2.toInt + 1 := ti_addz h14 rfl rfl (by omega) (by omega)
      refine mp_a (a_goto (t := 2) dX6_copyRow_23 (by decide)) ?_
      refine MEvP.less (L := [(0, .ref a0_), (1, .ref 292), (2, .int z13)]) rfl rfl ⟨rfl, rfl, rfl, trivial⟩ ?_
      have i16 : CPY Po P7 a0_ 0 292 0 z13.toInt.toNat := CPY.step i_0 f9 f10 (by omega) (by omega) (by omega) (Or.inl hp0)
      have i17 : z13.toInt ≤ 8 := by omega
      have i18 : 0 ≤ z13.toInt := by omega
      exact ih _ (by omega) _ P7 hT8 k12 i16 i17 i18 rfl

set_option maxHeartbeats 4000000 in
theorem c_F_copyRow_sizes_rsizes {Po : mP} {a0_ : Nat} (hT : Typ Po) (hX : XR Po)  (hp0 : ¬ a0_ = 292) (ha0 : rl a0_ = 4) : EvP 1 19 [.ref a0_, .ref 292] Po (fun r P' => (r = none ∧ (True)) ∧ Typ P' ∧ KW [704] Po P' ∧ (∀ j : Nat, j < 8 → fv P' 292 j = fv Po a0_ j) ∧ KI 292 (292 + 1) Po P') := by
  refine EvP.of qm_19 (Nat.le_of_ble_eq_true rfl) rfl ?_
  show MEvP _ none q_19 0 [(0, .ref a0_), (1, .ref 292)] [] _ 0 0 _
  refine mp_a (a_iconst (v := 0) dX6_copyRow_0 rfl) (mpp 1 rfl ?_)
  refine mp_a (a_istore_n (L' := [(2, .int 0), (0, .ref a0_), (1, .ref 292)]) dX6_copyRow_1 (by decide) rfl) (mpp 2 rfl ?_)
  refine MEvP.less (L := [(0, .ref a0_), (1, .ref 292), (2, .int 0)]) rfl rfl ⟨rfl, rfl, rfl, trivial⟩ ?_
  have i1 : CPY Po Po a0_ 0 292 0 (0 : Int).toNat := CPY.start (by decide)
  have i2 : (0 : Int) ≤ 8 := by omega
  have i3 : 0 ≤ (0 : Int) := by omega
  exact c_F_copyRow_sizes_rsizes_l2 hT hX  hp0 ha0 _ _ Po hT KW.refl i1 i2 i3 rfl

set_option maxHeartbeats 4000000 in
theorem c_F_put_rcreases {Po : mP} {t1 : Int32} {t2 : Int32} (hT : Typ Po) (hX : XR Po)   : EvP 1 22 [.ref 293, .int t1, .int t2] Po (fun r P' => (r = none ∧ (True)) ∧ Typ P' ∧ KW [768] Po P' ∧ ((t1.toInt < 0 ∨ 8 ≤ t1.toInt) ∨ (fv P' 293 t1.toInt.toNat).toInt = t2.toInt) ∧ (∀ x j : Nat, ¬ (x = 293 ∧ j = t1.toInt.toNat) → fv P' x j = fv Po x j) ∧ KI 293 (293 + 1) Po P') := by
  refine EvP.of qm_22 (Nat.le_of_ble_eq_true rfl) rfl ?_
  show MEvP _ none q_22 0 [(0, .ref 293), (1, .int t1), (2, .int t2)] [] _ 0 0 _
  have w_t1 := ti_full t1
  have w_t2 := ti_full t2
  refine mp_a (a_iload_n dX6_put_0 rfl) (mpp 1 rfl ?_)
  refine mp_Tb (t := 14) (j_if_lt dX6_put_1) (by decide) (fun c1 => ?_) (fun c1 => mpp 4 rfl ?_)
  · have c1 : t1.toInt < 0 := ti_lt c1
    have u2 : ((t1.toInt < 0 ∨ 8 ≤ t1.toInt) ∨ (fv Po 293 t1.toInt.toNat).toInt = t2.toInt) := Or.inl (by omega)
    have u3 : (∀ x j : Nat, ¬ (x = 293 ∧ j = t1.toInt.toNat) → fv Po x j = fv Po x j) := fun _ _ _ => rfl
    have u4 : KI 293 (293 + 1) Po Po := fun _ _ _ => rfl
    exact mp_ret ⟨⟨rfl, trivial⟩, hT, KW.refl, ⟨u2, u3, u4⟩⟩ dX6_put_14 rfl
  · have c1 : t1.toInt ≥ 0 := ti_lt_n c1
    refine mp_a (a_iload_n dX6_put_4 rfl) (mpp 5 rfl ?_)
    refine mp_a (a_aload_n dX6_put_5 rfl) (mpp 6 rfl ?_)
    refine mt_len (n := 8) hT dX6_put_6 rl_293 (by decide) (by decide) rfl (mpp 7 rfl ?_)
    refine mp_Tb (t := 14) (j_icmp_ge dX6_put_7) (by decide) (fun c5 => ?_) (fun c5 => mpp 10 rfl ?_)
    · have c5 : t1.toInt ≥ 8 := ti_ge c5
      have u6 : ((t1.toInt < 0 ∨ 8 ≤ t1.toInt) ∨ (fv Po 293 t1.toInt.toNat).toInt = t2.toInt) := Or.inl (by omega)
      have u7 : (∀ x j : Nat, ¬ (x = 293 ∧ j = t1.toInt.toNat) → fv Po x j = fv Po x j) := fun _ _ _ => rfl
      have u8 : KI 293 (293 + 1) Po Po := fun _ _ _ => rfl
      exact mp_ret ⟨⟨rfl, trivial⟩, hT, KW.refl, ⟨u6, u7, u8⟩⟩ dX6_put_14 rfl
    · have c5 : t1.toInt < 8 := ti_ge_n c5
      refine mp_a (a_aload_n dX6_put_10 rfl) (mpp 11 rfl ?_)
      refine mp_a (a_iload_n dX6_put_11 rfl) (mpp 12 rfl ?_)
      refine mp_a (a_iload_n dX6_put_12 rfl) (mpp 13 rfl ?_)
      refine mt_ias (n := 8) hT dX6_put_13 rl_293 (by decide) rfl rfl (by omega) (by omega) rfl (ti_full t2) (fun P9 hT10 f11 f12 f13 => mpp 14 rfl ?_)
      have k14 : KW [768] Po P9 := KW.step KW.refl rl_293 rfl f12 f13
      have u15 : ((t1.toInt < 0 ∨ 8 ≤ t1.toInt) ∨ (fv P9 293 t1.toInt.toNat).toInt = t2.toInt) := Or.inr (congrArg Int32.toInt f11)
      have u16 : (∀ x j : Nat, ¬ (x = 293 ∧ j = t1.toInt.toNat) → fv P9 x j = fv Po x j) := f12
      have u17 : KI 293 (293 + 1) Po P9 := by
        intro x j hx
        rw [f12 x j (by omega)]
      exact mp_ret ⟨⟨rfl, trivial⟩, hT10, k14, ⟨u15, u16, u17⟩⟩ dX6_put_14 rfl

set_option maxHeartbeats 4000000 in
theorem c_CR_putCrease_Reducer {Po : mP} {t1 : Int32} {t2 : Int32} (hT : Typ Po) (hX : XR Po)  (hp0 : 0 ≤ t1.toInt) (hp1 : t1.toInt ≤ 7)  : EvP 2 46 [.ref 291, .int t1, .int t2] Po (fun r P' => (r = none ∧ (True)) ∧ Typ P' ∧ KW [768] Po P' ∧ (∀ j : Nat, (((fv Po 291 0).toInt = 0 ∧ (j : Int) = t1.toInt + 1) ∨ ((fv Po 291 0).toInt ≠ 0 ∧ (j : Int) = t1.toInt)) → j < 8 → (fv P' 293 j).toInt = t2.toInt) ∧ (∀ x j : Nat, ¬ (x = 293 ∧ (((fv Po 291 0).toInt = 0 ∧ (j : Int) = t1.toInt + 1) ∨ ((fv Po 291 0).toInt ≠ 0 ∧ (j : Int) = t1.toInt))) → fv P' x j = fv Po x j) ∧ KI 293 294 Po P') := by
  refine EvP.of qm_46 (Nat.le_of_ble_eq_true rfl) rfl ?_
  show MEvP _ none q_46 0 [(0, .ref 291), (1, .int t1), (2, .int t2)] [] _ 0 0 _
  have w_t1 := ti_full t1
  have w_t2 := ti_full t2
  have g1 := ti_full (fv Po 291 0)
  refine mp_a (a_aload_n dX3_putCrease_0 rfl) (mpp 1 rfl ?_)
  refine mt_getU (i := 15) (k := 3) (A := 293) hT dX3_putCrease_1 rfl rl_291 (by decide) rfl (by decide) rfl un_12 (mpp 4 rfl ?_)
  refine mp_a (a_aload_n dX3_putCrease_4 rfl) (mpp 5 rfl ?_)
  refine mt_getI (i := 24) (k := 0) hT dX3_putCrease_5 rfl rl_291 (by decide) rfl (by decide) rfl (fun g2 g3 => mpp 8 rfl ?_)
  refine mp_Tb (t := 17) (j_if_ne dX3_putCrease_8) (by decide) (fun c4 => ?_) (fun c4 => mpp 11 rfl ?_)
  · have c4 : (fv Po 291 0).toInt ≠ 0 := ti_ne c4
    refine mp_a (a_iload_n dX3_putCrease_17 rfl) (mpp 18 rfl ?_)
    refine mp_a (a_iload_n dX3_putCrease_18 rfl) (mpp 19 rfl ?_)
    refine mp_calls (i := 47) (q' := q_22) (As := [.ref 293, .int t1, .int t2]) (rest := []) dX3_putCrease_19 rfl qm_22 (by decide) rfl (Nat.le_of_ble_eq_true rfl) rfl ⟨rfl, rfl⟩ ⟨Nat.le_of_ble_eq_true rfl, Nat.le_of_ble_eq_true rfl⟩ (EvP.mono (by decide) (c_F_put_rcreases hT hX )) (fun r5 P6 g7 => mpp 22 rfl ?_)
    obtain ⟨⟨rfl, g9⟩, hT10, k11, R12⟩ := g7
    have k13 : KW [768] Po P6 := KW.trans KW.refl k11 rfl
    show MEvP _ none q_46 22 [(0, .ref 291), (1, .int t1), (2, .int t2)] [] _ _ _ _
    have u15 : (∀ j : Nat, (((fv Po 291 0).toInt = 0 ∧ (j : Int) = t1.toInt + 1) ∨ ((fv Po 291 0).toInt ≠ 0 ∧ (j : Int) = t1.toInt)) → j < 8 → (fv P6 293 j).toInt = t2.toInt) := fun j h1 h2 => by have e : j = t1.toInt.toNat := (by omega); subst e; exact R12.1.resolve_left (by omega)
    have u16 : (∀ x j : Nat, ¬ (x = 293 ∧ (((fv Po 291 0).toInt = 0 ∧ (j : Int) = t1.toInt + 1) ∨ ((fv Po 291 0).toInt ≠ 0 ∧ (j : Int) = t1.toInt))) → fv P6 x j = fv Po x j) := fun x j hx => R12.2.1 x j (by omega)
    have u17 : KI 293 294 Po P6 := by
      intro x j hx
      rw [R12.2.2 x j (by omega)]
    exact mp_ret ⟨⟨rfl, trivial⟩, hT10, k13, ⟨u15, u16, u17⟩⟩ dX3_putCrease_22 rfl
  · have c4 : (fv Po 291 0).toInt = 0 := ti_ne_n c4
    refine mp_a (a_iload_n dX3_putCrease_11 rfl) (mpp 12 rfl ?_)
    refine mp_a (a_iconst (v := 1) dX3_putCrease_12 rfl) (mpp 13 rfl ?_)
    obtain ⟨z18, h19⟩ := ti_ex (t1 + 1 : Int32)
    have wz18 := ti_full z18
    refine mp_t (s_iadd (v := z18) dX3_putCrease_13 h19) (mpp 14 rfl ?_)
    try have e20 : z18.toInt = t1.toInt + 1 := ti_addz h19 rfl rfl (by omega) (by omega)
    refine mp_a (a_goto (t := 18) dX3_putCrease_14 (by decide)) ?_
    refine mp_a (a_iload_n dX3_putCrease_18 rfl) (mpp 19 rfl ?_)
    refine mp_calls (i := 47) (q' := q_22) (As := [.ref 293, .int z18, .int t2]) (rest := []) dX3_putCrease_19 rfl qm_22 (by decide) rfl (Nat.le_of_ble_eq_true rfl) rfl ⟨rfl, rfl⟩ ⟨Nat.le_of_ble_eq_true rfl, Nat.le_of_ble_eq_true rfl⟩ (EvP.mono (by decide) (c_F_put_rcreases hT hX )) (fun r21 P22 g23 => mpp 22 rfl ?_)
    obtain ⟨⟨rfl, g25⟩, hT26, k27, R28⟩ := g23
    have k29 : KW [768] Po P22 := KW.trans KW.refl k27 rfl
    show MEvP _ none q_46 22 [(0, .ref 291), (1, .int t1), (2, .int t2)] [] _ _ _ _
    have u31 : (∀ j : Nat, (((fv Po 291 0).toInt = 0 ∧ (j : Int) = t1.toInt + 1) ∨ ((fv Po 291 0).toInt ≠ 0 ∧ (j : Int) = t1.toInt)) → j < 8 → (fv P22 293 j).toInt = t2.toInt) := fun j h1 h2 => by have e : j = z18.toInt.toNat := (by omega); subst e; exact R28.1.resolve_left (by omega)
    have u32 : (∀ x j : Nat, ¬ (x = 293 ∧ (((fv Po 291 0).toInt = 0 ∧ (j : Int) = t1.toInt + 1) ∨ ((fv Po 291 0).toInt ≠ 0 ∧ (j : Int) = t1.toInt))) → fv P22 x j = fv Po x j) := fun x j hx => R28.2.1 x j (by omega)
    have u33 : KI 293 294 Po P22 := by
      intro x j hx
      rw [R28.2.2 x j (by omega)]
    exact mp_ret ⟨⟨rfl, trivial⟩, hT26, k29, ⟨u31, u32, u33⟩⟩ dX3_putCrease_22 rfl

set_option maxHeartbeats 4000000 in
theorem c_CR_load_Reducer_NPiece_l29 {Po : mP} {a1_ : Nat} (hTo : Typ Po) (hX : XR Po) (hp0 : a1_ ≤ 288 ∨ 298 ≤ a1_) (ha1 : rl a1_ = 33) : ∀ (n : Nat) (v2 : Int32), ∀ (P : mP), Typ P → KW [640, 641, 704, 768] Po P → (fv P 291 0 = fv Po a1_ 0 ∧ fv P 291 1 = fv Po a1_ 1) → (∀ j : Nat, j < 8 → fv P 292 j = fv Po (a1_ + 1) j) → (∀ j : Nat, (j : Int) < v2.toInt → j < 8 → fv P 293 (if (fv Po a1_ 0).toInt = 0 then j + 1 else j) = fv Po (a1_ + 2) j) → (KI 291 294 Po P) → ((fv P a1_ 0).toInt = (fv Po a1_ 0).toInt ∧ (fv P a1_ 1).toInt = (fv Po a1_ 1).toInt ∧ (fv P 291 0).toInt = (fv Po a1_ 0).toInt) → (((fv Po a1_ 0).toInt = 0 ∧ (v2.toInt ≤ (fv Po a1_ 1).toInt - 1 ∨ v2.toInt = 0)) ∨ ((fv Po a1_ 0).toInt ≠ 0 ∧ v2.toInt ≤ (fv Po a1_ 1).toInt)) → (0 ≤ v2.toInt) → (2147483647 - v2.toInt).toNat = n → MEvP 2 none q_45 29 [(0, .ref 291), (1, .ref a1_), (2, .int v2)] [] P 0 0 (fun r P' => (r = none ∧ (True)) ∧ Typ P' ∧ KW [640, 641, 704, 768] Po P' ∧ fv P' 291 0 = fv Po a1_ 0 ∧ fv P' 291 1 = fv Po a1_ 1 ∧ (∀ j : Nat, j < 8 → fv P' 292 j = fv Po (a1_ + 1) j) ∧ (∀ j : Nat, j < nC (fv Po a1_ 0).toInt (fv Po a1_ 1).toInt → fv P' 293 (if (fv Po a1_ 0).toInt = 0 then j + 1 else j) = fv Po (a1_ + 2) j) ∧ KI 291 294 Po P') := by
  intro n
  induction n using Nat.strongRecOn with | _ n ih => ?_
  intro v2 P hT hK i_0 i_1 i_2 i_3 i_4 i_5 i_6 hm
  have w1 := np_ar ha1
  have w_v2 := ti_full v2
  have e2 : (fv P a1_ 0).toInt = (fv Po a1_ 0).toInt := congrArg Int32.toInt (KW.at hK 0 ha1 rfl)
  have g3 := ti_full (fv P a1_ 0)
  have e4 : (fv P a1_ 1).toInt = (fv Po a1_ 1).toInt := congrArg Int32.toInt (KW.at hK 1 ha1 rfl)
  have g5 : (0 : Int) ≤ (fv P a1_ 1).toInt ∧ (fv P a1_ 1).toInt ≤ 8 := Typ.rng hT ha1 (by decide) (by decide) rfl
  have g6 := ti_full (fv P 291 0)
  have g7 := ti_full (fv P 291 0)
  refine mp_a (a_iload_n dX3_load_29 rfl) (mpp 30 rfl ?_)
  refine mp_a (a_aload_n dX3_load_30 rfl) (mpp 31 rfl ?_)
  refine mt_callv (i := 34) (q' := q_25) (As := []) (rest := [.int v2]) hT dX3_load_31 rfl qm_25 (by decide) rfl ha1 (by decide) rfl (Nat.le_of_ble_eq_true rfl) rfl ⟨rfl, rfl⟩ ⟨Nat.le_of_ble_eq_true rfl, Nat.le_of_ble_eq_true rfl⟩ (EvP.mono (by decide) (c_CP_creaseCount_NPiece hT (KW.xr hK hX) ha1)) (fun r8 P9 g10 => mpp 34 rfl ?_)
  obtain ⟨⟨x11, rfl, g12⟩, e13⟩ := g10
  have e13 := e13.symm
  subst e13
  have wx11 := ti_full x11
  replace g12 : -1 ≤ x11.toInt ∧ x11.toInt ≤ (fv P a1_ 1).toInt ∧ (((fv P a1_ 0).toInt = 0 ∧ x11.toInt = (fv P a1_ 1).toInt - 1) ∨ ((fv P a1_ 0).toInt ≠ 0 ∧ x11.toInt = (fv P a1_ 1).toInt)) := g12
  show MEvP _ none q_45 34 [(0, .ref 291), (1, .ref a1_), (2, .int v2)] [.int x11, .int v2] _ _ _ _
  refine mp_Tb (t := 56) (j_icmp_ge dX3_load_34) (by decide) (fun c14 => ?_) (fun c14 => mpp 37 rfl ?_)
  · have c14 : v2.toInt ≥ x11.toInt := ti_ge c14
    have u15 : fv P 291 0 = fv Po a1_ 0 ∧ fv P 291 1 = fv Po a1_ 1 ∧ (∀ j : Nat, j < 8 → fv P 292 j = fv Po (a1_ + 1) j) ∧ (∀ j : Nat, j < nC (fv Po a1_ 0).toInt (fv Po a1_ 1).toInt → fv P 293 (if (fv Po a1_ 0).toInt = 0 then j + 1 else j) = fv Po (a1_ + 2) j) ∧ KI 291 294 Po P := ⟨i_0.1, i_0.2, i_1, fun j hj => i_2 j (by unfold nC at hj; split at hj <;> omega) (by unfold nC at hj; split at hj <;> omega), i_3⟩
    exact mp_ret ⟨⟨rfl, trivial⟩, hT, hK, u15⟩ dX3_load_56 rfl
  · have c14 : v2.toInt < x11.toInt := ti_ge_n c14
    refine mp_a (a_aload_n dX3_load_37 rfl) (mpp 38 rfl ?_)
    refine mp_a (a_iload_n dX3_load_38 rfl) (mpp 39 rfl ?_)
    refine mp_a (a_aload_n dX3_load_39 rfl) (mpp 40 rfl ?_)
    refine mt_getE (i := 38) (k := 4) hT dX3_load_40 rfl ha1 (by decide) rfl (by decide) rfl ((KW.xr hK hX).1 a1_ (Or.inr ha1)).2 (fun q16 => mpp 43 rfl ?_)
    refine mp_a (a_iload_n dX3_load_43 rfl) (mpp 44 rfl ?_)
    refine mp_calls (i := 39) (q' := q_12) (As := [.ref (a1_ + 2), .int v2]) (rest := [.int v2, .ref 291]) dX3_load_44 rfl qm_12 (by decide) rfl (Nat.le_of_ble_eq_true rfl) rfl ⟨rfl, rfl⟩ ⟨Nat.le_of_ble_eq_true rfl, Nat.le_of_ble_eq_true rfl⟩ (EvP.mono (by decide) (c_F_at_creases hT (KW.xr hK hX) q16)) (fun r17 P18 g19 => mpp 47 rfl ?_)
    obtain ⟨⟨x20, rfl, g21⟩, e22⟩ := g19
    have e22 := e22.symm
    subst e22
    have wx20 := ti_full x20
    replace g21 : (0 ≤ v2.toInt ∧ v2.toInt ≤ 7 ∧ x20.toInt = (fv P (a1_ + 2) v2.toInt.toNat).toInt) ∨ ((v2.toInt < 0 ∨ 8 ≤ v2.toInt) ∧ x20.toInt = 0) := g21
    try replace g21 : x20.toInt = (fv P (a1_ + 2) v2.toInt.toNat).toInt := (g21.resolve_right (by omega)).2.2
    show MEvP _ none q_45 47 [(0, .ref 291), (1, .ref a1_), (2, .int v2)] [.int x20, .int v2, .ref 291] _ _ _ _
    have p23 : 0 ≤ v2.toInt := by omega
    have p24 : v2.toInt ≤ 7 := by omega
    refine mt_callv (i := 43) (q' := q_46) (As := [.int v2, .int x20]) (rest := []) hT dX3_load_47 rfl qm_46 (by decide) rfl rl_291 (by decide) rfl (Nat.le_of_ble_eq_true rfl) rfl ⟨rfl, rfl⟩ ⟨Nat.le_of_ble_eq_true rfl, Nat.le_of_ble_eq_true rfl⟩ (EvP.mono (by decide) (c_CR_putCrease_Reducer hT (KW.xr hK hX) p23 p24 )) (fun r25 P26 g27 => mpp 50 rfl ?_)
    obtain ⟨⟨rfl, g29⟩, hT30, k31, R32⟩ := g27
    have k33 : KW [640, 641, 704, 768] Po P26 := KW.trans hK k31 rfl
    show MEvP _ none q_45 50 [(0, .ref 291), (1, .ref a1_), (2, .int v2)] [] _ _ _ _
    obtain ⟨z35, h36⟩ := ti_ex (v2 + 1 : Int32)
    have wz35 := ti_full z35
    refine mp_a (a_iinc (v := z35) (L' := [(2, .int z35), (0, .ref 291), (1, .ref a1_)]) dX3_load_50 (by decide) rfl h36 rfl) (mpp 53 rfl ?_)
    try have e37 : z35.toInt = v2.toInt + 1 := ti_addz h36 rfl rfl (by omega) (by omega)
    refine mp_a (a_goto (t := 29) dX3_load_53 (by decide)) ?_
    refine MEvP.less (L := [(0, .ref 291), (1, .ref a1_), (2, .int z35)]) rfl rfl ⟨rfl, rfl, rfl, trivial⟩ ?_
    have i38 : fv P26 291 0 = fv Po a1_ 0 ∧ fv P26 291 1 = fv Po a1_ 1 := ⟨by rw [R32.2.1 291 0 (by omega)]; exact i_0.1, by rw [R32.2.1 291 1 (by omega)]; exact i_0.2⟩
    have i39 : ∀ j : Nat, j < 8 → fv P26 292 j = fv Po (a1_ + 1) j := fun j hj => by rw [R32.2.1 292 j (by omega)]; exact i_1 j hj
    have w41_ : ∀ j : Nat, (j : Int) < z35.toInt → j < 8 → fv P26 293 (if (fv Po a1_ 0).toInt = 0 then j + 1 else j) = fv Po (a1_ + 2) j := by
      intro j hj h8
      by_cases e : j = v2.toInt.toNat
      · subst e
        have q := congrArg Int32.toInt (i_3 (a1_ + 2) v2.toInt.toNat (by omega))
        apply Int32.toInt_inj.mp
        split
        · exact (R32.1 _ (by omega) (by omega)).trans (by omega)
        · exact (R32.1 _ (by omega) (by omega)).trans (by omega)
      · have q := i_2 j (by omega) h8
        split at q
        · rename_i kz; rw [if_pos kz, ← q]; exact R32.2.1 _ _ (by omega)
        · rename_i kz; rw [if_neg kz, ← q]; exact R32.2.1 _ _ (by omega)
    have i40 : ∀ j : Nat, (j : Int) < z35.toInt → j < 8 → fv P26 293 (if (fv Po a1_ 0).toInt = 0 then j + 1 else j) = fv Po (a1_ + 2) j := w41_
    have i42 : KI 291 294 Po P26 := fun x j hx => by rw [R32.2.1 x j (by omega), i_3 x j (by omega)]
    have e43 : (fv P26 a1_ 0).toInt = (fv P a1_ 0).toInt := congrArg Int32.toInt (KW.at k31 0 ha1 rfl)
    have e44 : (fv P26 a1_ 1).toInt = (fv P a1_ 1).toInt := congrArg Int32.toInt (KW.at k31 1 ha1 rfl)
    have e45 : (fv P26 291 0).toInt = (fv P 291 0).toInt := congrArg Int32.toInt (KW.at k31 0 rl_291 rfl)
    have i46 : (fv P26 a1_ 0).toInt = (fv Po a1_ 0).toInt ∧ (fv P26 a1_ 1).toInt = (fv Po a1_ 1).toInt ∧ (fv P26 291 0).toInt = (fv Po a1_ 0).toInt := by omega
    have i47 : ((fv Po a1_ 0).toInt = 0 ∧ (z35.toInt ≤ (fv Po a1_ 1).toInt - 1 ∨ z35.toInt = 0)) ∨ ((fv Po a1_ 0).toInt ≠ 0 ∧ z35.toInt ≤ (fv Po a1_ 1).toInt) := by omega
    have i48 : 0 ≤ z35.toInt := by omega
    exact ih _ (by omega) _ P26 hT30 k33 i38 i39 i40 i42 i46 i47 i48 rfl

set_option maxHeartbeats 4000000 in
theorem c_CR_load_Reducer_NPiece {Po : mP} {a1_ : Nat} (hT : Typ Po) (hX : XR Po)  (hp0 : a1_ ≤ 288 ∨ 298 ≤ a1_) (ha1 : rl a1_ = 33) : EvP 3 45 [.ref 291, .ref a1_] Po (fun r P' => (r = none ∧ (True)) ∧ Typ P' ∧ KW [640, 641, 704, 768] Po P' ∧ fv P' 291 0 = fv Po a1_ 0 ∧ fv P' 291 1 = fv Po a1_ 1 ∧ (∀ j : Nat, j < 8 → fv P' 292 j = fv Po (a1_ + 1) j) ∧ (∀ j : Nat, j < nC (fv Po a1_ 0).toInt (fv Po a1_ 1).toInt → fv P' 293 (if (fv Po a1_ 0).toInt = 0 then j + 1 else j) = fv Po (a1_ + 2) j) ∧ KI 291 294 Po P') := by
  refine EvP.of qm_45 (Nat.le_of_ble_eq_true rfl) rfl ?_
  show MEvP _ none q_45 0 [(0, .ref 291), (1, .ref a1_)] [] _ 0 0 _
  have w1 := np_ar ha1
  have g2 := ti_full (fv Po a1_ 0)
  have g3 : (0 : Int) ≤ (fv Po a1_ 1).toInt ∧ (fv Po a1_ 1).toInt ≤ 8 := Typ.rng hT ha1 (by decide) (by decide) rfl
  refine mp_a (a_aload_n dX3_load_0 rfl) (mpp 1 rfl ?_)
  refine mp_a (a_aload_n dX3_load_1 rfl) (mpp 2 rfl ?_)
  refine mt_getI (i := 18) (k := 0) hT dX3_load_2 rfl ha1 (by decide) rfl (by decide) rfl (fun g4 g5 => mpp 5 rfl ?_)
  refine mt_putI (i := 24) (k := 0) (x := (fv Po a1_ 0)) hT dX3_load_5 rfl rl_291 (by decide) rfl (by decide) rfl (ti_full (fv Po a1_ 0)) rfl rfl (fun P6 hT7 f8 f9 f10 => mpp 8 rfl ?_)
  have k11 : KW [640, 641, 704, 768] Po P6 := KW.step KW.refl rl_291 rfl f9 f10
  have e12 : (fv P6 291 0).toInt = (fv Po a1_ 0).toInt := congrArg Int32.toInt f8
  refine mp_a (a_aload_n dX3_load_8 rfl) (mpp 9 rfl ?_)
  refine mp_a (a_aload_n dX3_load_9 rfl) (mpp 10 rfl ?_)
  have e13 : (fv P6 a1_ 1).toInt = (fv Po a1_ 1).toInt := congrArg Int32.toInt (f9 a1_ 1 (ne_r ha1 rl_291 rfl))
  refine mt_getI (i := 25) (k := 1) hT7 dX3_load_10 rfl ha1 (by decide) rfl (by decide) rfl (fun g14 g15 => mpp 13 rfl ?_)
  refine mt_putI (i := 28) (k := 1) (x := (fv P6 a1_ 1)) hT7 dX3_load_13 rfl rl_291 (by decide) rfl (by decide) rfl ⟨by omega, by omega⟩ rfl rfl (fun P16 hT17 f18 f19 f20 => mpp 16 rfl ?_)
  have k21 : KW [640, 641, 704, 768] Po P16 := KW.step k11 rl_291 rfl f19 f20
  have e22 : (fv P16 291 1).toInt = (fv P6 a1_ 1).toInt := congrArg Int32.toInt f18
  refine mp_a (a_aload_n dX3_load_16 rfl) (mpp 17 rfl ?_)
  refine mt_getE (i := 29) (k := 3) hT17 dX3_load_17 rfl ha1 (by decide) rfl (by decide) rfl ((KW.xr k21 hX).1 a1_ (Or.inr ha1)).1 (fun q23 => mpp 20 rfl ?_)
  refine mp_a (a_aload_n dX3_load_20 rfl) (mpp 21 rfl ?_)
  refine mt_getU (i := 9) (k := 2) (A := 292) hT17 dX3_load_21 rfl rl_291 (by decide) rfl (by decide) rfl un_11 (mpp 24 rfl ?_)
  have p24 : ¬ (a1_ + 1) = 292 := by omega
  refine mp_calls (i := 30) (q' := q_19) (As := [.ref (a1_ + 1), .ref 292]) (rest := []) dX3_load_24 rfl qm_19 (by decide) rfl (Nat.le_of_ble_eq_true rfl) rfl ⟨rfl, rfl⟩ ⟨Nat.le_of_ble_eq_true rfl, Nat.le_of_ble_eq_true rfl⟩ (EvP.mono (by decide) (c_F_copyRow_sizes_rsizes hT17 (KW.xr k21 hX) p24 q23)) (fun r25 P26 g27 => mpp 27 rfl ?_)
  obtain ⟨⟨rfl, g29⟩, hT30, k31, R32⟩ := g27
  have k33 : KW [640, 641, 704, 768] Po P26 := KW.trans k21 k31 rfl
  show MEvP _ none q_45 27 [(0, .ref 291), (1, .ref a1_)] [] _ _ _ _
  refine mp_a (a_iconst (v := 0) dX3_load_27 rfl) (mpp 28 rfl ?_)
  refine mp_a (a_istore_n (L' := [(2, .int 0), (0, .ref 291), (1, .ref a1_)]) dX3_load_28 (by decide) rfl) (mpp 29 rfl ?_)
  refine MEvP.less (L := [(0, .ref 291), (1, .ref a1_), (2, .int 0)]) rfl rfl ⟨rfl, rfl, rfl, trivial⟩ ?_
  have i35 : fv P26 291 0 = fv Po a1_ 0 ∧ fv P26 291 1 = fv Po a1_ 1 := ⟨by rw [R32.2 291 0 (by omega), f19 291 0 (by omega), f8], by rw [R32.2 291 1 (by omega), f18, f9 a1_ 1 (by omega)]⟩
  have i36 : ∀ j : Nat, j < 8 → fv P26 292 j = fv Po (a1_ + 1) j := fun j hj => (R32.1 j hj).trans (by rw [f19 (a1_ + 1) j (by omega), f9 (a1_ + 1) j (by omega)])
  have i37 : ∀ j : Nat, (j : Int) < (0 : Int) → j < 8 → fv P26 293 (if (fv Po a1_ 0).toInt = 0 then j + 1 else j) = fv Po (a1_ + 2) j := fun j hj _ => absurd hj (by omega)
  have i38 : KI 291 294 Po P26 := fun x j hx => by rw [R32.2 x j (by omega), f19 x j (by omega), f9 x j (by omega)]
  have e39 : (fv P26 a1_ 0).toInt = (fv Po a1_ 0).toInt := congrArg Int32.toInt ((KW.at k31 0 ha1 rfl).trans ((f19 a1_ 0 (ne_r ha1 rl_291 rfl)).trans (f9 a1_ 0 (ne_r ha1 rl_291 rfl))))
  have e40 : (fv P26 a1_ 1).toInt = (fv P6 a1_ 1).toInt := congrArg Int32.toInt ((KW.at k31 1 ha1 rfl).trans (f19 a1_ 1 (ne_r ha1 rl_291 rfl)))
  have e41 : (fv P26 291 0).toInt = (fv P6 291 0).toInt := congrArg Int32.toInt ((KW.at k31 0 rl_291 rfl).trans (f19 291 0 (ne_k rfl)))
  have i42 : (fv P26 a1_ 0).toInt = (fv Po a1_ 0).toInt ∧ (fv P26 a1_ 1).toInt = (fv Po a1_ 1).toInt ∧ (fv P26 291 0).toInt = (fv Po a1_ 0).toInt := by omega
  have i43 : ((fv Po a1_ 0).toInt = 0 ∧ ((0 : Int) ≤ (fv Po a1_ 1).toInt - 1 ∨ (0 : Int) = 0)) ∨ ((fv Po a1_ 0).toInt ≠ 0 ∧ (0 : Int) ≤ (fv Po a1_ 1).toInt) := by omega
  have i44 : 0 ≤ (0 : Int) := by omega
  exact c_CR_load_Reducer_NPiece_l29 hT hX  hp0 ha1 _ _ P26 hT30 k33 i35 i36 i37 i38 i42 i43 i44 rfl

set_option maxHeartbeats 4000000 in
theorem c_F_at_rsizes {Po : mP} {t1 : Int32} (hT : Typ Po) (hX : XR Po)   : EvP 1 12 [.ref 292, .int t1] Po (fun r P' => (∃ x : Int32, r = some (.int x) ∧ ((0 ≤ t1.toInt ∧ t1.toInt ≤ 7 ∧ x.toInt = (fv Po 292 t1.toInt.toNat).toInt) ∨ ((t1.toInt < 0 ∨ 8 ≤ t1.toInt) ∧ x.toInt = 0))) ∧ P' = Po) := by
  refine EvP.of qm_12 (Nat.le_of_ble_eq_true rfl) rfl ?_
  show MEvP _ none q_12 0 [(0, .ref 292), (1, .int t1)] [] _ 0 0 _
  have w_t1 := ti_full t1
  refine mp_a (a_iload_n dX6_at_0 rfl) (mpp 1 rfl ?_)
  refine mp_Tb (t := 16) (j_if_lt dX6_at_1) (by decide) (fun c1 => ?_) (fun c1 => mpp 4 rfl ?_)
  · have c1 : t1.toInt < 0 := ti_lt c1
    refine mp_a (a_iconst (v := 0) dX6_at_16 rfl) (mpp 17 rfl ?_)
    have u2 : (0 ≤ t1.toInt ∧ t1.toInt ≤ 7 ∧ (0 : Int) = (fv Po 292 t1.toInt.toNat).toInt) ∨ ((t1.toInt < 0 ∨ 8 ≤ t1.toInt) ∧ (0 : Int) = 0) := by omega
    exact mp_iret ⟨⟨_, rfl, u2⟩, rfl⟩ dX6_at_17 (Or.inl rfl)
  · have c1 : t1.toInt ≥ 0 := ti_lt_n c1
    refine mp_a (a_iload_n dX6_at_4 rfl) (mpp 5 rfl ?_)
    refine mp_a (a_aload_n dX6_at_5 rfl) (mpp 6 rfl ?_)
    refine mt_len (n := 8) hT dX6_at_6 rl_292 (by decide) (by decide) rfl (mpp 7 rfl ?_)
    refine mp_Tb (t := 16) (j_icmp_ge dX6_at_7) (by decide) (fun c3 => ?_) (fun c3 => mpp 10 rfl ?_)
    · have c3 : t1.toInt ≥ 8 := ti_ge c3
      refine mp_a (a_iconst (v := 0) dX6_at_16 rfl) (mpp 17 rfl ?_)
      have u4 : (0 ≤ t1.toInt ∧ t1.toInt ≤ 7 ∧ (0 : Int) = (fv Po 292 t1.toInt.toNat).toInt) ∨ ((t1.toInt < 0 ∨ 8 ≤ t1.toInt) ∧ (0 : Int) = 0) := by omega
      exact mp_iret ⟨⟨_, rfl, u4⟩, rfl⟩ dX6_at_17 (Or.inl rfl)
    · have c3 : t1.toInt < 8 := ti_ge_n c3
      refine mp_a (a_aload_n dX6_at_10 rfl) (mpp 11 rfl ?_)
      refine mp_a (a_iload_n dX6_at_11 rfl) (mpp 12 rfl ?_)
      refine mt_ial (n := 8) hT dX6_at_12 rl_292 (by decide) rfl rfl (by omega) (by omega) rfl (fun g5 g6 => mpp 13 rfl ?_)
      refine mp_a (a_goto (t := 17) dX6_at_13 (by decide)) ?_
      have u7 : (0 ≤ t1.toInt ∧ t1.toInt ≤ 7 ∧ (fv Po 292 t1.toInt.toNat).toInt = (fv Po 292 t1.toInt.toNat).toInt) ∨ ((t1.toInt < 0 ∨ 8 ≤ t1.toInt) ∧ (fv Po 292 t1.toInt.toNat).toInt = 0) := by omega
      exact mp_iret ⟨⟨_, rfl, u7⟩, rfl⟩ dX6_at_17 (Or.inl rfl)

set_option maxHeartbeats 4000000 in
theorem c_CR_before_Reducer {Po : mP} {t1 : Int32} (hT : Typ Po) (hX : XR Po)   : EvP 1 49 [.ref 291, .int t1] Po (fun r P' => (∃ x : Int32, r = some (.int x) ∧ (t1.toInt < 0 ∨ x.toInt = (prI (fv Po 291 1).toInt.toNat t1.toInt.toNat : Nat) ∨ (fv Po 291 1).toInt = 0)) ∧ P' = Po) := by
  refine EvP.of qm_49 (Nat.le_of_ble_eq_true rfl) rfl ?_
  show MEvP _ none q_49 0 [(0, .ref 291), (1, .int t1)] [] _ 0 0 _
  have w_t1 := ti_full t1
  have g1 : (0 : Int) ≤ (fv Po 291 1).toInt ∧ (fv Po 291 1).toInt ≤ 8 := Typ.rng hT rl_291 (by decide) (by decide) rfl
  refine mp_a (a_iload_n dX3_before_0 rfl) (mpp 1 rfl ?_)
  refine mp_Tb (t := 10) (j_if_le dX3_before_1) (by decide) (fun c2 => ?_) (fun c2 => mpp 4 rfl ?_)
  · have c2 : t1.toInt ≤ 0 := ti_le c2
    refine mp_a (a_aload_n dX3_before_10 rfl) (mpp 11 rfl ?_)
    refine mt_getI (i := 28) (k := 1) hT dX3_before_11 rfl rl_291 (by decide) rfl (by decide) rfl (fun g3 g4 => mpp 14 rfl ?_)
    refine mp_a (a_iconst (v := 1) dX3_before_14 rfl) (mpp 15 rfl ?_)
    obtain ⟨z5, h6⟩ := ti_ex ((fv Po 291 1) - 1 : Int32)
    have wz5 := ti_full z5
    refine mp_t (s_isub (v := z5) dX3_before_15 h6) (mpp 16 rfl ?_)
    try have e7 : z5.toInt = (fv Po 291 1).toInt - 1 := ti_subz h6 rfl rfl (by omega) (by omega)
    have w9_ : ((prI (fv Po 291 1).toInt.toNat t1.toInt.toNat : Nat) : Int) = if 0 < t1.toInt.toNat then ((t1.toInt.toNat - 1 : Nat) : Int) else (((fv Po 291 1).toInt.toNat - 1 : Nat) : Int) := by unfold prI; split <;> rfl
    have u8 : t1.toInt < 0 ∨ z5.toInt = (prI (fv Po 291 1).toInt.toNat t1.toInt.toNat : Nat) ∨ (fv Po 291 1).toInt = 0 := by split at w9_ <;> omega
    exact mp_iret ⟨⟨_, rfl, u8⟩, rfl⟩ dX3_before_16 (Or.inl rfl)
  · have c2 : t1.toInt > 0 := ti_le_n c2
    refine mp_a (a_iload_n dX3_before_4 rfl) (mpp 5 rfl ?_)
    refine mp_a (a_iconst (v := 1) dX3_before_5 rfl) (mpp 6 rfl ?_)
    obtain ⟨z10, h11⟩ := ti_ex (t1 - 1 : Int32)
    have wz10 := ti_full z10
    refine mp_t (s_isub (v := z10) dX3_before_6 h11) (mpp 7 rfl ?_)
    try have e12 : z10.toInt = t1.toInt - 1 := ti_subz h11 rfl rfl (by omega) (by omega)
    refine mp_a (a_goto (t := 16) dX3_before_7 (by decide)) ?_
    have w14_ : ((prI (fv Po 291 1).toInt.toNat t1.toInt.toNat : Nat) : Int) = if 0 < t1.toInt.toNat then ((t1.toInt.toNat - 1 : Nat) : Int) else (((fv Po 291 1).toInt.toNat - 1 : Nat) : Int) := by unfold prI; split <;> rfl
    have u13 : t1.toInt < 0 ∨ z10.toInt = (prI (fv Po 291 1).toInt.toNat t1.toInt.toNat : Nat) ∨ (fv Po 291 1).toInt = 0 := by split at w14_ <;> omega
    exact mp_iret ⟨⟨_, rfl, u13⟩, rfl⟩ dX3_before_16 (Or.inl rfl)

