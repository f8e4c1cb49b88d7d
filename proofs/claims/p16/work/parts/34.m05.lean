/-! methods on typed pools, 5 (written by a program) -/
set_option maxHeartbeats 4000000 in
theorem c_CP_lengthenBy_NPiece_NPiece_l16 {Po : mP} {a0_ : Nat} {a1_ : Nat} {t2 : Int32} (hTo : Typ Po) (hX : XR Po) (hp0 : (fv Po a0_ 1).toInt + (fv Po a1_ 1).toInt ≤ 8) (hp1 : a0_ + 3 ≤ a1_ ∨ a1_ + 3 ≤ a0_) (ha0 : rl a0_ = 33) (ha1 : rl a1_ = 33) : ∀ (n : Nat) (v3 : Int32), ∀ (P : mP), Typ P → KW [256, 320, 2113] Po P → (LB Po P a0_ a1_ (fv Po a0_ 1).toInt.toNat v3.toInt.toNat t2.toInt) → (KI (a0_ + 1) (a0_ + 3) Po P) → ((fv P a0_ 1).toInt = (fv Po a0_ 1).toInt) → ((fv P a1_ 1).toInt = (fv Po a1_ 1).toInt) → (v3.toInt ≤ (fv Po a1_ 1).toInt) → (0 ≤ v3.toInt) → (2147483647 - v3.toInt).toNat = n → MEvP 1 none q_37 16 [(0, .ref a0_), (1, .ref a1_), (2, .int t2), (3, .int v3)] [] P 0 0 (fun r P' => (r = none ∧ (True)) ∧ Typ P' ∧ KW [256, 320, 2113] Po P' ∧ (fv P' a0_ 1).toInt = (fv Po a0_ 1).toInt + (fv Po a1_ 1).toInt ∧ fv P' a0_ 0 = fv Po a0_ 0 ∧ fv P' a0_ 2 = fv Po a0_ 2 ∧ (LB Po P' a0_ a1_ (fv Po a0_ 1).toInt.toNat (fv Po a1_ 1).toInt.toNat t2.toInt) ∧ KI a0_ (a0_ + 3) Po P') := by
  intro n
  induction n using Nat.strongRecOn with | _ n ih => ?_
  intro v3 P hT hK i_0 i_1 i_2 i_3 i_4 i_5 hm
  have w1 := np_ar ha0
  have w2 := np_ar ha1
  have w_t2 := ti_full t2
  have w_v3 := ti_full v3
  have g3 : (0 : Int) ≤ (fv P a0_ 1).toInt ∧ (fv P a0_ 1).toInt ≤ 8 := Typ.rng hT ha0 (by decide) (by decide) rfl
  have g4 : (0 : Int) ≤ (fv P a0_ 1).toInt ∧ (fv P a0_ 1).toInt ≤ 8 := Typ.rng hT ha0 (by decide) (by decide) rfl
  have g5 : (0 : Int) ≤ (fv P a1_ 1).toInt ∧ (fv P a1_ 1).toInt ≤ 8 := Typ.rng hT ha1 (by decide) (by decide) rfl
  have g6 : (0 : Int) ≤ (fv P a1_ 1).toInt ∧ (fv P a1_ 1).toInt ≤ 8 := Typ.rng hT ha1 (by decide) (by decide) rfl
  refine mp_a (a_iload_n dX2_lengthenBy_16 rfl) (mpp 17 rfl ?_)
  refine mp_a (a_aload_n dX2_lengthenBy_17 rfl) (mpp 18 rfl ?_)
  refine mt_getI (i := 26) (k := 1) hT dX2_lengthenBy_18 rfl ha1 (by decide) rfl (by decide) rfl (fun g7 g8 => mpp 21 rfl ?_)
  refine mp_Tb (t := 72) (j_icmp_ge dX2_lengthenBy_21) (by decide) (fun c9 => ?_) (fun c9 => mpp 24 rfl ?_)
  · have c9 : v3.toInt ≥ (fv P a1_ 1).toInt := ti_ge c9
    refine mp_a (a_aload_n dX2_lengthenBy_72 rfl) (mpp 73 rfl ?_)
    refine mp_t (s_dup dX2_lengthenBy_73 rfl) (mpp 74 rfl ?_)
    refine mt_getI (i := 26) (k := 1) hT dX2_lengthenBy_74 rfl ha0 (by decide) rfl (by decide) rfl (fun g10 g11 => mpp 77 rfl ?_)
    refine mp_a (a_aload_n dX2_lengthenBy_77 rfl) (mpp 78 rfl ?_)
    refine mt_getI (i := 26) (k := 1) hT dX2_lengthenBy_78 rfl ha1 (by decide) rfl (by decide) rfl (fun g12 g13 => mpp 81 rfl ?_)
    obtain ⟨z14, h15⟩ := ti_ex ((fv P a0_ 1) + (fv P a1_ 1) : Int32)
    have wz14 := ti_full z14
    refine mp_t (s_iadd (v := z14) dX2_lengthenBy_81 h15) (mpp 82 rfl ?_)
    try have e16 : z14.toInt = (fv P a0_ 1).toInt + (fv P a1_ 1).toInt := ti_addz h15 rfl rfl (by omega) (by omega)
    refine mt_putI (i := 26) (k := 1) (x := z14) hT dX2_lengthenBy_82 rfl ha0 (by decide) rfl (by decide) rfl ⟨by omega, by omega⟩ rfl rfl (fun P17 hT18 f19 f20 f21 => mpp 85 rfl ?_)
    have k22 : KW [256, 320, 2113] Po P17 := KW.step hK ha0 rfl f20 f21
    have e23 : (fv P17 a0_ 1).toInt = z14.toInt := congrArg Int32.toInt f19
    have u24 : (fv P17 a0_ 1).toInt = (fv Po a0_ 1).toInt + (fv Po a1_ 1).toInt ∧ fv P17 a0_ 0 = fv Po a0_ 0 ∧ fv P17 a0_ 2 = fv Po a0_ 2 ∧ (LB Po P17 a0_ a1_ (fv Po a0_ 1).toInt.toNat (fv Po a1_ 1).toInt.toNat t2.toInt) ∧ KI a0_ (a0_ + 3) Po P17 := ⟨by omega, by rw [f20 a0_ 0 (by omega), i_1 _ _ (by omega)], by rw [f20 a0_ 2 (by omega), i_1 _ _ (by omega)], i_0.fin (by omega) f20, fun x j hx => by rw [f20 x j (by omega), i_1 x j (by omega)]⟩
    exact mp_ret ⟨⟨rfl, trivial⟩, hT18, k22, u24⟩ dX2_lengthenBy_85 rfl
  · have c9 : v3.toInt < (fv P a1_ 1).toInt := ti_ge_n c9
    refine mp_a (a_aload_n dX2_lengthenBy_24 rfl) (mpp 25 rfl ?_)
    refine mt_getE (i := 9) (k := 3) hT dX2_lengthenBy_25 rfl ha0 (by decide) rfl (by decide) rfl ((KW.xr hK hX).1 a0_ (Or.inr ha0)).1 (fun q25 => mpp 28 rfl ?_)
    refine mp_a (a_aload_n dX2_lengthenBy_28 rfl) (mpp 29 rfl ?_)
    refine mt_getI (i := 26) (k := 1) hT dX2_lengthenBy_29 rfl ha0 (by decide) rfl (by decide) rfl (fun g26 g27 => mpp 32 rfl ?_)
    refine mp_a (a_iload_n dX2_lengthenBy_32 rfl) (mpp 33 rfl ?_)
    obtain ⟨z28, h29⟩ := ti_ex ((fv P a0_ 1) + v3 : Int32)
    have wz28 := ti_full z28
    refine mp_t (s_iadd (v := z28) dX2_lengthenBy_33 h29) (mpp 34 rfl ?_)
    try have e30 : z28.toInt = (fv P a0_ 1).toInt + v3.toInt := ti_addz h29 rfl rfl (by omega) (by omega)
    refine mp_a (a_aload_n dX2_lengthenBy_34 rfl) (mpp 35 rfl ?_)
    refine mt_getE (i := 9) (k := 3) hT dX2_lengthenBy_35 rfl ha1 (by decide) rfl (by decide) rfl ((KW.xr hK hX).1 a1_ (Or.inr ha1)).1 (fun q31 => mpp 38 rfl ?_)
    refine mp_a (a_iload_n dX2_lengthenBy_38 rfl) (mpp 39 rfl ?_)
    refine mp_calls (i := 48) (q' := q_12) (As := [.ref (a1_ + 1), .int v3]) (rest := [.int z28, .ref (a0_ + 1)]) dX2_lengthenBy_39 rfl qm_12 (by decide) rfl (Nat.le_of_ble_eq_true rfl) rfl ⟨rfl, rfl⟩ ⟨Nat.le_of_ble_eq_true rfl, Nat.le_of_ble_eq_true rfl⟩ (EvP.mono (by decide) (c_F_at_sizes hT (KW.xr hK hX) q31)) (fun r32 P33 g34 => mpp 42 rfl ?_)
    obtain ⟨⟨x35, rfl, g36⟩, e37⟩ := g34
    have e37 := e37.symm
    subst e37
    have wx35 := ti_full x35
    replace g36 : (0 ≤ v3.toInt ∧ v3.toInt ≤ 7 ∧ x35.toInt = (fv P (a1_ + 1) v3.toInt.toNat).toInt) ∨ ((v3.toInt < 0 ∨ 8 ≤ v3.toInt) ∧ x35.toInt = 0) := g36
    try replace g36 : x35.toInt = (fv P (a1_ + 1) v3.toInt.toNat).toInt := (g36.resolve_right (by omega)).2.2
    show MEvP _ none q_37 42 [(0, .ref a0_), (1, .ref a1_), (2, .int t2), (3, .int v3)] [.int x35, .int z28, .ref (a0_ + 1)] _ _ _ _
    refine mp_calls (i := 29) (q' := q_22) (As := [.ref (a0_ + 1), .int z28, .int x35]) (rest := []) dX2_lengthenBy_42 rfl qm_22 (by decide) rfl (Nat.le_of_ble_eq_true rfl) rfl ⟨rfl, rfl⟩ ⟨Nat.le_of_ble_eq_true rfl, Nat.le_of_ble_eq_true rfl⟩ (EvP.mono (by decide) (c_F_put_sizes hT (KW.xr hK hX) q25)) (fun r38 P39 g40 => mpp 45 rfl ?_)
    obtain ⟨⟨rfl, g42⟩, hT43, k44, R45⟩ := g40
    have k46 : KW [256, 320, 2113] Po P39 := KW.trans hK k44 rfl
    show MEvP _ none q_37 45 [(0, .ref a0_), (1, .ref a1_), (2, .int t2), (3, .int v3)] [] _ _ _ _
    refine mp_a (a_aload_n dX2_lengthenBy_45 rfl) (mpp 46 rfl ?_)
    refine mt_getE (i := 15) (k := 4) hT43 dX2_lengthenBy_46 rfl ha0 (by decide) rfl (by decide) rfl ((KW.xr k46 hX).1 a0_ (Or.inr ha0)).2 (fun q48 => mpp 49 rfl ?_)
    refine mp_a (a_aload_n dX2_lengthenBy_49 rfl) (mpp 50 rfl ?_)
    have e49 : (fv P39 a0_ 1).toInt = (fv P a0_ 1).toInt := congrArg Int32.toInt (KW.at k44 1 ha0 rfl)
    refine mt_getI (i := 26) (k := 1) hT43 dX2_lengthenBy_50 rfl ha0 (by decide) rfl (by decide) rfl (fun g50 g51 => mpp 53 rfl ?_)
    refine mp_a (a_iload_n dX2_lengthenBy_53 rfl) (mpp 54 rfl ?_)
    obtain ⟨z52, h53⟩ := ti_ex ((fv P39 a0_ 1) + v3 : Int32)
    have wz52 := ti_full z52
    refine mp_t (s_iadd (v := z52) dX2_lengthenBy_54 h53) (mpp 55 rfl ?_)
    try have e54 : z52.toInt = (fv P39 a0_ 1).toInt + v3.toInt := ti_addz h53 rfl rfl (by omega) (by omega)
    refine mp_a (a_aload_n dX2_lengthenBy_55 rfl) (mpp 56 rfl ?_)
    refine mt_getE (i := 15) (k := 4) hT43 dX2_lengthenBy_56 rfl ha1 (by decide) rfl (by decide) rfl ((KW.xr k46 hX).1 a1_ (Or.inr ha1)).2 (fun q55 => mpp 59 rfl ?_)
    refine mp_a (a_iload_n dX2_lengthenBy_59 rfl) (mpp 60 rfl ?_)
    refine mp_calls (i := 48) (q' := q_12) (As := [.ref (a1_ + 2), .int v3]) (rest := [.int z52, .ref (a0_ + 2)]) dX2_lengthenBy_60 rfl qm_12 (by decide) rfl (Nat.le_of_ble_eq_true rfl) rfl ⟨rfl, rfl⟩ ⟨Nat.le_of_ble_eq_true rfl, Nat.le_of_ble_eq_true rfl⟩ (EvP.mono (by decide) (c_F_at_creases hT43 (KW.xr k46 hX) q55)) (fun r56 P57 g58 => mpp 63 rfl ?_)
    obtain ⟨⟨x59, rfl, g60⟩, e61⟩ := g58
    have e61 := e61.symm
    subst e61
    have wx59 := ti_full x59
    replace g60 : (0 ≤ v3.toInt ∧ v3.toInt ≤ 7 ∧ x59.toInt = (fv P39 (a1_ + 2) v3.toInt.toNat).toInt) ∨ ((v3.toInt < 0 ∨ 8 ≤ v3.toInt) ∧ x59.toInt = 0) := g60
    try replace g60 : x59.toInt = (fv P39 (a1_ + 2) v3.toInt.toNat).toInt := (g60.resolve_right (by omega)).2.2
    show MEvP _ none q_37 63 [(0, .ref a0_), (1, .ref a1_), (2, .int t2), (3, .int v3)] [.int x59, .int z52, .ref (a0_ + 2)] _ _ _ _
    refine mp_calls (i := 29) (q' := q_22) (As := [.ref (a0_ + 2), .int z52, .int x59]) (rest := []) dX2_lengthenBy_63 rfl qm_22 (by decide) rfl (Nat.le_of_ble_eq_true rfl) rfl ⟨rfl, rfl⟩ ⟨Nat.le_of_ble_eq_true rfl, Nat.le_of_ble_eq_true rfl⟩ (EvP.mono (by decide) (c_F_put_creases hT43 (KW.xr k46 hX) q48)) (fun r62 P63 g64 => mpp 66 rfl ?_)
    obtain ⟨⟨rfl, g66⟩, hT67, k68, R69⟩ := g64
    have k70 : KW [256, 320, 2113] Po P63 := KW.trans k46 k68 rfl
    show MEvP _ none q_37 66 [(0, .ref a0_), (1, .ref a1_), (2, .int t2), (3, .int v3)] [] _ _ _ _
    obtain ⟨z72, h73⟩ := ti_ex (v3 + 1 : Int32)
    have wz72 := ti_full z72
    refine mp_a (a_iinc (v := z72) (L' := [(3, .int z72), (0, .ref a0_), (1, .ref a1_), (2, .int t2)]) dX2_lengthenBy_66 (by decide) rfl h73 rfl) (mpp 69 rfl ?_)
    try have e74 : z72.toInt = v3.toInt + 1 := ti_addz h73 rfl rfl (by omega) (by omega)
    refine mp_a (a_goto (t := 16) dX2_lengthenBy_69 (by decide)) ?_
    refine MEvP.less (L := [(0, .ref a0_), (1, .ref a1_), (2, .int t2), (3, .int z72)]) rfl rfl ⟨rfl, rfl, rfl, rfl, trivial⟩ ?_
    have i75 : LB Po P63 a0_ a1_ (fv Po a0_ 1).toInt.toNat z72.toInt.toNat t2.toInt := LB.step (n := z28.toInt.toNat) (m := z52.toInt.toNat) (v := x35.toInt) (w := x59.toInt) i_0 (by omega) ⟨by omega, by omega⟩ (by rw [R69.2.1 (a0_ + 1) z28.toInt.toNat (by omega)]; exact R45.1.resolve_left (by omega)) (by have h0 : fv P (a1_ + 1) v3.toInt.toNat = fv Po (a1_ + 1) v3.toInt.toNat := (by rw [i_1 (a1_ + 1) v3.toInt.toNat (by omega)]); have h1 := congrArg Int32.toInt h0; omega) (R69.1.resolve_left (by omega)) (by have h0 : fv P39 (a1_ + 2) v3.toInt.toNat = fv Po (a1_ + 2) v3.toInt.toNat := (by rw [R45.2.1 (a1_ + 2) v3.toInt.toNat (by omega), i_1 (a1_ + 2) v3.toInt.toNat (by omega)]); have h1 := congrArg Int32.toInt h0; omega) (fun j hj => by rw [R69.2.1 (a0_ + 1) j (by omega), R45.2.1 (a0_ + 1) j (fun e => hj e.2)]) (fun j hj => by rw [R69.2.1 (a0_ + 2) j (fun e => hj e.2), R45.2.1 (a0_ + 2) j (by omega)])
    have i76 : KI (a0_ + 1) (a0_ + 3) Po P63 := fun x j hx => by rw [R69.2.1 x j (by omega), R45.2.1 x j (by omega), i_1 x j (by omega)]
    have e77 : (fv P63 a0_ 1).toInt = (fv P39 a0_ 1).toInt := congrArg Int32.toInt (KW.at k68 1 ha0 rfl)
    have i78 : (fv P63 a0_ 1).toInt = (fv Po a0_ 1).toInt := by omega
    have e79 : (fv P63 a1_ 1).toInt = (fv P a1_ 1).toInt := congrArg Int32.toInt ((KW.at k68 1 ha1 rfl).trans (KW.at k44 1 ha1 rfl))
    have i80 : (fv P63 a1_ 1).toInt = (fv Po a1_ 1).toInt := by omega
    have i81 : z72.toInt ≤ (fv Po a1_ 1).toInt := by omega
    have i82 : 0 ≤ z72.toInt := by omega
    exact ih _ (by omega) _ P63 hT67 k70 i75 i76 i78 i80 i81 i82 rfl

set_option maxHeartbeats 4000000 in
theorem c_CP_lengthenBy_NPiece_NPiece {Po : mP} {a0_ : Nat} {a1_ : Nat} {t2 : Int32} (hT : Typ Po) (hX : XR Po)  (hp0 : (fv Po a0_ 1).toInt + (fv Po a1_ 1).toInt ≤ 8) (hp1 : a0_ + 3 ≤ a1_ ∨ a1_ + 3 ≤ a0_) (ha0 : rl a0_ = 33) (ha1 : rl a1_ = 33) : EvP 2 37 [.ref a0_, .ref a1_, .int t2] Po (fun r P' => (r = none ∧ (True)) ∧ Typ P' ∧ KW [256, 320, 2113] Po P' ∧ (fv P' a0_ 1).toInt = (fv Po a0_ 1).toInt + (fv Po a1_ 1).toInt ∧ fv P' a0_ 0 = fv Po a0_ 0 ∧ fv P' a0_ 2 = fv Po a0_ 2 ∧ (LB Po P' a0_ a1_ (fv Po a0_ 1).toInt.toNat (fv Po a1_ 1).toInt.toNat t2.toInt) ∧ KI a0_ (a0_ + 3) Po P') := by
  refine EvP.of qm_37 (Nat.le_of_ble_eq_true rfl) rfl ?_
  show MEvP _ none q_37 0 [(0, .ref a0_), (1, .ref a1_), (2, .int t2)] [] _ 0 0 _
  have w1 := np_ar ha0
  have w2 := np_ar ha1
  have w_t2 := ti_full t2
  have g3 : (0 : Int) ≤ (fv Po a0_ 1).toInt ∧ (fv Po a0_ 1).toInt ≤ 8 := Typ.rng hT ha0 (by decide) (by decide) rfl
  have g4 : (0 : Int) ≤ (fv Po a1_ 1).toInt ∧ (fv Po a1_ 1).toInt ≤ 8 := Typ.rng hT ha1 (by decide) (by decide) rfl
  refine mp_a (a_aload_n dX2_lengthenBy_0 rfl) (mpp 1 rfl ?_)
  refine mt_getE (i := 15) (k := 4) hT dX2_lengthenBy_1 rfl ha0 (by decide) rfl (by decide) rfl (hX.1 a0_ (Or.inr ha0)).2 (fun q5 => mpp 4 rfl ?_)
  refine mp_a (a_aload_n dX2_lengthenBy_4 rfl) (mpp 5 rfl ?_)
  refine mt_getI (i := 26) (k := 1) hT dX2_lengthenBy_5 rfl ha0 (by decide) rfl (by decide) rfl (fun g6 g7 => mpp 8 rfl ?_)
  refine mp_a (a_iconst (v := 1) dX2_lengthenBy_8 rfl) (mpp 9 rfl ?_)
  obtain ⟨z8, h9⟩ := ti_ex ((fv Po a0_ 1) - 1 : Int32)
  have wz8 := ti_full z8
  refine mp_t (s_isub (v := z8) dX2_lengthenBy_9 h9) (mpp 10 rfl ?_)
  try have e10 : z8.toInt = (fv Po a0_ 1).toInt - 1 := ti_subz h9 rfl rfl (by omega) (by omega)
  refine mp_a (a_iload_n dX2_lengthenBy_10 rfl) (mpp 11 rfl ?_)
  refine mp_calls (i := 29) (q' := q_22) (As := [.ref (a0_ + 2), .int z8, .int t2]) (rest := []) dX2_lengthenBy_11 rfl qm_22 (by decide) rfl (Nat.le_of_ble_eq_true rfl) rfl ⟨rfl, rfl⟩ ⟨Nat.le_of_ble_eq_true rfl, Nat.le_of_ble_eq_true rfl⟩ (EvP.mono (by decide) (c_F_put_creases hT hX q5)) (fun r11 P12 g13 => mpp 14 rfl ?_)
  obtain ⟨⟨rfl, g15⟩, hT16, k17, R18⟩ := g13
  have k19 : KW [256, 320, 2113] Po P12 := KW.trans KW.refl k17 rfl
  show MEvP _ none q_37 14 [(0, .ref a0_), (1, .ref a1_), (2, .int t2)] [] _ _ _ _
  refine mp_a (a_iconst (v := 0) dX2_lengthenBy_14 rfl) (mpp 15 rfl ?_)
  refine mp_a (a_istore_n (L' := [(3, .int 0), (0, .ref a0_), (1, .ref a1_), (2, .int t2)]) dX2_lengthenBy_15 (by decide) rfl) (mpp 16 rfl ?_)
  refine MEvP.less (L := [(0, .ref a0_), (1, .ref a1_), (2, .int t2), (3, .int 0)]) rfl rfl ⟨rfl, rfl, rfl, rfl, trivial⟩ ?_
  have i21 : LB Po P12 a0_ a1_ (fv Po a0_ 1).toInt.toNat (0 : Int).toNat t2.toInt := LB.start rfl (fun j => R18.2.1 _ _ (by omega)) (fun j hj => R18.2.1 _ _ (fun e => hj e.2)) (fun h => ⟨by omega, R18.1.resolve_left (by omega)⟩)
  have i22 : KI (a0_ + 1) (a0_ + 3) Po P12 := fun x j hx => by rw [R18.2.1 x j (by omega)]
  have e23 : (fv P12 a0_ 1).toInt = (fv Po a0_ 1).toInt := congrArg Int32.toInt (KW.at k17 1 ha0 rfl)
  have i24 : (fv P12 a0_ 1).toInt = (fv Po a0_ 1).toInt := by omega
  have e25 : (fv P12 a1_ 1).toInt = (fv Po a1_ 1).toInt := congrArg Int32.toInt (KW.at k17 1 ha1 rfl)
  have i26 : (fv P12 a1_ 1).toInt = (fv Po a1_ 1).toInt := by omega
  have i27 : (0 : Int) ≤ (fv Po a1_ 1).toInt := by omega
  have i28 : 0 ≤ (0 : Int) := by omega
  exact c_CP_lengthenBy_NPiece_NPiece_l16 hT hX  hp0 hp1 ha0 ha1 _ _ P12 hT16 k19 i21 i22 i24 i26 i27 i28 rfl

set_option maxHeartbeats 4000000 in
theorem c_CS_removeAt_NState_l18 {Po : mP} {t1 : Int32} (hTo : Typ Po) (hX : XR Po) (hJo : Inj Po)  : ∀ (n : Nat) (b2_ : Nat) (v3 : Int32) (v4 : Int32), rl b2_ = 33 → ∀ (P : mP), Typ P → KW [1985, 2048] Po P → (RMv Po P t1.toInt.toNat v4.toInt.toNat) → (v3.toInt + 1 = v4.toInt) → (0 ≤ t1.toInt ∧ t1.toInt ≤ 7 ∧ t1.toInt + 1 ≤ v4.toInt) → ((fv P 1 1).toInt = (fv Po 1 1).toInt) → (v4.toInt ≤ 8 ∧ v4.toInt ≤ (fv P 1 1).toInt) → (rv Po 2 t1.toInt.toNat = b2_) → (∀ x j : Nat, fv P x j = fv Po x j) → (2147483647 - v4.toInt).toNat = n → MEvP 1 none q_38 18 [(0, .ref 1), (1, .int t1), (2, .ref b2_), (3, .int v3), (4, .int v4)] [] P 0 0 (fun r P' => (r = none ∧ (True)) ∧ Typ P' ∧ KW [1985, 2048] Po P' ∧ Inj P' ∧ ((t1.toInt < 0 ∨ (fv Po 1 1).toInt ≤ t1.toInt) ∨ (fv P' 1 1).toInt = (fv Po 1 1).toInt - 1) ∧ ((t1.toInt < 0 ∨ (fv Po 1 1).toInt ≤ t1.toInt) ∨ RMf Po P' t1.toInt.toNat ((fv Po 1 1).toInt - 1).toNat) ∧ (∀ x j : Nat, ¬ (x = 1 ∧ j = 1) → fv P' x j = fv Po x j) ∧ KI 1 2 Po P') := by
  intro n
  induction n using Nat.strongRecOn with | _ n ih => ?_
  intro b2_ v3 v4 hb2 P hT hK i_0 i_1 i_2 i_3 i_4 i_5 i_6 hm
  have w_t1 := ti_full t1
  have w_v3 := ti_full v3
  have w_v4 := ti_full v4
  have g1 : (0 : Int) ≤ (fv P 1 1).toInt ∧ (fv P 1 1).toInt ≤ 8 := Typ.rng hT rl_1 (by decide) (by decide) rfl
  have g2 : (0 : Int) ≤ (fv P 1 1).toInt ∧ (fv P 1 1).toInt ≤ 8 := Typ.rng hT rl_1 (by decide) (by decide) rfl
  refine mp_a (a_iload dX5_removeAt_18 rfl) (mpp 20 rfl ?_)
  refine mp_Tb (t := 67) (j_if_le dX5_removeAt_20) (by decide) (fun c3 => ?_) (fun c3 => mpp 23 rfl ?_)
  · have c3 : v4.toInt ≤ 0 := ti_le c3
    refine mp_a (a_iload_n dX5_removeAt_67 rfl) (mpp 68 rfl ?_)
    refine mp_Tb (t := 87) (j_if_lt dX5_removeAt_68) (by decide) (fun c4 => ?_) (fun c4 => mpp 71 rfl ?_)
    · have c4 : v3.toInt < 0 := ti_lt c4
      exfalso
      omega
    · have c4 : v3.toInt ≥ 0 := ti_lt_n c4
      refine mp_a (a_iload_n dX5_removeAt_71 rfl) (mpp 72 rfl ?_)
      refine mp_a (a_aload_n dX5_removeAt_72 rfl) (mpp 73 rfl ?_)
      refine mt_getU (i := 11) (k := 0) (A := 2) hT dX5_removeAt_73 rfl rl_1 (by decide) rfl (by decide) rfl un_32 (mpp 76 rfl ?_)
      refine mt_len (n := 8) hT dX5_removeAt_76 rl_2 (by decide) (by decide) rfl (mpp 77 rfl ?_)
      refine mp_Tb (t := 87) (j_icmp_ge dX5_removeAt_77) (by decide) (fun c5 => ?_) (fun c5 => mpp 80 rfl ?_)
      · have c5 : v3.toInt ≥ 8 := ti_ge c5
        exfalso
        omega
      · have c5 : v3.toInt < 8 := ti_ge_n c5
        refine mp_a (a_aload_n dX5_removeAt_80 rfl) (mpp 81 rfl ?_)
        refine mt_getU (i := 11) (k := 0) (A := 2) hT dX5_removeAt_81 rfl rl_1 (by decide) rfl (by decide) rfl un_32 (mpp 84 rfl ?_)
        refine mp_a (a_iload_n dX5_removeAt_84 rfl) (mpp 85 rfl ?_)
        refine mp_a (a_aload_n dX5_removeAt_85 rfl) (mpp 86 rfl ?_)
        refine mt_aas (n := 8) hT dX5_removeAt_86 rl_2 (by decide) (ci := 2) hb2 (by decide) (by decide) (by decide) rfl (by omega) (by omega) rfl (fun _ => (by decide : (34 : Nat) ≠ 0)) (fun P6 hT7 f8 f10 f11 => mpp 87 rfl ?_)
        have k9 : KW [1985, 2048] Po P6 := KW.perm hK rfl f8 f11
        have hRM := RMv.fin (l := v3.toInt.toNat) i_0 f10 f11 i_5 (by omega) (by omega) (by omega) (by omega)
        have hJe := hRM.inj hJo (by omega) (by omega) (by omega)
        refine mp_a (a_aload_n dX5_removeAt_87 rfl) (mpp 88 rfl ?_)
        refine mp_t (s_dup dX5_removeAt_88 rfl) (mpp 89 rfl ?_)
        have e12 : (fv P6 1 1).toInt = (fv P 1 1).toInt := congrArg Int32.toInt (f8 1 1)
        refine mt_getI (i := 22) (k := 1) hT7 dX5_removeAt_89 rfl rl_1 (by decide) rfl (by decide) rfl (fun g13 g14 => mpp 92 rfl ?_)
        refine mp_a (a_iconst (v := 1) dX5_removeAt_92 rfl) (mpp 93 rfl ?_)
        obtain ⟨z15, h16⟩ := ti_ex ((fv P6 1 1) - 1 : Int32)
        have wz15 := ti_full z15
        refine mp_t (s_isub (v := z15) dX5_removeAt_93 h16) (mpp 94 rfl ?_)
        try have e17 : z15.toInt = (fv P6 1 1).toInt - 1 := ti_subz h16 rfl rfl (by omega) (by omega)
        refine mt_putI (i := 22) (k := 1) (x := z15) hT7 dX5_removeAt_94 rfl rl_1 (by decide) rfl (by decide) rfl ⟨by omega, by omega⟩ rfl rfl (fun P18 hT19 f20 f21 f22 => mpp 97 rfl ?_)
        have k23 : KW [1985, 2048] Po P18 := KW.step k9 rl_1 rfl f21 f22
        have J24 := Inj.st hJe f22
        have e25 : (fv P18 1 1).toInt = z15.toInt := congrArg Int32.toInt f20
        have u26 : ((t1.toInt < 0 ∨ (fv Po 1 1).toInt ≤ t1.toInt) ∨ (fv P18 1 1).toInt = (fv Po 1 1).toInt - 1) := by omega
        have u27 : ((t1.toInt < 0 ∨ (fv Po 1 1).toInt ≤ t1.toInt) ∨ RMf Po P18 t1.toInt.toNat ((fv Po 1 1).toInt - 1).toNat) := Or.inr (hRM.fin2 (by omega) f22)
        have u28 : (∀ x j : Nat, ¬ (x = 1 ∧ j = 1) → fv P18 x j = fv Po x j) := fun x j hx => (f21 x j hx).trans ((f8 x j).trans (i_6 x j))
        have u29 : KI 1 2 Po P18 := fun x j hx => u28 x j (by omega)
        exact mp_ret ⟨⟨rfl, trivial⟩, hT19, k23, J24, ⟨u26, u27, u28, u29⟩⟩ dX5_removeAt_97 rfl
  · have c3 : v4.toInt > 0 := ti_le_n c3
    refine mp_a (a_iload dX5_removeAt_23 rfl) (mpp 25 rfl ?_)
    refine mp_a (a_aload_n dX5_removeAt_25 rfl) (mpp 26 rfl ?_)
    refine mt_getI (i := 22) (k := 1) hT dX5_removeAt_26 rfl rl_1 (by decide) rfl (by decide) rfl (fun g30 g31 => mpp 29 rfl ?_)
    refine mp_Tb (t := 67) (j_icmp_ge dX5_removeAt_29) (by decide) (fun c32 => ?_) (fun c32 => mpp 32 rfl ?_)
    · have c32 : v4.toInt ≥ (fv P 1 1).toInt := ti_ge c32
      refine mp_a (a_iload_n dX5_removeAt_67 rfl) (mpp 68 rfl ?_)
      refine mp_Tb (t := 87) (j_if_lt dX5_removeAt_68) (by decide) (fun c33 => ?_) (fun c33 => mpp 71 rfl ?_)
      · have c33 : v3.toInt < 0 := ti_lt c33
        exfalso
        omega
      · have c33 : v3.toInt ≥ 0 := ti_lt_n c33
        refine mp_a (a_iload_n dX5_removeAt_71 rfl) (mpp 72 rfl ?_)
        refine mp_a (a_aload_n dX5_removeAt_72 rfl) (mpp 73 rfl ?_)
        refine mt_getU (i := 11) (k := 0) (A := 2) hT dX5_removeAt_73 rfl rl_1 (by decide) rfl (by decide) rfl un_32 (mpp 76 rfl ?_)
        refine mt_len (n := 8) hT dX5_removeAt_76 rl_2 (by decide) (by decide) rfl (mpp 77 rfl ?_)
        refine mp_Tb (t := 87) (j_icmp_ge dX5_removeAt_77) (by decide) (fun c34 => ?_) (fun c34 => mpp 80 rfl ?_)
        · have c34 : v3.toInt ≥ 8 := ti_ge c34
          exfalso
          omega
        · have c34 : v3.toInt < 8 := ti_ge_n c34
          refine mp_a (a_aload_n dX5_removeAt_80 rfl) (mpp 81 rfl ?_)
          refine mt_getU (i := 11) (k := 0) (A := 2) hT dX5_removeAt_81 rfl rl_1 (by decide) rfl (by decide) rfl un_32 (mpp 84 rfl ?_)
          refine mp_a (a_iload_n dX5_removeAt_84 rfl) (mpp 85 rfl ?_)
          refine mp_a (a_aload_n dX5_removeAt_85 rfl) (mpp 86 rfl ?_)
          refine mt_aas (n := 8) hT dX5_removeAt_86 rl_2 (by decide) (ci := 2) hb2 (by decide) (by decide) (by decide) rfl (by omega) (by omega) rfl (fun _ => (by decide : (34 : Nat) ≠ 0)) (fun P35 hT36 f37 f39 f40 => mpp 87 rfl ?_)
          have k38 : KW [1985, 2048] Po P35 := KW.perm hK rfl f37 f40
          have hRM := RMv.fin (l := v3.toInt.toNat) i_0 f39 f40 i_5 (by omega) (by omega) (by omega) (by omega)
          have hJe := hRM.inj hJo (by omega) (by omega) (by omega)
          refine mp_a (a_aload_n dX5_removeAt_87 rfl) (mpp 88 rfl ?_)
          refine mp_t (s_dup dX5_removeAt_88 rfl) (mpp 89 rfl ?_)
          have e41 : (fv P35 1 1).toInt = (fv P 1 1).toInt := congrArg Int32.toInt (f37 1 1)
          refine mt_getI (i := 22) (k := 1) hT36 dX5_removeAt_89 rfl rl_1 (by decide) rfl (by decide) rfl (fun g42 g43 => mpp 92 rfl ?_)
          refine mp_a (a_iconst (v := 1) dX5_removeAt_92 rfl) (mpp 93 rfl ?_)
          obtain ⟨z44, h45⟩ := ti_ex ((fv P35 1 1) - 1 : Int32)
          have wz44 := ti_full z44
          refine mp_t (s_isub (v := z44) dX5_removeAt_93 h45) (mpp 94 rfl ?_)
          try have e46 : z44.toInt = (fv P35 1 1).toInt - 1 := ti_subz h45 rfl rfl (by omega) (by omega)
          refine mt_putI (i := 22) (k := 1) (x := z44) hT36 dX5_removeAt_94 rfl rl_1 (by decide) rfl (by decide) rfl ⟨by omega, by omega⟩ rfl rfl (fun P47 hT48 f49 f50 f51 => mpp 97 rfl ?_)
          have k52 : KW [1985, 2048] Po P47 := KW.step k38 rl_1 rfl f50 f51
          have J53 := Inj.st hJe f51
          have e54 : (fv P47 1 1).toInt = z44.toInt := congrArg Int32.toInt f49
          have u55 : ((t1.toInt < 0 ∨ (fv Po 1 1).toInt ≤ t1.toInt) ∨ (fv P47 1 1).toInt = (fv Po 1 1).toInt - 1) := by omega
          have u56 : ((t1.toInt < 0 ∨ (fv Po 1 1).toInt ≤ t1.toInt) ∨ RMf Po P47 t1.toInt.toNat ((fv Po 1 1).toInt - 1).toNat) := Or.inr (hRM.fin2 (by omega) f51)
          have u57 : (∀ x j : Nat, ¬ (x = 1 ∧ j = 1) → fv P47 x j = fv Po x j) := fun x j hx => (f50 x j hx).trans ((f37 x j).trans (i_6 x j))
          have u58 : KI 1 2 Po P47 := fun x j hx => u57 x j (by omega)
          exact mp_ret ⟨⟨rfl, trivial⟩, hT48, k52, J53, ⟨u55, u56, u57, u58⟩⟩ dX5_removeAt_97 rfl
    · have c32 : v4.toInt < (fv P 1 1).toInt := ti_ge_n c32
      refine mp_a (a_iload dX5_removeAt_32 rfl) (mpp 34 rfl ?_)
      refine mp_a (a_aload_n dX5_removeAt_34 rfl) (mpp 35 rfl ?_)
      refine mt_getU (i := 11) (k := 0) (A := 2) hT dX5_removeAt_35 rfl rl_1 (by decide) rfl (by decide) rfl un_32 (mpp 38 rfl ?_)
      refine mt_len (n := 8) hT dX5_removeAt_38 rl_2 (by decide) (by decide) rfl (mpp 39 rfl ?_)
      refine mp_Tb (t := 67) (j_icmp_ge dX5_removeAt_39) (by decide) (fun c59 => ?_) (fun c59 => mpp 42 rfl ?_)
      · have c59 : v4.toInt ≥ 8 := ti_ge c59
        refine mp_a (a_iload_n dX5_removeAt_67 rfl) (mpp 68 rfl ?_)
        refine mp_Tb (t := 87) (j_if_lt dX5_removeAt_68) (by decide) (fun c60 => ?_) (fun c60 => mpp 71 rfl ?_)
        · have c60 : v3.toInt < 0 := ti_lt c60
          exfalso
          omega
        · have c60 : v3.toInt ≥ 0 := ti_lt_n c60
          refine mp_a (a_iload_n dX5_removeAt_71 rfl) (mpp 72 rfl ?_)
          refine mp_a (a_aload_n dX5_removeAt_72 rfl) (mpp 73 rfl ?_)
          refine mt_getU (i := 11) (k := 0) (A := 2) hT dX5_removeAt_73 rfl rl_1 (by decide) rfl (by decide) rfl un_32 (mpp 76 rfl ?_)
          refine mt_len (n := 8) hT dX5_removeAt_76 rl_2 (by decide) (by decide) rfl (mpp 77 rfl ?_)
          refine mp_Tb (t := 87) (j_icmp_ge dX5_removeAt_77) (by decide) (fun c61 => ?_) (fun c61 => mpp 80 rfl ?_)
          · have c61 : v3.toInt ≥ 8 := ti_ge c61
            exfalso
            omega
          · have c61 : v3.toInt < 8 := ti_ge_n c61
            refine mp_a (a_aload_n dX5_removeAt_80 rfl) (mpp 81 rfl ?_)
            refine mt_getU (i := 11) (k := 0) (A := 2) hT dX5_removeAt_81 rfl rl_1 (by decide) rfl (by decide) rfl un_32 (mpp 84 rfl ?_)
            refine mp_a (a_iload_n dX5_removeAt_84 rfl) (mpp 85 rfl ?_)
            refine mp_a (a_aload_n dX5_removeAt_85 rfl) (mpp 86 rfl ?_)
            refine mt_aas (n := 8) hT dX5_removeAt_86 rl_2 (by decide) (ci := 2) hb2 (by decide) (by decide) (by decide) rfl (by omega) (by omega) rfl (fun _ => (by decide : (34 : Nat) ≠ 0)) (fun P62 hT63 f64 f66 f67 => mpp 87 rfl ?_)
            have k65 : KW [1985, 2048] Po P62 := KW.perm hK rfl f64 f67
            have hRM := RMv.fin (l := v3.toInt.toNat) i_0 f66 f67 i_5 (by omega) (by omega) (by omega) (by omega)
            have hJe := hRM.inj hJo (by omega) (by omega) (by omega)
            refine mp_a (a_aload_n dX5_removeAt_87 rfl) (mpp 88 rfl ?_)
            refine mp_t (s_dup dX5_removeAt_88 rfl) (mpp 89 rfl ?_)
            have e68 : (fv P62 1 1).toInt = (fv P 1 1).toInt := congrArg Int32.toInt (f64 1 1)
            refine mt_getI (i := 22) (k := 1) hT63 dX5_removeAt_89 rfl rl_1 (by decide) rfl (by decide) rfl (fun g69 g70 => mpp 92 rfl ?_)
            refine mp_a (a_iconst (v := 1) dX5_removeAt_92 rfl) (mpp 93 rfl ?_)
            obtain ⟨z71, h72⟩ := ti_ex ((fv P62 1 1) - 1 : Int32)
            have wz71 := ti_full z71
            refine mp_t (s_isub (v := z71) dX5_removeAt_93 h72) (mpp 94 rfl ?_)
            try have e73 : z71.toInt = (fv P62 1 1).toInt - 1 := ti_subz h72 rfl rfl (by omega) (by omega)
            refine mt_putI (i := 22) (k := 1) (x := z71) hT63 dX5_removeAt_94 rfl rl_1 (by decide) rfl (by decide) rfl ⟨by omega, by omega⟩ rfl rfl (fun P74 hT75 f76 f77 f78 => mpp 97 rfl ?_)
            have k79 : KW [1985, 2048] Po P74 := KW.step k65 rl_1 rfl f77 f78
            have J80 := Inj.st hJe f78
            have e81 : (fv P74 1 1).toInt = z71.toInt := congrArg Int32.toInt f76
            have u82 : ((t1.toInt < 0 ∨ (fv Po 1 1).toInt ≤ t1.toInt) ∨ (fv P74 1 1).toInt = (fv Po 1 1).toInt - 1) := by omega
            have u83 : ((t1.toInt < 0 ∨ (fv Po 1 1).toInt ≤ t1.toInt) ∨ RMf Po P74 t1.toInt.toNat ((fv Po 1 1).toInt - 1).toNat) := Or.inr (hRM.fin2 (by omega) f78)
            have u84 : (∀ x j : Nat, ¬ (x = 1 ∧ j = 1) → fv P74 x j = fv Po x j) := fun x j hx => (f77 x j hx).trans ((f64 x j).trans (i_6 x j))
            have u85 : KI 1 2 Po P74 := fun x j hx => u84 x j (by omega)
            exact mp_ret ⟨⟨rfl, trivial⟩, hT75, k79, J80, ⟨u82, u83, u84, u85⟩⟩ dX5_removeAt_97 rfl
      · have c59 : v4.toInt < 8 := ti_ge_n c59
        refine mp_a (a_aload_n dX5_removeAt_42 rfl) (mpp 43 rfl ?_)
        refine mt_getU (i := 11) (k := 0) (A := 2) hT dX5_removeAt_43 rfl rl_1 (by decide) rfl (by decide) rfl un_32 (mpp 46 rfl ?_)
        refine mp_a (a_iload dX5_removeAt_46 rfl) (mpp 48 rfl ?_)
        refine mp_a (a_iconst (v := 1) dX5_removeAt_48 rfl) (mpp 49 rfl ?_)
        obtain ⟨z86, h87⟩ := ti_ex (v4 - 1 : Int32)
        have wz86 := ti_full z86
        refine mp_t (s_isub (v := z86) dX5_removeAt_49 h87) (mpp 50 rfl ?_)
        try have e88 : z86.toInt = v4.toInt - 1 := ti_subz h87 rfl rfl (by omega) (by omega)
        refine mp_a (a_aload_n dX5_removeAt_50 rfl) (mpp 51 rfl ?_)
        refine mt_getU (i := 11) (k := 0) (A := 2) hT dX5_removeAt_51 rfl rl_1 (by decide) rfl (by decide) rfl un_32 (mpp 54 rfl ?_)
        refine mp_a (a_iload dX5_removeAt_54 rfl) (mpp 56 rfl ?_)
        refine mt_aal (n := 8) hT dX5_removeAt_56 rl_2 (by decide) (by decide) rfl (by omega) (by omega) rfl (fun q89 => mpp 57 rfl ?_)
        generalize h91 : rv P 2 v4.toInt.toNat = b90 at q89 ⊢
        have e92 := np_ar q89
        refine mt_aas (n := 8) hT dX5_removeAt_57 rl_2 (by decide) (ci := 2) q89 (by decide) (by decide) (by decide) rfl (by omega) (by omega) rfl (fun _ => (by decide : (34 : Nat) ≠ 0)) (fun P93 hT94 f95 f97 f98 => mpp 58 rfl ?_)
        have k96 : KW [1985, 2048] Po P93 := KW.perm hK rfl f95 f98
        refine mp_a (a_iload dX5_removeAt_58 rfl) (mpp 60 rfl ?_)
        refine mp_a (a_istore_n (L' := [(3, .int v4), (0, .ref 1), (1, .int t1), (2, .ref b2_), (4, .int v4)]) dX5_removeAt_60 (by decide) rfl) (mpp 61 rfl ?_)
        obtain ⟨z99, h100⟩ := ti_ex (v4 + 1 : Int32)
        have wz99 := ti_full z99
        refine mp_a (a_iinc (v := z99) (L' := [(4, .int z99), (3, .int v4), (0, .ref 1), (1, .int t1), (2, .ref b2_)]) dX5_removeAt_61 (by decide) rfl h100 rfl) (mpp 64 rfl ?_)
        try have e101 : z99.toInt = v4.toInt + 1 := ti_addz h100 rfl rfl (by omega) (by omega)
        refine mp_a (a_goto (t := 18) dX5_removeAt_64 (by decide)) ?_
        refine MEvP.less (L := [(0, .ref 1), (1, .int t1), (2, .ref b2_), (3, .int v4), (4, .int z99)]) rfl rfl ⟨rfl, rfl, rfl, rfl, rfl, trivial⟩ ?_
        have i102 : RMv Po P93 t1.toInt.toNat z99.toInt.toNat := RMv.step i_0 f97 f98 h91 (by omega) (by omega) (by omega)
        have i103 : v4.toInt + 1 = z99.toInt := by omega
        have i104 : 0 ≤ t1.toInt ∧ t1.toInt ≤ 7 ∧ t1.toInt + 1 ≤ z99.toInt := by omega
        have e105 : (fv P93 1 1).toInt = (fv P 1 1).toInt := congrArg Int32.toInt (f95 1 1)
        have i106 : (fv P93 1 1).toInt = (fv Po 1 1).toInt := by omega
        have i107 : z99.toInt ≤ 8 ∧ z99.toInt ≤ (fv P93 1 1).toInt := by omega
        have i108 : rv Po 2 t1.toInt.toNat = b2_ := i_5
        have i109 : ∀ x j : Nat, fv P93 x j = fv Po x j := fun x j => (f95 x j).trans (i_6 x j)
        exact ih _ (by omega) _ _ _ hb2 P93 hT94 k96 i102 i103 i104 i106 i107 i108 i109 rfl

set_option maxHeartbeats 4000000 in
theorem c_CS_removeAt_NState {Po : mP} {t1 : Int32} (hT : Typ Po) (hX : XR Po)  (hJ : Inj Po)  : EvP 2 38 [.ref 1, .int t1] Po (fun r P' => (r = none ∧ (True)) ∧ Typ P' ∧ KW [1985, 2048] Po P' ∧ Inj P' ∧ ((t1.toInt < 0 ∨ (fv Po 1 1).toInt ≤ t1.toInt) ∨ (fv P' 1 1).toInt = (fv Po 1 1).toInt - 1) ∧ ((t1.toInt < 0 ∨ (fv Po 1 1).toInt ≤ t1.toInt) ∨ RMf Po P' t1.toInt.toNat ((fv Po 1 1).toInt - 1).toNat) ∧ (∀ x j : Nat, ¬ (x = 1 ∧ j = 1) → fv P' x j = fv Po x j) ∧ KI 1 2 Po P') := by
  refine EvP.of qm_38 (Nat.le_of_ble_eq_true rfl) rfl ?_
  show MEvP _ none q_38 0 [(0, .ref 1), (1, .int t1)] [] _ 0 0 _
  have w_t1 := ti_full t1
  have g1 : (0 : Int) ≤ (fv Po 1 1).toInt ∧ (fv Po 1 1).toInt ≤ 8 := Typ.rng hT rl_1 (by decide) (by decide) rfl
  refine mp_a (a_aload_n dX5_removeAt_0 rfl) (mpp 1 rfl ?_)
  refine mp_a (a_iload_n dX5_removeAt_1 rfl) (mpp 2 rfl ?_)
  refine mt_callv (i := 28) (q' := q_9) (As := [.int t1]) (rest := []) hT dX5_removeAt_2 rfl qm_9 (by decide) rfl rl_1 (by decide) rfl (Nat.le_of_ble_eq_true rfl) rfl ⟨rfl, rfl⟩ ⟨Nat.le_of_ble_eq_true rfl, Nat.le_of_ble_eq_true rfl⟩ (EvP.mono (by decide) (c_CS_pieceAt_NState hT hX )) (fun r2 P3 g4 => mpp 5 rfl ?_)
  obtain ⟨g4, e5⟩ := g4
  have e5 := e5.symm
  subst e5
  rcases g4 with ⟨rfl, q7n⟩ | ⟨b6, rfl, q7, q7r⟩
  · show MEvP _ none q_38 5 [(0, .ref 1), (1, .int t1)] [.null] _ _ _ _
    replace q7n : t1.toInt < 0 ∨ (fv Po 1 1).toInt ≤ t1.toInt ∨ 8 ≤ t1.toInt := q7n
    refine mp_a (a_astore_nN (L' := [(2, .null), (0, .ref 1), (1, .int t1)]) dX5_removeAt_5 (by decide) rfl) (mpp 6 rfl ?_)
    refine mp_a (a_aload_nN dX5_removeAt_6 rfl) (mpp 7 rfl ?_)
    refine mp_t (s_ifnonnullN dX5_removeAt_7) (mpp 10 rfl ?_)
    have u8 : ((t1.toInt < 0 ∨ (fv Po 1 1).toInt ≤ t1.toInt) ∨ (fv Po 1 1).toInt = (fv Po 1 1).toInt - 1) := by omega
    have u9 : ((t1.toInt < 0 ∨ (fv Po 1 1).toInt ≤ t1.toInt) ∨ RMf Po Po t1.toInt.toNat ((fv Po 1 1).toInt - 1).toNat) := Or.inl (by omega)
    have u10 : (∀ x j : Nat, ¬ (x = 1 ∧ j = 1) → fv Po x j = fv Po x j) := fun _ _ _ => rfl
    have u11 : KI 1 2 Po Po := fun x j hx => u10 x j (by omega)
    exact mp_ret ⟨⟨rfl, trivial⟩, hT, KW.refl, hJ, ⟨u8, u9, u10, u11⟩⟩ dX5_removeAt_10 rfl
  · show MEvP _ none q_38 5 [(0, .ref 1), (1, .int t1)] [.ref b6] _ _ _ _
    replace q7r : 0 ≤ t1.toInt ∧ t1.toInt ≤ 7 ∧ t1.toInt + 1 ≤ (fv Po 1 1).toInt ∧ rv Po 2 t1.toInt.toNat = b6 := q7r
    have w12 := np_ar q7
    refine mp_a (a_astore_n (L' := [(2, .ref b6), (0, .ref 1), (1, .int t1)]) dX5_removeAt_5 (by decide) rfl) (mpp 6 rfl ?_)
    refine mp_a (a_aload_n dX5_removeAt_6 rfl) (mpp 7 rfl ?_)
    refine mp_t (s_ifnonnullR (t := 11) dX5_removeAt_7 (by decide)) ?_
    refine mp_a (a_iload_n dX5_removeAt_11 rfl) (mpp 12 rfl ?_)
    refine mp_a (a_istore_n (L' := [(3, .int t1), (2, .ref b6), (0, .ref 1), (1, .int t1)]) dX5_removeAt_12 (by decide) rfl) (mpp 13 rfl ?_)
    refine mp_a (a_iload_n dX5_removeAt_13 rfl) (mpp 14 rfl ?_)
    refine mp_a (a_iconst (v := 1) dX5_removeAt_14 rfl) (mpp 15 rfl ?_)
    obtain ⟨z13, h14⟩ := ti_ex (t1 + 1 : Int32)
    have wz13 := ti_full z13
    refine mp_t (s_iadd (v := z13) dX5_removeAt_15 h14) (mpp 16 rfl ?_)
    try have e15 : z13.toInt = t1.toInt + 1 := ti_addz h14 rfl rfl (by omega) (by omega)
    refine mp_a (a_istore (L' := [(4, .int z13), (3, .int t1), (2, .ref b6), (0, .ref 1), (1, .int t1)]) dX5_removeAt_16 (by decide) rfl) (mpp 18 rfl ?_)
    refine MEvP.less (L := [(0, .ref 1), (1, .int t1), (2, .ref b6), (3, .int t1), (4, .int z13)]) rfl rfl ⟨rfl, rfl, rfl, rfl, rfl, trivial⟩ ?_
    have i16 : RMv Po Po t1.toInt.toNat z13.toInt.toNat := RMv.start (by omega)
    have i17 : t1.toInt + 1 = z13.toInt := by omega
    have i18 : 0 ≤ t1.toInt ∧ t1.toInt ≤ 7 ∧ t1.toInt + 1 ≤ z13.toInt := by omega
    have i19 : (fv Po 1 1).toInt = (fv Po 1 1).toInt := by omega
    have i20 : z13.toInt ≤ 8 ∧ z13.toInt ≤ (fv Po 1 1).toInt := by omega
    have i21 : rv Po 2 t1.toInt.toNat = b6 := q7r.2.2.2
    have i22 : ∀ x j : Nat, fv Po x j = fv Po x j := fun _ _ => rfl
    exact c_CS_removeAt_NState_l18 hT hX hJ  _ _ _ _ q7 Po hT KW.refl i16 i17 i18 i19 i20 i21 i22 rfl

set_option maxHeartbeats 4000000 in
theorem c_F_join {Po : mP} {t1 : Int32} {t2 : Int32} {t3 : Int32} (hT : Typ Po) (hX : XR Po)  (hJ : Inj Po)  : EvP 5 36 [.ref 0, .int t1, .int t2, .int t3] Po (fun r P' => (∃ x : Int32, r = some (.int x) ∧ (KPX Po P' ∧ joinC Po P' x.toInt t1.toInt t2.toInt t3.toInt)) ∧ Typ P' ∧ KW [10, 11, 12, 65, 66, 67, 192, 193, 194, 256, 320, 385, 386, 1985, 2048, 2113] Po P' ∧ Inj P' ∧ True) := by
  refine EvP.of qm_36 (Nat.le_of_ble_eq_true rfl) rfl ?_
  show MEvP _ none q_36 0 [(0, .ref 0), (1, .int t1), (2, .int t2), (3, .int t3)] [] _ 0 0 _
  have w_t1 := ti_full t1
  have w_t2 := ti_full t2
  have w_t3 := ti_full t3
  refine mp_a (a_aload_n dX6_join_0 rfl) (mpp 1 rfl ?_)
  refine mt_getU (i := 10) (k := 0) (A := 1) hT dX6_join_1 rfl rl_0 (by decide) rfl (by decide) rfl un_31 (mpp 4 rfl ?_)
  refine mp_a (a_iload_n dX6_join_4 rfl) (mpp 5 rfl ?_)
  refine mt_callv (i := 94) (q' := q_9) (As := [.int t1]) (rest := []) hT dX6_join_5 rfl qm_9 (by decide) rfl rl_1 (by decide) rfl (Nat.le_of_ble_eq_true rfl) rfl ⟨rfl, rfl⟩ ⟨Nat.le_of_ble_eq_true rfl, Nat.le_of_ble_eq_true rfl⟩ (EvP.mono (by decide) (c_CS_pieceAt_NState hT hX )) (fun r1 P2 g3 => mpp 8 rfl ?_)
  obtain ⟨g3, e4⟩ := g3
  have e4 := e4.symm
  subst e4
  rcases g3 with ⟨rfl, q6n⟩ | ⟨b5, rfl, q6, q6r⟩
  · show MEvP _ none q_36 8 [(0, .ref 0), (1, .int t1), (2, .int t2), (3, .int t3)] [.null] _ _ _ _
    replace q6n : t1.toInt < 0 ∨ (fv Po 1 1).toInt ≤ t1.toInt ∨ 8 ≤ t1.toInt := q6n
    have g7 : (0 : Int) ≤ (fv Po 1 1).toInt ∧ (fv Po 1 1).toInt ≤ 8 := Typ.rng hT rl_1 (by decide) (by decide) rfl
    refine mp_a (a_astoreN (L' := [(4, .null), (0, .ref 0), (1, .int t1), (2, .int t2), (3, .int t3)]) dX6_join_8 (by decide) rfl) (mpp 10 rfl ?_)
    refine mp_a (a_aload_n dX6_join_10 rfl) (mpp 11 rfl ?_)
    refine mt_getU (i := 10) (k := 0) (A := 1) hT dX6_join_11 rfl rl_0 (by decide) rfl (by decide) rfl un_31 (mpp 14 rfl ?_)
    refine mp_a (a_iload_n dX6_join_14 rfl) (mpp 15 rfl ?_)
    refine mt_callv (i := 94) (q' := q_9) (As := [.int t2]) (rest := []) hT dX6_join_15 rfl qm_9 (by decide) rfl rl_1 (by decide) rfl (Nat.le_of_ble_eq_true rfl) rfl ⟨rfl, rfl⟩ ⟨Nat.le_of_ble_eq_true rfl, Nat.le_of_ble_eq_true rfl⟩ (EvP.mono (by decide) (c_CS_pieceAt_NState hT hX )) (fun r8 P9 g10 => mpp 18 rfl ?_)
    obtain ⟨g10, e11⟩ := g10
    have e11 := e11.symm
    subst e11
    rcases g10 with ⟨rfl, q13n⟩ | ⟨b12, rfl, q13, q13r⟩
    · show MEvP _ none q_36 18 [(4, .null), (0, .ref 0), (1, .int t1), (2, .int t2), (3, .int t3)] [.null] _ _ _ _
      replace q13n : t2.toInt < 0 ∨ (fv Po 1 1).toInt ≤ t2.toInt ∨ 8 ≤ t2.toInt := q13n
      refine mp_a (a_astoreN (L' := [(5, .null), (4, .null), (0, .ref 0), (1, .int t1), (2, .int t2), (3, .int t3)]) dX6_join_18 (by decide) rfl) (mpp 20 rfl ?_)
      refine mp_a (a_aloadN dX6_join_20 rfl) (mpp 22 rfl ?_)
      refine mp_t (s_ifnullN (t := 35) dX6_join_22 (by decide)) ?_
      refine mp_a (a_sipush (v := -1001) dX6_join_35 rfl) (mpp 38 rfl ?_)
      have u14 : KPX Po Po ∧ joinC Po Po (-1001 : Int) t1.toInt t2.toInt t3.toInt := ⟨⟨rfl, fun x j hx => rfl⟩, (show ((-1001 : Int) = -1001 ∧ ((t1.toInt < 0 ∨ (fv Po 1 1).toInt ≤ t1.toInt ∨ 8 ≤ t1.toInt) ∨ (t2.toInt < 0 ∨ (fv Po 1 1).toInt ≤ t2.toInt ∨ 8 ≤ t2.toInt) ∨ t1.toInt = t2.toInt) ∧ NCH Po Po) ∨ ((-1001 : Int) = -1002 ∧ (0 ≤ t1.toInt ∧ t1.toInt + 1 ≤ (fv Po 1 1).toInt ∧ t1.toInt ≤ 7) ∧ (0 ≤ t2.toInt ∧ t2.toInt + 1 ≤ (fv Po 1 1).toInt ∧ t2.toInt ≤ 7) ∧ ¬ t1.toInt = t2.toInt ∧ (t3.toInt < 0 ∨ 2 < t3.toInt) ∧ NCH Po Po) ∨ ((-1001 : Int) = -1003 ∧ (0 ≤ t1.toInt ∧ t1.toInt + 1 ≤ (fv Po 1 1).toInt ∧ t1.toInt ≤ 7) ∧ (0 ≤ t2.toInt ∧ t2.toInt + 1 ≤ (fv Po 1 1).toInt ∧ t2.toInt ≤ 7) ∧ ¬ t1.toInt = t2.toInt ∧ (0 ≤ t3.toInt ∧ t3.toInt ≤ 2) ∧ ((fv Po (rv Po 2 t1.toInt.toNat) 2).toInt = 1 ∨ (fv Po (rv Po 2 t2.toInt.toNat) 2).toInt = 1 ∨ ¬ (fv Po (rv Po 2 t1.toInt.toNat) 0).toInt = 0 ∨ ¬ (fv Po (rv Po 2 t2.toInt.toNat) 0).toInt = 0 ∨ 7 < (fv Po (rv Po 2 t1.toInt.toNat) 1).toInt + (fv Po (rv Po 2 t2.toInt.toNat) 1).toInt) ∧ NCH Po Po) ∨ ((0 ≤ t1.toInt ∧ t1.toInt + 1 ≤ (fv Po 1 1).toInt ∧ t1.toInt ≤ 7) ∧ (0 ≤ t2.toInt ∧ t2.toInt + 1 ≤ (fv Po 1 1).toInt ∧ t2.toInt ≤ 7) ∧ ¬ t1.toInt = t2.toInt ∧ (0 ≤ t3.toInt ∧ t3.toInt ≤ 2) ∧ ((fv Po (rv Po 2 t1.toInt.toNat) 2).toInt = 0 ∧ (fv Po (rv Po 2 t2.toInt.toNat) 2).toInt = 0 ∧ (fv Po (rv Po 2 t1.toInt.toNat) 0).toInt = 0 ∧ (fv Po (rv Po 2 t2.toInt.toNat) 0).toInt = 0 ∧ (fv Po (rv Po 2 t1.toInt.toNat) 1).toInt + (fv Po (rv Po 2 t2.toInt.toNat) 1).toInt ≤ 7) ∧ (-1001 : Int) = (fv Po (rv Po 2 t1.toInt.toNat) 1).toInt + (fv Po (rv Po 2 t2.toInt.toNat) 1).toInt ∧ PSH Po Po ∧ (fv Po (rv Po 2 t1.toInt.toNat) 1).toInt = (fv Po (rv Po 2 t1.toInt.toNat) 1).toInt + (fv Po (rv Po 2 t2.toInt.toNat) 1).toInt ∧ fv Po (rv Po 2 t1.toInt.toNat) 0 = fv Po (rv Po 2 t1.toInt.toNat) 0 ∧ fv Po (rv Po 2 t1.toInt.toNat) 2 = fv Po (rv Po 2 t1.toInt.toNat) 2 ∧ LB Po Po (rv Po 2 t1.toInt.toNat) (rv Po 2 t2.toInt.toNat) (fv Po (rv Po 2 t1.toInt.toNat) 1).toInt.toNat (fv Po (rv Po 2 t2.toInt.toNat) 1).toInt.toNat t3.toInt ∧ (fv Po 1 1).toInt = (fv Po 1 1).toInt - 1 ∧ RMf Po Po t2.toInt.toNat ((fv Po 1 1).toInt - 1).toNat ∧ (∀ x j : Nat, 1 ≤ x → x < 27 → ¬ (x = 1 ∧ j = 1) → ¬ ((rv Po 2 t1.toInt.toNat) ≤ x ∧ x < (rv Po 2 t1.toInt.toNat) + 3) → fv Po x j = fv Po x j)) from by exact Or.inl (⟨by omega, by omega, ⟨fun x j h1 h2 => rfl, fun k => rfl⟩⟩))⟩
      exact mp_iret ⟨⟨_, rfl, u14⟩, hT, KW.refl, hJ, trivial⟩ dX6_join_38 (Or.inl rfl)
    · show MEvP _ none q_36 18 [(4, .null), (0, .ref 0), (1, .int t1), (2, .int t2), (3, .int t3)] [.ref b12] _ _ _ _
      replace q13r : 0 ≤ t2.toInt ∧ t2.toInt ≤ 7 ∧ t2.toInt + 1 ≤ (fv Po 1 1).toInt ∧ rv Po 2 t2.toInt.toNat = b12 := q13r
      have w15 := np_ar q13
      refine mp_a (a_astore (L' := [(5, .ref b12), (4, .null), (0, .ref 0), (1, .int t1), (2, .int t2), (3, .int t3)]) dX6_join_18 (by decide) rfl) (mpp 20 rfl ?_)
      refine mp_a (a_aloadN dX6_join_20 rfl) (mpp 22 rfl ?_)
      refine mp_t (s_ifnullN (t := 35) dX6_join_22 (by decide)) ?_
      refine mp_a (a_sipush (v := -1001) dX6_join_35 rfl) (mpp 38 rfl ?_)
      have u16 : KPX Po Po ∧ joinC Po Po (-1001 : Int) t1.toInt t2.toInt t3.toInt := ⟨⟨rfl, fun x j hx => rfl⟩, (show ((-1001 : Int) = -1001 ∧ ((t1.toInt < 0 ∨ (fv Po 1 1).toInt ≤ t1.toInt ∨ 8 ≤ t1.toInt) ∨ (t2.toInt < 0 ∨ (fv Po 1 1).toInt ≤ t2.toInt ∨ 8 ≤ t2.toInt) ∨ t1.toInt = t2.toInt) ∧ NCH Po Po) ∨ ((-1001 : Int) = -1002 ∧ (0 ≤ t1.toInt ∧ t1.toInt + 1 ≤ (fv Po 1 1).toInt ∧ t1.toInt ≤ 7) ∧ (0 ≤ t2.toInt ∧ t2.toInt + 1 ≤ (fv Po 1 1).toInt ∧ t2.toInt ≤ 7) ∧ ¬ t1.toInt = t2.toInt ∧ (t3.toInt < 0 ∨ 2 < t3.toInt) ∧ NCH Po Po) ∨ ((-1001 : Int) = -1003 ∧ (0 ≤ t1.toInt ∧ t1.toInt + 1 ≤ (fv Po 1 1).toInt ∧ t1.toInt ≤ 7) ∧ (0 ≤ t2.toInt ∧ t2.toInt + 1 ≤ (fv Po 1 1).toInt ∧ t2.toInt ≤ 7) ∧ ¬ t1.toInt = t2.toInt ∧ (0 ≤ t3.toInt ∧ t3.toInt ≤ 2) ∧ ((fv Po (rv Po 2 t1.toInt.toNat) 2).toInt = 1 ∨ (fv Po (rv Po 2 t2.toInt.toNat) 2).toInt = 1 ∨ ¬ (fv Po (rv Po 2 t1.toInt.toNat) 0).toInt = 0 ∨ ¬ (fv Po (rv Po 2 t2.toInt.toNat) 0).toInt = 0 ∨ 7 < (fv Po (rv Po 2 t1.toInt.toNat) 1).toInt + (fv Po (rv Po 2 t2.toInt.toNat) 1).toInt) ∧ NCH Po Po) ∨ ((0 ≤ t1.toInt ∧ t1.toInt + 1 ≤ (fv Po 1 1).toInt ∧ t1.toInt ≤ 7) ∧ (0 ≤ t2.toInt ∧ t2.toInt + 1 ≤ (fv Po 1 1).toInt ∧ t2.toInt ≤ 7) ∧ ¬ t1.toInt = t2.toInt ∧ (0 ≤ t3.toInt ∧ t3.toInt ≤ 2) ∧ ((fv Po (rv Po 2 t1.toInt.toNat) 2).toInt = 0 ∧ (fv Po (rv Po 2 t2.toInt.toNat) 2).toInt = 0 ∧ (fv Po (rv Po 2 t1.toInt.toNat) 0).toInt = 0 ∧ (fv Po (rv Po 2 t2.toInt.toNat) 0).toInt = 0 ∧ (fv Po (rv Po 2 t1.toInt.toNat) 1).toInt + (fv Po (rv Po 2 t2.toInt.toNat) 1).toInt ≤ 7) ∧ (-1001 : Int) = (fv Po (rv Po 2 t1.toInt.toNat) 1).toInt + (fv Po (rv Po 2 t2.toInt.toNat) 1).toInt ∧ PSH Po Po ∧ (fv Po (rv Po 2 t1.toInt.toNat) 1).toInt = (fv Po (rv Po 2 t1.toInt.toNat) 1).toInt + (fv Po (rv Po 2 t2.toInt.toNat) 1).toInt ∧ fv Po (rv Po 2 t1.toInt.toNat) 0 = fv Po (rv Po 2 t1.toInt.toNat) 0 ∧ fv Po (rv Po 2 t1.toInt.toNat) 2 = fv Po (rv Po 2 t1.toInt.toNat) 2 ∧ LB Po Po (rv Po 2 t1.toInt.toNat) (rv Po 2 t2.toInt.toNat) (fv Po (rv Po 2 t1.toInt.toNat) 1).toInt.toNat (fv Po (rv Po 2 t2.toInt.toNat) 1).toInt.toNat t3.toInt ∧ (fv Po 1 1).toInt = (fv Po 1 1).toInt - 1 ∧ RMf Po Po t2.toInt.toNat ((fv Po 1 1).toInt - 1).toNat ∧ (∀ x j : Nat, 1 ≤ x → x < 27 → ¬ (x = 1 ∧ j = 1) → ¬ ((rv Po 2 t1.toInt.toNat) ≤ x ∧ x < (rv Po 2 t1.toInt.toNat) + 3) → fv Po x j = fv Po x j)) from by rw [q13r.2.2.2]; exact Or.inl (⟨by omega, by omega, ⟨fun x j h1 h2 => rfl, fun k => rfl⟩⟩))⟩
      exact mp_iret ⟨⟨_, rfl, u16⟩, hT, KW.refl, hJ, trivial⟩ dX6_join_38 (Or.inl rfl)
  · show MEvP _ none q_36 8 [(0, .ref 0), (1, .int t1), (2, .int t2), (3, .int t3)] [.ref b5] _ _ _ _
    replace q6r : 0 ≤ t1.toInt ∧ t1.toInt ≤ 7 ∧ t1.toInt + 1 ≤ (fv Po 1 1).toInt ∧ rv Po 2 t1.toInt.toNat = b5 := q6r
    have g17 : (0 : Int) ≤ (fv Po 1 1).toInt ∧ (fv Po 1 1).toInt ≤ 8 := Typ.rng hT rl_1 (by decide) (by decide) rfl
    have w18 := np_ar q6
    refine mp_a (a_astore (L' := [(4, .ref b5), (0, .ref 0), (1, .int t1), (2, .int t2), (3, .int t3)]) dX6_join_8 (by decide) rfl) (mpp 10 rfl ?_)
    refine mp_a (a_aload_n dX6_join_10 rfl) (mpp 11 rfl ?_)
    refine mt_getU (i := 10) (k := 0) (A := 1) hT dX6_join_11 rfl rl_0 (by decide) rfl (by decide) rfl un_31 (mpp 14 rfl ?_)
    refine mp_a (a_iload_n dX6_join_14 rfl) (mpp 15 rfl ?_)
    refine mt_callv (i := 94) (q' := q_9) (As := [.int t2]) (rest := []) hT dX6_join_15 rfl qm_9 (by decide) rfl rl_1 (by decide) rfl (Nat.le_of_ble_eq_true rfl) rfl ⟨rfl, rfl⟩ ⟨Nat.le_of_ble_eq_true rfl, Nat.le_of_ble_eq_true rfl⟩ (EvP.mono (by decide) (c_CS_pieceAt_NState hT hX )) (fun r19 P20 g21 => mpp 18 rfl ?_)
    obtain ⟨g21, e22⟩ := g21
    have e22 := e22.symm
    subst e22
    rcases g21 with ⟨rfl, q24n⟩ | ⟨b23, rfl, q24, q24r⟩
    · show MEvP _ none q_36 18 [(4, .ref b5), (0, .ref 0), (1, .int t1), (2, .int t2), (3, .int t3)] [.null] _ _ _ _
      replace q24n : t2.toInt < 0 ∨ (fv Po 1 1).toInt ≤ t2.toInt ∨ 8 ≤ t2.toInt := q24n
      refine mp_a (a_astoreN (L' := [(5, .null), (4, .ref b5), (0, .ref 0), (1, .int t1), (2, .int t2), (3, .int t3)]) dX6_join_18 (by decide) rfl) (mpp 20 rfl ?_)
      refine mp_a (a_aload dX6_join_20 rfl) (mpp 22 rfl ?_)
      refine mp_t (s_ifnullR dX6_join_22) (mpp 25 rfl ?_)
      refine mp_a (a_aloadN dX6_join_25 rfl) (mpp 27 rfl ?_)
      refine mp_t (s_ifnullN (t := 35) dX6_join_27 (by decide)) ?_
      refine mp_a (a_sipush (v := -1001) dX6_join_35 rfl) (mpp 38 rfl ?_)
      have u25 : KPX Po Po ∧ joinC Po Po (-1001 : Int) t1.toInt t2.toInt t3.toInt := ⟨⟨rfl, fun x j hx => rfl⟩, (show ((-1001 : Int) = -1001 ∧ ((t1.toInt < 0 ∨ (fv Po 1 1).toInt ≤ t1.toInt ∨ 8 ≤ t1.toInt) ∨ (t2.toInt < 0 ∨ (fv Po 1 1).toInt ≤ t2.toInt ∨ 8 ≤ t2.toInt) ∨ t1.toInt = t2.toInt) ∧ NCH Po Po) ∨ ((-1001 : Int) = -1002 ∧ (0 ≤ t1.toInt ∧ t1.toInt + 1 ≤ (fv Po 1 1).toInt ∧ t1.toInt ≤ 7) ∧ (0 ≤ t2.toInt ∧ t2.toInt + 1 ≤ (fv Po 1 1).toInt ∧ t2.toInt ≤ 7) ∧ ¬ t1.toInt = t2.toInt ∧ (t3.toInt < 0 ∨ 2 < t3.toInt) ∧ NCH Po Po) ∨ ((-1001 : Int) = -1003 ∧ (0 ≤ t1.toInt ∧ t1.toInt + 1 ≤ (fv Po 1 1).toInt ∧ t1.toInt ≤ 7) ∧ (0 ≤ t2.toInt ∧ t2.toInt + 1 ≤ (fv Po 1 1).toInt ∧ t2.toInt ≤ 7) ∧ ¬ t1.toInt = t2.toInt ∧ (0 ≤ t3.toInt ∧ t3.toInt ≤ 2) ∧ ((fv Po (rv Po 2 t1.toInt.toNat) 2).toInt = 1 ∨ (fv Po (rv Po 2 t2.toInt.toNat) 2).toInt = 1 ∨ ¬ (fv Po (rv Po 2 t1.toInt.toNat) 0).toInt = 0 ∨ ¬ (fv Po (rv Po 2 t2.toInt.toNat) 0).toInt = 0 ∨ 7 < (fv Po (rv Po 2 t1.toInt.toNat) 1).toInt + (fv Po (rv Po 2 t2.toInt.toNat) 1).toInt) ∧ NCH Po Po) ∨ ((0 ≤ t1.toInt ∧ t1.toInt + 1 ≤ (fv Po 1 1).toInt ∧ t1.toInt ≤ 7) ∧ (0 ≤ t2.toInt ∧ t2.toInt + 1 ≤ (fv Po 1 1).toInt ∧ t2.toInt ≤ 7) ∧ ¬ t1.toInt = t2.toInt ∧ (0 ≤ t3.toInt ∧ t3.toInt ≤ 2) ∧ ((fv Po (rv Po 2 t1.toInt.toNat) 2).toInt = 0 ∧ (fv Po (rv Po 2 t2.toInt.toNat) 2).toInt = 0 ∧ (fv Po (rv Po 2 t1.toInt.toNat) 0).toInt = 0 ∧ (fv Po (rv Po 2 t2.toInt.toNat) 0).toInt = 0 ∧ (fv Po (rv Po 2 t1.toInt.toNat) 1).toInt + (fv Po (rv Po 2 t2.toInt.toNat) 1).toInt ≤ 7) ∧ (-1001 : Int) = (fv Po (rv Po 2 t1.toInt.toNat) 1).toInt + (fv Po (rv Po 2 t2.toInt.toNat) 1).toInt ∧ PSH Po Po ∧ (fv Po (rv Po 2 t1.toInt.toNat) 1).toInt = (fv Po (rv Po 2 t1.toInt.toNat) 1).toInt + (fv Po (rv Po 2 t2.toInt.toNat) 1).toInt ∧ fv Po (rv Po 2 t1.toInt.toNat) 0 = fv Po (rv Po 2 t1.toInt.toNat) 0 ∧ fv Po (rv Po 2 t1.toInt.toNat) 2 = fv Po (rv Po 2 t1.toInt.toNat) 2 ∧ LB Po Po (rv Po 2 t1.toInt.toNat) (rv Po 2 t2.toInt.toNat) (fv Po (rv Po 2 t1.toInt.toNat) 1).toInt.toNat (fv Po (rv Po 2 t2.toInt.toNat) 1).toInt.toNat t3.toInt ∧ (fv Po 1 1).toInt = (fv Po 1 1).toInt - 1 ∧ RMf Po Po t2.toInt.toNat ((fv Po 1 1).toInt - 1).toNat ∧ (∀ x j : Nat, 1 ≤ x → x < 27 → ¬ (x = 1 ∧ j = 1) → ¬ ((rv Po 2 t1.toInt.toNat) ≤ x ∧ x < (rv Po 2 t1.toInt.toNat) + 3) → fv Po x j = fv Po x j)) from by rw [q6r.2.2.2]; exact Or.inl (⟨by omega, by omega, ⟨fun x j h1 h2 => rfl, fun k => rfl⟩⟩))⟩
      exact mp_iret ⟨⟨_, rfl, u25⟩, hT, KW.refl, hJ, trivial⟩ dX6_join_38 (Or.inl rfl)
    · show MEvP _ none q_36 18 [(4, .ref b5), (0, .ref 0), (1, .int t1), (2, .int t2), (3, .int t3)] [.ref b23] _ _ _ _
      replace q24r : 0 ≤ t2.toInt ∧ t2.toInt ≤ 7 ∧ t2.toInt + 1 ≤ (fv Po 1 1).toInt ∧ rv Po 2 t2.toInt.toNat = b23 := q24r
      have w26 := np_ar q24
      refine mp_a (a_astore (L' := [(5, .ref b23), (4, .ref b5), (0, .ref 0), (1, .int t1), (2, .int t2), (3, .int t3)]) dX6_join_18 (by decide) rfl) (mpp 20 rfl ?_)
      refine mp_a (a_aload dX6_join_20 rfl) (mpp 22 rfl ?_)
      refine mp_t (s_ifnullR dX6_join_22) (mpp 25 rfl ?_)
      refine mp_a (a_aload dX6_join_25 rfl) (mpp 27 rfl ?_)
      refine mp_t (s_ifnullR dX6_join_27) (mpp 30 rfl ?_)
      refine mp_a (a_iload_n dX6_join_30 rfl) (mpp 31 rfl ?_)
      refine mp_a (a_iload_n dX6_join_31 rfl) (mpp 32 rfl ?_)
      refine mp_Tb (t := 39) (j_icmp_ne dX6_join_32) (by decide) (fun c27 => ?_) (fun c27 => mpp 35 rfl ?_)
      · have c27 : t1.toInt ≠ t2.toInt := ti_ne c27
        refine mp_a (a_iload_n dX6_join_39 rfl) (mpp 40 rfl ?_)
        refine mp_calls (i := 101) (q' := q_26) (As := [.int t3]) (rest := []) dX6_join_40 rfl qm_26 (by decide) rfl (Nat.le_of_ble_eq_true rfl) rfl ⟨rfl, rfl⟩ ⟨Nat.le_of_ble_eq_true rfl, Nat.le_of_ble_eq_true rfl⟩ (EvP.mono (by decide) (c_F_isCreaseKind hT hX )) (fun r28 P29 g30 => mpp 43 rfl ?_)
        obtain ⟨⟨x31, rfl, g32⟩, e33⟩ := g30
        have e33 := e33.symm
        subst e33
        have wx31 := ti_full x31
        replace g32 : 0 ≤ x31.toInt ∧ x31.toInt ≤ 1 ∧ ((x31.toInt = 1 ∧ 0 ≤ t3.toInt ∧ t3.toInt ≤ 2) ∨ (x31.toInt = 0 ∧ (t3.toInt < 0 ∨ 2 < t3.toInt))) := g32
        show MEvP _ none q_36 43 [(5, .ref b23), (4, .ref b5), (0, .ref 0), (1, .int t1), (2, .int t2), (3, .int t3)] [.int x31] _ _ _ _
        refine mp_Tb (t := 50) (j_if_ne dX6_join_43) (by decide) (fun c34 => ?_) (fun c34 => mpp 46 rfl ?_)
        · have c34 : x31.toInt ≠ 0 := ti_ne c34
          refine mp_a (a_aload dX6_join_50 rfl) (mpp 52 rfl ?_)
          have g35 : (0 : Int) ≤ (fv Po b5 2).toInt ∧ (fv Po b5 2).toInt ≤ 1 := Typ.rng hT q6 (by decide) (by decide) rfl
          refine mt_getI (i := 104) (k := 2) hT dX6_join_52 rfl q6 (by decide) rfl (by decide) rfl (fun g36 g37 => mpp 55 rfl ?_)
          refine mp_Tb (t := 66) (j_if_ne dX6_join_55) (by decide) (fun c38 => ?_) (fun c38 => mpp 58 rfl ?_)
          · have c38 : (fv Po b5 2).toInt ≠ 0 := ti_ne c38
            refine mp_a (a_aload_n dX6_join_66 rfl) (mpp 67 rfl ?_)
            refine mp_a (a_iconst (v := 2) dX6_join_67 rfl) (mpp 68 rfl ?_)
            refine mp_a (a_aload dX6_join_68 rfl) (mpp 70 rfl ?_)
            refine mt_getI (i := 104) (k := 2) hT dX6_join_70 rfl q6 (by decide) rfl (by decide) rfl (fun g39 g40 => mpp 73 rfl ?_)
            refine mp_Tb (t := 80) (j_if_eq dX6_join_73) (by decide) (fun c41 => ?_) (fun c41 => mpp 76 rfl ?_)
            · have c41 : (fv Po b5 2).toInt = 0 := ti_eq c41
              refine mp_a (a_iload_n dX6_join_80 rfl) (mpp 81 rfl ?_)
              refine mt_callv (i := 68) (q' := q_14) (As := [.int 2, .int t2]) (rest := []) hT dX6_join_81 rfl qm_14 (by decide) rfl rl_0 (by decide) rfl (Nat.le_of_ble_eq_true rfl) rfl ⟨rfl, rfl⟩ ⟨Nat.le_of_ble_eq_true rfl, Nat.le_of_ble_eq_true rfl⟩ (EvP.mono (by decide) (c_F_refuse hT hX )) (fun r42 P43 g44 => mpp 84 rfl ?_)
              obtain ⟨⟨x45, rfl, g46⟩, hT47, k48, R49⟩ := g44
              have k50 : KW [10, 11, 12, 65, 66, 67, 192, 193, 194, 256, 320, 385, 386, 1985, 2048, 2113] Po P43 := KW.trans KW.refl k48 rfl
              have J52 := Inj.kw hJ k48 rfl
              have wx45 := ti_full x45
              replace g46 : x45.toInt = -1003 := g46
              show MEvP _ none q_36 84 [(5, .ref b23), (4, .ref b5), (0, .ref 0), (1, .int t1), (2, .int t2), (3, .int t3)] [.int x45] _ _ _ _
              have e54 : (fv P43 1 1).toInt = (fv Po 1 1).toInt := congrArg Int32.toInt (R49.2 1 1 (by omega))
              have e55 : (fv P43 1 2).toInt = (fv Po 1 2).toInt := congrArg Int32.toInt (R49.2 1 2 (by omega))
              have e56 : (fv P43 1 3).toInt = (fv Po 1 3).toInt := congrArg Int32.toInt (R49.2 1 3 (by omega))
              have u53 : KPX Po P43 ∧ joinC Po P43 x45.toInt t1.toInt t2.toInt t3.toInt := ⟨⟨by rw [R49.1], fun x j hx => by rw [R49.2 x j (by omega)]⟩, (show (x45.toInt = -1001 ∧ ((t1.toInt < 0 ∨ (fv Po 1 1).toInt ≤ t1.toInt ∨ 8 ≤ t1.toInt) ∨ (t2.toInt < 0 ∨ (fv Po 1 1).toInt ≤ t2.toInt ∨ 8 ≤ t2.toInt) ∨ t1.toInt = t2.toInt) ∧ NCH Po P43) ∨ (x45.toInt = -1002 ∧ (0 ≤ t1.toInt ∧ t1.toInt + 1 ≤ (fv Po 1 1).toInt ∧ t1.toInt ≤ 7) ∧ (0 ≤ t2.toInt ∧ t2.toInt + 1 ≤ (fv Po 1 1).toInt ∧ t2.toInt ≤ 7) ∧ ¬ t1.toInt = t2.toInt ∧ (t3.toInt < 0 ∨ 2 < t3.toInt) ∧ NCH Po P43) ∨ (x45.toInt = -1003 ∧ (0 ≤ t1.toInt ∧ t1.toInt + 1 ≤ (fv Po 1 1).toInt ∧ t1.toInt ≤ 7) ∧ (0 ≤ t2.toInt ∧ t2.toInt + 1 ≤ (fv Po 1 1).toInt ∧ t2.toInt ≤ 7) ∧ ¬ t1.toInt = t2.toInt ∧ (0 ≤ t3.toInt ∧ t3.toInt ≤ 2) ∧ ((fv Po (rv Po 2 t1.toInt.toNat) 2).toInt = 1 ∨ (fv Po (rv Po 2 t2.toInt.toNat) 2).toInt = 1 ∨ ¬ (fv Po (rv Po 2 t1.toInt.toNat) 0).toInt = 0 ∨ ¬ (fv Po (rv Po 2 t2.toInt.toNat) 0).toInt = 0 ∨ 7 < (fv Po (rv Po 2 t1.toInt.toNat) 1).toInt + (fv Po (rv Po 2 t2.toInt.toNat) 1).toInt) ∧ NCH Po P43) ∨ ((0 ≤ t1.toInt ∧ t1.toInt + 1 ≤ (fv Po 1 1).toInt ∧ t1.toInt ≤ 7) ∧ (0 ≤ t2.toInt ∧ t2.toInt + 1 ≤ (fv Po 1 1).toInt ∧ t2.toInt ≤ 7) ∧ ¬ t1.toInt = t2.toInt ∧ (0 ≤ t3.toInt ∧ t3.toInt ≤ 2) ∧ ((fv Po (rv Po 2 t1.toInt.toNat) 2).toInt = 0 ∧ (fv Po (rv Po 2 t2.toInt.toNat) 2).toInt = 0 ∧ (fv Po (rv Po 2 t1.toInt.toNat) 0).toInt = 0 ∧ (fv Po (rv Po 2 t2.toInt.toNat) 0).toInt = 0 ∧ (fv Po (rv Po 2 t1.toInt.toNat) 1).toInt + (fv Po (rv Po 2 t2.toInt.toNat) 1).toInt ≤ 7) ∧ x45.toInt = (fv Po (rv Po 2 t1.toInt.toNat) 1).toInt + (fv Po (rv Po 2 t2.toInt.toNat) 1).toInt ∧ PSH Po P43 ∧ (fv P43 (rv Po 2 t1.toInt.toNat) 1).toInt = (fv Po (rv Po 2 t1.toInt.toNat) 1).toInt + (fv Po (rv Po 2 t2.toInt.toNat) 1).toInt ∧ fv P43 (rv Po 2 t1.toInt.toNat) 0 = fv Po (rv Po 2 t1.toInt.toNat) 0 ∧ fv P43 (rv Po 2 t1.toInt.toNat) 2 = fv Po (rv Po 2 t1.toInt.toNat) 2 ∧ LB Po P43 (rv Po 2 t1.toInt.toNat) (rv Po 2 t2.toInt.toNat) (fv Po (rv Po 2 t1.toInt.toNat) 1).toInt.toNat (fv Po (rv Po 2 t2.toInt.toNat) 1).toInt.toNat t3.toInt ∧ (fv P43 1 1).toInt = (fv Po 1 1).toInt - 1 ∧ RMf Po P43 t2.toInt.toNat ((fv Po 1 1).toInt - 1).toNat ∧ (∀ x j : Nat, 1 ≤ x → x < 27 → ¬ (x = 1 ∧ j = 1) → ¬ ((rv Po 2 t1.toInt.toNat) ≤ x ∧ x < (rv Po 2 t1.toInt.toNat) + 3) → fv P43 x j = fv Po x j)) from by rw [q6r.2.2.2, q24r.2.2.2]; exact Or.inr (Or.inr (Or.inl (⟨by omega, by omega, by omega, by omega, by omega, by omega, ⟨fun x j h1 h2 => by rw [R49.2 x j (by omega)], fun k => by rw [k48.2.2 rfl k]⟩⟩))))⟩
              exact mp_iret ⟨⟨_, rfl, u53⟩, hT47, k50, J52, trivial⟩ dX6_join_84 (Or.inl rfl)
            · have c41 : (fv Po b5 2).toInt ≠ 0 := ti_eq_n c41
              refine mp_a (a_iload_n dX6_join_76 rfl) (mpp 77 rfl ?_)
              refine mp_a (a_goto (t := 81) dX6_join_77 (by decide)) ?_
              refine mt_callv (i := 68) (q' := q_14) (As := [.int 2, .int t1]) (rest := []) hT dX6_join_81 rfl qm_14 (by decide) rfl rl_0 (by decide) rfl (Nat.le_of_ble_eq_true rfl) rfl ⟨rfl, rfl⟩ ⟨Nat.le_of_ble_eq_true rfl, Nat.le_of_ble_eq_true rfl⟩ (EvP.mono (by decide) (c_F_refuse hT hX )) (fun r57 P58 g59 => mpp 84 rfl ?_)
              obtain ⟨⟨x60, rfl, g61⟩, hT62, k63, R64⟩ := g59
              have k65 : KW [10, 11, 12, 65, 66, 67, 192, 193, 194, 256, 320, 385, 386, 1985, 2048, 2113] Po P58 := KW.trans KW.refl k63 rfl
              have J67 := Inj.kw hJ k63 rfl
              have wx60 := ti_full x60
              replace g61 : x60.toInt = -1003 := g61
              show MEvP _ none q_36 84 [(5, .ref b23), (4, .ref b5), (0, .ref 0), (1, .int t1), (2, .int t2), (3, .int t3)] [.int x60] _ _ _ _
              have e69 : (fv P58 1 1).toInt = (fv Po 1 1).toInt := congrArg Int32.toInt (R64.2 1 1 (by omega))
              have e70 : (fv P58 1 2).toInt = (fv Po 1 2).toInt := congrArg Int32.toInt (R64.2 1 2 (by omega))
              have e71 : (fv P58 1 3).toInt = (fv Po 1 3).toInt := congrArg Int32.toInt (R64.2 1 3 (by omega))
              have u68 : KPX Po P58 ∧ joinC Po P58 x60.toInt t1.toInt t2.toInt t3.toInt := ⟨⟨by rw [R64.1], fun x j hx => by rw [R64.2 x j (by omega)]⟩, (show (x60.toInt = -1001 ∧ ((t1.toInt < 0 ∨ (fv Po 1 1).toInt ≤ t1.toInt ∨ 8 ≤ t1.toInt) ∨ (t2.toInt < 0 ∨ (fv Po 1 1).toInt ≤ t2.toInt ∨ 8 ≤ t2.toInt) ∨ t1.toInt = t2.toInt) ∧ NCH Po P58) ∨ (x60.toInt = -1002 ∧ (0 ≤ t1.toInt ∧ t1.toInt + 1 ≤ (fv Po 1 1).toInt ∧ t1.toInt ≤ 7) ∧ (0 ≤ t2.toInt ∧ t2.toInt + 1 ≤ (fv Po 1 1).toInt ∧ t2.toInt ≤ 7) ∧ ¬ t1.toInt = t2.toInt ∧ (t3.toInt < 0 ∨ 2 < t3.toInt) ∧ NCH Po P58) ∨ (x60.toInt = -1003 ∧ (0 ≤ t1.toInt ∧ t1.toInt + 1 ≤ (fv Po 1 1).toInt ∧ t1.toInt ≤ 7) ∧ (0 ≤ t2.toInt ∧ t2.toInt + 1 ≤ (fv Po 1 1).toInt ∧ t2.toInt ≤ 7) ∧ ¬ t1.toInt = t2.toInt ∧ (0 ≤ t3.toInt ∧ t3.toInt ≤ 2) ∧ ((fv Po (rv Po 2 t1.toInt.toNat) 2).toInt = 1 ∨ (fv Po (rv Po 2 t2.toInt.toNat) 2).toInt = 1 ∨ ¬ (fv Po (rv Po 2 t1.toInt.toNat) 0).toInt = 0 ∨ ¬ (fv Po (rv Po 2 t2.toInt.toNat) 0).toInt = 0 ∨ 7 < (fv Po (rv Po 2 t1.toInt.toNat) 1).toInt + (fv Po (rv Po 2 t2.toInt.toNat) 1).toInt) ∧ NCH Po P58) ∨ ((0 ≤ t1.toInt ∧ t1.toInt + 1 ≤ (fv Po 1 1).toInt ∧ t1.toInt ≤ 7) ∧ (0 ≤ t2.toInt ∧ t2.toInt + 1 ≤ (fv Po 1 1).toInt ∧ t2.toInt ≤ 7) ∧ ¬ t1.toInt = t2.toInt ∧ (0 ≤ t3.toInt ∧ t3.toInt ≤ 2) ∧ ((fv Po (rv Po 2 t1.toInt.toNat) 2).toInt = 0 ∧ (fv Po (rv Po 2 t2.toInt.toNat) 2).toInt = 0 ∧ (fv Po (rv Po 2 t1.toInt.toNat) 0).toInt = 0 ∧ (fv Po (rv Po 2 t2.toInt.toNat) 0).toInt = 0 ∧ (fv Po (rv Po 2 t1.toInt.toNat) 1).toInt + (fv Po (rv Po 2 t2.toInt.toNat) 1).toInt ≤ 7) ∧ x60.toInt = (fv Po (rv Po 2 t1.toInt.toNat) 1).toInt + (fv Po (rv Po 2 t2.toInt.toNat) 1).toInt ∧ PSH Po P58 ∧ (fv P58 (rv Po 2 t1.toInt.toNat) 1).toInt = (fv Po (rv Po 2 t1.toInt.toNat) 1).toInt + (fv Po (rv Po 2 t2.toInt.toNat) 1).toInt ∧ fv P58 (rv Po 2 t1.toInt.toNat) 0 = fv Po (rv Po 2 t1.toInt.toNat) 0 ∧ fv P58 (rv Po 2 t1.toInt.toNat) 2 = fv Po (rv Po 2 t1.toInt.toNat) 2 ∧ LB Po P58 (rv Po 2 t1.toInt.toNat) (rv Po 2 t2.toInt.toNat) (fv Po (rv Po 2 t1.toInt.toNat) 1).toInt.toNat (fv Po (rv Po 2 t2.toInt.toNat) 1).toInt.toNat t3.toInt ∧ (fv P58 1 1).toInt = (fv Po 1 1).toInt - 1 ∧ RMf Po P58 t2.toInt.toNat ((fv Po 1 1).toInt - 1).toNat ∧ (∀ x j : Nat, 1 ≤ x → x < 27 → ¬ (x = 1 ∧ j = 1) → ¬ ((rv Po 2 t1.toInt.toNat) ≤ x ∧ x < (rv Po 2 t1.toInt.toNat) + 3) → fv P58 x j = fv Po x j)) from by rw [q6r.2.2.2, q24r.2.2.2]; exact Or.inr (Or.inr (Or.inl (⟨by omega, by omega, by omega, by omega, by omega, by omega, ⟨fun x j h1 h2 => by rw [R64.2 x j (by omega)], fun k => by rw [k63.2.2 rfl k]⟩⟩))))⟩
              exact mp_iret ⟨⟨_, rfl, u68⟩, hT62, k65, J67, trivial⟩ dX6_join_84 (Or.inl rfl)
          · have c38 : (fv Po b5 2).toInt = 0 := ti_ne_n c38
            refine mp_a (a_aload dX6_join_58 rfl) (mpp 60 rfl ?_)
            have g72 : (0 : Int) ≤ (fv Po b23 2).toInt ∧ (fv Po b23 2).toInt ≤ 1 := Typ.rng hT q24 (by decide) (by decide) rfl
            refine mt_getI (i := 104) (k := 2) hT dX6_join_60 rfl q24 (by decide) rfl (by decide) rfl (fun g73 g74 => mpp 63 rfl ?_)
            refine mp_Tb (t := 85) (j_if_eq dX6_join_63) (by decide) (fun c75 => ?_) (fun c75 => mpp 66 rfl ?_)
            · have c75 : (fv Po b23 2).toInt = 0 := ti_eq c75
              refine mp_a (a_aload dX6_join_85 rfl) (mpp 87 rfl ?_)
              have g76 := ti_full (fv Po b5 0)
              refine mt_getI (i := 130) (k := 0) hT dX6_join_87 rfl q6 (by decide) rfl (by decide) rfl (fun g77 g78 => mpp 90 rfl ?_)
              refine mp_Tb (t := 101) (j_if_ne dX6_join_90) (by decide) (fun c79 => ?_) (fun c79 => mpp 93 rfl ?_)
              · have c79 : (fv Po b5 0).toInt ≠ 0 := ti_ne c79
                refine mp_a (a_aload_n dX6_join_101 rfl) (mpp 102 rfl ?_)
                refine mp_a (a_iconst (v := 3) dX6_join_102 rfl) (mpp 103 rfl ?_)
                refine mp_a (a_aload dX6_join_103 rfl) (mpp 105 rfl ?_)
                refine mt_getI (i := 130) (k := 0) hT dX6_join_105 rfl q6 (by decide) rfl (by decide) rfl (fun g80 g81 => mpp 108 rfl ?_)
                refine mp_Tb (t := 115) (j_if_eq dX6_join_108) (by decide) (fun c82 => ?_) (fun c82 => mpp 111 rfl ?_)
                · have c82 : (fv Po b5 0).toInt = 0 := ti_eq c82
                  refine mp_a (a_iload_n dX6_join_115 rfl) (mpp 116 rfl ?_)
                  refine mt_callv (i := 68) (q' := q_14) (As := [.int 3, .int t2]) (rest := []) hT dX6_join_116 rfl qm_14 (by decide) rfl rl_0 (by decide) rfl (Nat.le_of_ble_eq_true rfl) rfl ⟨rfl, rfl⟩ ⟨Nat.le_of_ble_eq_true rfl, Nat.le_of_ble_eq_true rfl⟩ (EvP.mono (by decide) (c_F_refuse hT hX )) (fun r83 P84 g85 => mpp 119 rfl ?_)
                  obtain ⟨⟨x86, rfl, g87⟩, hT88, k89, R90⟩ := g85
                  have k91 : KW [10, 11, 12, 65, 66, 67, 192, 193, 194, 256, 320, 385, 386, 1985, 2048, 2113] Po P84 := KW.trans KW.refl k89 rfl
                  have J93 := Inj.kw hJ k89 rfl
                  have wx86 := ti_full x86
                  replace g87 : x86.toInt = -1003 := g87
                  show MEvP _ none q_36 119 [(5, .ref b23), (4, .ref b5), (0, .ref 0), (1, .int t1), (2, .int t2), (3, .int t3)] [.int x86] _ _ _ _
                  have e95 : (fv P84 1 1).toInt = (fv Po 1 1).toInt := congrArg Int32.toInt (R90.2 1 1 (by omega))
                  have e96 : (fv P84 1 2).toInt = (fv Po 1 2).toInt := congrArg Int32.toInt (R90.2 1 2 (by omega))
                  have e97 : (fv P84 1 3).toInt = (fv Po 1 3).toInt := congrArg Int32.toInt (R90.2 1 3 (by omega))
                  have u94 : KPX Po P84 ∧ joinC Po P84 x86.toInt t1.toInt t2.toInt t3.toInt := ⟨⟨by rw [R90.1], fun x j hx => by rw [R90.2 x j (by omega)]⟩, (show (x86.toInt = -1001 ∧ ((t1.toInt < 0 ∨ (fv Po 1 1).toInt ≤ t1.toInt ∨ 8 ≤ t1.toInt) ∨ (t2.toInt < 0 ∨ (fv Po 1 1).toInt ≤ t2.toInt ∨ 8 ≤ t2.toInt) ∨ t1.toInt = t2.toInt) ∧ NCH Po P84) ∨ (x86.toInt = -1002 ∧ (0 ≤ t1.toInt ∧ t1.toInt + 1 ≤ (fv Po 1 1).toInt ∧ t1.toInt ≤ 7) ∧ (0 ≤ t2.toInt ∧ t2.toInt + 1 ≤ (fv Po 1 1).toInt ∧ t2.toInt ≤ 7) ∧ ¬ t1.toInt = t2.toInt ∧ (t3.toInt < 0 ∨ 2 < t3.toInt) ∧ NCH Po P84) ∨ (x86.toInt = -1003 ∧ (0 ≤ t1.toInt ∧ t1.toInt + 1 ≤ (fv Po 1 1).toInt ∧ t1.toInt ≤ 7) ∧ (0 ≤ t2.toInt ∧ t2.toInt + 1 ≤ (fv Po 1 1).toInt ∧ t2.toInt ≤ 7) ∧ ¬ t1.toInt = t2.toInt ∧ (0 ≤ t3.toInt ∧ t3.toInt ≤ 2) ∧ ((fv Po (rv Po 2 t1.toInt.toNat) 2).toInt = 1 ∨ (fv Po (rv Po 2 t2.toInt.toNat) 2).toInt = 1 ∨ ¬ (fv Po (rv Po 2 t1.toInt.toNat) 0).toInt = 0 ∨ ¬ (fv Po (rv Po 2 t2.toInt.toNat) 0).toInt = 0 ∨ 7 < (fv Po (rv Po 2 t1.toInt.toNat) 1).toInt + (fv Po (rv Po 2 t2.toInt.toNat) 1).toInt) ∧ NCH Po P84) ∨ ((0 ≤ t1.toInt ∧ t1.toInt + 1 ≤ (fv Po 1 1).toInt ∧ t1.toInt ≤ 7) ∧ (0 ≤ t2.toInt ∧ t2.toInt + 1 ≤ (fv Po 1 1).toInt ∧ t2.toInt ≤ 7) ∧ ¬ t1.toInt = t2.toInt ∧ (0 ≤ t3.toInt ∧ t3.toInt ≤ 2) ∧ ((fv Po (rv Po 2 t1.toInt.toNat) 2).toInt = 0 ∧ (fv Po (rv Po 2 t2.toInt.toNat) 2).toInt = 0 ∧ (fv Po (rv Po 2 t1.toInt.toNat) 0).toInt = 0 ∧ (fv Po (rv Po 2 t2.toInt.toNat) 0).toInt = 0 ∧ (fv Po (rv Po 2 t1.toInt.toNat) 1).toInt + (fv Po (rv Po 2 t2.toInt.toNat) 1).toInt ≤ 7) ∧ x86.toInt = (fv Po (rv Po 2 t1.toInt.toNat) 1).toInt + (fv Po (rv Po 2 t2.toInt.toNat) 1).toInt ∧ PSH Po P84 ∧ (fv P84 (rv Po 2 t1.toInt.toNat) 1).toInt = (fv Po (rv Po 2 t1.toInt.toNat) 1).toInt + (fv Po (rv Po 2 t2.toInt.toNat) 1).toInt ∧ fv P84 (rv Po 2 t1.toInt.toNat) 0 = fv Po (rv Po 2 t1.toInt.toNat) 0 ∧ fv P84 (rv Po 2 t1.toInt.toNat) 2 = fv Po (rv Po 2 t1.toInt.toNat) 2 ∧ LB Po P84 (rv Po 2 t1.toInt.toNat) (rv Po 2 t2.toInt.toNat) (fv Po (rv Po 2 t1.toInt.toNat) 1).toInt.toNat (fv Po (rv Po 2 t2.toInt.toNat) 1).toInt.toNat t3.toInt ∧ (fv P84 1 1).toInt = (fv Po 1 1).toInt - 1 ∧ RMf Po P84 t2.toInt.toNat ((fv Po 1 1).toInt - 1).toNat ∧ (∀ x j : Nat, 1 ≤ x → x < 27 → ¬ (x = 1 ∧ j = 1) → ¬ ((rv Po 2 t1.toInt.toNat) ≤ x ∧ x < (rv Po 2 t1.toInt.toNat) + 3) → fv P84 x j = fv Po x j)) from by rw [q6r.2.2.2, q24r.2.2.2]; exact Or.inr (Or.inr (Or.inl (⟨by omega, by omega, by omega, by omega, by omega, by omega, ⟨fun x j h1 h2 => by rw [R90.2 x j (by omega)], fun k => by rw [k89.2.2 rfl k]⟩⟩))))⟩
                  exact mp_iret ⟨⟨_, rfl, u94⟩, hT88, k91, J93, trivial⟩ dX6_join_119 (Or.inl rfl)
                · have c82 : (fv Po b5 0).toInt ≠ 0 := ti_eq_n c82
                  refine mp_a (a_iload_n dX6_join_111 rfl) (mpp 112 rfl ?_)
                  refine mp_a (a_goto (t := 116) dX6_join_112 (by decide)) ?_
                  refine mt_callv (i := 68) (q' := q_14) (As := [.int 3, .int t1]) (rest := []) hT dX6_join_116 rfl qm_14 (by decide) rfl rl_0 (by decide) rfl (Nat.le_of_ble_eq_true rfl) rfl ⟨rfl, rfl⟩ ⟨Nat.le_of_ble_eq_true rfl, Nat.le_of_ble_eq_true rfl⟩ (EvP.mono (by decide) (c_F_refuse hT hX )) (fun r98 P99 g100 => mpp 119 rfl ?_)
                  obtain ⟨⟨x101, rfl, g102⟩, hT103, k104, R105⟩ := g100
                  have k106 : KW [10, 11, 12, 65, 66, 67, 192, 193, 194, 256, 320, 385, 386, 1985, 2048, 2113] Po P99 := KW.trans KW.refl k104 rfl
                  have J108 := Inj.kw hJ k104 rfl
                  have wx101 := ti_full x101
                  replace g102 : x101.toInt = -1003 := g102
                  show MEvP _ none q_36 119 [(5, .ref b23), (4, .ref b5), (0, .ref 0), (1, .int t1), (2, .int t2), (3, .int t3)] [.int x101] _ _ _ _
                  have e110 : (fv P99 1 1).toInt = (fv Po 1 1).toInt := congrArg Int32.toInt (R105.2 1 1 (by omega))
                  have e111 : (fv P99 1 2).toInt = (fv Po 1 2).toInt := congrArg Int32.toInt (R105.2 1 2 (by omega))
                  have e112 : (fv P99 1 3).toInt = (fv Po 1 3).toInt := congrArg Int32.toInt (R105.2 1 3 (by omega))
                  have u109 : KPX Po P99 ∧ joinC Po P99 x101.toInt t1.toInt t2.toInt t3.toInt := ⟨⟨by rw [R105.1], fun x j hx => by rw [R105.2 x j (by omega)]⟩, (show (x101.toInt = -1001 ∧ ((t1.toInt < 0 ∨ (fv Po 1 1).toInt ≤ t1.toInt ∨ 8 ≤ t1.toInt) ∨ (t2.toInt < 0 ∨ (fv Po 1 1).toInt ≤ t2.toInt ∨ 8 ≤ t2.toInt) ∨ t1.toInt = t2.toInt) ∧ NCH Po P99) ∨ (x101.toInt = -1002 ∧ (0 ≤ t1.toInt ∧ t1.toInt + 1 ≤ (fv Po 1 1).toInt ∧ t1.toInt ≤ 7) ∧ (0 ≤ t2.toInt ∧ t2.toInt + 1 ≤ (fv Po 1 1).toInt ∧ t2.toInt ≤ 7) ∧ ¬ t1.toInt = t2.toInt ∧ (t3.toInt < 0 ∨ 2 < t3.toInt) ∧ NCH Po P99) ∨ (x101.toInt = -1003 ∧ (0 ≤ t1.toInt ∧ t1.toInt + 1 ≤ (fv Po 1 1).toInt ∧ t1.toInt ≤ 7) ∧ (0 ≤ t2.toInt ∧ t2.toInt + 1 ≤ (fv Po 1 1).toInt ∧ t2.toInt ≤ 7) ∧ ¬ t1.toInt = t2.toInt ∧ (0 ≤ t3.toInt ∧ t3.toInt ≤ 2) ∧ ((fv Po (rv Po 2 t1.toInt.toNat) 2).toInt = 1 ∨ (fv Po (rv Po 2 t2.toInt.toNat) 2).toInt = 1 ∨ ¬ (fv Po (rv Po 2 t1.toInt.toNat) 0).toInt = 0 ∨ ¬ (fv Po (rv Po 2 t2.toInt.toNat) 0).toInt = 0 ∨ 7 < (fv Po (rv Po 2 t1.toInt.toNat) 1).toInt + (fv Po (rv Po 2 t2.toInt.toNat) 1).toInt) ∧ NCH Po P99) ∨ ((0 ≤ t1.toInt ∧ t1.toInt + 1 ≤ (fv Po 1 1).toInt ∧ t1.toInt ≤ 7) ∧ (0 ≤ t2.toInt ∧ t2.toInt + 1 ≤ (fv Po 1 1).toInt ∧ t2.toInt ≤ 7) ∧ ¬ t1.toInt = t2.toInt ∧ (0 ≤ t3.toInt ∧ t3.toInt ≤ 2) ∧ ((fv Po (rv Po 2 t1.toInt.toNat) 2).toInt = 0 ∧ (fv Po (rv Po 2 t2.toInt.toNat) 2).toInt = 0 ∧ (fv Po (rv Po 2 t1.toInt.toNat) 0).toInt = 0 ∧ (fv Po (rv Po 2 t2.toInt.toNat) 0).toInt = 0 ∧ (fv Po (rv Po 2 t1.toInt.toNat) 1).toInt + (fv Po (rv Po 2 t2.toInt.toNat) 1).toInt ≤ 7) ∧ x101.toInt = (fv Po (rv Po 2 t1.toInt.toNat) 1).toInt + (fv Po (rv Po 2 t2.toInt.toNat) 1).toInt ∧ PSH Po P99 ∧ (fv P99 (rv Po 2 t1.toInt.toNat) 1).toInt = (fv Po (rv Po 2 t1.toInt.toNat) 1).toInt + (fv Po (rv Po 2 t2.toInt.toNat) 1).toInt ∧ fv P99 (rv Po 2 t1.toInt.toNat) 0 = fv Po (rv Po 2 t1.toInt.toNat) 0 ∧ fv P99 (rv Po 2 t1.toInt.toNat) 2 = fv Po (rv Po 2 t1.toInt.toNat) 2 ∧ LB Po P99 (rv Po 2 t1.toInt.toNat) (rv Po 2 t2.toInt.toNat) (fv Po (rv Po 2 t1.toInt.toNat) 1).toInt.toNat (fv Po (rv Po 2 t2.toInt.toNat) 1).toInt.toNat t3.toInt ∧ (fv P99 1 1).toInt = (fv Po 1 1).toInt - 1 ∧ RMf Po P99 t2.toInt.toNat ((fv Po 1 1).toInt - 1).toNat ∧ (∀ x j : Nat, 1 ≤ x → x < 27 → ¬ (x = 1 ∧ j = 1) → ¬ ((rv Po 2 t1.toInt.toNat) ≤ x ∧ x < (rv Po 2 t1.toInt.toNat) + 3) → fv P99 x j = fv Po x j)) from by rw [q6r.2.2.2, q24r.2.2.2]; exact Or.inr (Or.inr (Or.inl (⟨by omega, by omega, by omega, by omega, by omega, by omega, ⟨fun x j h1 h2 => by rw [R105.2 x j (by omega)], fun k => by rw [k104.2.2 rfl k]⟩⟩))))⟩
                  exact mp_iret ⟨⟨_, rfl, u109⟩, hT103, k106, J108, trivial⟩ dX6_join_119 (Or.inl rfl)
              · have c79 : (fv Po b5 0).toInt = 0 := ti_ne_n c79
                refine mp_a (a_aload dX6_join_93 rfl) (mpp 95 rfl ?_)
                have g113 := ti_full (fv Po b23 0)
                refine mt_getI (i := 130) (k := 0) hT dX6_join_95 rfl q24 (by decide) rfl (by decide) rfl (fun g114 g115 => mpp 98 rfl ?_)
                refine mp_Tb (t := 120) (j_if_eq dX6_join_98) (by decide) (fun c116 => ?_) (fun c116 => mpp 101 rfl ?_)
                · have c116 : (fv Po b23 0).toInt = 0 := ti_eq c116
                  refine mp_a (a_aload dX6_join_120 rfl) (mpp 122 rfl ?_)
                  have g117 : (0 : Int) ≤ (fv Po b5 1).toInt ∧ (fv Po b5 1).toInt ≤ 8 := Typ.rng hT q6 (by decide) (by decide) rfl
                  refine mt_getI (i := 143) (k := 1) hT dX6_join_122 rfl q6 (by decide) rfl (by decide) rfl (fun g118 g119 => mpp 125 rfl ?_)
                  refine mp_a (a_aload dX6_join_125 rfl) (mpp 127 rfl ?_)
                  have g120 : (0 : Int) ≤ (fv Po b23 1).toInt ∧ (fv Po b23 1).toInt ≤ 8 := Typ.rng hT q24 (by decide) (by decide) rfl
                  refine mt_getI (i := 143) (k := 1) hT dX6_join_127 rfl q24 (by decide) rfl (by decide) rfl (fun g121 g122 => mpp 130 rfl ?_)
                  obtain ⟨z123, h124⟩ := ti_ex ((fv Po b5 1) + (fv Po b23 1) : Int32)
                  have wz123 := ti_full z123
                  refine mp_t (s_iadd (v := z123) dX6_join_130 h124) (mpp 131 rfl ?_)
                  try have e125 : z123.toInt = (fv Po b5 1).toInt + (fv Po b23 1).toInt := ti_addz h124 rfl rfl (by omega) (by omega)
                  refine mp_a (a_istore (L' := [(6, .int z123), (5, .ref b23), (4, .ref b5), (0, .ref 0), (1, .int t1), (2, .int t2), (3, .int t3)]) dX6_join_131 (by decide) rfl) (mpp 133 rfl ?_)
                  refine mp_a (a_iload dX6_join_133 rfl) (mpp 135 rfl ?_)
                  refine mp_a (a_bipush (v := 7) dX6_join_135 rfl) (mpp 137 rfl ?_)
                  refine mp_Tb (t := 149) (j_icmp_le dX6_join_137) (by decide) (fun c126 => ?_) (fun c126 => mpp 140 rfl ?_)
                  · have c126 : z123.toInt ≤ 7 := ti_le c126
                    refine mp_a (a_aload_n dX6_join_149 rfl) (mpp 150 rfl ?_)
                    refine mt_getU (i := 25) (k := 3) (A := 79) hT dX6_join_150 rfl rl_0 (by decide) rfl (by decide) rfl un_6 (mpp 153 rfl ?_)
                    refine mp_a (a_aload_n dX6_join_153 rfl) (mpp 154 rfl ?_)
                    refine mt_getU (i := 10) (k := 0) (A := 1) hT dX6_join_154 rfl rl_0 (by decide) rfl (by decide) rfl un_31 (mpp 157 rfl ?_)
                    refine mt_callv (i := 72) (q' := q_15) (As := [.ref 1]) (rest := []) hT dX6_join_157 rfl qm_15 (by decide) rfl rl_79 (by decide) rfl (Nat.le_of_ble_eq_true rfl) rfl ⟨rfl, rfl⟩ ⟨Nat.le_of_ble_eq_true rfl, Nat.le_of_ble_eq_true rfl⟩ (EvP.mono (by decide) (c_CH_push_History_NState hT hX hJ )) (fun r127 P128 g129 => mpp 160 rfl ?_)
                    obtain ⟨⟨rfl, g131⟩, hT132, k133, J136, R134⟩ := g129
                    have k135 : KW [10, 11, 12, 65, 66, 67, 192, 193, 194, 256, 320, 385, 386, 1985, 2048, 2113] Po P128 := KW.trans KW.refl k133 rfl
                    show MEvP _ none q_36 160 [(6, .int z123), (5, .ref b23), (4, .ref b5), (0, .ref 0), (1, .int t1), (2, .int t2), (3, .int t3)] [] _ _ _ _
                    refine mp_a (a_aload dX6_join_160 rfl) (mpp 162 rfl ?_)
                    refine mp_a (a_aload dX6_join_162 rfl) (mpp 164 rfl ?_)
                    refine mp_a (a_iload_n dX6_join_164 rfl) (mpp 165 rfl ?_)
                    have e137 : (fv P128 b5 1).toInt = (fv Po b5 1).toInt := congrArg Int32.toInt (KW.at k133 1 q6 rfl)
                    have e138 : (fv P128 b23 1).toInt = (fv Po b23 1).toInt := congrArg Int32.toInt (KW.at k133 1 q24 rfl)
                    have p139 : (fv P128 b5 1).toInt + (fv P128 b23 1).toInt ≤ 8 := by omega
                    have p140 : b5 + 3 ≤ b23 ∨ b23 + 3 ≤ b5 := by have := np_dis (k := t1.toInt.toNat) hJ hT (by omega) (by omega) (by omega) q24r.2.2.2; rw [q6r.2.2.2] at this; exact this
                    refine mt_callv (i := 144) (q' := q_37) (As := [.ref b23, .int t3]) (rest := []) hT132 dX6_join_165 rfl qm_37 (by decide) rfl q6 (by decide) rfl (Nat.le_of_ble_eq_true rfl) rfl ⟨rfl, rfl⟩ ⟨Nat.le_of_ble_eq_true rfl, Nat.le_of_ble_eq_true rfl⟩ (EvP.mono (by decide) (c_CP_lengthenBy_NPiece_NPiece hT132 (KW.xr k135 hX) p139 p140 q6 q24)) (fun r141 P142 g143 => mpp 168 rfl ?_)
                    obtain ⟨⟨rfl, g145⟩, hT146, k147, R148⟩ := g143
                    have k149 : KW [10, 11, 12, 65, 66, 67, 192, 193, 194, 256, 320, 385, 386, 1985, 2048, 2113] Po P142 := KW.trans k135 k147 rfl
                    have J151 := Inj.kw J136 k147 rfl
                    show MEvP _ none q_36 168 [(6, .int z123), (5, .ref b23), (4, .ref b5), (0, .ref 0), (1, .int t1), (2, .int t2), (3, .int t3)] [] _ _ _ _
                    refine mp_a (a_aload_n dX6_join_168 rfl) (mpp 169 rfl ?_)
                    refine mt_getU (i := 10) (k := 0) (A := 1) hT146 dX6_join_169 rfl rl_0 (by decide) rfl (by decide) rfl un_31 (mpp 172 rfl ?_)
                    refine mp_a (a_iload_n dX6_join_172 rfl) (mpp 173 rfl ?_)
                    refine mt_callv (i := 147) (q' := q_38) (As := [.int t2]) (rest := []) hT146 dX6_join_173 rfl qm_38 (by decide) rfl rl_1 (by decide) rfl (Nat.le_of_ble_eq_true rfl) rfl ⟨rfl, rfl⟩ ⟨Nat.le_of_ble_eq_true rfl, Nat.le_of_ble_eq_true rfl⟩ (EvP.mono (by decide) (c_CS_removeAt_NState hT146 (KW.xr k149 hX) J151 )) (fun r152 P153 g154 => mpp 176 rfl ?_)
                    obtain ⟨⟨rfl, g156⟩, hT157, k158, J161, R159⟩ := g154
                    have k160 : KW [10, 11, 12, 65, 66, 67, 192, 193, 194, 256, 320, 385, 386, 1985, 2048, 2113] Po P153 := KW.trans k149 k158 rfl
                    show MEvP _ none q_36 176 [(6, .int z123), (5, .ref b23), (4, .ref b5), (0, .ref 0), (1, .int t1), (2, .int t2), (3, .int t3)] [] _ _ _ _
                    refine mp_a (a_iload dX6_join_176 rfl) (mpp 178 rfl ?_)
                    have e163 : (fv P128 1 1).toInt = (fv Po 1 1).toInt := congrArg Int32.toInt (R134.2.2.2.2.2 1 1 (by omega))
                    have e164 : (fv P128 1 2).toInt = (fv Po 1 2).toInt := congrArg Int32.toInt (R134.2.2.2.2.2 1 2 (by omega))
                    have e165 : (fv P128 1 3).toInt = (fv Po 1 3).toInt := congrArg Int32.toInt (R134.2.2.2.2.2 1 3 (by omega))
                    have e166 : (fv P142 1 1).toInt = (fv P128 1 1).toInt := congrArg Int32.toInt (R148.2.2.2.2 1 1 (by omega))
                    have e167 : (fv P142 1 2).toInt = (fv P128 1 2).toInt := congrArg Int32.toInt (R148.2.2.2.2 1 2 (by omega))
                    have e168 : (fv P142 1 3).toInt = (fv P128 1 3).toInt := congrArg Int32.toInt (R148.2.2.2.2 1 3 (by omega))
                    have e169 : (fv P153 1 2).toInt = (fv P142 1 2).toInt := congrArg Int32.toInt (R159.2.2.1 1 2 (by omega))
                    have e170 : (fv P153 1 3).toInt = (fv P142 1 3).toInt := congrArg Int32.toInt (R159.2.2.1 1 3 (by omega))
                    have w172_ : fv P153 b5 1 = fv P142 b5 1 := by rw [R159.2.2.2 b5 1 (by omega)]
                    have w173_ := congrArg Int32.toInt w172_
                    have u162 : KPX Po P153 ∧ joinC Po P153 z123.toInt t1.toInt t2.toInt t3.toInt := ⟨⟨by rw [R159.2.2.2 0 8 (by omega), R148.2.2.2.2 0 8 (by omega), R134.2.2.2.2.2 0 8 (by omega)], fun x j hx => by rw [R159.2.2.1 x j (by omega), R148.2.2.2.2 x j (by omega), R134.2.2.2.2.2 x j (by omega)]⟩, (show (z123.toInt = -1001 ∧ ((t1.toInt < 0 ∨ (fv Po 1 1).toInt ≤ t1.toInt ∨ 8 ≤ t1.toInt) ∨ (t2.toInt < 0 ∨ (fv Po 1 1).toInt ≤ t2.toInt ∨ 8 ≤ t2.toInt) ∨ t1.toInt = t2.toInt) ∧ NCH Po P153) ∨ (z123.toInt = -1002 ∧ (0 ≤ t1.toInt ∧ t1.toInt + 1 ≤ (fv Po 1 1).toInt ∧ t1.toInt ≤ 7) ∧ (0 ≤ t2.toInt ∧ t2.toInt + 1 ≤ (fv Po 1 1).toInt ∧ t2.toInt ≤ 7) ∧ ¬ t1.toInt = t2.toInt ∧ (t3.toInt < 0 ∨ 2 < t3.toInt) ∧ NCH Po P153) ∨ (z123.toInt = -1003 ∧ (0 ≤ t1.toInt ∧ t1.toInt + 1 ≤ (fv Po 1 1).toInt ∧ t1.toInt ≤ 7) ∧ (0 ≤ t2.toInt ∧ t2.toInt + 1 ≤ (fv Po 1 1).toInt ∧ t2.toInt ≤ 7) ∧ ¬ t1.toInt = t2.toInt ∧ (0 ≤ t3.toInt ∧ t3.toInt ≤ 2) ∧ ((fv Po (rv Po 2 t1.toInt.toNat) 2).toInt = 1 ∨ (fv Po (rv Po 2 t2.toInt.toNat) 2).toInt = 1 ∨ ¬ (fv Po (rv Po 2 t1.toInt.toNat) 0).toInt = 0 ∨ ¬ (fv Po (rv Po 2 t2.toInt.toNat) 0).toInt = 0 ∨ 7 < (fv Po (rv Po 2 t1.toInt.toNat) 1).toInt + (fv Po (rv Po 2 t2.toInt.toNat) 1).toInt) ∧ NCH Po P153) ∨ ((0 ≤ t1.toInt ∧ t1.toInt + 1 ≤ (fv Po 1 1).toInt ∧ t1.toInt ≤ 7) ∧ (0 ≤ t2.toInt ∧ t2.toInt + 1 ≤ (fv Po 1 1).toInt ∧ t2.toInt ≤ 7) ∧ ¬ t1.toInt = t2.toInt ∧ (0 ≤ t3.toInt ∧ t3.toInt ≤ 2) ∧ ((fv Po (rv Po 2 t1.toInt.toNat) 2).toInt = 0 ∧ (fv Po (rv Po 2 t2.toInt.toNat) 2).toInt = 0 ∧ (fv Po (rv Po 2 t1.toInt.toNat) 0).toInt = 0 ∧ (fv Po (rv Po 2 t2.toInt.toNat) 0).toInt = 0 ∧ (fv Po (rv Po 2 t1.toInt.toNat) 1).toInt + (fv Po (rv Po 2 t2.toInt.toNat) 1).toInt ≤ 7) ∧ z123.toInt = (fv Po (rv Po 2 t1.toInt.toNat) 1).toInt + (fv Po (rv Po 2 t2.toInt.toNat) 1).toInt ∧ PSH Po P153 ∧ (fv P153 (rv Po 2 t1.toInt.toNat) 1).toInt = (fv Po (rv Po 2 t1.toInt.toNat) 1).toInt + (fv Po (rv Po 2 t2.toInt.toNat) 1).toInt ∧ fv P153 (rv Po 2 t1.toInt.toNat) 0 = fv Po (rv Po 2 t1.toInt.toNat) 0 ∧ fv P153 (rv Po 2 t1.toInt.toNat) 2 = fv Po (rv Po 2 t1.toInt.toNat) 2 ∧ LB Po P153 (rv Po 2 t1.toInt.toNat) (rv Po 2 t2.toInt.toNat) (fv Po (rv Po 2 t1.toInt.toNat) 1).toInt.toNat (fv Po (rv Po 2 t2.toInt.toNat) 1).toInt.toNat t3.toInt ∧ (fv P153 1 1).toInt = (fv Po 1 1).toInt - 1 ∧ RMf Po P153 t2.toInt.toNat ((fv Po 1 1).toInt - 1).toNat ∧ (∀ x j : Nat, 1 ≤ x → x < 27 → ¬ (x = 1 ∧ j = 1) → ¬ ((rv Po 2 t1.toInt.toNat) ≤ x ∧ x < (rv Po 2 t1.toInt.toNat) + 3) → fv P153 x j = fv Po x j)) from by rw [q6r.2.2.2, q24r.2.2.2]; exact Or.inr (Or.inr (Or.inr (⟨by omega, by omega, by omega, by omega, by omega, by omega, PSH.mk (P := Po) (Q := P128) hT R134.1 R134.2.1 R134.2.2.1 R134.2.2.2.1 R134.2.2.2.2.1 (fun x j h1 h2 => by rw [R159.2.2.1 x j (by omega), R148.2.2.2.2 x j (by omega)]) (fun x j hx => rfl) (fun k => rfl) (Typ.rng hT rl_79 (by decide) (by decide) rfl), by have := R148.1; omega, by rw [R159.2.2.2 b5 0 (by omega), R148.2.1, R134.2.2.2.2.2 b5 0 (by omega)], by rw [R159.2.2.2 b5 2 (by omega), R148.2.2.1, R134.2.2.2.2.2 b5 2 (by omega)], R148.2.2.2.1.src (fun x j h1 h2 => by rw [R134.2.2.2.2.2 x j (by omega)]) (fun x j h1 h2 => by rw [R159.2.2.1 x j (by omega)]) (by omega) (by omega) (by omega) (by omega), by omega, ((R159.2.1.resolve_left (by omega)).src (fun k => by rw [k147.2.2 rfl k, k133.2.2 rfl k])).eq (by omega), fun x j h1 h2 h3 h4 => by rw [R159.2.2.1 x j (by omega), R148.2.2.2.2 x j (by omega), R134.2.2.2.2.2 x j (by omega)]⟩))))⟩
                    exact mp_iret ⟨⟨_, rfl, u162⟩, hT157, k160, J161, trivial⟩ dX6_join_178 (Or.inl rfl)
                  · have c126 : z123.toInt > 7 := ti_le_n c126
                    refine mp_a (a_aload_n dX6_join_140 rfl) (mpp 141 rfl ?_)
                    refine mp_a (a_bipush (v := 6) dX6_join_141 rfl) (mpp 143 rfl ?_)
                    refine mp_a (a_iload dX6_join_143 rfl) (mpp 145 rfl ?_)
                    refine mt_callv (i := 68) (q' := q_14) (As := [.int 6, .int z123]) (rest := []) hT dX6_join_145 rfl qm_14 (by decide) rfl rl_0 (by decide) rfl (Nat.le_of_ble_eq_true rfl) rfl ⟨rfl, rfl⟩ ⟨Nat.le_of_ble_eq_true rfl, Nat.le_of_ble_eq_true rfl⟩ (EvP.mono (by decide) (c_F_refuse hT hX )) (fun r174 P175 g176 => mpp 148 rfl ?_)
                    obtain ⟨⟨x177, rfl, g178⟩, hT179, k180, R181⟩ := g176
                    have k182 : KW [10, 11, 12, 65, 66, 67, 192, 193, 194, 256, 320, 385, 386, 1985, 2048, 2113] Po P175 := KW.trans KW.refl k180 rfl
                    have J184 := Inj.kw hJ k180 rfl
                    have wx177 := ti_full x177
                    replace g178 : x177.toInt = -1003 := g178
                    show MEvP _ none q_36 148 [(6, .int z123), (5, .ref b23), (4, .ref b5), (0, .ref 0), (1, .int t1), (2, .int t2), (3, .int t3)] [.int x177] _ _ _ _
                    have e186 : (fv P175 1 1).toInt = (fv Po 1 1).toInt := congrArg Int32.toInt (R181.2 1 1 (by omega))
                    have e187 : (fv P175 1 2).toInt = (fv Po 1 2).toInt := congrArg Int32.toInt (R181.2 1 2 (by omega))
                    have e188 : (fv P175 1 3).toInt = (fv Po 1 3).toInt := congrArg Int32.toInt (R181.2 1 3 (by omega))
                    have u185 : KPX Po P175 ∧ joinC Po P175 x177.toInt t1.toInt t2.toInt t3.toInt := ⟨⟨by rw [R181.1], fun x j hx => by rw [R181.2 x j (by omega)]⟩, (show (x177.toInt = -1001 ∧ ((t1.toInt < 0 ∨ (fv Po 1 1).toInt ≤ t1.toInt ∨ 8 ≤ t1.toInt) ∨ (t2.toInt < 0 ∨ (fv Po 1 1).toInt ≤ t2.toInt ∨ 8 ≤ t2.toInt) ∨ t1.toInt = t2.toInt) ∧ NCH Po P175) ∨ (x177.toInt = -1002 ∧ (0 ≤ t1.toInt ∧ t1.toInt + 1 ≤ (fv Po 1 1).toInt ∧ t1.toInt ≤ 7) ∧ (0 ≤ t2.toInt ∧ t2.toInt + 1 ≤ (fv Po 1 1).toInt ∧ t2.toInt ≤ 7) ∧ ¬ t1.toInt = t2.toInt ∧ (t3.toInt < 0 ∨ 2 < t3.toInt) ∧ NCH Po P175) ∨ (x177.toInt = -1003 ∧ (0 ≤ t1.toInt ∧ t1.toInt + 1 ≤ (fv Po 1 1).toInt ∧ t1.toInt ≤ 7) ∧ (0 ≤ t2.toInt ∧ t2.toInt + 1 ≤ (fv Po 1 1).toInt ∧ t2.toInt ≤ 7) ∧ ¬ t1.toInt = t2.toInt ∧ (0 ≤ t3.toInt ∧ t3.toInt ≤ 2) ∧ ((fv Po (rv Po 2 t1.toInt.toNat) 2).toInt = 1 ∨ (fv Po (rv Po 2 t2.toInt.toNat) 2).toInt = 1 ∨ ¬ (fv Po (rv Po 2 t1.toInt.toNat) 0).toInt = 0 ∨ ¬ (fv Po (rv Po 2 t2.toInt.toNat) 0).toInt = 0 ∨ 7 < (fv Po (rv Po 2 t1.toInt.toNat) 1).toInt + (fv Po (rv Po 2 t2.toInt.toNat) 1).toInt) ∧ NCH Po P175) ∨ ((0 ≤ t1.toInt ∧ t1.toInt + 1 ≤ (fv Po 1 1).toInt ∧ t1.toInt ≤ 7) ∧ (0 ≤ t2.toInt ∧ t2.toInt + 1 ≤ (fv Po 1 1).toInt ∧ t2.toInt ≤ 7) ∧ ¬ t1.toInt = t2.toInt ∧ (0 ≤ t3.toInt ∧ t3.toInt ≤ 2) ∧ ((fv Po (rv Po 2 t1.toInt.toNat) 2).toInt = 0 ∧ (fv Po (rv Po 2 t2.toInt.toNat) 2).toInt = 0 ∧ (fv Po (rv Po 2 t1.toInt.toNat) 0).toInt = 0 ∧ (fv Po (rv Po 2 t2.toInt.toNat) 0).toInt = 0 ∧ (fv Po (rv Po 2 t1.toInt.toNat) 1).toInt + (fv Po (rv Po 2 t2.toInt.toNat) 1).toInt ≤ 7) ∧ x177.toInt = (fv Po (rv Po 2 t1.toInt.toNat) 1).toInt + (fv Po (rv Po 2 t2.toInt.toNat) 1).toInt ∧ PSH Po P175 ∧ (fv P175 (rv Po 2 t1.toInt.toNat) 1).toInt = (fv Po (rv Po 2 t1.toInt.toNat) 1).toInt + (fv Po (rv Po 2 t2.toInt.toNat) 1).toInt ∧ fv P175 (rv Po 2 t1.toInt.toNat) 0 = fv Po (rv Po 2 t1.toInt.toNat) 0 ∧ fv P175 (rv Po 2 t1.toInt.toNat) 2 = fv Po (rv Po 2 t1.toInt.toNat) 2 ∧ LB Po P175 (rv Po 2 t1.toInt.toNat) (rv Po 2 t2.toInt.toNat) (fv Po (rv Po 2 t1.toInt.toNat) 1).toInt.toNat (fv Po (rv Po 2 t2.toInt.toNat) 1).toInt.toNat t3.toInt ∧ (fv P175 1 1).toInt = (fv Po 1 1).toInt - 1 ∧ RMf Po P175 t2.toInt.toNat ((fv Po 1 1).toInt - 1).toNat ∧ (∀ x j : Nat, 1 ≤ x → x < 27 → ¬ (x = 1 ∧ j = 1) → ¬ ((rv Po 2 t1.toInt.toNat) ≤ x ∧ x < (rv Po 2 t1.toInt.toNat) + 3) → fv P175 x j = fv Po x j)) from by rw [q6r.2.2.2, q24r.2.2.2]; exact Or.inr (Or.inr (Or.inl (⟨by omega, by omega, by omega, by omega, by omega, by omega, ⟨fun x j h1 h2 => by rw [R181.2 x j (by omega)], fun k => by rw [k180.2.2 rfl k]⟩⟩))))⟩
                    exact mp_iret ⟨⟨_, rfl, u185⟩, hT179, k182, J184, trivial⟩ dX6_join_148 (Or.inl rfl)
                · have c116 : (fv Po b23 0).toInt ≠ 0 := ti_eq_n c116
                  refine mp_a (a_aload_n dX6_join_101 rfl) (mpp 102 rfl ?_)
                  refine mp_a (a_iconst (v := 3) dX6_join_102 rfl) (mpp 103 rfl ?_)
                  refine mp_a (a_aload dX6_join_103 rfl) (mpp 105 rfl ?_)
                  refine mt_getI (i := 130) (k := 0) hT dX6_join_105 rfl q6 (by decide) rfl (by decide) rfl (fun g189 g190 => mpp 108 rfl ?_)
                  refine mp_Tb (t := 115) (j_if_eq dX6_join_108) (by decide) (fun c191 => ?_) (fun c191 => mpp 111 rfl ?_)
                  · have c191 : (fv Po b5 0).toInt = 0 := ti_eq c191
                    refine mp_a (a_iload_n dX6_join_115 rfl) (mpp 116 rfl ?_)
                    refine mt_callv (i := 68) (q' := q_14) (As := [.int 3, .int t2]) (rest := []) hT dX6_join_116 rfl qm_14 (by decide) rfl rl_0 (by decide) rfl (Nat.le_of_ble_eq_true rfl) rfl ⟨rfl, rfl⟩ ⟨Nat.le_of_ble_eq_true rfl, Nat.le_of_ble_eq_true rfl⟩ (EvP.mono (by decide) (c_F_refuse hT hX )) (fun r192 P193 g194 => mpp 119 rfl ?_)
                    obtain ⟨⟨x195, rfl, g196⟩, hT197, k198, R199⟩ := g194
                    have k200 : KW [10, 11, 12, 65, 66, 67, 192, 193, 194, 256, 320, 385, 386, 1985, 2048, 2113] Po P193 := KW.trans KW.refl k198 rfl
                    have J202 := Inj.kw hJ k198 rfl
                    have wx195 := ti_full x195
                    replace g196 : x195.toInt = -1003 := g196
                    show MEvP _ none q_36 119 [(5, .ref b23), (4, .ref b5), (0, .ref 0), (1, .int t1), (2, .int t2), (3, .int t3)] [.int x195] _ _ _ _
                    have e204 : (fv P193 1 1).toInt = (fv Po 1 1).toInt := congrArg Int32.toInt (R199.2 1 1 (by omega))
                    have e205 : (fv P193 1 2).toInt = (fv Po 1 2).toInt := congrArg Int32.toInt (R199.2 1 2 (by omega))
                    have e206 : (fv P193 1 3).toInt = (fv Po 1 3).toInt := congrArg Int32.toInt (R199.2 1 3 (by omega))
                    have u203 : KPX Po P193 ∧ joinC Po P193 x195.toInt t1.toInt t2.toInt t3.toInt := ⟨⟨by rw [R199.1], fun x j hx => by rw [R199.2 x j (by omega)]⟩, (show (x195.toInt = -1001 ∧ ((t1.toInt < 0 ∨ (fv Po 1 1).toInt ≤ t1.toInt ∨ 8 ≤ t1.toInt) ∨ (t2.toInt < 0 ∨ (fv Po 1 1).toInt ≤ t2.toInt ∨ 8 ≤ t2.toInt) ∨ t1.toInt = t2.toInt) ∧ NCH Po P193) ∨ (x195.toInt = -1002 ∧ (0 ≤ t1.toInt ∧ t1.toInt + 1 ≤ (fv Po 1 1).toInt ∧ t1.toInt ≤ 7) ∧ (0 ≤ t2.toInt ∧ t2.toInt + 1 ≤ (fv Po 1 1).toInt ∧ t2.toInt ≤ 7) ∧ ¬ t1.toInt = t2.toInt ∧ (t3.toInt < 0 ∨ 2 < t3.toInt) ∧ NCH Po P193) ∨ (x195.toInt = -1003 ∧ (0 ≤ t1.toInt ∧ t1.toInt + 1 ≤ (fv Po 1 1).toInt ∧ t1.toInt ≤ 7) ∧ (0 ≤ t2.toInt ∧ t2.toInt + 1 ≤ (fv Po 1 1).toInt ∧ t2.toInt ≤ 7) ∧ ¬ t1.toInt = t2.toInt ∧ (0 ≤ t3.toInt ∧ t3.toInt ≤ 2) ∧ ((fv Po (rv Po 2 t1.toInt.toNat) 2).toInt = 1 ∨ (fv Po (rv Po 2 t2.toInt.toNat) 2).toInt = 1 ∨ ¬ (fv Po (rv Po 2 t1.toInt.toNat) 0).toInt = 0 ∨ ¬ (fv Po (rv Po 2 t2.toInt.toNat) 0).toInt = 0 ∨ 7 < (fv Po (rv Po 2 t1.toInt.toNat) 1).toInt + (fv Po (rv Po 2 t2.toInt.toNat) 1).toInt) ∧ NCH Po P193) ∨ ((0 ≤ t1.toInt ∧ t1.toInt + 1 ≤ (fv Po 1 1).toInt ∧ t1.toInt ≤ 7) ∧ (0 ≤ t2.toInt ∧ t2.toInt + 1 ≤ (fv Po 1 1).toInt ∧ t2.toInt ≤ 7) ∧ ¬ t1.toInt = t2.toInt ∧ (0 ≤ t3.toInt ∧ t3.toInt ≤ 2) ∧ ((fv Po (rv Po 2 t1.toInt.toNat) 2).toInt = 0 ∧ (fv Po (rv Po 2 t2.toInt.toNat) 2).toInt = 0 ∧ (fv Po (rv Po 2 t1.toInt.toNat) 0).toInt = 0 ∧ (fv Po (rv Po 2 t2.toInt.toNat) 0).toInt = 0 ∧ (fv Po (rv Po 2 t1.toInt.toNat) 1).toInt + (fv Po (rv Po 2 t2.toInt.toNat) 1).toInt ≤ 7) ∧ x195.toInt = (fv Po (rv Po 2 t1.toInt.toNat) 1).toInt + (fv Po (rv Po 2 t2.toInt.toNat) 1).toInt ∧ PSH Po P193 ∧ (fv P193 (rv Po 2 t1.toInt.toNat) 1).toInt = (fv Po (rv Po 2 t1.toInt.toNat) 1).toInt + (fv Po (rv Po 2 t2.toInt.toNat) 1).toInt ∧ fv P193 (rv Po 2 t1.toInt.toNat) 0 = fv Po (rv Po 2 t1.toInt.toNat) 0 ∧ fv P193 (rv Po 2 t1.toInt.toNat) 2 = fv Po (rv Po 2 t1.toInt.toNat) 2 ∧ LB Po P193 (rv Po 2 t1.toInt.toNat) (rv Po 2 t2.toInt.toNat) (fv Po (rv Po 2 t1.toInt.toNat) 1).toInt.toNat (fv Po (rv Po 2 t2.toInt.toNat) 1).toInt.toNat t3.toInt ∧ (fv P193 1 1).toInt = (fv Po 1 1).toInt - 1 ∧ RMf Po P193 t2.toInt.toNat ((fv Po 1 1).toInt - 1).toNat ∧ (∀ x j : Nat, 1 ≤ x → x < 27 → ¬ (x = 1 ∧ j = 1) → ¬ ((rv Po 2 t1.toInt.toNat) ≤ x ∧ x < (rv Po 2 t1.toInt.toNat) + 3) → fv P193 x j = fv Po x j)) from by rw [q6r.2.2.2, q24r.2.2.2]; exact Or.inr (Or.inr (Or.inl (⟨by omega, by omega, by omega, by omega, by omega, by omega, ⟨fun x j h1 h2 => by rw [R199.2 x j (by omega)], fun k => by rw [k198.2.2 rfl k]⟩⟩))))⟩
                    exact mp_iret ⟨⟨_, rfl, u203⟩, hT197, k200, J202, trivial⟩ dX6_join_119 (Or.inl rfl)
                  · have c191 : (fv Po b5 0).toInt ≠ 0 := ti_eq_n c191
                    refine mp_a (a_iload_n dX6_join_111 rfl) (mpp 112 rfl ?_)
                    refine mp_a (a_goto (t := 116) dX6_join_112 (by decide)) ?_
                    refine mt_callv (i := 68) (q' := q_14) (As := [.int 3, .int t1]) (rest := []) hT dX6_join_116 rfl qm_14 (by decide) rfl rl_0 (by decide) rfl (Nat.le_of_ble_eq_true rfl) rfl ⟨rfl, rfl⟩ ⟨Nat.le_of_ble_eq_true rfl, Nat.le_of_ble_eq_true rfl⟩ (EvP.mono (by decide) (c_F_refuse hT hX )) (fun r207 P208 g209 => mpp 119 rfl ?_)
                    obtain ⟨⟨x210, rfl, g211⟩, hT212, k213, R214⟩ := g209
                    have k215 : KW [10, 11, 12, 65, 66, 67, 192, 193, 194, 256, 320, 385, 386, 1985, 2048, 2113] Po P208 := KW.trans KW.refl k213 rfl
                    have J217 := Inj.kw hJ k213 rfl
                    have wx210 := ti_full x210
                    replace g211 : x210.toInt = -1003 := g211
                    show MEvP _ none q_36 119 [(5, .ref b23), (4, .ref b5), (0, .ref 0), (1, .int t1), (2, .int t2), (3, .int t3)] [.int x210] _ _ _ _
                    have e219 : (fv P208 1 1).toInt = (fv Po 1 1).toInt := congrArg Int32.toInt (R214.2 1 1 (by omega))
                    have e220 : (fv P208 1 2).toInt = (fv Po 1 2).toInt := congrArg Int32.toInt (R214.2 1 2 (by omega))
                    have e221 : (fv P208 1 3).toInt = (fv Po 1 3).toInt := congrArg Int32.toInt (R214.2 1 3 (by omega))
                    have u218 : KPX Po P208 ∧ joinC Po P208 x210.toInt t1.toInt t2.toInt t3.toInt := ⟨⟨by rw [R214.1], fun x j hx => by rw [R214.2 x j (by omega)]⟩, (show (x210.toInt = -1001 ∧ ((t1.toInt < 0 ∨ (fv Po 1 1).toInt ≤ t1.toInt ∨ 8 ≤ t1.toInt) ∨ (t2.toInt < 0 ∨ (fv Po 1 1).toInt ≤ t2.toInt ∨ 8 ≤ t2.toInt) ∨ t1.toInt = t2.toInt) ∧ NCH Po P208) ∨ (x210.toInt = -1002 ∧ (0 ≤ t1.toInt ∧ t1.toInt + 1 ≤ (fv Po 1 1).toInt ∧ t1.toInt ≤ 7) ∧ (0 ≤ t2.toInt ∧ t2.toInt + 1 ≤ (fv Po 1 1).toInt ∧ t2.toInt ≤ 7) ∧ ¬ t1.toInt = t2.toInt ∧ (t3.toInt < 0 ∨ 2 < t3.toInt) ∧ NCH Po P208) ∨ (x210.toInt = -1003 ∧ (0 ≤ t1.toInt ∧ t1.toInt + 1 ≤ (fv Po 1 1).toInt ∧ t1.toInt ≤ 7) ∧ (0 ≤ t2.toInt ∧ t2.toInt + 1 ≤ (fv Po 1 1).toInt ∧ t2.toInt ≤ 7) ∧ ¬ t1.toInt = t2.toInt ∧ (0 ≤ t3.toInt ∧ t3.toInt ≤ 2) ∧ ((fv Po (rv Po 2 t1.toInt.toNat) 2).toInt = 1 ∨ (fv Po (rv Po 2 t2.toInt.toNat) 2).toInt = 1 ∨ ¬ (fv Po (rv Po 2 t1.toInt.toNat) 0).toInt = 0 ∨ ¬ (fv Po (rv Po 2 t2.toInt.toNat) 0).toInt = 0 ∨ 7 < (fv Po (rv Po 2 t1.toInt.toNat) 1).toInt + (fv Po (rv Po 2 t2.toInt.toNat) 1).toInt) ∧ NCH Po P208) ∨ ((0 ≤ t1.toInt ∧ t1.toInt + 1 ≤ (fv Po 1 1).toInt ∧ t1.toInt ≤ 7) ∧ (0 ≤ t2.toInt ∧ t2.toInt + 1 ≤ (fv Po 1 1).toInt ∧ t2.toInt ≤ 7) ∧ ¬ t1.toInt = t2.toInt ∧ (0 ≤ t3.toInt ∧ t3.toInt ≤ 2) ∧ ((fv Po (rv Po 2 t1.toInt.toNat) 2).toInt = 0 ∧ (fv Po (rv Po 2 t2.toInt.toNat) 2).toInt = 0 ∧ (fv Po (rv Po 2 t1.toInt.toNat) 0).toInt = 0 ∧ (fv Po (rv Po 2 t2.toInt.toNat) 0).toInt = 0 ∧ (fv Po (rv Po 2 t1.toInt.toNat) 1).toInt + (fv Po (rv Po 2 t2.toInt.toNat) 1).toInt ≤ 7) ∧ x210.toInt = (fv Po (rv Po 2 t1.toInt.toNat) 1).toInt + (fv Po (rv Po 2 t2.toInt.toNat) 1).toInt ∧ PSH Po P208 ∧ (fv P208 (rv Po 2 t1.toInt.toNat) 1).toInt = (fv Po (rv Po 2 t1.toInt.toNat) 1).toInt + (fv Po (rv Po 2 t2.toInt.toNat) 1).toInt ∧ fv P208 (rv Po 2 t1.toInt.toNat) 0 = fv Po (rv Po 2 t1.toInt.toNat) 0 ∧ fv P208 (rv Po 2 t1.toInt.toNat) 2 = fv Po (rv Po 2 t1.toInt.toNat) 2 ∧ LB Po P208 (rv Po 2 t1.toInt.toNat) (rv Po 2 t2.toInt.toNat) (fv Po (rv Po 2 t1.toInt.toNat) 1).toInt.toNat (fv Po (rv Po 2 t2.toInt.toNat) 1).toInt.toNat t3.toInt ∧ (fv P208 1 1).toInt = (fv Po 1 1).toInt - 1 ∧ RMf Po P208 t2.toInt.toNat ((fv Po 1 1).toInt - 1).toNat ∧ (∀ x j : Nat, 1 ≤ x → x < 27 → ¬ (x = 1 ∧ j = 1) → ¬ ((rv Po 2 t1.toInt.toNat) ≤ x ∧ x < (rv Po 2 t1.toInt.toNat) + 3) → fv P208 x j = fv Po x j)) from by rw [q6r.2.2.2, q24r.2.2.2]; exact Or.inr (Or.inr (Or.inl (⟨by omega, by omega, by omega, by omega, by omega, by omega, ⟨fun x j h1 h2 => by rw [R214.2 x j (by omega)], fun k => by rw [k213.2.2 rfl k]⟩⟩))))⟩
                    exact mp_iret ⟨⟨_, rfl, u218⟩, hT212, k215, J217, trivial⟩ dX6_join_119 (Or.inl rfl)
            · have c75 : (fv Po b23 2).toInt ≠ 0 := ti_eq_n c75
              refine mp_a (a_aload_n dX6_join_66 rfl) (mpp 67 rfl ?_)
              refine mp_a (a_iconst (v := 2) dX6_join_67 rfl) (mpp 68 rfl ?_)
              refine mp_a (a_aload dX6_join_68 rfl) (mpp 70 rfl ?_)
              refine mt_getI (i := 104) (k := 2) hT dX6_join_70 rfl q6 (by decide) rfl (by decide) rfl (fun g222 g223 => mpp 73 rfl ?_)
              refine mp_Tb (t := 80) (j_if_eq dX6_join_73) (by decide) (fun c224 => ?_) (fun c224 => mpp 76 rfl ?_)
              · have c224 : (fv Po b5 2).toInt = 0 := ti_eq c224
                refine mp_a (a_iload_n dX6_join_80 rfl) (mpp 81 rfl ?_)
                refine mt_callv (i := 68) (q' := q_14) (As := [.int 2, .int t2]) (rest := []) hT dX6_join_81 rfl qm_14 (by decide) rfl rl_0 (by decide) rfl (Nat.le_of_ble_eq_true rfl) rfl ⟨rfl, rfl⟩ ⟨Nat.le_of_ble_eq_true rfl, Nat.le_of_ble_eq_true rfl⟩ (EvP.mono (by decide) (c_F_refuse hT hX )) (fun r225 P226 g227 => mpp 84 rfl ?_)
                obtain ⟨⟨x228, rfl, g229⟩, hT230, k231, R232⟩ := g227
                have k233 : KW [10, 11, 12, 65, 66, 67, 192, 193, 194, 256, 320, 385, 386, 1985, 2048, 2113] Po P226 := KW.trans KW.refl k231 rfl
                have J235 := Inj.kw hJ k231 rfl
                have wx228 := ti_full x228
                replace g229 : x228.toInt = -1003 := g229
                show MEvP _ none q_36 84 [(5, .ref b23), (4, .ref b5), (0, .ref 0), (1, .int t1), (2, .int t2), (3, .int t3)] [.int x228] _ _ _ _
                have e237 : (fv P226 1 1).toInt = (fv Po 1 1).toInt := congrArg Int32.toInt (R232.2 1 1 (by omega))
                have e238 : (fv P226 1 2).toInt = (fv Po 1 2).toInt := congrArg Int32.toInt (R232.2 1 2 (by omega))
                have e239 : (fv P226 1 3).toInt = (fv Po 1 3).toInt := congrArg Int32.toInt (R232.2 1 3 (by omega))
                have u236 : KPX Po P226 ∧ joinC Po P226 x228.toInt t1.toInt t2.toInt t3.toInt := ⟨⟨by rw [R232.1], fun x j hx => by rw [R232.2 x j (by omega)]⟩, (show (x228.toInt = -1001 ∧ ((t1.toInt < 0 ∨ (fv Po 1 1).toInt ≤ t1.toInt ∨ 8 ≤ t1.toInt) ∨ (t2.toInt < 0 ∨ (fv Po 1 1).toInt ≤ t2.toInt ∨ 8 ≤ t2.toInt) ∨ t1.toInt = t2.toInt) ∧ NCH Po P226) ∨ (x228.toInt = -1002 ∧ (0 ≤ t1.toInt ∧ t1.toInt + 1 ≤ (fv Po 1 1).toInt ∧ t1.toInt ≤ 7) ∧ (0 ≤ t2.toInt ∧ t2.toInt + 1 ≤ (fv Po 1 1).toInt ∧ t2.toInt ≤ 7) ∧ ¬ t1.toInt = t2.toInt ∧ (t3.toInt < 0 ∨ 2 < t3.toInt) ∧ NCH Po P226) ∨ (x228.toInt = -1003 ∧ (0 ≤ t1.toInt ∧ t1.toInt + 1 ≤ (fv Po 1 1).toInt ∧ t1.toInt ≤ 7) ∧ (0 ≤ t2.toInt ∧ t2.toInt + 1 ≤ (fv Po 1 1).toInt ∧ t2.toInt ≤ 7) ∧ ¬ t1.toInt = t2.toInt ∧ (0 ≤ t3.toInt ∧ t3.toInt ≤ 2) ∧ ((fv Po (rv Po 2 t1.toInt.toNat) 2).toInt = 1 ∨ (fv Po (rv Po 2 t2.toInt.toNat) 2).toInt = 1 ∨ ¬ (fv Po (rv Po 2 t1.toInt.toNat) 0).toInt = 0 ∨ ¬ (fv Po (rv Po 2 t2.toInt.toNat) 0).toInt = 0 ∨ 7 < (fv Po (rv Po 2 t1.toInt.toNat) 1).toInt + (fv Po (rv Po 2 t2.toInt.toNat) 1).toInt) ∧ NCH Po P226) ∨ ((0 ≤ t1.toInt ∧ t1.toInt + 1 ≤ (fv Po 1 1).toInt ∧ t1.toInt ≤ 7) ∧ (0 ≤ t2.toInt ∧ t2.toInt + 1 ≤ (fv Po 1 1).toInt ∧ t2.toInt ≤ 7) ∧ ¬ t1.toInt = t2.toInt ∧ (0 ≤ t3.toInt ∧ t3.toInt ≤ 2) ∧ ((fv Po (rv Po 2 t1.toInt.toNat) 2).toInt = 0 ∧ (fv Po (rv Po 2 t2.toInt.toNat) 2).toInt = 0 ∧ (fv Po (rv Po 2 t1.toInt.toNat) 0).toInt = 0 ∧ (fv Po (rv Po 2 t2.toInt.toNat) 0).toInt = 0 ∧ (fv Po (rv Po 2 t1.toInt.toNat) 1).toInt + (fv Po (rv Po 2 t2.toInt.toNat) 1).toInt ≤ 7) ∧ x228.toInt = (fv Po (rv Po 2 t1.toInt.toNat) 1).toInt + (fv Po (rv Po 2 t2.toInt.toNat) 1).toInt ∧ PSH Po P226 ∧ (fv P226 (rv Po 2 t1.toInt.toNat) 1).toInt = (fv Po (rv Po 2 t1.toInt.toNat) 1).toInt + (fv Po (rv Po 2 t2.toInt.toNat) 1).toInt ∧ fv P226 (rv Po 2 t1.toInt.toNat) 0 = fv Po (rv Po 2 t1.toInt.toNat) 0 ∧ fv P226 (rv Po 2 t1.toInt.toNat) 2 = fv Po (rv Po 2 t1.toInt.toNat) 2 ∧ LB Po P226 (rv Po 2 t1.toInt.toNat) (rv Po 2 t2.toInt.toNat) (fv Po (rv Po 2 t1.toInt.toNat) 1).toInt.toNat (fv Po (rv Po 2 t2.toInt.toNat) 1).toInt.toNat t3.toInt ∧ (fv P226 1 1).toInt = (fv Po 1 1).toInt - 1 ∧ RMf Po P226 t2.toInt.toNat ((fv Po 1 1).toInt - 1).toNat ∧ (∀ x j : Nat, 1 ≤ x → x < 27 → ¬ (x = 1 ∧ j = 1) → ¬ ((rv Po 2 t1.toInt.toNat) ≤ x ∧ x < (rv Po 2 t1.toInt.toNat) + 3) → fv P226 x j = fv Po x j)) from by rw [q6r.2.2.2, q24r.2.2.2]; exact Or.inr (Or.inr (Or.inl (⟨by omega, by omega, by omega, by omega, by omega, by omega, ⟨fun x j h1 h2 => by rw [R232.2 x j (by omega)], fun k => by rw [k231.2.2 rfl k]⟩⟩))))⟩
                exact mp_iret ⟨⟨_, rfl, u236⟩, hT230, k233, J235, trivial⟩ dX6_join_84 (Or.inl rfl)
              · have c224 : (fv Po b5 2).toInt ≠ 0 := ti_eq_n c224
                refine mp_a (a_iload_n dX6_join_76 rfl) (mpp 77 rfl ?_)
                refine mp_a (a_goto (t := 81) dX6_join_77 (by decide)) ?_
                refine mt_callv (i := 68) (q' := q_14) (As := [.int 2, .int t1]) (rest := []) hT dX6_join_81 rfl qm_14 (by decide) rfl rl_0 (by decide) rfl (Nat.le_of_ble_eq_true rfl) rfl ⟨rfl, rfl⟩ ⟨Nat.le_of_ble_eq_true rfl, Nat.le_of_ble_eq_true rfl⟩ (EvP.mono (by decide) (c_F_refuse hT hX )) (fun r240 P241 g242 => mpp 84 rfl ?_)
                obtain ⟨⟨x243, rfl, g244⟩, hT245, k246, R247⟩ := g242
                have k248 : KW [10, 11, 12, 65, 66, 67, 192, 193, 194, 256, 320, 385, 386, 1985, 2048, 2113] Po P241 := KW.trans KW.refl k246 rfl
                have J250 := Inj.kw hJ k246 rfl
                have wx243 := ti_full x243
                replace g244 : x243.toInt = -1003 := g244
                show MEvP _ none q_36 84 [(5, .ref b23), (4, .ref b5), (0, .ref 0), (1, .int t1), (2, .int t2), (3, .int t3)] [.int x243] _ _ _ _
                have e252 : (fv P241 1 1).toInt = (fv Po 1 1).toInt := congrArg Int32.toInt (R247.2 1 1 (by omega))
                have e253 : (fv P241 1 2).toInt = (fv Po 1 2).toInt := congrArg Int32.toInt (R247.2 1 2 (by omega))
                have e254 : (fv P241 1 3).toInt = (fv Po 1 3).toInt := congrArg Int32.toInt (R247.2 1 3 (by omega))
                have u251 : KPX Po P241 ∧ joinC Po P241 x243.toInt t1.toInt t2.toInt t3.toInt := ⟨⟨by rw [R247.1], fun x j hx => by rw [R247.2 x j (by omega)]⟩, (show (x243.toInt = -1001 ∧ ((t1.toInt < 0 ∨ (fv Po 1 1).toInt ≤ t1.toInt ∨ 8 ≤ t1.toInt) ∨ (t2.toInt < 0 ∨ (fv Po 1 1).toInt ≤ t2.toInt ∨ 8 ≤ t2.toInt) ∨ t1.toInt = t2.toInt) ∧ NCH Po P241) ∨ (x243.toInt = -1002 ∧ (0 ≤ t1.toInt ∧ t1.toInt + 1 ≤ (fv Po 1 1).toInt ∧ t1.toInt ≤ 7) ∧ (0 ≤ t2.toInt ∧ t2.toInt + 1 ≤ (fv Po 1 1).toInt ∧ t2.toInt ≤ 7) ∧ ¬ t1.toInt = t2.toInt ∧ (t3.toInt < 0 ∨ 2 < t3.toInt) ∧ NCH Po P241) ∨ (x243.toInt = -1003 ∧ (0 ≤ t1.toInt ∧ t1.toInt + 1 ≤ (fv Po 1 1).toInt ∧ t1.toInt ≤ 7) ∧ (0 ≤ t2.toInt ∧ t2.toInt + 1 ≤ (fv Po 1 1).toInt ∧ t2.toInt ≤ 7) ∧ ¬ t1.toInt = t2.toInt ∧ (0 ≤ t3.toInt ∧ t3.toInt ≤ 2) ∧ ((fv Po (rv Po 2 t1.toInt.toNat) 2).toInt = 1 ∨ (fv Po (rv Po 2 t2.toInt.toNat) 2).toInt = 1 ∨ ¬ (fv Po (rv Po 2 t1.toInt.toNat) 0).toInt = 0 ∨ ¬ (fv Po (rv Po 2 t2.toInt.toNat) 0).toInt = 0 ∨ 7 < (fv Po (rv Po 2 t1.toInt.toNat) 1).toInt + (fv Po (rv Po 2 t2.toInt.toNat) 1).toInt) ∧ NCH Po P241) ∨ ((0 ≤ t1.toInt ∧ t1.toInt + 1 ≤ (fv Po 1 1).toInt ∧ t1.toInt ≤ 7) ∧ (0 ≤ t2.toInt ∧ t2.toInt + 1 ≤ (fv Po 1 1).toInt ∧ t2.toInt ≤ 7) ∧ ¬ t1.toInt = t2.toInt ∧ (0 ≤ t3.toInt ∧ t3.toInt ≤ 2) ∧ ((fv Po (rv Po 2 t1.toInt.toNat) 2).toInt = 0 ∧ (fv Po (rv Po 2 t2.toInt.toNat) 2).toInt = 0 ∧ (fv Po (rv Po 2 t1.toInt.toNat) 0).toInt = 0 ∧ (fv Po (rv Po 2 t2.toInt.toNat) 0).toInt = 0 ∧ (fv Po (rv Po 2 t1.toInt.toNat) 1).toInt + (fv Po (rv Po 2 t2.toInt.toNat) 1).toInt ≤ 7) ∧ x243.toInt = (fv Po (rv Po 2 t1.toInt.toNat) 1).toInt + (fv Po (rv Po 2 t2.toInt.toNat) 1).toInt ∧ PSH Po P241 ∧ (fv P241 (rv Po 2 t1.toInt.toNat) 1).toInt = (fv Po (rv Po 2 t1.toInt.toNat) 1).toInt + (fv Po (rv Po 2 t2.toInt.toNat) 1).toInt ∧ fv P241 (rv Po 2 t1.toInt.toNat) 0 = fv Po (rv Po 2 t1.toInt.toNat) 0 ∧ fv P241 (rv Po 2 t1.toInt.toNat) 2 = fv Po (rv Po 2 t1.toInt.toNat) 2 ∧ LB Po P241 (rv Po 2 t1.toInt.toNat) (rv Po 2 t2.toInt.toNat) (fv Po (rv Po 2 t1.toInt.toNat) 1).toInt.toNat (fv Po (rv Po 2 t2.toInt.toNat) 1).toInt.toNat t3.toInt ∧ (fv P241 1 1).toInt = (fv Po 1 1).toInt - 1 ∧ RMf Po P241 t2.toInt.toNat ((fv Po 1 1).toInt - 1).toNat ∧ (∀ x j : Nat, 1 ≤ x → x < 27 → ¬ (x = 1 ∧ j = 1) → ¬ ((rv Po 2 t1.toInt.toNat) ≤ x ∧ x < (rv Po 2 t1.toInt.toNat) + 3) → fv P241 x j = fv Po x j)) from by rw [q6r.2.2.2, q24r.2.2.2]; exact Or.inr (Or.inr (Or.inl (⟨by omega, by omega, by omega, by omega, by omega, by omega, ⟨fun x j h1 h2 => by rw [R247.2 x j (by omega)], fun k => by rw [k246.2.2 rfl k]⟩⟩))))⟩
                exact mp_iret ⟨⟨_, rfl, u251⟩, hT245, k248, J250, trivial⟩ dX6_join_84 (Or.inl rfl)
        · have c34 : x31.toInt = 0 := ti_ne_n c34
          refine mp_a (a_sipush (v := -1002) dX6_join_46 rfl) (mpp 49 rfl ?_)
          have u255 : KPX Po Po ∧ joinC Po Po (-1002 : Int) t1.toInt t2.toInt t3.toInt := ⟨⟨rfl, fun x j hx => rfl⟩, (show ((-1002 : Int) = -1001 ∧ ((t1.toInt < 0 ∨ (fv Po 1 1).toInt ≤ t1.toInt ∨ 8 ≤ t1.toInt) ∨ (t2.toInt < 0 ∨ (fv Po 1 1).toInt ≤ t2.toInt ∨ 8 ≤ t2.toInt) ∨ t1.toInt = t2.toInt) ∧ NCH Po Po) ∨ ((-1002 : Int) = -1002 ∧ (0 ≤ t1.toInt ∧ t1.toInt + 1 ≤ (fv Po 1 1).toInt ∧ t1.toInt ≤ 7) ∧ (0 ≤ t2.toInt ∧ t2.toInt + 1 ≤ (fv Po 1 1).toInt ∧ t2.toInt ≤ 7) ∧ ¬ t1.toInt = t2.toInt ∧ (t3.toInt < 0 ∨ 2 < t3.toInt) ∧ NCH Po Po) ∨ ((-1002 : Int) = -1003 ∧ (0 ≤ t1.toInt ∧ t1.toInt + 1 ≤ (fv Po 1 1).toInt ∧ t1.toInt ≤ 7) ∧ (0 ≤ t2.toInt ∧ t2.toInt + 1 ≤ (fv Po 1 1).toInt ∧ t2.toInt ≤ 7) ∧ ¬ t1.toInt = t2.toInt ∧ (0 ≤ t3.toInt ∧ t3.toInt ≤ 2) ∧ ((fv Po (rv Po 2 t1.toInt.toNat) 2).toInt = 1 ∨ (fv Po (rv Po 2 t2.toInt.toNat) 2).toInt = 1 ∨ ¬ (fv Po (rv Po 2 t1.toInt.toNat) 0).toInt = 0 ∨ ¬ (fv Po (rv Po 2 t2.toInt.toNat) 0).toInt = 0 ∨ 7 < (fv Po (rv Po 2 t1.toInt.toNat) 1).toInt + (fv Po (rv Po 2 t2.toInt.toNat) 1).toInt) ∧ NCH Po Po) ∨ ((0 ≤ t1.toInt ∧ t1.toInt + 1 ≤ (fv Po 1 1).toInt ∧ t1.toInt ≤ 7) ∧ (0 ≤ t2.toInt ∧ t2.toInt + 1 ≤ (fv Po 1 1).toInt ∧ t2.toInt ≤ 7) ∧ ¬ t1.toInt = t2.toInt ∧ (0 ≤ t3.toInt ∧ t3.toInt ≤ 2) ∧ ((fv Po (rv Po 2 t1.toInt.toNat) 2).toInt = 0 ∧ (fv Po (rv Po 2 t2.toInt.toNat) 2).toInt = 0 ∧ (fv Po (rv Po 2 t1.toInt.toNat) 0).toInt = 0 ∧ (fv Po (rv Po 2 t2.toInt.toNat) 0).toInt = 0 ∧ (fv Po (rv Po 2 t1.toInt.toNat) 1).toInt + (fv Po (rv Po 2 t2.toInt.toNat) 1).toInt ≤ 7) ∧ (-1002 : Int) = (fv Po (rv Po 2 t1.toInt.toNat) 1).toInt + (fv Po (rv Po 2 t2.toInt.toNat) 1).toInt ∧ PSH Po Po ∧ (fv Po (rv Po 2 t1.toInt.toNat) 1).toInt = (fv Po (rv Po 2 t1.toInt.toNat) 1).toInt + (fv Po (rv Po 2 t2.toInt.toNat) 1).toInt ∧ fv Po (rv Po 2 t1.toInt.toNat) 0 = fv Po (rv Po 2 t1.toInt.toNat) 0 ∧ fv Po (rv Po 2 t1.toInt.toNat) 2 = fv Po (rv Po 2 t1.toInt.toNat) 2 ∧ LB Po Po (rv Po 2 t1.toInt.toNat) (rv Po 2 t2.toInt.toNat) (fv Po (rv Po 2 t1.toInt.toNat) 1).toInt.toNat (fv Po (rv Po 2 t2.toInt.toNat) 1).toInt.toNat t3.toInt ∧ (fv Po 1 1).toInt = (fv Po 1 1).toInt - 1 ∧ RMf Po Po t2.toInt.toNat ((fv Po 1 1).toInt - 1).toNat ∧ (∀ x j : Nat, 1 ≤ x → x < 27 → ¬ (x = 1 ∧ j = 1) → ¬ ((rv Po 2 t1.toInt.toNat) ≤ x ∧ x < (rv Po 2 t1.toInt.toNat) + 3) → fv Po x j = fv Po x j)) from by rw [q6r.2.2.2, q24r.2.2.2]; exact Or.inr (Or.inl (⟨by omega, by omega, by omega, by omega, by omega, ⟨fun x j h1 h2 => rfl, fun k => rfl⟩⟩)))⟩
          exact mp_iret ⟨⟨_, rfl, u255⟩, hT, KW.refl, hJ, trivial⟩ dX6_join_49 (Or.inl rfl)
      · have c27 : t1.toInt = t2.toInt := ti_ne_n c27
        refine mp_a (a_sipush (v := -1001) dX6_join_35 rfl) (mpp 38 rfl ?_)
        have u256 : KPX Po Po ∧ joinC Po Po (-1001 : Int) t1.toInt t2.toInt t3.toInt := ⟨⟨rfl, fun x j hx => rfl⟩, (show ((-1001 : Int) = -1001 ∧ ((t1.toInt < 0 ∨ (fv Po 1 1).toInt ≤ t1.toInt ∨ 8 ≤ t1.toInt) ∨ (t2.toInt < 0 ∨ (fv Po 1 1).toInt ≤ t2.toInt ∨ 8 ≤ t2.toInt) ∨ t1.toInt = t2.toInt) ∧ NCH Po Po) ∨ ((-1001 : Int) = -1002 ∧ (0 ≤ t1.toInt ∧ t1.toInt + 1 ≤ (fv Po 1 1).toInt ∧ t1.toInt ≤ 7) ∧ (0 ≤ t2.toInt ∧ t2.toInt + 1 ≤ (fv Po 1 1).toInt ∧ t2.toInt ≤ 7) ∧ ¬ t1.toInt = t2.toInt ∧ (t3.toInt < 0 ∨ 2 < t3.toInt) ∧ NCH Po Po) ∨ ((-1001 : Int) = -1003 ∧ (0 ≤ t1.toInt ∧ t1.toInt + 1 ≤ (fv Po 1 1).toInt ∧ t1.toInt ≤ 7) ∧ (0 ≤ t2.toInt ∧ t2.toInt + 1 ≤ (fv Po 1 1).toInt ∧ t2.toInt ≤ 7) ∧ ¬ t1.toInt = t2.toInt ∧ (0 ≤ t3.toInt ∧ t3.toInt ≤ 2) ∧ ((fv Po (rv Po 2 t1.toInt.toNat) 2).toInt = 1 ∨ (fv Po (rv Po 2 t2.toInt.toNat) 2).toInt = 1 ∨ ¬ (fv Po (rv Po 2 t1.toInt.toNat) 0).toInt = 0 ∨ ¬ (fv Po (rv Po 2 t2.toInt.toNat) 0).toInt = 0 ∨ 7 < (fv Po (rv Po 2 t1.toInt.toNat) 1).toInt + (fv Po (rv Po 2 t2.toInt.toNat) 1).toInt) ∧ NCH Po Po) ∨ ((0 ≤ t1.toInt ∧ t1.toInt + 1 ≤ (fv Po 1 1).toInt ∧ t1.toInt ≤ 7) ∧ (0 ≤ t2.toInt ∧ t2.toInt + 1 ≤ (fv Po 1 1).toInt ∧ t2.toInt ≤ 7) ∧ ¬ t1.toInt = t2.toInt ∧ (0 ≤ t3.toInt ∧ t3.toInt ≤ 2) ∧ ((fv Po (rv Po 2 t1.toInt.toNat) 2).toInt = 0 ∧ (fv Po (rv Po 2 t2.toInt.toNat) 2).toInt = 0 ∧ (fv Po (rv Po 2 t1.toInt.toNat) 0).toInt = 0 ∧ (fv Po (rv Po 2 t2.toInt.toNat) 0).toInt = 0 ∧ (fv Po (rv Po 2 t1.toInt.toNat) 1).toInt + (fv Po (rv Po 2 t2.toInt.toNat) 1).toInt ≤ 7) ∧ (-1001 : Int) = (fv Po (rv Po 2 t1.toInt.toNat) 1).toInt + (fv Po (rv Po 2 t2.toInt.toNat) 1).toInt ∧ PSH Po Po ∧ (fv Po (rv Po 2 t1.toInt.toNat) 1).toInt = (fv Po (rv Po 2 t1.toInt.toNat) 1).toInt + (fv Po (rv Po 2 t2.toInt.toNat) 1).toInt ∧ fv Po (rv Po 2 t1.toInt.toNat) 0 = fv Po (rv Po 2 t1.toInt.toNat) 0 ∧ fv Po (rv Po 2 t1.toInt.toNat) 2 = fv Po (rv Po 2 t1.toInt.toNat) 2 ∧ LB Po Po (rv Po 2 t1.toInt.toNat) (rv Po 2 t2.toInt.toNat) (fv Po (rv Po 2 t1.toInt.toNat) 1).toInt.toNat (fv Po (rv Po 2 t2.toInt.toNat) 1).toInt.toNat t3.toInt ∧ (fv Po 1 1).toInt = (fv Po 1 1).toInt - 1 ∧ RMf Po Po t2.toInt.toNat ((fv Po 1 1).toInt - 1).toNat ∧ (∀ x j : Nat, 1 ≤ x → x < 27 → ¬ (x = 1 ∧ j = 1) → ¬ ((rv Po 2 t1.toInt.toNat) ≤ x ∧ x < (rv Po 2 t1.toInt.toNat) + 3) → fv Po x j = fv Po x j)) from by rw [q6r.2.2.2, q24r.2.2.2]; exact Or.inl (⟨by omega, by omega, ⟨fun x j h1 h2 => rfl, fun k => rfl⟩⟩))⟩
        exact mp_iret ⟨⟨_, rfl, u256⟩, hT, KW.refl, hJ, trivial⟩ dX6_join_38 (Or.inl rfl)

