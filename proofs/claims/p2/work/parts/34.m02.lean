/-! methods on typed pools, 2 (written by a program) -/
set_option maxHeartbeats 4000000 in
theorem c_CP_takeSizes_Piece_l20 {Po : mP} {a0_ : Nat} {t1 : Int32} {t2 : Int32} (hTo : Typ Po) (hX : XR Po) (ha0 : rl a0_ = 3) : ∀ (n : Nat) (v3 : Int32) (v4 : Int32), ∀ (P : mP), Typ P → KW [192, 193, 194, 256] Po P → ((fv P a0_ 1).toInt = v4.toInt) → (v4.toInt ≤ 8) → (0 ≤ v4.toInt) → (2147483647 - v4.toInt).toNat = n → MEvP 2 none q_21 20 [(0, .ref a0_), (1, .int t1), (2, .int t2), (3, .int v3), (4, .int v4)] [] P 0 0 (fun r P' => (∃ x : Int32, r = some (.int x) ∧ (0 ≤ x.toInt ∧ x.toInt ≤ 1)) ∧ Typ P' ∧ KW [192, 193, 194, 256] Po P' ∧ True) := by
  intro n
  induction n using Nat.strongRecOn with | _ n ih => ?_
  intro v3 v4 P hT hK i_0 i_1 i_2 hm
  have w1 := pc_ar ha0
  have w_t1 := ti_full t1
  have w_t2 := ti_full t2
  have w_v3 := ti_full v3
  have w_v4 := ti_full v4
  have g2 : (0 : Int) ≤ (fv P a0_ 1).toInt ∧ (fv P a0_ 1).toInt ≤ 8 := Typ.rng hT ha0 (by decide) (by decide) rfl
  have g3 : (0 : Int) ≤ (fv P a0_ 1).toInt ∧ (fv P a0_ 1).toInt ≤ 8 := Typ.rng hT ha0 (by decide) (by decide) rfl
  refine mp_a (a_iload dX2_takeSizes_20 rfl) (mpp 22 rfl ?_)
  refine mp_a (a_bipush (v := 8) dX2_takeSizes_22 rfl) (mpp 24 rfl ?_)
  refine mp_Tb (t := 52) (j_icmp_ge dX2_takeSizes_24) (by decide) (fun c4 => ?_) (fun c4 => mpp 27 rfl ?_)
  · have c4 : v4.toInt ≥ 8 := ti_ge c4
    refine mp_a (a_iload_n dX2_takeSizes_52 rfl) (mpp 53 rfl ?_)
    refine mp_Tb (t := 58) (j_if_eq dX2_takeSizes_53) (by decide) (fun c5 => ?_) (fun c5 => mpp 56 rfl ?_)
    · have c5 : v3.toInt = 0 := ti_eq c5
      refine mp_a (a_iload_n dX2_takeSizes_58 rfl) (mpp 59 rfl ?_)
      refine mp_a (a_istore_n (L' := [(3, .int t2), (0, .ref a0_), (1, .int t1), (2, .int t2), (4, .int v4)]) dX2_takeSizes_59 (by decide) rfl) (mpp 60 rfl ?_)
      refine mp_a (a_aload_n dX2_takeSizes_60 rfl) (mpp 61 rfl ?_)
      refine mt_getI (i := 26) (k := 1) hT dX2_takeSizes_61 rfl ha0 (by decide) rfl (by decide) rfl (fun g6 g7 => mpp 64 rfl ?_)
      refine mp_a (a_iconst (v := 1) dX2_takeSizes_64 rfl) (mpp 65 rfl ?_)
      obtain ⟨z8, h9⟩ := ti_ex ((fv P a0_ 1) - 1 : Int32)
      have wz8 := ti_full z8
      refine mp_t (s_isub (v := z8) dX2_takeSizes_65 h9) (mpp 66 rfl ?_)
      try have e10 : z8.toInt = (fv P a0_ 1).toInt - 1 := ti_subz h9 rfl rfl (by omega) (by omega)
      refine mp_a (a_istore (L' := [(4, .int z8), (3, .int t2), (0, .ref a0_), (1, .int t1), (2, .int t2)]) dX2_takeSizes_66 (by decide) rfl) (mpp 68 rfl ?_)
      refine MEvP.less (L := [(0, .ref a0_), (1, .int t1), (2, .int t2), (3, .int t2), (4, .int z8)]) rfl rfl ⟨rfl, rfl, rfl, rfl, rfl, trivial⟩ ?_
      exact c_CP_takeSizes_Piece_l68 hTo hX  ha0 _ _ _ P hT hK rfl
    · have c5 : v3.toInt ≠ 0 := ti_eq_n c5
      refine mp_a (a_iconst (v := 0) dX2_takeSizes_56 rfl) (mpp 57 rfl ?_)
      have u11 : 0 ≤ (0 : Int) ∧ (0 : Int) ≤ 1 := by omega
      exact mp_iret ⟨⟨_, rfl, u11⟩, hT, hK, trivial⟩ dX2_takeSizes_57 (Or.inr ⟨rfl, by decide⟩)
  · have c4 : v4.toInt < 8 := ti_ge_n c4
    refine mp_a (a_iload_n dX2_takeSizes_27 rfl) (mpp 28 rfl ?_)
    refine mp_Tb (t := 52) (j_if_le dX2_takeSizes_28) (by decide) (fun c12 => ?_) (fun c12 => mpp 31 rfl ?_)
    · have c12 : v3.toInt ≤ 0 := ti_le c12
      refine mp_a (a_iload_n dX2_takeSizes_52 rfl) (mpp 53 rfl ?_)
      refine mp_Tb (t := 58) (j_if_eq dX2_takeSizes_53) (by decide) (fun c13 => ?_) (fun c13 => mpp 56 rfl ?_)
      · have c13 : v3.toInt = 0 := ti_eq c13
        refine mp_a (a_iload_n dX2_takeSizes_58 rfl) (mpp 59 rfl ?_)
        refine mp_a (a_istore_n (L' := [(3, .int t2), (0, .ref a0_), (1, .int t1), (2, .int t2), (4, .int v4)]) dX2_takeSizes_59 (by decide) rfl) (mpp 60 rfl ?_)
        refine mp_a (a_aload_n dX2_takeSizes_60 rfl) (mpp 61 rfl ?_)
        refine mt_getI (i := 26) (k := 1) hT dX2_takeSizes_61 rfl ha0 (by decide) rfl (by decide) rfl (fun g14 g15 => mpp 64 rfl ?_)
        refine mp_a (a_iconst (v := 1) dX2_takeSizes_64 rfl) (mpp 65 rfl ?_)
        obtain ⟨z16, h17⟩ := ti_ex ((fv P a0_ 1) - 1 : Int32)
        have wz16 := ti_full z16
        refine mp_t (s_isub (v := z16) dX2_takeSizes_65 h17) (mpp 66 rfl ?_)
        try have e18 : z16.toInt = (fv P a0_ 1).toInt - 1 := ti_subz h17 rfl rfl (by omega) (by omega)
        refine mp_a (a_istore (L' := [(4, .int z16), (3, .int t2), (0, .ref a0_), (1, .int t1), (2, .int t2)]) dX2_takeSizes_66 (by decide) rfl) (mpp 68 rfl ?_)
        refine MEvP.less (L := [(0, .ref a0_), (1, .int t1), (2, .int t2), (3, .int t2), (4, .int z16)]) rfl rfl ⟨rfl, rfl, rfl, rfl, rfl, trivial⟩ ?_
        exact c_CP_takeSizes_Piece_l68 hTo hX  ha0 _ _ _ P hT hK rfl
      · have c13 : v3.toInt ≠ 0 := ti_eq_n c13
        refine mp_a (a_iconst (v := 0) dX2_takeSizes_56 rfl) (mpp 57 rfl ?_)
        have u19 : 0 ≤ (0 : Int) ∧ (0 : Int) ≤ 1 := by omega
        exact mp_iret ⟨⟨_, rfl, u19⟩, hT, hK, trivial⟩ dX2_takeSizes_57 (Or.inr ⟨rfl, by decide⟩)
    · have c12 : v3.toInt > 0 := ti_le_n c12
      refine mp_a (a_iload_n dX2_takeSizes_31 rfl) (mpp 32 rfl ?_)
      refine mp_a (a_bipush (v := 10) dX2_takeSizes_32 rfl) (mpp 34 rfl ?_)
      obtain ⟨z20, h21⟩ := ti_ex (v3 / 10 : Int32)
      have wz20 := ti_full z20
      try have e22 : z20.toInt = v3.toInt / 10 := ti_div h21 (show (0 : Int) ≤ v3.toInt by omega) (show (0 : Int) < 10 by omega)
      refine mp_t (s_idiv (v := z20) dX2_takeSizes_34 (by decide) h21) (mpp 35 rfl ?_)
      refine mp_a (a_istore_n (L' := [(3, .int z20), (0, .ref a0_), (1, .int t1), (2, .int t2), (4, .int v4)]) dX2_takeSizes_35 (by decide) rfl) (mpp 36 rfl ?_)
      refine mp_a (a_aload_n dX2_takeSizes_36 rfl) (mpp 37 rfl ?_)
      refine mp_t (s_dup dX2_takeSizes_37 rfl) (mpp 38 rfl ?_)
      refine mt_getI (i := 26) (k := 1) hT dX2_takeSizes_38 rfl ha0 (by decide) rfl (by decide) rfl (fun g23 g24 => mpp 41 rfl ?_)
      refine mp_a (a_iconst (v := 1) dX2_takeSizes_41 rfl) (mpp 42 rfl ?_)
      obtain ⟨z25, h26⟩ := ti_ex ((fv P a0_ 1) + 1 : Int32)
      have wz25 := ti_full z25
      refine mp_t (s_iadd (v := z25) dX2_takeSizes_42 h26) (mpp 43 rfl ?_)
      try have e27 : z25.toInt = (fv P a0_ 1).toInt + 1 := ti_addz h26 rfl rfl (by omega) (by omega)
      refine mt_putI (i := 26) (k := 1) (x := z25) hT dX2_takeSizes_43 rfl ha0 (by decide) rfl (by decide) rfl ⟨by omega, by omega⟩ rfl rfl (fun P28 hT29 f30 f31 f32 => mpp 46 rfl ?_)
      have k33 : KW [192, 193, 194, 256] Po P28 := KW.step hK ha0 rfl f31 f32
      have e34 : (fv P28 a0_ 1).toInt = z25.toInt := congrArg Int32.toInt f30
      obtain ⟨z35, h36⟩ := ti_ex (v4 + 1 : Int32)
      have wz35 := ti_full z35
      refine mp_a (a_iinc (v := z35) (L' := [(4, .int z35), (3, .int z20), (0, .ref a0_), (1, .int t1), (2, .int t2)]) dX2_takeSizes_46 (by decide) rfl h36 rfl) (mpp 49 rfl ?_)
      try have e37 : z35.toInt = v4.toInt + 1 := ti_addz h36 rfl rfl (by omega) (by omega)
      refine mp_a (a_goto (t := 20) dX2_takeSizes_49 (by decide)) ?_
      refine MEvP.less (L := [(0, .ref a0_), (1, .int t1), (2, .int t2), (3, .int z20), (4, .int z35)]) rfl rfl ⟨rfl, rfl, rfl, rfl, rfl, trivial⟩ ?_
      have i38 : (fv P28 a0_ 1).toInt = z35.toInt := by omega
      have i39 : z35.toInt ≤ 8 := by omega
      have i40 : 0 ≤ z35.toInt := by omega
      exact ih _ (by omega) _ _ P28 hT29 k33 i38 i39 i40 rfl

set_option maxHeartbeats 4000000 in
theorem c_CP_takeSizes_Piece {Po : mP} {a0_ : Nat} {t1 : Int32} {t2 : Int32} (hT : Typ Po) (hX : XR Po)  (ha0 : rl a0_ = 3) : EvP 3 21 [.ref a0_, .int t1, .int t2] Po (fun r P' => (∃ x : Int32, r = some (.int x) ∧ (0 ≤ x.toInt ∧ x.toInt ≤ 1)) ∧ Typ P' ∧ KW [192, 193, 194, 256] Po P' ∧ True) := by
  refine EvP.of qm_21 (Nat.le_of_ble_eq_true rfl) rfl ?_
  show MEvP _ none q_21 0 [(0, .ref a0_), (1, .int t1), (2, .int t2)] [] _ 0 0 _
  have w1 := pc_ar ha0
  refine mp_a (a_aload_n dX2_takeSizes_0 rfl) (mpp 1 rfl ?_)
  refine mp_a (a_iload_n dX2_takeSizes_1 rfl) (mpp 2 rfl ?_)
  refine mt_putI (i := 18) (k := 0) (x := t1) hT dX2_takeSizes_2 rfl ha0 (by decide) rfl (by decide) rfl (ti_full t1) rfl rfl (fun P2 hT3 f4 f5 f6 => mpp 5 rfl ?_)
  have k7 : KW [192, 193, 194, 256] Po P2 := KW.step KW.refl ha0 rfl f5 f6
  have e8 : (fv P2 a0_ 0).toInt = t1.toInt := congrArg Int32.toInt f4
  refine mp_a (a_aload_n dX2_takeSizes_5 rfl) (mpp 6 rfl ?_)
  refine mp_a (a_iconst (v := 0) dX2_takeSizes_6 rfl) (mpp 7 rfl ?_)
  refine mt_putI (i := 22) (k := 2) (x := 0) hT3 dX2_takeSizes_7 rfl ha0 (by decide) rfl (by decide) rfl (by decide) rfl rfl (fun P9 hT10 f11 f12 f13 => mpp 10 rfl ?_)
  have k14 : KW [192, 193, 194, 256] Po P9 := KW.step k7 ha0 rfl f12 f13
  have e15 : (fv P9 a0_ 2).toInt = 0 := congrArg Int32.toInt f11
  refine mp_a (a_aload_n dX2_takeSizes_10 rfl) (mpp 11 rfl ?_)
  refine mp_a (a_iconst (v := 0) dX2_takeSizes_11 rfl) (mpp 12 rfl ?_)
  refine mt_putI (i := 26) (k := 1) (x := 0) hT10 dX2_takeSizes_12 rfl ha0 (by decide) rfl (by decide) rfl (by decide) rfl rfl (fun P16 hT17 f18 f19 f20 => mpp 15 rfl ?_)
  have k21 : KW [192, 193, 194, 256] Po P16 := KW.step k14 ha0 rfl f19 f20
  have e22 : (fv P16 a0_ 1).toInt = 0 := congrArg Int32.toInt f18
  refine mp_a (a_iload_n dX2_takeSizes_15 rfl) (mpp 16 rfl ?_)
  refine mp_a (a_istore_n (L' := [(3, .int t2), (0, .ref a0_), (1, .int t1), (2, .int t2)]) dX2_takeSizes_16 (by decide) rfl) (mpp 17 rfl ?_)
  refine mp_a (a_iconst (v := 0) dX2_takeSizes_17 rfl) (mpp 18 rfl ?_)
  refine mp_a (a_istore (L' := [(4, .int 0), (3, .int t2), (0, .ref a0_), (1, .int t1), (2, .int t2)]) dX2_takeSizes_18 (by decide) rfl) (mpp 20 rfl ?_)
  refine MEvP.less (L := [(0, .ref a0_), (1, .int t1), (2, .int t2), (3, .int t2), (4, .int 0)]) rfl rfl ⟨rfl, rfl, rfl, rfl, rfl, trivial⟩ ?_
  have i23 : (fv P16 a0_ 1).toInt = (0 : Int) := by omega
  have i24 : (0 : Int) ≤ 8 := by omega
  have i25 : 0 ≤ (0 : Int) := by omega
  exact c_CP_takeSizes_Piece_l20 hT hX  ha0 _ _ _ P16 hT17 k21 i23 i24 i25 rfl

set_option maxHeartbeats 4000000 in
theorem c_CP_creaseCount_Piece {Po : mP} {a0_ : Nat} (hT : Typ Po) (hX : XR Po)  (ha0 : rl a0_ = 3) : EvP 1 25 [.ref a0_] Po (fun r P' => (∃ x : Int32, r = some (.int x) ∧ (-1 ≤ x.toInt ∧ x.toInt ≤ (fv Po a0_ 1).toInt ∧ (((fv Po a0_ 0).toInt = 0 ∧ x.toInt = (fv Po a0_ 1).toInt - 1) ∨ ((fv Po a0_ 0).toInt ≠ 0 ∧ x.toInt = (fv Po a0_ 1).toInt)))) ∧ P' = Po) := by
  refine EvP.of qm_25 (Nat.le_of_ble_eq_true rfl) rfl ?_
  show MEvP _ none q_25 0 [(0, .ref a0_)] [] _ 0 0 _
  have w1 := pc_ar ha0
  have g2 : (0 : Int) ≤ (fv Po a0_ 1).toInt ∧ (fv Po a0_ 1).toInt ≤ 8 := Typ.rng hT ha0 (by decide) (by decide) rfl
  have g3 := ti_full (fv Po a0_ 0)
  refine mp_a (a_aload_n dX2_creaseCount_0 rfl) (mpp 1 rfl ?_)
  refine mt_getI (i := 18) (k := 0) hT dX2_creaseCount_1 rfl ha0 (by decide) rfl (by decide) rfl (fun g4 g5 => mpp 4 rfl ?_)
  refine mp_Tb (t := 16) (j_if_ne dX2_creaseCount_4) (by decide) (fun c6 => ?_) (fun c6 => mpp 7 rfl ?_)
  · have c6 : (fv Po a0_ 0).toInt ≠ 0 := ti_ne c6
    refine mp_a (a_aload_n dX2_creaseCount_16 rfl) (mpp 17 rfl ?_)
    refine mt_getI (i := 26) (k := 1) hT dX2_creaseCount_17 rfl ha0 (by decide) rfl (by decide) rfl (fun g7 g8 => mpp 20 rfl ?_)
    have u9 : -1 ≤ (fv Po a0_ 1).toInt ∧ (fv Po a0_ 1).toInt ≤ (fv Po a0_ 1).toInt ∧ (((fv Po a0_ 0).toInt = 0 ∧ (fv Po a0_ 1).toInt = (fv Po a0_ 1).toInt - 1) ∨ ((fv Po a0_ 0).toInt ≠ 0 ∧ (fv Po a0_ 1).toInt = (fv Po a0_ 1).toInt)) := by omega
    exact mp_iret ⟨⟨_, rfl, u9⟩, rfl⟩ dX2_creaseCount_20 (Or.inl rfl)
  · have c6 : (fv Po a0_ 0).toInt = 0 := ti_ne_n c6
    refine mp_a (a_aload_n dX2_creaseCount_7 rfl) (mpp 8 rfl ?_)
    refine mt_getI (i := 26) (k := 1) hT dX2_creaseCount_8 rfl ha0 (by decide) rfl (by decide) rfl (fun g10 g11 => mpp 11 rfl ?_)
    refine mp_a (a_iconst (v := 1) dX2_creaseCount_11 rfl) (mpp 12 rfl ?_)
    obtain ⟨z12, h13⟩ := ti_ex ((fv Po a0_ 1) - 1 : Int32)
    have wz12 := ti_full z12
    refine mp_t (s_isub (v := z12) dX2_creaseCount_12 h13) (mpp 13 rfl ?_)
    try have e14 : z12.toInt = (fv Po a0_ 1).toInt - 1 := ti_subz h13 rfl rfl (by omega) (by omega)
    refine mp_a (a_goto (t := 20) dX2_creaseCount_13 (by decide)) ?_
    have u15 : -1 ≤ z12.toInt ∧ z12.toInt ≤ (fv Po a0_ 1).toInt ∧ (((fv Po a0_ 0).toInt = 0 ∧ z12.toInt = (fv Po a0_ 1).toInt - 1) ∨ ((fv Po a0_ 0).toInt ≠ 0 ∧ z12.toInt = (fv Po a0_ 1).toInt)) := by omega
    exact mp_iret ⟨⟨_, rfl, u15⟩, rfl⟩ dX2_creaseCount_20 (Or.inl rfl)

set_option maxHeartbeats 4000000 in
theorem c_F_put_creases {Po : mP} {a0_ : Nat} {t1 : Int32} {t2 : Int32} (hT : Typ Po) (hX : XR Po)  (ha0 : rl a0_ = 5) : EvP 1 22 [.ref a0_, .int t1, .int t2] Po (fun r P' => (r = none ∧ (True)) ∧ Typ P' ∧ KW [320] Po P' ∧ True) := by
  refine EvP.of qm_22 (Nat.le_of_ble_eq_true rfl) rfl ?_
  show MEvP _ none q_22 0 [(0, .ref a0_), (1, .int t1), (2, .int t2)] [] _ 0 0 _
  refine mp_a (a_iload_n dX6_put_0 rfl) (mpp 1 rfl ?_)
  refine mp_Tb (t := 14) (j_if_lt dX6_put_1) (by decide) (fun c1 => ?_) (fun c1 => mpp 4 rfl ?_)
  · have c1 : t1.toInt < 0 := ti_lt c1
    exact mp_ret ⟨⟨rfl, trivial⟩, hT, KW.refl, trivial⟩ dX6_put_14 rfl
  · have c1 : t1.toInt ≥ 0 := ti_lt_n c1
    refine mp_a (a_iload_n dX6_put_4 rfl) (mpp 5 rfl ?_)
    refine mp_a (a_aload_n dX6_put_5 rfl) (mpp 6 rfl ?_)
    refine mt_len (n := 8) hT dX6_put_6 ha0 (by decide) (by decide) rfl (mpp 7 rfl ?_)
    refine mp_Tb (t := 14) (j_icmp_ge dX6_put_7) (by decide) (fun c2 => ?_) (fun c2 => mpp 10 rfl ?_)
    · have c2 : t1.toInt ≥ 8 := ti_ge c2
      exact mp_ret ⟨⟨rfl, trivial⟩, hT, KW.refl, trivial⟩ dX6_put_14 rfl
    · have c2 : t1.toInt < 8 := ti_ge_n c2
      refine mp_a (a_aload_n dX6_put_10 rfl) (mpp 11 rfl ?_)
      refine mp_a (a_iload_n dX6_put_11 rfl) (mpp 12 rfl ?_)
      refine mp_a (a_iload_n dX6_put_12 rfl) (mpp 13 rfl ?_)
      refine mt_ias (n := 8) hT dX6_put_13 ha0 (by decide) rfl rfl (by omega) (by omega) rfl (ti_full t2) (fun P3 hT4 f5 f6 f7 => mpp 14 rfl ?_)
      have k8 : KW [320] Po P3 := KW.step KW.refl ha0 rfl f6 f7
      exact mp_ret ⟨⟨rfl, trivial⟩, hT4, k8, trivial⟩ dX6_put_14 rfl

set_option maxHeartbeats 4000000 in
theorem c_F_isCreaseKind {Po : mP} {t0 : Int32} (hT : Typ Po) (hX : XR Po)   : EvP 1 26 [.int t0] Po (fun r P' => (∃ x : Int32, r = some (.int x) ∧ (0 ≤ x.toInt ∧ x.toInt ≤ 1)) ∧ P' = Po) := by
  refine EvP.of qm_26 (Nat.le_of_ble_eq_true rfl) rfl ?_
  show MEvP _ none q_26 0 [(0, .int t0)] [] _ 0 0 _
  refine mp_a (a_iload_n dX6_isCreaseKind_0 rfl) (mpp 1 rfl ?_)
  refine mp_Tb (t := 14) (j_if_eq dX6_isCreaseKind_1) (by decide) (fun c1 => ?_) (fun c1 => mpp 4 rfl ?_)
  · have c1 : t0.toInt = 0 := ti_eq c1
    refine mp_a (a_iconst (v := 1) dX6_isCreaseKind_14 rfl) (mpp 15 rfl ?_)
    refine mp_a (a_goto (t := 19) dX6_isCreaseKind_15 (by decide)) ?_
    have u2 : 0 ≤ (1 : Int) ∧ (1 : Int) ≤ 1 := by omega
    exact mp_iret ⟨⟨_, rfl, u2⟩, rfl⟩ dX6_isCreaseKind_19 (Or.inr ⟨rfl, by decide⟩)
  · have c1 : t0.toInt ≠ 0 := ti_eq_n c1
    refine mp_a (a_iload_n dX6_isCreaseKind_4 rfl) (mpp 5 rfl ?_)
    refine mp_a (a_iconst (v := 1) dX6_isCreaseKind_5 rfl) (mpp 6 rfl ?_)
    refine mp_Tb (t := 14) (j_icmp_eq dX6_isCreaseKind_6) (by decide) (fun c3 => ?_) (fun c3 => mpp 9 rfl ?_)
    · have c3 : t0.toInt = 1 := ti_eq c3
      refine mp_a (a_iconst (v := 1) dX6_isCreaseKind_14 rfl) (mpp 15 rfl ?_)
      refine mp_a (a_goto (t := 19) dX6_isCreaseKind_15 (by decide)) ?_
      have u4 : 0 ≤ (1 : Int) ∧ (1 : Int) ≤ 1 := by omega
      exact mp_iret ⟨⟨_, rfl, u4⟩, rfl⟩ dX6_isCreaseKind_19 (Or.inr ⟨rfl, by decide⟩)
    · have c3 : t0.toInt ≠ 1 := ti_eq_n c3
      refine mp_a (a_iload_n dX6_isCreaseKind_9 rfl) (mpp 10 rfl ?_)
      refine mp_a (a_iconst (v := 2) dX6_isCreaseKind_10 rfl) (mpp 11 rfl ?_)
      refine mp_Tb (t := 18) (j_icmp_ne dX6_isCreaseKind_11) (by decide) (fun c5 => ?_) (fun c5 => mpp 14 rfl ?_)
      · have c5 : t0.toInt ≠ 2 := ti_ne c5
        refine mp_a (a_iconst (v := 0) dX6_isCreaseKind_18 rfl) (mpp 19 rfl ?_)
        have u6 : 0 ≤ (0 : Int) ∧ (0 : Int) ≤ 1 := by omega
        exact mp_iret ⟨⟨_, rfl, u6⟩, rfl⟩ dX6_isCreaseKind_19 (Or.inr ⟨rfl, by decide⟩)
      · have c5 : t0.toInt = 2 := ti_ne_n c5
        refine mp_a (a_iconst (v := 1) dX6_isCreaseKind_14 rfl) (mpp 15 rfl ?_)
        refine mp_a (a_goto (t := 19) dX6_isCreaseKind_15 (by decide)) ?_
        have u7 : 0 ≤ (1 : Int) ∧ (1 : Int) ≤ 1 := by omega
        exact mp_iret ⟨⟨_, rfl, u7⟩, rfl⟩ dX6_isCreaseKind_19 (Or.inr ⟨rfl, by decide⟩)

set_option maxHeartbeats 4000000 in
theorem c_CP_takeCreases_Piece_l20 {Po : mP} {a0_ : Nat} {t1 : Int32} (hTo : Typ Po) (hX : XR Po) (ha0 : rl a0_ = 3) : ∀ (n : Nat) (v2 : Int32) (v3 : Int32) (v4 : Int32), ∀ (P : mP), Typ P → KW [320] Po P → (v4.toInt + 1).toNat = n → MEvP 1 none q_24 20 [(0, .ref a0_), (1, .int t1), (2, .int v2), (3, .int v3), (4, .int v4)] [] P 0 0 (fun r P' => (∃ x : Int32, r = some (.int x) ∧ (0 ≤ x.toInt ∧ x.toInt ≤ 1)) ∧ Typ P' ∧ KW [320] Po P' ∧ True) := by
  intro n
  induction n using Nat.strongRecOn with | _ n ih => ?_
  intro v2 v3 v4 P hT hK  hm
  have w1 := pc_ar ha0
  have w_t1 := ti_full t1
  have w_v2 := ti_full v2
  have w_v3 := ti_full v3
  have w_v4 := ti_full v4
  refine mp_a (a_iload dX2_takeCreases_20 rfl) (mpp 22 rfl ?_)
  refine mp_Tb (t := 69) (j_if_lt dX2_takeCreases_22) (by decide) (fun c2 => ?_) (fun c2 => mpp 25 rfl ?_)
  · have c2 : v4.toInt < 0 := ti_lt c2
    refine mp_a (a_iload_n dX2_takeCreases_69 rfl) (mpp 70 rfl ?_)
    refine mp_Tb (t := 81) (j_if_eq dX2_takeCreases_70) (by decide) (fun c3 => ?_) (fun c3 => mpp 73 rfl ?_)
    · have c3 : v2.toInt = 0 := ti_eq c3
      refine mp_a (a_iconst (v := 0) dX2_takeCreases_81 rfl) (mpp 82 rfl ?_)
      have u4 : 0 ≤ (0 : Int) ∧ (0 : Int) ≤ 1 := by omega
      exact mp_iret ⟨⟨_, rfl, u4⟩, hT, hK, trivial⟩ dX2_takeCreases_82 (Or.inr ⟨rfl, by decide⟩)
    · have c3 : v2.toInt ≠ 0 := ti_eq_n c3
      refine mp_a (a_iload_n dX2_takeCreases_73 rfl) (mpp 74 rfl ?_)
      refine mp_Tb (t := 81) (j_if_ne dX2_takeCreases_74) (by decide) (fun c5 => ?_) (fun c5 => mpp 77 rfl ?_)
      · have c5 : v3.toInt ≠ 0 := ti_ne c5
        refine mp_a (a_iconst (v := 0) dX2_takeCreases_81 rfl) (mpp 82 rfl ?_)
        have u6 : 0 ≤ (0 : Int) ∧ (0 : Int) ≤ 1 := by omega
        exact mp_iret ⟨⟨_, rfl, u6⟩, hT, hK, trivial⟩ dX2_takeCreases_82 (Or.inr ⟨rfl, by decide⟩)
      · have c5 : v3.toInt = 0 := ti_ne_n c5
        refine mp_a (a_iconst (v := 1) dX2_takeCreases_77 rfl) (mpp 78 rfl ?_)
        refine mp_a (a_goto (t := 82) dX2_takeCreases_78 (by decide)) ?_
        have u7 : 0 ≤ (1 : Int) ∧ (1 : Int) ≤ 1 := by omega
        exact mp_iret ⟨⟨_, rfl, u7⟩, hT, hK, trivial⟩ dX2_takeCreases_82 (Or.inr ⟨rfl, by decide⟩)
  · have c2 : v4.toInt ≥ 0 := ti_lt_n c2
    refine mp_a (a_iload_n dX2_takeCreases_25 rfl) (mpp 26 rfl ?_)
    refine mp_Tb (t := 43) (j_if_eq dX2_takeCreases_26) (by decide) (fun c8 => ?_) (fun c8 => mpp 29 rfl ?_)
    · have c8 : v2.toInt = 0 := ti_eq c8
      refine mp_a (a_iconst (v := 0) dX2_takeCreases_43 rfl) (mpp 44 rfl ?_)
      refine mp_a (a_istore_n (L' := [(2, .int 0), (0, .ref a0_), (1, .int t1), (3, .int v3), (4, .int v4)]) dX2_takeCreases_44 (by decide) rfl) (mpp 45 rfl ?_)
      refine mp_a (a_aload_n dX2_takeCreases_45 rfl) (mpp 46 rfl ?_)
      refine mt_getE (i := 15) (k := 4) hT dX2_takeCreases_46 rfl ha0 (by decide) rfl (by decide) rfl ((KW.xr hK hX).1 a0_ (Or.inl ha0)).2 (fun q9 => mpp 49 rfl ?_)
      refine mp_a (a_iload dX2_takeCreases_49 rfl) (mpp 51 rfl ?_)
      refine mp_a (a_iload_n dX2_takeCreases_51 rfl) (mpp 52 rfl ?_)
      refine mp_a (a_bipush (v := 10) dX2_takeCreases_52 rfl) (mpp 54 rfl ?_)
      obtain ⟨z10, h11⟩ := ti_ex (v3 - v3 / 10 * 10 : Int32)
      have wz10 := ti_full z10
      try have e12 : 0 ≤ z10.toInt ∧ z10.toInt < 10 := ti_rem h11 (show (0 : Int) ≤ v3.toInt by omega) (show (0 : Int) < 10 by omega)
      refine mp_t (s_irem (v := z10) dX2_takeCreases_54 (by decide) h11) (mpp 55 rfl ?_)
      refine mp_calls (i := 29) (q' := q_22) (As := [.ref (a0_ + 2), .int v4, .int z10]) (rest := []) dX2_takeCreases_55 rfl qm_22 (by decide) rfl (Nat.le_of_ble_eq_true rfl) rfl ⟨rfl, rfl⟩ ⟨Nat.le_of_ble_eq_true rfl, Nat.le_of_ble_eq_true rfl⟩ (EvP.mono (by decide) (c_F_put_creases hT (KW.xr hK hX) q9)) (fun r13 P14 g15 => mpp 58 rfl ?_)
      obtain ⟨⟨rfl, g17⟩, hT18, k19, R20⟩ := g15
      have k21 : KW [320] Po P14 := KW.trans hK k19 rfl
      show MEvP _ none q_24 58 [(2, .int 0), (0, .ref a0_), (1, .int t1), (3, .int v3), (4, .int v4)] [] _ _ _ _
      refine mp_a (a_iload_n dX2_takeCreases_58 rfl) (mpp 59 rfl ?_)
      refine mp_a (a_bipush (v := 10) dX2_takeCreases_59 rfl) (mpp 61 rfl ?_)
      obtain ⟨z23, h24⟩ := ti_ex (v3 / 10 : Int32)
      have wz23 := ti_full z23
      try have e25 : z23.toInt = v3.toInt / 10 := ti_div h24 (show (0 : Int) ≤ v3.toInt by omega) (show (0 : Int) < 10 by omega)
      refine mp_t (s_idiv (v := z23) dX2_takeCreases_61 (by decide) h24) (mpp 62 rfl ?_)
      refine mp_a (a_istore_n (L' := [(3, .int z23), (2, .int 0), (0, .ref a0_), (1, .int t1), (4, .int v4)]) dX2_takeCreases_62 (by decide) rfl) (mpp 63 rfl ?_)
      obtain ⟨z26, h27⟩ := ti_ex (v4 + (-1) : Int32)
      have wz26 := ti_full z26
      refine mp_a (a_iinc (v := z26) (L' := [(4, .int z26), (3, .int z23), (2, .int 0), (0, .ref a0_), (1, .int t1)]) dX2_takeCreases_63 (by decide) rfl h27 rfl) (mpp 66 rfl ?_)
      try have e28 : z26.toInt = v4.toInt + (-1) := ti_addz h27 rfl rfl (by omega) (by omega)
      refine mp_a (a_goto (t := 20) dX2_takeCreases_66 (by decide)) ?_
      refine MEvP.less (L := [(0, .ref a0_), (1, .int t1), (2, .int 0), (3, .int z23), (4, .int z26)]) rfl rfl ⟨rfl, rfl, rfl, rfl, rfl, trivial⟩ ?_
      exact ih _ (by omega) _ _ _ P14 hT18 k21 rfl
    · have c8 : v2.toInt ≠ 0 := ti_eq_n c8
      refine mp_a (a_iload_n dX2_takeCreases_29 rfl) (mpp 30 rfl ?_)
      refine mp_a (a_bipush (v := 10) dX2_takeCreases_30 rfl) (mpp 32 rfl ?_)
      obtain ⟨z29, h30⟩ := ti_ex (v3 - v3 / 10 * 10 : Int32)
      have wz29 := ti_full z29
      try have e31 : 0 ≤ z29.toInt ∧ z29.toInt < 10 := ti_rem h30 (show (0 : Int) ≤ v3.toInt by omega) (show (0 : Int) < 10 by omega)
      refine mp_t (s_irem (v := z29) dX2_takeCreases_32 (by decide) h30) (mpp 33 rfl ?_)
      refine mp_calls (i := 40) (q' := q_26) (As := [.int z29]) (rest := []) dX2_takeCreases_33 rfl qm_26 (by decide) rfl (Nat.le_of_ble_eq_true rfl) rfl ⟨rfl, rfl⟩ ⟨Nat.le_of_ble_eq_true rfl, Nat.le_of_ble_eq_true rfl⟩ (EvP.mono (by decide) (c_F_isCreaseKind hT (KW.xr hK hX) )) (fun r32 P33 g34 => mpp 36 rfl ?_)
      obtain ⟨⟨x35, rfl, g36⟩, e37⟩ := g34
      have e37 := e37.symm
      subst e37
      have wx35 := ti_full x35
      have g36 : 0 ≤ x35.toInt ∧ x35.toInt ≤ 1 := g36
      show MEvP _ none q_24 36 [(0, .ref a0_), (1, .int t1), (2, .int v2), (3, .int v3), (4, .int v4)] [.int x35] _ _ _ _
      refine mp_Tb (t := 43) (j_if_eq dX2_takeCreases_36) (by decide) (fun c38 => ?_) (fun c38 => mpp 39 rfl ?_)
      · have c38 : x35.toInt = 0 := ti_eq c38
        refine mp_a (a_iconst (v := 0) dX2_takeCreases_43 rfl) (mpp 44 rfl ?_)
        refine mp_a (a_istore_n (L' := [(2, .int 0), (0, .ref a0_), (1, .int t1), (3, .int v3), (4, .int v4)]) dX2_takeCreases_44 (by decide) rfl) (mpp 45 rfl ?_)
        refine mp_a (a_aload_n dX2_takeCreases_45 rfl) (mpp 46 rfl ?_)
        refine mt_getE (i := 15) (k := 4) hT dX2_takeCreases_46 rfl ha0 (by decide) rfl (by decide) rfl ((KW.xr hK hX).1 a0_ (Or.inl ha0)).2 (fun q39 => mpp 49 rfl ?_)
        refine mp_a (a_iload dX2_takeCreases_49 rfl) (mpp 51 rfl ?_)
        refine mp_a (a_iload_n dX2_takeCreases_51 rfl) (mpp 52 rfl ?_)
        refine mp_a (a_bipush (v := 10) dX2_takeCreases_52 rfl) (mpp 54 rfl ?_)
        obtain ⟨z40, h41⟩ := ti_ex (v3 - v3 / 10 * 10 : Int32)
        have wz40 := ti_full z40
        try have e42 : 0 ≤ z40.toInt ∧ z40.toInt < 10 := ti_rem h41 (show (0 : Int) ≤ v3.toInt by omega) (show (0 : Int) < 10 by omega)
        refine mp_t (s_irem (v := z40) dX2_takeCreases_54 (by decide) h41) (mpp 55 rfl ?_)
        refine mp_calls (i := 29) (q' := q_22) (As := [.ref (a0_ + 2), .int v4, .int z40]) (rest := []) dX2_takeCreases_55 rfl qm_22 (by decide) rfl (Nat.le_of_ble_eq_true rfl) rfl ⟨rfl, rfl⟩ ⟨Nat.le_of_ble_eq_true rfl, Nat.le_of_ble_eq_true rfl⟩ (EvP.mono (by decide) (c_F_put_creases hT (KW.xr hK hX) q39)) (fun r43 P44 g45 => mpp 58 rfl ?_)
        obtain ⟨⟨rfl, g47⟩, hT48, k49, R50⟩ := g45
        have k51 : KW [320] Po P44 := KW.trans hK k49 rfl
        show MEvP _ none q_24 58 [(2, .int 0), (0, .ref a0_), (1, .int t1), (3, .int v3), (4, .int v4)] [] _ _ _ _
        refine mp_a (a_iload_n dX2_takeCreases_58 rfl) (mpp 59 rfl ?_)
        refine mp_a (a_bipush (v := 10) dX2_takeCreases_59 rfl) (mpp 61 rfl ?_)
        obtain ⟨z53, h54⟩ := ti_ex (v3 / 10 : Int32)
        have wz53 := ti_full z53
        try have e55 : z53.toInt = v3.toInt / 10 := ti_div h54 (show (0 : Int) ≤ v3.toInt by omega) (show (0 : Int) < 10 by omega)
        refine mp_t (s_idiv (v := z53) dX2_takeCreases_61 (by decide) h54) (mpp 62 rfl ?_)
        refine mp_a (a_istore_n (L' := [(3, .int z53), (2, .int 0), (0, .ref a0_), (1, .int t1), (4, .int v4)]) dX2_takeCreases_62 (by decide) rfl) (mpp 63 rfl ?_)
        obtain ⟨z56, h57⟩ := ti_ex (v4 + (-1) : Int32)
        have wz56 := ti_full z56
        refine mp_a (a_iinc (v := z56) (L' := [(4, .int z56), (3, .int z53), (2, .int 0), (0, .ref a0_), (1, .int t1)]) dX2_takeCreases_63 (by decide) rfl h57 rfl) (mpp 66 rfl ?_)
        try have e58 : z56.toInt = v4.toInt + (-1) := ti_addz h57 rfl rfl (by omega) (by omega)
        refine mp_a (a_goto (t := 20) dX2_takeCreases_66 (by decide)) ?_
        refine MEvP.less (L := [(0, .ref a0_), (1, .int t1), (2, .int 0), (3, .int z53), (4, .int z56)]) rfl rfl ⟨rfl, rfl, rfl, rfl, rfl, trivial⟩ ?_
        exact ih _ (by omega) _ _ _ P44 hT48 k51 rfl
      · have c38 : x35.toInt ≠ 0 := ti_eq_n c38
        refine mp_a (a_iconst (v := 1) dX2_takeCreases_39 rfl) (mpp 40 rfl ?_)
        refine mp_a (a_goto (t := 44) dX2_takeCreases_40 (by decide)) ?_
        refine mp_a (a_istore_n (L' := [(2, .int 1), (0, .ref a0_), (1, .int t1), (3, .int v3), (4, .int v4)]) dX2_takeCreases_44 (by decide) rfl) (mpp 45 rfl ?_)
        refine mp_a (a_aload_n dX2_takeCreases_45 rfl) (mpp 46 rfl ?_)
        refine mt_getE (i := 15) (k := 4) hT dX2_takeCreases_46 rfl ha0 (by decide) rfl (by decide) rfl ((KW.xr hK hX).1 a0_ (Or.inl ha0)).2 (fun q59 => mpp 49 rfl ?_)
        refine mp_a (a_iload dX2_takeCreases_49 rfl) (mpp 51 rfl ?_)
        refine mp_a (a_iload_n dX2_takeCreases_51 rfl) (mpp 52 rfl ?_)
        refine mp_a (a_bipush (v := 10) dX2_takeCreases_52 rfl) (mpp 54 rfl ?_)
        obtain ⟨z60, h61⟩ := ti_ex (v3 - v3 / 10 * 10 : Int32)
        have wz60 := ti_full z60
        try have e62 : 0 ≤ z60.toInt ∧ z60.toInt < 10 := ti_rem h61 (show (0 : Int) ≤ v3.toInt by omega) (show (0 : Int) < 10 by omega)
        refine mp_t (s_irem (v := z60) dX2_takeCreases_54 (by decide) h61) (mpp 55 rfl ?_)
        refine mp_calls (i := 29) (q' := q_22) (As := [.ref (a0_ + 2), .int v4, .int z60]) (rest := []) dX2_takeCreases_55 rfl qm_22 (by decide) rfl (Nat.le_of_ble_eq_true rfl) rfl ⟨rfl, rfl⟩ ⟨Nat.le_of_ble_eq_true rfl, Nat.le_of_ble_eq_true rfl⟩ (EvP.mono (by decide) (c_F_put_creases hT (KW.xr hK hX) q59)) (fun r63 P64 g65 => mpp 58 rfl ?_)
        obtain ⟨⟨rfl, g67⟩, hT68, k69, R70⟩ := g65
        have k71 : KW [320] Po P64 := KW.trans hK k69 rfl
        show MEvP _ none q_24 58 [(2, .int 1), (0, .ref a0_), (1, .int t1), (3, .int v3), (4, .int v4)] [] _ _ _ _
        refine mp_a (a_iload_n dX2_takeCreases_58 rfl) (mpp 59 rfl ?_)
        refine mp_a (a_bipush (v := 10) dX2_takeCreases_59 rfl) (mpp 61 rfl ?_)
        obtain ⟨z73, h74⟩ := ti_ex (v3 / 10 : Int32)
        have wz73 := ti_full z73
        try have e75 : z73.toInt = v3.toInt / 10 := ti_div h74 (show (0 : Int) ≤ v3.toInt by omega) (show (0 : Int) < 10 by omega)
        refine mp_t (s_idiv (v := z73) dX2_takeCreases_61 (by decide) h74) (mpp 62 rfl ?_)
        refine mp_a (a_istore_n (L' := [(3, .int z73), (2, .int 1), (0, .ref a0_), (1, .int t1), (4, .int v4)]) dX2_takeCreases_62 (by decide) rfl) (mpp 63 rfl ?_)
        obtain ⟨z76, h77⟩ := ti_ex (v4 + (-1) : Int32)
        have wz76 := ti_full z76
        refine mp_a (a_iinc (v := z76) (L' := [(4, .int z76), (3, .int z73), (2, .int 1), (0, .ref a0_), (1, .int t1)]) dX2_takeCreases_63 (by decide) rfl h77 rfl) (mpp 66 rfl ?_)
        try have e78 : z76.toInt = v4.toInt + (-1) := ti_addz h77 rfl rfl (by omega) (by omega)
        refine mp_a (a_goto (t := 20) dX2_takeCreases_66 (by decide)) ?_
        refine MEvP.less (L := [(0, .ref a0_), (1, .int t1), (2, .int 1), (3, .int z73), (4, .int z76)]) rfl rfl ⟨rfl, rfl, rfl, rfl, rfl, trivial⟩ ?_
        exact ih _ (by omega) _ _ _ P64 hT68 k71 rfl

set_option maxHeartbeats 4000000 in
theorem c_CP_takeCreases_Piece {Po : mP} {a0_ : Nat} {t1 : Int32} (hT : Typ Po) (hX : XR Po)  (ha0 : rl a0_ = 3) : EvP 2 24 [.ref a0_, .int t1] Po (fun r P' => (∃ x : Int32, r = some (.int x) ∧ (0 ≤ x.toInt ∧ x.toInt ≤ 1)) ∧ Typ P' ∧ KW [320] Po P' ∧ True) := by
  refine EvP.of qm_24 (Nat.le_of_ble_eq_true rfl) rfl ?_
  show MEvP _ none q_24 0 [(0, .ref a0_), (1, .int t1)] [] _ 0 0 _
  have w1 := pc_ar ha0
  refine mp_a (a_iload_n dX2_takeCreases_0 rfl) (mpp 1 rfl ?_)
  refine mp_Tb (t := 8) (j_if_lt dX2_takeCreases_1) (by decide) (fun c2 => ?_) (fun c2 => mpp 4 rfl ?_)
  · have c2 : t1.toInt < 0 := ti_lt c2
    refine mp_a (a_iconst (v := 0) dX2_takeCreases_8 rfl) (mpp 9 rfl ?_)
    refine mp_a (a_istore_n (L' := [(2, .int 0), (0, .ref a0_), (1, .int t1)]) dX2_takeCreases_9 (by decide) rfl) (mpp 10 rfl ?_)
    refine mp_a (a_iload_n dX2_takeCreases_10 rfl) (mpp 11 rfl ?_)
    refine mp_a (a_istore_n (L' := [(3, .int t1), (2, .int 0), (0, .ref a0_), (1, .int t1)]) dX2_takeCreases_11 (by decide) rfl) (mpp 12 rfl ?_)
    refine mp_a (a_aload_n dX2_takeCreases_12 rfl) (mpp 13 rfl ?_)
    refine mt_callv (i := 37) (q' := q_25) (As := []) (rest := []) hT dX2_takeCreases_13 rfl qm_25 (by decide) rfl ha0 (by decide) rfl (Nat.le_of_ble_eq_true rfl) rfl ⟨rfl, rfl⟩ ⟨Nat.le_of_ble_eq_true rfl, Nat.le_of_ble_eq_true rfl⟩ (EvP.mono (by decide) (c_CP_creaseCount_Piece hT hX ha0)) (fun r3 P4 g5 => mpp 16 rfl ?_)
    obtain ⟨⟨x6, rfl, g7⟩, e8⟩ := g5
    have e8 := e8.symm
    subst e8
    have wx6 := ti_full x6
    have g7 : -1 ≤ x6.toInt ∧ x6.toInt ≤ (fv Po a0_ 1).toInt ∧ (((fv Po a0_ 0).toInt = 0 ∧ x6.toInt = (fv Po a0_ 1).toInt - 1) ∨ ((fv Po a0_ 0).toInt ≠ 0 ∧ x6.toInt = (fv Po a0_ 1).toInt)) := g7
    have g9 : (0 : Int) ≤ (fv Po a0_ 1).toInt ∧ (fv Po a0_ 1).toInt ≤ 8 := Typ.rng hT ha0 (by decide) (by decide) rfl
    have g10 := ti_full (fv Po a0_ 0)
    show MEvP _ none q_24 16 [(3, .int t1), (2, .int 0), (0, .ref a0_), (1, .int t1)] [.int x6] _ _ _ _
    refine mp_a (a_iconst (v := 1) dX2_takeCreases_16 rfl) (mpp 17 rfl ?_)
    obtain ⟨z11, h12⟩ := ti_ex (x6 - 1 : Int32)
    have wz11 := ti_full z11
    refine mp_t (s_isub (v := z11) dX2_takeCreases_17 h12) (mpp 18 rfl ?_)
    try have e13 : z11.toInt = x6.toInt - 1 := ti_subz h12 rfl rfl (by omega) (by omega)
    refine mp_a (a_istore (L' := [(4, .int z11), (3, .int t1), (2, .int 0), (0, .ref a0_), (1, .int t1)]) dX2_takeCreases_18 (by decide) rfl) (mpp 20 rfl ?_)
    refine MEvP.less (L := [(0, .ref a0_), (1, .int t1), (2, .int 0), (3, .int t1), (4, .int z11)]) rfl rfl ⟨rfl, rfl, rfl, rfl, rfl, trivial⟩ ?_
    exact c_CP_takeCreases_Piece_l20 hT hX  ha0 _ _ _ _ Po hT KW.refl rfl
  · have c2 : t1.toInt ≥ 0 := ti_lt_n c2
    refine mp_a (a_iconst (v := 1) dX2_takeCreases_4 rfl) (mpp 5 rfl ?_)
    refine mp_a (a_goto (t := 9) dX2_takeCreases_5 (by decide)) ?_
    refine mp_a (a_istore_n (L' := [(2, .int 1), (0, .ref a0_), (1, .int t1)]) dX2_takeCreases_9 (by decide) rfl) (mpp 10 rfl ?_)
    refine mp_a (a_iload_n dX2_takeCreases_10 rfl) (mpp 11 rfl ?_)
    refine mp_a (a_istore_n (L' := [(3, .int t1), (2, .int 1), (0, .ref a0_), (1, .int t1)]) dX2_takeCreases_11 (by decide) rfl) (mpp 12 rfl ?_)
    refine mp_a (a_aload_n dX2_takeCreases_12 rfl) (mpp 13 rfl ?_)
    refine mt_callv (i := 37) (q' := q_25) (As := []) (rest := []) hT dX2_takeCreases_13 rfl qm_25 (by decide) rfl ha0 (by decide) rfl (Nat.le_of_ble_eq_true rfl) rfl ⟨rfl, rfl⟩ ⟨Nat.le_of_ble_eq_true rfl, Nat.le_of_ble_eq_true rfl⟩ (EvP.mono (by decide) (c_CP_creaseCount_Piece hT hX ha0)) (fun r14 P15 g16 => mpp 16 rfl ?_)
    obtain ⟨⟨x17, rfl, g18⟩, e19⟩ := g16
    have e19 := e19.symm
    subst e19
    have wx17 := ti_full x17
    have g18 : -1 ≤ x17.toInt ∧ x17.toInt ≤ (fv Po a0_ 1).toInt ∧ (((fv Po a0_ 0).toInt = 0 ∧ x17.toInt = (fv Po a0_ 1).toInt - 1) ∨ ((fv Po a0_ 0).toInt ≠ 0 ∧ x17.toInt = (fv Po a0_ 1).toInt)) := g18
    have g20 : (0 : Int) ≤ (fv Po a0_ 1).toInt ∧ (fv Po a0_ 1).toInt ≤ 8 := Typ.rng hT ha0 (by decide) (by decide) rfl
    have g21 := ti_full (fv Po a0_ 0)
    show MEvP _ none q_24 16 [(3, .int t1), (2, .int 1), (0, .ref a0_), (1, .int t1)] [.int x17] _ _ _ _
    refine mp_a (a_iconst (v := 1) dX2_takeCreases_16 rfl) (mpp 17 rfl ?_)
    obtain ⟨z22, h23⟩ := ti_ex (x17 - 1 : Int32)
    have wz22 := ti_full z22
    refine mp_t (s_isub (v := z22) dX2_takeCreases_17 h23) (mpp 18 rfl ?_)
    try have e24 : z22.toInt = x17.toInt - 1 := ti_subz h23 rfl rfl (by omega) (by omega)
    refine mp_a (a_istore (L' := [(4, .int z22), (3, .int t1), (2, .int 1), (0, .ref a0_), (1, .int t1)]) dX2_takeCreases_18 (by decide) rfl) (mpp 20 rfl ?_)
    refine MEvP.less (L := [(0, .ref a0_), (1, .int t1), (2, .int 1), (3, .int t1), (4, .int z22)]) rfl rfl ⟨rfl, rfl, rfl, rfl, rfl, trivial⟩ ?_
    exact c_CP_takeCreases_Piece_l20 hT hX  ha0 _ _ _ _ Po hT KW.refl rfl

set_option maxHeartbeats 4000000 in
theorem c_CP_copyFrom_NPiece_Piece {Po : mP} {a0_ : Nat} {a1_ : Nat} (hT : Typ Po) (hX : XR Po)  (hp0 : a0_ + 3 ≤ a1_ ∨ a1_ + 3 ≤ a0_) (ha0 : rl a0_ = 33) (ha1 : rl a1_ = 3) : EvP 2 18 [.ref a0_, .ref a1_] Po (fun r P' => (r = none ∧ (True)) ∧ Typ P' ∧ KW [256, 320, 2112, 2113, 2114] Po P' ∧ fv P' a0_ 0 = fv Po a1_ 0 ∧ fv P' a0_ 1 = fv Po a1_ 1 ∧ fv P' a0_ 2 = fv Po a1_ 2 ∧ (∀ j : Nat, j < 8 → fv P' (a0_ + 1) j = fv Po (a1_ + 1) j) ∧ (∀ j : Nat, j < 8 → fv P' (a0_ + 2) j = fv Po (a1_ + 2) j) ∧ KI a0_ (a0_ + 3) Po P') := by
  refine EvP.of qm_18 (Nat.le_of_ble_eq_true rfl) rfl ?_
  show MEvP _ none q_18 0 [(0, .ref a0_), (1, .ref a1_)] [] _ 0 0 _
  have w1 := np_ar ha0
  have w2 := pc_ar ha1
  refine mp_a (a_aload_n dX2_copyFrom_0 rfl) (mpp 1 rfl ?_)
  refine mp_a (a_aload_n dX2_copyFrom_1 rfl) (mpp 2 rfl ?_)
  have g3 := ti_full (fv Po a1_ 0)
  refine mt_getI (i := 18) (k := 0) hT dX2_copyFrom_2 rfl ha1 (by decide) rfl (by decide) rfl (fun g4 g5 => mpp 5 rfl ?_)
  refine mt_putI (i := 18) (k := 0) (x := (fv Po a1_ 0)) hT dX2_copyFrom_5 rfl ha0 (by decide) rfl (by decide) rfl (ti_full (fv Po a1_ 0)) rfl rfl (fun P6 hT7 f8 f9 f10 => mpp 8 rfl ?_)
  have k11 : KW [256, 320, 2112, 2113, 2114] Po P6 := KW.step KW.refl ha0 rfl f9 f10
  have e12 : (fv P6 a0_ 0).toInt = (fv Po a1_ 0).toInt := congrArg Int32.toInt f8
  refine mp_a (a_aload_n dX2_copyFrom_8 rfl) (mpp 9 rfl ?_)
  refine mp_a (a_aload_n dX2_copyFrom_9 rfl) (mpp 10 rfl ?_)
  have g13 : (0 : Int) ≤ (fv P6 a1_ 1).toInt ∧ (fv P6 a1_ 1).toInt ≤ 8 := Typ.rng hT7 ha1 (by decide) (by decide) rfl
  refine mt_getI (i := 26) (k := 1) hT7 dX2_copyFrom_10 rfl ha1 (by decide) rfl (by decide) rfl (fun g14 g15 => mpp 13 rfl ?_)
  refine mt_putI (i := 26) (k := 1) (x := (fv P6 a1_ 1)) hT7 dX2_copyFrom_13 rfl ha0 (by decide) rfl (by decide) rfl ⟨by omega, by omega⟩ rfl rfl (fun P16 hT17 f18 f19 f20 => mpp 16 rfl ?_)
  have k21 : KW [256, 320, 2112, 2113, 2114] Po P16 := KW.step k11 ha0 rfl f19 f20
  have e22 : (fv P16 a0_ 1).toInt = (fv P6 a1_ 1).toInt := congrArg Int32.toInt f18
  refine mp_a (a_aload_n dX2_copyFrom_16 rfl) (mpp 17 rfl ?_)
  refine mp_a (a_aload_n dX2_copyFrom_17 rfl) (mpp 18 rfl ?_)
  have g23 : (0 : Int) ≤ (fv P16 a1_ 2).toInt ∧ (fv P16 a1_ 2).toInt ≤ 1 := Typ.rng hT17 ha1 (by decide) (by decide) rfl
  refine mt_getI (i := 22) (k := 2) hT17 dX2_copyFrom_18 rfl ha1 (by decide) rfl (by decide) rfl (fun g24 g25 => mpp 21 rfl ?_)
  refine mt_putI (i := 22) (k := 2) (x := (fv P16 a1_ 2)) hT17 dX2_copyFrom_21 rfl ha0 (by decide) rfl (by decide) rfl ⟨by omega, by omega⟩ (ti_fit (by omega)) rfl (fun P26 hT27 f28 f29 f30 => mpp 24 rfl ?_)
  have k31 : KW [256, 320, 2112, 2113, 2114] Po P26 := KW.step k21 ha0 rfl f29 f30
  have e32 : (fv P26 a0_ 2).toInt = (fv P16 a1_ 2).toInt := congrArg Int32.toInt f28
  refine mp_a (a_aload_n dX2_copyFrom_24 rfl) (mpp 25 rfl ?_)
  refine mt_getE (i := 9) (k := 3) hT27 dX2_copyFrom_25 rfl ha1 (by decide) rfl (by decide) rfl ((KW.xr k31 hX).1 a1_ (Or.inl ha1)).1 (fun q33 => mpp 28 rfl ?_)
  refine mp_a (a_aload_n dX2_copyFrom_28 rfl) (mpp 29 rfl ?_)
  refine mt_getE (i := 9) (k := 3) hT27 dX2_copyFrom_29 rfl ha0 (by decide) rfl (by decide) rfl ((KW.xr k31 hX).1 a0_ (Or.inr ha0)).1 (fun q34 => mpp 32 rfl ?_)
  have p35 : ¬ (a1_ + 1) = (a0_ + 1) := by omega
  refine mp_calls (i := 44) (q' := q_19) (As := [.ref (a1_ + 1), .ref (a0_ + 1)]) (rest := []) dX2_copyFrom_32 rfl qm_19 (by decide) rfl (Nat.le_of_ble_eq_true rfl) rfl ⟨rfl, rfl⟩ ⟨Nat.le_of_ble_eq_true rfl, Nat.le_of_ble_eq_true rfl⟩ (EvP.mono (by decide) (c_F_copyRow_sizes_sizes hT27 (KW.xr k31 hX) p35 q33 q34)) (fun r36 P37 g38 => mpp 35 rfl ?_)
  obtain ⟨⟨rfl, g40⟩, hT41, k42, R43⟩ := g38
  have k44 : KW [256, 320, 2112, 2113, 2114] Po P37 := KW.trans k31 k42 rfl
  show MEvP _ none q_18 35 [(0, .ref a0_), (1, .ref a1_)] [] _ _ _ _
  refine mp_a (a_aload_n dX2_copyFrom_35 rfl) (mpp 36 rfl ?_)
  refine mt_getE (i := 15) (k := 4) hT41 dX2_copyFrom_36 rfl ha1 (by decide) rfl (by decide) rfl ((KW.xr k44 hX).1 a1_ (Or.inl ha1)).2 (fun q46 => mpp 39 rfl ?_)
  refine mp_a (a_aload_n dX2_copyFrom_39 rfl) (mpp 40 rfl ?_)
  refine mt_getE (i := 15) (k := 4) hT41 dX2_copyFrom_40 rfl ha0 (by decide) rfl (by decide) rfl ((KW.xr k44 hX).1 a0_ (Or.inr ha0)).2 (fun q47 => mpp 43 rfl ?_)
  have p48 : ¬ (a1_ + 2) = (a0_ + 2) := by omega
  refine mp_calls (i := 44) (q' := q_19) (As := [.ref (a1_ + 2), .ref (a0_ + 2)]) (rest := []) dX2_copyFrom_43 rfl qm_19 (by decide) rfl (Nat.le_of_ble_eq_true rfl) rfl ⟨rfl, rfl⟩ ⟨Nat.le_of_ble_eq_true rfl, Nat.le_of_ble_eq_true rfl⟩ (EvP.mono (by decide) (c_F_copyRow_creases_creases hT41 (KW.xr k44 hX) p48 q46 q47)) (fun r49 P50 g51 => mpp 46 rfl ?_)
  obtain ⟨⟨rfl, g53⟩, hT54, k55, R56⟩ := g51
  have k57 : KW [256, 320, 2112, 2113, 2114] Po P50 := KW.trans k44 k55 rfl
  show MEvP _ none q_18 46 [(0, .ref a0_), (1, .ref a1_)] [] _ _ _ _
  have u59 : fv P50 a0_ 0 = fv Po a1_ 0 := by rw [R56.2 a0_ 0 (by omega), R43.2 a0_ 0 (by omega), f29 a0_ 0 (by omega), f19 a0_ 0 (by omega), f8]
  have u60 : fv P50 a0_ 1 = fv Po a1_ 1 := by rw [R56.2 a0_ 1 (by omega), R43.2 a0_ 1 (by omega), f29 a0_ 1 (by omega), f18, f9 a1_ 1 (by omega)]
  have u61 : fv P50 a0_ 2 = fv Po a1_ 2 := by rw [R56.2 a0_ 2 (by omega), R43.2 a0_ 2 (by omega), f28, f19 a1_ 2 (by omega), f9 a1_ 2 (by omega)]
  have u62 : (∀ j : Nat, j < 8 → fv P50 (a0_ + 1) j = fv Po (a1_ + 1) j) := by
    intro j hj
    rw [R56.2 (a0_ + 1) j (by omega), R43.1 j (by omega), f29 (a1_ + 1) j (by omega), f19 (a1_ + 1) j (by omega), f9 (a1_ + 1) j (by omega)]
  have u63 : (∀ j : Nat, j < 8 → fv P50 (a0_ + 2) j = fv Po (a1_ + 2) j) := by
    intro j hj
    rw [R56.1 j (by omega), R43.2 (a1_ + 2) j (by omega), f29 (a1_ + 2) j (by omega), f19 (a1_ + 2) j (by omega), f9 (a1_ + 2) j (by omega)]
  have u64 : KI a0_ (a0_ + 3) Po P50 := by
    intro x j hx
    rw [R56.2 x j (by omega), R43.2 x j (by omega), f29 x j (by omega), f19 x j (by omega), f9 x j (by omega)]
  exact mp_ret ⟨⟨rfl, trivial⟩, hT54, k57, ⟨u59, u60, u61, u62, u63, u64⟩⟩ dX2_copyFrom_46 rfl

set_option maxHeartbeats 4000000 in
theorem c_CS_addCopyOf_NState_Piece {Po : mP} {a1_ : Nat} (hT : Typ Po) (hX : XR Po)  (hJ : Inj Po) (hp0 : (fv Po 1 1).toInt ≤ 7) (ha1 : rl a1_ = 3) : EvP 3 27 [.ref 1, .ref a1_] Po (fun r P' => (r = none ∧ (True)) ∧ Typ P' ∧ KW [256, 320, 1985, 2112, 2113, 2114] Po P' ∧ Inj P' ∧ (fv P' 1 1).toInt = (fv Po 1 1).toInt + 1 ∧ fv P' 1 2 = fv Po 1 2 ∧ fv P' 1 3 = fv Po 1 3 ∧ (PE P' (rv Po 2 (fv Po 1 1).toInt.toNat) Po a1_) ∧ (∀ k : Nat, k < 8 → ¬ (k : Int) = (fv Po 1 1).toInt → PE P' (rv Po 2 k) Po (rv Po 2 k)) ∧ KI 1 27 Po P') := by
  refine EvP.of qm_27 (Nat.le_of_ble_eq_true rfl) rfl ?_
  show MEvP _ none q_27 0 [(0, .ref 1), (1, .ref a1_)] [] _ 0 0 _
  have w1 := pc_ar ha1
  have g2 : (0 : Int) ≤ (fv Po 1 1).toInt ∧ (fv Po 1 1).toInt ≤ 8 := Typ.rng hT rl_1 (by decide) (by decide) rfl
  refine mp_a (a_aload_n dX5_addCopyOf_0 rfl) (mpp 1 rfl ?_)
  refine mt_getI (i := 22) (k := 1) hT dX5_addCopyOf_1 rfl rl_1 (by decide) rfl (by decide) rfl (fun g3 g4 => mpp 4 rfl ?_)
  refine mp_a (a_aload_n dX5_addCopyOf_4 rfl) (mpp 5 rfl ?_)
  refine mt_getU (i := 11) (k := 0) (A := 2) hT dX5_addCopyOf_5 rfl rl_1 (by decide) rfl (by decide) rfl un_32 (mpp 8 rfl ?_)
  refine mt_len (n := 8) hT dX5_addCopyOf_8 rl_2 (by decide) (by decide) rfl (mpp 9 rfl ?_)
  refine mp_Tb (t := 13) (j_icmp_lt dX5_addCopyOf_9) (by decide) (fun c5 => ?_) (fun c5 => mpp 12 rfl ?_)
  · have c5 : (fv Po 1 1).toInt < 8 := ti_lt c5
    refine mp_a (a_aload_n dX5_addCopyOf_13 rfl) (mpp 14 rfl ?_)
    refine mp_t (s_dup dX5_addCopyOf_14 rfl) (mpp 15 rfl ?_)
    refine mt_getI (i := 22) (k := 1) hT dX5_addCopyOf_15 rfl rl_1 (by decide) rfl (by decide) rfl (fun g6 g7 => mpp 18 rfl ?_)
    refine mp_a (a_iconst (v := 1) dX5_addCopyOf_18 rfl) (mpp 19 rfl ?_)
    obtain ⟨z8, h9⟩ := ti_ex ((fv Po 1 1) + 1 : Int32)
    have wz8 := ti_full z8
    refine mp_t (s_iadd (v := z8) dX5_addCopyOf_19 h9) (mpp 20 rfl ?_)
    try have e10 : z8.toInt = (fv Po 1 1).toInt + 1 := ti_addz h9 rfl rfl (by omega) (by omega)
    refine mt_putI (i := 22) (k := 1) (x := z8) hT dX5_addCopyOf_20 rfl rl_1 (by decide) rfl (by decide) rfl ⟨by omega, by omega⟩ rfl rfl (fun P11 hT12 f13 f14 f15 => mpp 23 rfl ?_)
    have k16 : KW [256, 320, 1985, 2112, 2113, 2114] Po P11 := KW.step KW.refl rl_1 rfl f14 f15
    have J17 := Inj.st hJ f15
    have e18 : (fv P11 1 1).toInt = z8.toInt := congrArg Int32.toInt f13
    refine mp_a (a_aload_n dX5_addCopyOf_23 rfl) (mpp 24 rfl ?_)
    refine mp_a (a_aload_n dX5_addCopyOf_24 rfl) (mpp 25 rfl ?_)
    refine mt_getI (i := 22) (k := 1) hT12 dX5_addCopyOf_25 rfl rl_1 (by decide) rfl (by decide) rfl (fun g19 g20 => mpp 28 rfl ?_)
    refine mp_a (a_iconst (v := 1) dX5_addCopyOf_28 rfl) (mpp 29 rfl ?_)
    obtain ⟨z21, h22⟩ := ti_ex ((fv P11 1 1) - 1 : Int32)
    have wz21 := ti_full z21
    refine mp_t (s_isub (v := z21) dX5_addCopyOf_29 h22) (mpp 30 rfl ?_)
    try have e23 : z21.toInt = (fv P11 1 1).toInt - 1 := ti_subz h22 rfl rfl (by omega) (by omega)
    refine mt_callv (i := 28) (q' := q_9) (As := [.int z21]) (rest := []) hT12 dX5_addCopyOf_30 rfl qm_9 (by decide) rfl rl_1 (by decide) rfl (Nat.le_of_ble_eq_true rfl) rfl ⟨rfl, rfl⟩ ⟨Nat.le_of_ble_eq_true rfl, Nat.le_of_ble_eq_true rfl⟩ (EvP.mono (by decide) (c_CS_pieceAt_NState hT12 (KW.xr k16 hX) )) (fun r24 P25 g26 => mpp 33 rfl ?_)
    obtain ⟨g26, e27⟩ := g26
    have e27 := e27.symm
    subst e27
    rcases g26 with ⟨rfl, q29n⟩ | ⟨b28, rfl, q29, q29r⟩
    · show MEvP _ none q_27 33 [(0, .ref 1), (1, .ref a1_)] [.null] _ _ _ _
      have q29n : z21.toInt < 0 ∨ (fv P11 1 1).toInt ≤ z21.toInt ∨ 8 ≤ z21.toInt := q29n
      refine mp_a (a_astore_nN (L' := [(2, .null), (0, .ref 1), (1, .ref a1_)]) dX5_addCopyOf_33 (by decide) rfl) (mpp 34 rfl ?_)
      refine mp_a (a_aload_nN dX5_addCopyOf_34 rfl) (mpp 35 rfl ?_)
      exfalso
      omega
    · show MEvP _ none q_27 33 [(0, .ref 1), (1, .ref a1_)] [.ref b28] _ _ _ _
      have q29r : 0 ≤ z21.toInt ∧ z21.toInt ≤ 7 ∧ z21.toInt + 1 ≤ (fv P11 1 1).toInt ∧ rv P11 2 z21.toInt.toNat = b28 := q29r
      have w30 := np_ar q29
      refine mp_a (a_astore_n (L' := [(2, .ref b28), (0, .ref 1), (1, .ref a1_)]) dX5_addCopyOf_33 (by decide) rfl) (mpp 34 rfl ?_)
      refine mp_a (a_aload_n dX5_addCopyOf_34 rfl) (mpp 35 rfl ?_)
      refine mp_t (s_ifnullR dX5_addCopyOf_35) (mpp 38 rfl ?_)
      refine mp_a (a_aload_n dX5_addCopyOf_38 rfl) (mpp 39 rfl ?_)
      refine mp_a (a_aload_n dX5_addCopyOf_39 rfl) (mpp 40 rfl ?_)
      have p31 : b28 + 3 ≤ a1_ ∨ a1_ + 3 ≤ b28 := by omega
      refine mt_callv (i := 32) (q' := q_18) (As := [.ref a1_]) (rest := []) hT12 dX5_addCopyOf_40 rfl qm_18 (by decide) rfl q29 (by decide) rfl (Nat.le_of_ble_eq_true rfl) rfl ⟨rfl, rfl⟩ ⟨Nat.le_of_ble_eq_true rfl, Nat.le_of_ble_eq_true rfl⟩ (EvP.mono (by decide) (c_CP_copyFrom_NPiece_Piece hT12 (KW.xr k16 hX) p31 q29 ha1)) (fun r32 P33 g34 => mpp 43 rfl ?_)
      obtain ⟨⟨rfl, g36⟩, hT37, k38, R39⟩ := g34
      have k40 : KW [256, 320, 1985, 2112, 2113, 2114] Po P33 := KW.trans k16 k38 rfl
      have J42 := Inj.kw J17 k38 rfl
      show MEvP _ none q_27 43 [(2, .ref b28), (0, .ref 1), (1, .ref a1_)] [] _ _ _ _
      have e44 : (fv P33 1 1).toInt = (fv P11 1 1).toInt := congrArg Int32.toInt (KW.at k38 1 rl_1 rfl)
      have u43 : (fv P33 1 1).toInt = (fv Po 1 1).toInt + 1 := by omega
      have u45 : fv P33 1 2 = fv Po 1 2 := by rw [R39.2.2.2.2.2 1 2 (by omega), f14 1 2 (by omega)]
      have u46 : fv P33 1 3 = fv Po 1 3 := by rw [R39.2.2.2.2.2 1 3 (by omega), f14 1 3 (by omega)]
      have qa : rv Po 2 (fv Po 1 1).toInt.toNat = b28 := (congrArg (rv Po 2) (show (fv Po 1 1).toInt.toNat = _ from by omega)).trans ((k16.2.2 rfl _).symm.trans q29r.2.2.2)
      have ka : KI 1 2 Po P11 := fun x j hx => f14 x j (by omega)
      have u47 : (PE P33 (rv Po 2 (fv Po 1 1).toInt.toNat) Po a1_) := by rw [qa]; exact PE.src (P := P11) ⟨R39.1, R39.2.1, R39.2.2.1, R39.2.2.2.1, R39.2.2.2.2.1⟩ ka (by omega)
      have u48 : (∀ k : Nat, k < 8 → ¬ (k : Int) = (fv Po 1 1).toInt → PE P33 (rv Po 2 k) Po (rv Po 2 k)) := fun k hk hn => (PE.keep (PE.keep (PE.refl Po _) ka (by have := (rv_np hT k hk).2.2.1; omega)) R39.2.2.2.2.2 (np_dis hJ hT hk (by omega) (fun e => hn (by omega)) qa))
      have u49 : KI 1 27 Po P33 := by
        intro x j hx
        rw [R39.2.2.2.2.2 x j (by omega), f14 x j (by omega)]
      exact mp_ret ⟨⟨rfl, trivial⟩, hT37, k40, J42, ⟨u43, u45, u46, u47, u48, u49⟩⟩ dX5_addCopyOf_43 rfl
  · have c5 : (fv Po 1 1).toInt ≥ 8 := ti_lt_n c5
    exfalso
    omega

set_option maxHeartbeats 4000000 in
theorem c_F_add {Po : mP} {t1 : Int32} {t2 : Int32} {t3 : Int32} (hT : Typ Po) (hX : XR Po)  (hJ : Inj Po)  : EvP 5 20 [.ref 0, .int t1, .int t2, .int t3] Po (fun r P' => (∃ x : Int32, r = some (.int x) ∧ (True)) ∧ Typ P' ∧ KW [10, 11, 12, 65, 66, 67, 192, 193, 194, 256, 320, 385, 386, 1985, 2112, 2113, 2114] Po P' ∧ Inj P' ∧ True) := by
  refine EvP.of qm_20 (Nat.le_of_ble_eq_true rfl) rfl ?_
  show MEvP _ none q_20 0 [(0, .ref 0), (1, .int t1), (2, .int t2), (3, .int t3)] [] _ 0 0 _
  refine mp_a (a_iload_n dX6_add_0 rfl) (mpp 1 rfl ?_)
  refine mp_Tb (t := 13) (j_if_eq dX6_add_1) (by decide) (fun c1 => ?_) (fun c1 => mpp 4 rfl ?_)
  · have c1 : t1.toInt = 0 := ti_eq c1
    refine mp_a (a_aload_n dX6_add_13 rfl) (mpp 14 rfl ?_)
    refine mt_getE (i := 53) (k := 7) hT dX6_add_14 rfl rl_0 (by decide) rfl (by decide) rfl hX.2.2.2.2.2 (fun q2 => mpp 17 rfl ?_)
    refine mp_a (a_iload_n dX6_add_17 rfl) (mpp 18 rfl ?_)
    refine mp_a (a_iload_n dX6_add_18 rfl) (mpp 19 rfl ?_)
    refine mt_callv (i := 79) (q' := q_21) (As := [.int t1, .int t2]) (rest := []) hT dX6_add_19 rfl qm_21 (by decide) rfl q2 (by decide) rfl (Nat.le_of_ble_eq_true rfl) rfl ⟨rfl, rfl⟩ ⟨Nat.le_of_ble_eq_true rfl, Nat.le_of_ble_eq_true rfl⟩ (EvP.mono (by decide) (c_CP_takeSizes_Piece hT hX q2)) (fun r3 P4 g5 => mpp 22 rfl ?_)
    obtain ⟨⟨x6, rfl, g7⟩, hT8, k9, R10⟩ := g5
    have k11 : KW [10, 11, 12, 65, 66, 67, 192, 193, 194, 256, 320, 385, 386, 1985, 2112, 2113, 2114] Po P4 := KW.trans KW.refl k9 rfl
    have J13 := Inj.kw hJ k9 rfl
    have wx6 := ti_full x6
    have g7 : 0 ≤ x6.toInt ∧ x6.toInt ≤ 1 := g7
    show MEvP _ none q_20 22 [(0, .ref 0), (1, .int t1), (2, .int t2), (3, .int t3)] [.int x6] _ _ _ _
    refine mp_Tb (t := 36) (j_if_eq dX6_add_22) (by decide) (fun c14 => ?_) (fun c14 => mpp 25 rfl ?_)
    · have c14 : x6.toInt = 0 := ti_eq c14
      refine mp_a (a_sipush (v := -1002) dX6_add_36 rfl) (mpp 39 rfl ?_)
      exact mp_iret ⟨⟨_, rfl, trivial⟩, hT8, k11, J13, trivial⟩ dX6_add_39 (Or.inl rfl)
    · have c14 : x6.toInt ≠ 0 := ti_eq_n c14
      refine mp_a (a_aload_n dX6_add_25 rfl) (mpp 26 rfl ?_)
      refine mt_getE (i := 53) (k := 7) hT8 dX6_add_26 rfl rl_0 (by decide) rfl (by decide) rfl (KW.xr k11 hX).2.2.2.2.2 (fun q15 => mpp 29 rfl ?_)
      refine mp_a (a_iload_n dX6_add_29 rfl) (mpp 30 rfl ?_)
      refine mt_callv (i := 83) (q' := q_24) (As := [.int t3]) (rest := []) hT8 dX6_add_30 rfl qm_24 (by decide) rfl q15 (by decide) rfl (Nat.le_of_ble_eq_true rfl) rfl ⟨rfl, rfl⟩ ⟨Nat.le_of_ble_eq_true rfl, Nat.le_of_ble_eq_true rfl⟩ (EvP.mono (by decide) (c_CP_takeCreases_Piece hT8 (KW.xr k11 hX) q15)) (fun r16 P17 g18 => mpp 33 rfl ?_)
      obtain ⟨⟨x19, rfl, g20⟩, hT21, k22, R23⟩ := g18
      have k24 : KW [10, 11, 12, 65, 66, 67, 192, 193, 194, 256, 320, 385, 386, 1985, 2112, 2113, 2114] Po P17 := KW.trans k11 k22 rfl
      have J26 := Inj.kw J13 k22 rfl
      have wx19 := ti_full x19
      have g20 : 0 ≤ x19.toInt ∧ x19.toInt ≤ 1 := g20
      show MEvP _ none q_20 33 [(0, .ref 0), (1, .int t1), (2, .int t2), (3, .int t3)] [.int x19] _ _ _ _
      refine mp_Tb (t := 40) (j_if_ne dX6_add_33) (by decide) (fun c27 => ?_) (fun c27 => mpp 36 rfl ?_)
      · have c27 : x19.toInt ≠ 0 := ti_ne c27
        refine mp_a (a_aload_n dX6_add_40 rfl) (mpp 41 rfl ?_)
        refine mt_getU (i := 10) (k := 0) (A := 1) hT21 dX6_add_41 rfl rl_0 (by decide) rfl (by decide) rfl un_31 (mpp 44 rfl ?_)
        have g28 : (0 : Int) ≤ (fv P17 1 1).toInt ∧ (fv P17 1 1).toInt ≤ 8 := Typ.rng hT21 rl_1 (by decide) (by decide) rfl
        refine mt_getI (i := 87) (k := 1) hT21 dX6_add_44 rfl rl_1 (by decide) rfl (by decide) rfl (fun g29 g30 => mpp 47 rfl ?_)
        refine mp_a (a_bipush (v := 8) dX6_add_47 rfl) (mpp 49 rfl ?_)
        refine mp_Tb (t := 60) (j_icmp_lt dX6_add_49) (by decide) (fun c31 => ?_) (fun c31 => mpp 52 rfl ?_)
        · have c31 : (fv P17 1 1).toInt < 8 := ti_lt c31
          refine mp_a (a_aload_n dX6_add_60 rfl) (mpp 61 rfl ?_)
          refine mt_getU (i := 25) (k := 3) (A := 79) hT21 dX6_add_61 rfl rl_0 (by decide) rfl (by decide) rfl un_6 (mpp 64 rfl ?_)
          refine mp_a (a_aload_n dX6_add_64 rfl) (mpp 65 rfl ?_)
          refine mt_getU (i := 10) (k := 0) (A := 1) hT21 dX6_add_65 rfl rl_0 (by decide) rfl (by decide) rfl un_31 (mpp 68 rfl ?_)
          refine mt_callv (i := 72) (q' := q_15) (As := [.ref 1]) (rest := []) hT21 dX6_add_68 rfl qm_15 (by decide) rfl rl_79 (by decide) rfl (Nat.le_of_ble_eq_true rfl) rfl ⟨rfl, rfl⟩ ⟨Nat.le_of_ble_eq_true rfl, Nat.le_of_ble_eq_true rfl⟩ (EvP.mono (by decide) (c_CH_push_History_NState hT21 (KW.xr k24 hX) J26 )) (fun r32 P33 g34 => mpp 71 rfl ?_)
          obtain ⟨⟨rfl, g36⟩, hT37, k38, J41, R39⟩ := g34
          have k40 : KW [10, 11, 12, 65, 66, 67, 192, 193, 194, 256, 320, 385, 386, 1985, 2112, 2113, 2114] Po P33 := KW.trans k24 k38 rfl
          show MEvP _ none q_20 71 [(0, .ref 0), (1, .int t1), (2, .int t2), (3, .int t3)] [] _ _ _ _
          refine mp_a (a_aload_n dX6_add_71 rfl) (mpp 72 rfl ?_)
          refine mt_getU (i := 10) (k := 0) (A := 1) hT37 dX6_add_72 rfl rl_0 (by decide) rfl (by decide) rfl un_31 (mpp 75 rfl ?_)
          refine mp_a (a_aload_n dX6_add_75 rfl) (mpp 76 rfl ?_)
          refine mt_getE (i := 53) (k := 7) hT37 dX6_add_76 rfl rl_0 (by decide) rfl (by decide) rfl (KW.xr k40 hX).2.2.2.2.2 (fun q42 => mpp 79 rfl ?_)
          have e43 : (fv P33 1 1).toInt = (fv P17 1 1).toInt := congrArg Int32.toInt (KW.at k38 1 rl_1 rfl)
          have p44 : (fv P33 1 1).toInt ≤ 7 := by omega
          refine mt_callv (i := 90) (q' := q_27) (As := [.ref 298]) (rest := []) hT37 dX6_add_79 rfl qm_27 (by decide) rfl rl_1 (by decide) rfl (Nat.le_of_ble_eq_true rfl) rfl ⟨rfl, rfl⟩ ⟨Nat.le_of_ble_eq_true rfl, Nat.le_of_ble_eq_true rfl⟩ (EvP.mono (by decide) (c_CS_addCopyOf_NState_Piece hT37 (KW.xr k40 hX) J41 p44 q42)) (fun r45 P46 g47 => mpp 82 rfl ?_)
          obtain ⟨⟨rfl, g49⟩, hT50, k51, J54, R52⟩ := g47
          have k53 : KW [10, 11, 12, 65, 66, 67, 192, 193, 194, 256, 320, 385, 386, 1985, 2112, 2113, 2114] Po P46 := KW.trans k40 k51 rfl
          show MEvP _ none q_20 82 [(0, .ref 0), (1, .int t1), (2, .int t2), (3, .int t3)] [] _ _ _ _
          refine mp_a (a_aload_n dX6_add_82 rfl) (mpp 83 rfl ?_)
          refine mt_getU (i := 10) (k := 0) (A := 1) hT50 dX6_add_83 rfl rl_0 (by decide) rfl (by decide) rfl un_31 (mpp 86 rfl ?_)
          have g55 : (0 : Int) ≤ (fv P46 1 1).toInt ∧ (fv P46 1 1).toInt ≤ 8 := Typ.rng hT50 rl_1 (by decide) (by decide) rfl
          refine mt_getI (i := 87) (k := 1) hT50 dX6_add_86 rfl rl_1 (by decide) rfl (by decide) rfl (fun g56 g57 => mpp 89 rfl ?_)
          refine mp_a (a_iconst (v := 1) dX6_add_89 rfl) (mpp 90 rfl ?_)
          obtain ⟨z58, h59⟩ := ti_ex ((fv P46 1 1) - 1 : Int32)
          have wz58 := ti_full z58
          refine mp_t (s_isub (v := z58) dX6_add_90 h59) (mpp 91 rfl ?_)
          try have e60 : z58.toInt = (fv P46 1 1).toInt - 1 := ti_subz h59 rfl rfl (by omega) (by omega)
          exact mp_iret ⟨⟨_, rfl, trivial⟩, hT50, k53, J54, trivial⟩ dX6_add_91 (Or.inl rfl)
        · have c31 : (fv P17 1 1).toInt ≥ 8 := ti_lt_n c31
          refine mp_a (a_aload_n dX6_add_52 rfl) (mpp 53 rfl ?_)
          refine mp_a (a_iconst (v := 1) dX6_add_53 rfl) (mpp 54 rfl ?_)
          refine mp_a (a_bipush (v := 8) dX6_add_54 rfl) (mpp 56 rfl ?_)
          refine mt_callv (i := 68) (q' := q_14) (As := [.int 1, .int 8]) (rest := []) hT21 dX6_add_56 rfl qm_14 (by decide) rfl rl_0 (by decide) rfl (Nat.le_of_ble_eq_true rfl) rfl ⟨rfl, rfl⟩ ⟨Nat.le_of_ble_eq_true rfl, Nat.le_of_ble_eq_true rfl⟩ (EvP.mono (by decide) (c_F_refuse hT21 (KW.xr k24 hX) )) (fun r61 P62 g63 => mpp 59 rfl ?_)
          obtain ⟨⟨x64, rfl, g65⟩, hT66, k67, R68⟩ := g63
          have k69 : KW [10, 11, 12, 65, 66, 67, 192, 193, 194, 256, 320, 385, 386, 1985, 2112, 2113, 2114] Po P62 := KW.trans k24 k67 rfl
          have J71 := Inj.kw J26 k67 rfl
          have wx64 := ti_full x64
          show MEvP _ none q_20 59 [(0, .ref 0), (1, .int t1), (2, .int t2), (3, .int t3)] [.int x64] _ _ _ _
          exact mp_iret ⟨⟨_, rfl, trivial⟩, hT66, k69, J71, trivial⟩ dX6_add_59 (Or.inl rfl)
      · have c27 : x19.toInt = 0 := ti_ne_n c27
        refine mp_a (a_sipush (v := -1002) dX6_add_36 rfl) (mpp 39 rfl ?_)
        exact mp_iret ⟨⟨_, rfl, trivial⟩, hT21, k24, J26, trivial⟩ dX6_add_39 (Or.inl rfl)
  · have c1 : t1.toInt ≠ 0 := ti_eq_n c1
    refine mp_a (a_iload_n dX6_add_4 rfl) (mpp 5 rfl ?_)
    refine mp_a (a_iconst (v := 1) dX6_add_5 rfl) (mpp 6 rfl ?_)
    refine mp_Tb (t := 13) (j_icmp_eq dX6_add_6) (by decide) (fun c72 => ?_) (fun c72 => mpp 9 rfl ?_)
    · have c72 : t1.toInt = 1 := ti_eq c72
      refine mp_a (a_aload_n dX6_add_13 rfl) (mpp 14 rfl ?_)
      refine mt_getE (i := 53) (k := 7) hT dX6_add_14 rfl rl_0 (by decide) rfl (by decide) rfl hX.2.2.2.2.2 (fun q73 => mpp 17 rfl ?_)
      refine mp_a (a_iload_n dX6_add_17 rfl) (mpp 18 rfl ?_)
      refine mp_a (a_iload_n dX6_add_18 rfl) (mpp 19 rfl ?_)
      refine mt_callv (i := 79) (q' := q_21) (As := [.int t1, .int t2]) (rest := []) hT dX6_add_19 rfl qm_21 (by decide) rfl q73 (by decide) rfl (Nat.le_of_ble_eq_true rfl) rfl ⟨rfl, rfl⟩ ⟨Nat.le_of_ble_eq_true rfl, Nat.le_of_ble_eq_true rfl⟩ (EvP.mono (by decide) (c_CP_takeSizes_Piece hT hX q73)) (fun r74 P75 g76 => mpp 22 rfl ?_)
      obtain ⟨⟨x77, rfl, g78⟩, hT79, k80, R81⟩ := g76
      have k82 : KW [10, 11, 12, 65, 66, 67, 192, 193, 194, 256, 320, 385, 386, 1985, 2112, 2113, 2114] Po P75 := KW.trans KW.refl k80 rfl
      have J84 := Inj.kw hJ k80 rfl
      have wx77 := ti_full x77
      have g78 : 0 ≤ x77.toInt ∧ x77.toInt ≤ 1 := g78
      show MEvP _ none q_20 22 [(0, .ref 0), (1, .int t1), (2, .int t2), (3, .int t3)] [.int x77] _ _ _ _
      refine mp_Tb (t := 36) (j_if_eq dX6_add_22) (by decide) (fun c85 => ?_) (fun c85 => mpp 25 rfl ?_)
      · have c85 : x77.toInt = 0 := ti_eq c85
        refine mp_a (a_sipush (v := -1002) dX6_add_36 rfl) (mpp 39 rfl ?_)
        exact mp_iret ⟨⟨_, rfl, trivial⟩, hT79, k82, J84, trivial⟩ dX6_add_39 (Or.inl rfl)
      · have c85 : x77.toInt ≠ 0 := ti_eq_n c85
        refine mp_a (a_aload_n dX6_add_25 rfl) (mpp 26 rfl ?_)
        refine mt_getE (i := 53) (k := 7) hT79 dX6_add_26 rfl rl_0 (by decide) rfl (by decide) rfl (KW.xr k82 hX).2.2.2.2.2 (fun q86 => mpp 29 rfl ?_)
        refine mp_a (a_iload_n dX6_add_29 rfl) (mpp 30 rfl ?_)
        refine mt_callv (i := 83) (q' := q_24) (As := [.int t3]) (rest := []) hT79 dX6_add_30 rfl qm_24 (by decide) rfl q86 (by decide) rfl (Nat.le_of_ble_eq_true rfl) rfl ⟨rfl, rfl⟩ ⟨Nat.le_of_ble_eq_true rfl, Nat.le_of_ble_eq_true rfl⟩ (EvP.mono (by decide) (c_CP_takeCreases_Piece hT79 (KW.xr k82 hX) q86)) (fun r87 P88 g89 => mpp 33 rfl ?_)
        obtain ⟨⟨x90, rfl, g91⟩, hT92, k93, R94⟩ := g89
        have k95 : KW [10, 11, 12, 65, 66, 67, 192, 193, 194, 256, 320, 385, 386, 1985, 2112, 2113, 2114] Po P88 := KW.trans k82 k93 rfl
        have J97 := Inj.kw J84 k93 rfl
        have wx90 := ti_full x90
        have g91 : 0 ≤ x90.toInt ∧ x90.toInt ≤ 1 := g91
        show MEvP _ none q_20 33 [(0, .ref 0), (1, .int t1), (2, .int t2), (3, .int t3)] [.int x90] _ _ _ _
        refine mp_Tb (t := 40) (j_if_ne dX6_add_33) (by decide) (fun c98 => ?_) (fun c98 => mpp 36 rfl ?_)
        · have c98 : x90.toInt ≠ 0 := ti_ne c98
          refine mp_a (a_aload_n dX6_add_40 rfl) (mpp 41 rfl ?_)
          refine mt_getU (i := 10) (k := 0) (A := 1) hT92 dX6_add_41 rfl rl_0 (by decide) rfl (by decide) rfl un_31 (mpp 44 rfl ?_)
          have g99 : (0 : Int) ≤ (fv P88 1 1).toInt ∧ (fv P88 1 1).toInt ≤ 8 := Typ.rng hT92 rl_1 (by decide) (by decide) rfl
          refine mt_getI (i := 87) (k := 1) hT92 dX6_add_44 rfl rl_1 (by decide) rfl (by decide) rfl (fun g100 g101 => mpp 47 rfl ?_)
          refine mp_a (a_bipush (v := 8) dX6_add_47 rfl) (mpp 49 rfl ?_)
          refine mp_Tb (t := 60) (j_icmp_lt dX6_add_49) (by decide) (fun c102 => ?_) (fun c102 => mpp 52 rfl ?_)
          · have c102 : (fv P88 1 1).toInt < 8 := ti_lt c102
            refine mp_a (a_aload_n dX6_add_60 rfl) (mpp 61 rfl ?_)
            refine mt_getU (i := 25) (k := 3) (A := 79) hT92 dX6_add_61 rfl rl_0 (by decide) rfl (by decide) rfl un_6 (mpp 64 rfl ?_)
            refine mp_a (a_aload_n dX6_add_64 rfl) (mpp 65 rfl ?_)
            refine mt_getU (i := 10) (k := 0) (A := 1) hT92 dX6_add_65 rfl rl_0 (by decide) rfl (by decide) rfl un_31 (mpp 68 rfl ?_)
            refine mt_callv (i := 72) (q' := q_15) (As := [.ref 1]) (rest := []) hT92 dX6_add_68 rfl qm_15 (by decide) rfl rl_79 (by decide) rfl (Nat.le_of_ble_eq_true rfl) rfl ⟨rfl, rfl⟩ ⟨Nat.le_of_ble_eq_true rfl, Nat.le_of_ble_eq_true rfl⟩ (EvP.mono (by decide) (c_CH_push_History_NState hT92 (KW.xr k95 hX) J97 )) (fun r103 P104 g105 => mpp 71 rfl ?_)
            obtain ⟨⟨rfl, g107⟩, hT108, k109, J112, R110⟩ := g105
            have k111 : KW [10, 11, 12, 65, 66, 67, 192, 193, 194, 256, 320, 385, 386, 1985, 2112, 2113, 2114] Po P104 := KW.trans k95 k109 rfl
            show MEvP _ none q_20 71 [(0, .ref 0), (1, .int t1), (2, .int t2), (3, .int t3)] [] _ _ _ _
            refine mp_a (a_aload_n dX6_add_71 rfl) (mpp 72 rfl ?_)
            refine mt_getU (i := 10) (k := 0) (A := 1) hT108 dX6_add_72 rfl rl_0 (by decide) rfl (by decide) rfl un_31 (mpp 75 rfl ?_)
            refine mp_a (a_aload_n dX6_add_75 rfl) (mpp 76 rfl ?_)
            refine mt_getE (i := 53) (k := 7) hT108 dX6_add_76 rfl rl_0 (by decide) rfl (by decide) rfl (KW.xr k111 hX).2.2.2.2.2 (fun q113 => mpp 79 rfl ?_)
            have e114 : (fv P104 1 1).toInt = (fv P88 1 1).toInt := congrArg Int32.toInt (KW.at k109 1 rl_1 rfl)
            have p115 : (fv P104 1 1).toInt ≤ 7 := by omega
            refine mt_callv (i := 90) (q' := q_27) (As := [.ref 298]) (rest := []) hT108 dX6_add_79 rfl qm_27 (by decide) rfl rl_1 (by decide) rfl (Nat.le_of_ble_eq_true rfl) rfl ⟨rfl, rfl⟩ ⟨Nat.le_of_ble_eq_true rfl, Nat.le_of_ble_eq_true rfl⟩ (EvP.mono (by decide) (c_CS_addCopyOf_NState_Piece hT108 (KW.xr k111 hX) J112 p115 q113)) (fun r116 P117 g118 => mpp 82 rfl ?_)
            obtain ⟨⟨rfl, g120⟩, hT121, k122, J125, R123⟩ := g118
            have k124 : KW [10, 11, 12, 65, 66, 67, 192, 193, 194, 256, 320, 385, 386, 1985, 2112, 2113, 2114] Po P117 := KW.trans k111 k122 rfl
            show MEvP _ none q_20 82 [(0, .ref 0), (1, .int t1), (2, .int t2), (3, .int t3)] [] _ _ _ _
            refine mp_a (a_aload_n dX6_add_82 rfl) (mpp 83 rfl ?_)
            refine mt_getU (i := 10) (k := 0) (A := 1) hT121 dX6_add_83 rfl rl_0 (by decide) rfl (by decide) rfl un_31 (mpp 86 rfl ?_)
            have g126 : (0 : Int) ≤ (fv P117 1 1).toInt ∧ (fv P117 1 1).toInt ≤ 8 := Typ.rng hT121 rl_1 (by decide) (by decide) rfl
            refine mt_getI (i := 87) (k := 1) hT121 dX6_add_86 rfl rl_1 (by decide) rfl (by decide) rfl (fun g127 g128 => mpp 89 rfl ?_)
            refine mp_a (a_iconst (v := 1) dX6_add_89 rfl) (mpp 90 rfl ?_)
            obtain ⟨z129, h130⟩ := ti_ex ((fv P117 1 1) - 1 : Int32)
            have wz129 := ti_full z129
            refine mp_t (s_isub (v := z129) dX6_add_90 h130) (mpp 91 rfl ?_)
            try have e131 : z129.toInt = (fv P117 1 1).toInt - 1 := ti_subz h130 rfl rfl (by omega) (by omega)
            exact mp_iret ⟨⟨_, rfl, trivial⟩, hT121, k124, J125, trivial⟩ dX6_add_91 (Or.inl rfl)
          · have c102 : (fv P88 1 1).toInt ≥ 8 := ti_lt_n c102
            refine mp_a (a_aload_n dX6_add_52 rfl) (mpp 53 rfl ?_)
            refine mp_a (a_iconst (v := 1) dX6_add_53 rfl) (mpp 54 rfl ?_)
            refine mp_a (a_bipush (v := 8) dX6_add_54 rfl) (mpp 56 rfl ?_)
            refine mt_callv (i := 68) (q' := q_14) (As := [.int 1, .int 8]) (rest := []) hT92 dX6_add_56 rfl qm_14 (by decide) rfl rl_0 (by decide) rfl (Nat.le_of_ble_eq_true rfl) rfl ⟨rfl, rfl⟩ ⟨Nat.le_of_ble_eq_true rfl, Nat.le_of_ble_eq_true rfl⟩ (EvP.mono (by decide) (c_F_refuse hT92 (KW.xr k95 hX) )) (fun r132 P133 g134 => mpp 59 rfl ?_)
            obtain ⟨⟨x135, rfl, g136⟩, hT137, k138, R139⟩ := g134
            have k140 : KW [10, 11, 12, 65, 66, 67, 192, 193, 194, 256, 320, 385, 386, 1985, 2112, 2113, 2114] Po P133 := KW.trans k95 k138 rfl
            have J142 := Inj.kw J97 k138 rfl
            have wx135 := ti_full x135
            show MEvP _ none q_20 59 [(0, .ref 0), (1, .int t1), (2, .int t2), (3, .int t3)] [.int x135] _ _ _ _
            exact mp_iret ⟨⟨_, rfl, trivial⟩, hT137, k140, J142, trivial⟩ dX6_add_59 (Or.inl rfl)
        · have c98 : x90.toInt = 0 := ti_ne_n c98
          refine mp_a (a_sipush (v := -1002) dX6_add_36 rfl) (mpp 39 rfl ?_)
          exact mp_iret ⟨⟨_, rfl, trivial⟩, hT92, k95, J97, trivial⟩ dX6_add_39 (Or.inl rfl)
    · have c72 : t1.toInt ≠ 1 := ti_eq_n c72
      refine mp_a (a_sipush (v := -1002) dX6_add_9 rfl) (mpp 12 rfl ?_)
      exact mp_iret ⟨⟨_, rfl, trivial⟩, hT, KW.refl, hJ, trivial⟩ dX6_add_12 (Or.inl rfl)

