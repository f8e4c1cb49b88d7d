/-! methods on typed pools, 4 (written by a program) -/
set_option maxHeartbeats 4000000 in
theorem c_F_rotate {Po : mP} {t1 : Int32} {t2 : Int32} (hT : Typ Po) (hX : XR Po)  (hJ : Inj Po)  : EvP 5 33 [.ref 0, .int t1, .int t2] Po (fun r P' => (∃ x : Int32, r = some (.int x) ∧ (True)) ∧ Typ P' ∧ KW [10, 11, 12, 65, 66, 67, 192, 193, 194, 256, 320, 385, 386] Po P' ∧ Inj P' ∧ True) := by
  refine EvP.of qm_33 (Nat.le_of_ble_eq_true rfl) rfl ?_
  show MEvP _ none q_33 0 [(0, .ref 0), (1, .int t1), (2, .int t2)] [] _ 0 0 _
  refine mp_a (a_aload_n dX6_rotate_0 rfl) (mpp 1 rfl ?_)
  refine mt_getU (i := 10) (k := 0) (A := 1) hT dX6_rotate_1 rfl rl_0 (by decide) rfl (by decide) rfl un_31 (mpp 4 rfl ?_)
  refine mp_a (a_iload_n dX6_rotate_4 rfl) (mpp 5 rfl ?_)
  refine mt_callv (i := 94) (q' := q_9) (As := [.int t1]) (rest := []) hT dX6_rotate_5 rfl qm_9 (by decide) rfl rl_1 (by decide) rfl (Nat.le_of_ble_eq_true rfl) rfl ⟨rfl, rfl⟩ ⟨Nat.le_of_ble_eq_true rfl, Nat.le_of_ble_eq_true rfl⟩ (EvP.mono (by decide) (c_CS_pieceAt_NState hT hX )) (fun r1 P2 g3 => mpp 8 rfl ?_)
  obtain ⟨g3, e4⟩ := g3
  have e4 := e4.symm
  subst e4
  rcases g3 with ⟨rfl, q6n⟩ | ⟨b5, rfl, q6, q6r⟩
  · show MEvP _ none q_33 8 [(0, .ref 0), (1, .int t1), (2, .int t2)] [.null] _ _ _ _
    have q6n : t1.toInt < 0 ∨ (fv Po 1 1).toInt ≤ t1.toInt ∨ 8 ≤ t1.toInt := q6n
    have g7 : (0 : Int) ≤ (fv Po 1 1).toInt ∧ (fv Po 1 1).toInt ≤ 8 := Typ.rng hT rl_1 (by decide) (by decide) rfl
    refine mp_a (a_astore_nN (L' := [(3, .null), (0, .ref 0), (1, .int t1), (2, .int t2)]) dX6_rotate_8 (by decide) rfl) (mpp 9 rfl ?_)
    refine mp_a (a_aload_nN dX6_rotate_9 rfl) (mpp 10 rfl ?_)
    refine mp_t (s_ifnullN (t := 21) dX6_rotate_10 (by decide)) ?_
    refine mp_a (a_sipush (v := -1001) dX6_rotate_21 rfl) (mpp 24 rfl ?_)
    exact mp_iret ⟨⟨_, rfl, trivial⟩, hT, KW.refl, hJ, trivial⟩ dX6_rotate_24 (Or.inl rfl)
  · show MEvP _ none q_33 8 [(0, .ref 0), (1, .int t1), (2, .int t2)] [.ref b5] _ _ _ _
    have q6r : 0 ≤ t1.toInt ∧ t1.toInt ≤ 7 ∧ t1.toInt + 1 ≤ (fv Po 1 1).toInt ∧ rv Po 2 t1.toInt.toNat = b5 := q6r
    have g8 : (0 : Int) ≤ (fv Po 1 1).toInt ∧ (fv Po 1 1).toInt ≤ 8 := Typ.rng hT rl_1 (by decide) (by decide) rfl
    have w9 := np_ar q6
    refine mp_a (a_astore_n (L' := [(3, .ref b5), (0, .ref 0), (1, .int t1), (2, .int t2)]) dX6_rotate_8 (by decide) rfl) (mpp 9 rfl ?_)
    refine mp_a (a_aload_n dX6_rotate_9 rfl) (mpp 10 rfl ?_)
    refine mp_t (s_ifnullR dX6_rotate_10) (mpp 13 rfl ?_)
    refine mp_a (a_aload_n dX6_rotate_13 rfl) (mpp 14 rfl ?_)
    refine mp_a (a_iload_n dX6_rotate_14 rfl) (mpp 15 rfl ?_)
    refine mt_callv (i := 98) (q' := q_29) (As := [.int t2]) (rest := []) hT dX6_rotate_15 rfl qm_29 (by decide) rfl q6 (by decide) rfl (Nat.le_of_ble_eq_true rfl) rfl ⟨rfl, rfl⟩ ⟨Nat.le_of_ble_eq_true rfl, Nat.le_of_ble_eq_true rfl⟩ (EvP.mono (by decide) (c_CP_hasCrease_NPiece hT hX q6)) (fun r10 P11 g12 => mpp 18 rfl ?_)
    obtain ⟨⟨x13, rfl, g14⟩, e15⟩ := g12
    have e15 := e15.symm
    subst e15
    have wx13 := ti_full x13
    have g14 : 0 ≤ x13.toInt ∧ x13.toInt ≤ 1 ∧ ((x13.toInt = 0 ∧ (t2.toInt < 0 ∨ ((fv Po b5 0).toInt = 0 ∧ (fv Po b5 1).toInt - 1 ≤ t2.toInt) ∨ ((fv Po b5 0).toInt ≠ 0 ∧ (fv Po b5 1).toInt ≤ t2.toInt))) ∨ (x13.toInt = 1 ∧ 0 ≤ t2.toInt ∧ t2.toInt + 1 ≤ (fv Po b5 1).toInt ∧ (((fv Po b5 0).toInt = 0 ∧ t2.toInt < (fv Po b5 1).toInt - 1) ∨ ((fv Po b5 0).toInt ≠ 0 ∧ t2.toInt < (fv Po b5 1).toInt)))) := g14
    have g16 := ti_full (fv Po b5 0)
    have g17 : (0 : Int) ≤ (fv Po b5 1).toInt ∧ (fv Po b5 1).toInt ≤ 8 := Typ.rng hT q6 (by decide) (by decide) rfl
    show MEvP _ none q_33 18 [(3, .ref b5), (0, .ref 0), (1, .int t1), (2, .int t2)] [.int x13] _ _ _ _
    refine mp_Tb (t := 25) (j_if_ne dX6_rotate_18) (by decide) (fun c18 => ?_) (fun c18 => mpp 21 rfl ?_)
    · have c18 : x13.toInt ≠ 0 := ti_ne c18
      refine mp_a (a_aload_n dX6_rotate_25 rfl) (mpp 26 rfl ?_)
      have g19 : (0 : Int) ≤ (fv Po b5 2).toInt ∧ (fv Po b5 2).toInt ≤ 1 := Typ.rng hT q6 (by decide) (by decide) rfl
      refine mt_getI (i := 104) (k := 2) hT dX6_rotate_26 rfl q6 (by decide) rfl (by decide) rfl (fun g20 g21 => mpp 29 rfl ?_)
      refine mp_Tb (t := 39) (j_if_eq dX6_rotate_29) (by decide) (fun c22 => ?_) (fun c22 => mpp 32 rfl ?_)
      · have c22 : (fv Po b5 2).toInt = 0 := ti_eq c22
        refine mp_a (a_aload_n dX6_rotate_39 rfl) (mpp 40 rfl ?_)
        refine mt_getI (i := 130) (k := 0) hT dX6_rotate_40 rfl q6 (by decide) rfl (by decide) rfl (fun g23 g24 => mpp 43 rfl ?_)
        refine mp_a (a_iconst (v := 1) dX6_rotate_43 rfl) (mpp 44 rfl ?_)
        refine mp_Tb (t := 54) (j_icmp_eq dX6_rotate_44) (by decide) (fun c25 => ?_) (fun c25 => mpp 47 rfl ?_)
        · have c25 : (fv Po b5 0).toInt = 1 := ti_eq c25
          refine mp_a (a_aload_n dX6_rotate_54 rfl) (mpp 55 rfl ?_)
          refine mt_getU (i := 25) (k := 3) (A := 79) hT dX6_rotate_55 rfl rl_0 (by decide) rfl (by decide) rfl un_6 (mpp 58 rfl ?_)
          refine mp_a (a_aload_n dX6_rotate_58 rfl) (mpp 59 rfl ?_)
          refine mt_getU (i := 10) (k := 0) (A := 1) hT dX6_rotate_59 rfl rl_0 (by decide) rfl (by decide) rfl un_31 (mpp 62 rfl ?_)
          refine mt_callv (i := 72) (q' := q_15) (As := [.ref 1]) (rest := []) hT dX6_rotate_62 rfl qm_15 (by decide) rfl rl_79 (by decide) rfl (Nat.le_of_ble_eq_true rfl) rfl ⟨rfl, rfl⟩ ⟨Nat.le_of_ble_eq_true rfl, Nat.le_of_ble_eq_true rfl⟩ (EvP.mono (by decide) (c_CH_push_History_NState hT hX hJ )) (fun r26 P27 g28 => mpp 65 rfl ?_)
          obtain ⟨⟨rfl, g30⟩, hT31, k32, J35, R33⟩ := g28
          have k34 : KW [10, 11, 12, 65, 66, 67, 192, 193, 194, 256, 320, 385, 386] Po P27 := KW.trans KW.refl k32 rfl
          show MEvP _ none q_33 65 [(3, .ref b5), (0, .ref 0), (1, .int t1), (2, .int t2)] [] _ _ _ _
          refine mp_a (a_aload_n dX6_rotate_65 rfl) (mpp 66 rfl ?_)
          refine mt_getE (i := 53) (k := 7) hT31 dX6_rotate_66 rfl rl_0 (by decide) rfl (by decide) rfl (KW.xr k34 hX).2.2.2.2.2 (fun q36 => mpp 69 rfl ?_)
          refine mp_a (a_aload_n dX6_rotate_69 rfl) (mpp 70 rfl ?_)
          have p37 : 298 + 3 ≤ b5 ∨ b5 + 3 ≤ 298 := by omega
          refine mt_callv (i := 133) (q' := q_18) (As := [.ref b5]) (rest := []) hT31 dX6_rotate_70 rfl qm_18 (by decide) rfl q36 (by decide) rfl (Nat.le_of_ble_eq_true rfl) rfl ⟨rfl, rfl⟩ ⟨Nat.le_of_ble_eq_true rfl, Nat.le_of_ble_eq_true rfl⟩ (EvP.mono (by decide) (c_CP_copyFrom_Piece_NPiece hT31 (KW.xr k34 hX) p37 q36 q6)) (fun r38 P39 g40 => mpp 73 rfl ?_)
          obtain ⟨⟨rfl, g42⟩, hT43, k44, R45⟩ := g40
          have k46 : KW [10, 11, 12, 65, 66, 67, 192, 193, 194, 256, 320, 385, 386] Po P39 := KW.trans k34 k44 rfl
          have J48 := Inj.kw J35 k44 rfl
          show MEvP _ none q_33 73 [(3, .ref b5), (0, .ref 0), (1, .int t1), (2, .int t2)] [] _ _ _ _
          refine mp_a (a_aload_n dX6_rotate_73 rfl) (mpp 74 rfl ?_)
          refine mp_a (a_aload_n dX6_rotate_74 rfl) (mpp 75 rfl ?_)
          refine mt_getE (i := 53) (k := 7) hT43 dX6_rotate_75 rfl rl_0 (by decide) rfl (by decide) rfl (KW.xr k46 hX).2.2.2.2.2 (fun q49 => mpp 78 rfl ?_)
          refine mp_a (a_iload_n dX6_rotate_78 rfl) (mpp 79 rfl ?_)
          refine mt_callv (i := 136) (q' := q_34) (As := [.ref 298, .int t2]) (rest := []) hT43 dX6_rotate_79 rfl qm_34 (by decide) rfl q6 (by decide) rfl (Nat.le_of_ble_eq_true rfl) rfl ⟨rfl, rfl⟩ ⟨Nat.le_of_ble_eq_true rfl, Nat.le_of_ble_eq_true rfl⟩ (EvP.mono (by decide) (c_CP_becomeRotated_NPiece_Piece hT43 (KW.xr k46 hX) q6 q49)) (fun r50 P51 g52 => mpp 82 rfl ?_)
          obtain ⟨⟨rfl, g54⟩, hT55, k56, R57⟩ := g52
          have k58 : KW [10, 11, 12, 65, 66, 67, 192, 193, 194, 256, 320, 385, 386] Po P51 := KW.trans k46 k56 rfl
          have J60 := Inj.kw J48 k56 rfl
          show MEvP _ none q_33 82 [(3, .ref b5), (0, .ref 0), (1, .int t1), (2, .int t2)] [] _ _ _ _
          refine mp_a (a_aload_n dX6_rotate_82 rfl) (mpp 83 rfl ?_)
          refine mt_callv (i := 140) (q' := q_35) (As := []) (rest := []) hT55 dX6_rotate_83 rfl qm_35 (by decide) rfl q6 (by decide) rfl (Nat.le_of_ble_eq_true rfl) rfl ⟨rfl, rfl⟩ ⟨Nat.le_of_ble_eq_true rfl, Nat.le_of_ble_eq_true rfl⟩ (EvP.mono (by decide) (c_CP_sizesAsNumber_NPiece hT55 (KW.xr k58 hX) q6)) (fun r61 P62 g63 => mpp 86 rfl ?_)
          obtain ⟨⟨x64, rfl, g65⟩, e66⟩ := g63
          have e66 := e66.symm
          subst e66
          have wx64 := ti_full x64
          show MEvP _ none q_33 86 [(3, .ref b5), (0, .ref 0), (1, .int t1), (2, .int t2)] [.int x64] _ _ _ _
          exact mp_iret ⟨⟨_, rfl, trivial⟩, hT55, k58, J60, trivial⟩ dX6_rotate_86 (Or.inl rfl)
        · have c25 : (fv Po b5 0).toInt ≠ 1 := ti_eq_n c25
          refine mp_a (a_aload_n dX6_rotate_47 rfl) (mpp 48 rfl ?_)
          refine mp_a (a_iconst (v := 3) dX6_rotate_48 rfl) (mpp 49 rfl ?_)
          refine mp_a (a_iload_n dX6_rotate_49 rfl) (mpp 50 rfl ?_)
          refine mt_callv (i := 68) (q' := q_14) (As := [.int 3, .int t1]) (rest := []) hT dX6_rotate_50 rfl qm_14 (by decide) rfl rl_0 (by decide) rfl (Nat.le_of_ble_eq_true rfl) rfl ⟨rfl, rfl⟩ ⟨Nat.le_of_ble_eq_true rfl, Nat.le_of_ble_eq_true rfl⟩ (EvP.mono (by decide) (c_F_refuse hT hX )) (fun r67 P68 g69 => mpp 53 rfl ?_)
          obtain ⟨⟨x70, rfl, g71⟩, hT72, k73, R74⟩ := g69
          have k75 : KW [10, 11, 12, 65, 66, 67, 192, 193, 194, 256, 320, 385, 386] Po P68 := KW.trans KW.refl k73 rfl
          have J77 := Inj.kw hJ k73 rfl
          have wx70 := ti_full x70
          show MEvP _ none q_33 53 [(3, .ref b5), (0, .ref 0), (1, .int t1), (2, .int t2)] [.int x70] _ _ _ _
          exact mp_iret ⟨⟨_, rfl, trivial⟩, hT72, k75, J77, trivial⟩ dX6_rotate_53 (Or.inl rfl)
      · have c22 : (fv Po b5 2).toInt ≠ 0 := ti_eq_n c22
        refine mp_a (a_aload_n dX6_rotate_32 rfl) (mpp 33 rfl ?_)
        refine mp_a (a_iconst (v := 2) dX6_rotate_33 rfl) (mpp 34 rfl ?_)
        refine mp_a (a_iload_n dX6_rotate_34 rfl) (mpp 35 rfl ?_)
        refine mt_callv (i := 68) (q' := q_14) (As := [.int 2, .int t1]) (rest := []) hT dX6_rotate_35 rfl qm_14 (by decide) rfl rl_0 (by decide) rfl (Nat.le_of_ble_eq_true rfl) rfl ⟨rfl, rfl⟩ ⟨Nat.le_of_ble_eq_true rfl, Nat.le_of_ble_eq_true rfl⟩ (EvP.mono (by decide) (c_F_refuse hT hX )) (fun r78 P79 g80 => mpp 38 rfl ?_)
        obtain ⟨⟨x81, rfl, g82⟩, hT83, k84, R85⟩ := g80
        have k86 : KW [10, 11, 12, 65, 66, 67, 192, 193, 194, 256, 320, 385, 386] Po P79 := KW.trans KW.refl k84 rfl
        have J88 := Inj.kw hJ k84 rfl
        have wx81 := ti_full x81
        show MEvP _ none q_33 38 [(3, .ref b5), (0, .ref 0), (1, .int t1), (2, .int t2)] [.int x81] _ _ _ _
        exact mp_iret ⟨⟨_, rfl, trivial⟩, hT83, k86, J88, trivial⟩ dX6_rotate_38 (Or.inl rfl)
    · have c18 : x13.toInt = 0 := ti_ne_n c18
      refine mp_a (a_sipush (v := -1001) dX6_rotate_21 rfl) (mpp 24 rfl ?_)
      exact mp_iret ⟨⟨_, rfl, trivial⟩, hT, KW.refl, hJ, trivial⟩ dX6_rotate_24 (Or.inl rfl)

set_option maxHeartbeats 4000000 in
theorem c_CP_lengthenBy_NPiece_NPiece_l16 {Po : mP} {a0_ : Nat} {a1_ : Nat} {t2 : Int32} (hTo : Typ Po) (hX : XR Po) (hp0 : (fv Po a0_ 1).toInt + (fv Po a1_ 1).toInt ≤ 8) (ha0 : rl a0_ = 33) (ha1 : rl a1_ = 33) : ∀ (n : Nat) (v3 : Int32), ∀ (P : mP), Typ P → KW [256, 320, 2113] Po P → ((fv P a0_ 1).toInt = (fv Po a0_ 1).toInt) → ((fv P a1_ 1).toInt = (fv Po a1_ 1).toInt) → (0 ≤ v3.toInt) → (2147483647 - v3.toInt).toNat = n → MEvP 1 none q_37 16 [(0, .ref a0_), (1, .ref a1_), (2, .int t2), (3, .int v3)] [] P 0 0 (fun r P' => (r = none ∧ (True)) ∧ Typ P' ∧ KW [256, 320, 2113] Po P' ∧ True) := by
  intro n
  induction n using Nat.strongRecOn with | _ n ih => ?_
  intro v3 P hT hK i_0 i_1 i_2 hm
  have w1 := np_ar ha0
  have w2 := np_ar ha1
  have w_t2 := ti_full t2
  have w_v3 := ti_full v3
  have g3 : (0 : Int) ≤ (fv P a0_ 1).toInt ∧ (fv P a0_ 1).toInt ≤ 8 := Typ.rng hT ha0 (by decide) (by decide) rfl
  have g4 : (0 : Int) ≤ (fv P a0_ 1).toInt ∧ (fv P a0_ 1).toInt ≤ 8 := Typ.rng hT ha0 (by decide) (by decide) rfl
  have g5 : (0 : Int) ≤ (fv P a1_ 1).toInt ∧ (fv P a1_ 1).toInt ≤ 8 := Typ.rng hT ha1 (by decide) (by decide) rfl
  have g6 : (0 : Int) ≤ (fv P a1_ 1).toInt ∧ (fv P a1_ 1).toInt ≤ 8 := Typ.rng hT ha1 (by decide) (by decide) rfl
  refine mp_a (a_iload_n dX2_lengthenBy_16 rfl) (mpp 17 rfl ?_)
  refine mp_a (a_aload_n dX2_lengthenBy_17 rfl) (mpp 18 rfl ?_)
  refine mt_getI (i := 26) (k := 1) hT dX2_lengthenBy_18 rfl ha1 (by decide) rfl (by decide) rfl (fun g7 g8 => mpp 21 rfl ?_)
  refine mp_Tb (t := 72) (j_icmp_ge dX2_lengthenBy_21) (by decide) (fun c9 => ?_) (fun c9 => mpp 24 rfl ?_)
  · have c9 : v3.toInt ≥ (fv P a1_ 1).toInt := ti_ge c9
    refine mp_a (a_aload_n dX2_lengthenBy_72 rfl) (mpp 73 rfl ?_)
    refine mp_t (s_dup dX2_lengthenBy_73 rfl) (mpp 74 rfl ?_)
    refine mt_getI (i := 26) (k := 1) hT dX2_lengthenBy_74 rfl ha0 (by decide) rfl (by decide) rfl (fun g10 g11 => mpp 77 rfl ?_)
    refine mp_a (a_aload_n dX2_lengthenBy_77 rfl) (mpp 78 rfl ?_)
    refine mt_getI (i := 26) (k := 1) hT dX2_lengthenBy_78 rfl ha1 (by decide) rfl (by decide) rfl (fun g12 g13 => mpp 81 rfl ?_)
    obtain ⟨z14, h15⟩ := ti_ex ((fv P a0_ 1) + (fv P a1_ 1) : Int32)
    have wz14 := ti_full z14
    refine mp_t (s_iadd (v := z14) dX2_lengthenBy_81 h15) (mpp 82 rfl ?_)
    try have e16 : z14.toInt = (fv P a0_ 1).toInt + (fv P a1_ 1).toInt := ti_addz h15 rfl rfl (by omega) (by omega)
    refine mt_putI (i := 26) (k := 1) (x := z14) hT dX2_lengthenBy_82 rfl ha0 (by decide) rfl (by decide) rfl ⟨by omega, by omega⟩ rfl rfl (fun P17 hT18 f19 f20 f21 => mpp 85 rfl ?_)
    have k22 : KW [256, 320, 2113] Po P17 := KW.step hK ha0 rfl f20 f21
    have e23 : (fv P17 a0_ 1).toInt = z14.toInt := congrArg Int32.toInt f19
    exact mp_ret ⟨⟨rfl, trivial⟩, hT18, k22, trivial⟩ dX2_lengthenBy_85 rfl
  · have c9 : v3.toInt < (fv P a1_ 1).toInt := ti_ge_n c9
    refine mp_a (a_aload_n dX2_lengthenBy_24 rfl) (mpp 25 rfl ?_)
    refine mt_getE (i := 9) (k := 3) hT dX2_lengthenBy_25 rfl ha0 (by decide) rfl (by decide) rfl ((KW.xr hK hX).1 a0_ (Or.inr ha0)).1 (fun q24 => mpp 28 rfl ?_)
    refine mp_a (a_aload_n dX2_lengthenBy_28 rfl) (mpp 29 rfl ?_)
    refine mt_getI (i := 26) (k := 1) hT dX2_lengthenBy_29 rfl ha0 (by decide) rfl (by decide) rfl (fun g25 g26 => mpp 32 rfl ?_)
    refine mp_a (a_iload_n dX2_lengthenBy_32 rfl) (mpp 33 rfl ?_)
    obtain ⟨z27, h28⟩ := ti_ex ((fv P a0_ 1) + v3 : Int32)
    have wz27 := ti_full z27
    refine mp_t (s_iadd (v := z27) dX2_lengthenBy_33 h28) (mpp 34 rfl ?_)
    try have e29 : z27.toInt = (fv P a0_ 1).toInt + v3.toInt := ti_addz h28 rfl rfl (by omega) (by omega)
    refine mp_a (a_aload_n dX2_lengthenBy_34 rfl) (mpp 35 rfl ?_)
    refine mt_getE (i := 9) (k := 3) hT dX2_lengthenBy_35 rfl ha1 (by decide) rfl (by decide) rfl ((KW.xr hK hX).1 a1_ (Or.inr ha1)).1 (fun q30 => mpp 38 rfl ?_)
    refine mp_a (a_iload_n dX2_lengthenBy_38 rfl) (mpp 39 rfl ?_)
    refine mp_calls (i := 48) (q' := q_12) (As := [.ref (a1_ + 1), .int v3]) (rest := [.int z27, .ref (a0_ + 1)]) dX2_lengthenBy_39 rfl qm_12 (by decide) rfl (Nat.le_of_ble_eq_true rfl) rfl ⟨rfl, rfl⟩ ⟨Nat.le_of_ble_eq_true rfl, Nat.le_of_ble_eq_true rfl⟩ (EvP.mono (by decide) (c_F_at_sizes hT (KW.xr hK hX) q30)) (fun r31 P32 g33 => mpp 42 rfl ?_)
    obtain ⟨⟨x34, rfl, g35⟩, e36⟩ := g33
    have e36 := e36.symm
    subst e36
    have wx34 := ti_full x34
    show MEvP _ none q_37 42 [(0, .ref a0_), (1, .ref a1_), (2, .int t2), (3, .int v3)] [.int x34, .int z27, .ref (a0_ + 1)] _ _ _ _
    refine mp_calls (i := 29) (q' := q_22) (As := [.ref (a0_ + 1), .int z27, .int x34]) (rest := []) dX2_lengthenBy_42 rfl qm_22 (by decide) rfl (Nat.le_of_ble_eq_true rfl) rfl ⟨rfl, rfl⟩ ⟨Nat.le_of_ble_eq_true rfl, Nat.le_of_ble_eq_true rfl⟩ (EvP.mono (by decide) (c_F_put_sizes hT (KW.xr hK hX) q24)) (fun r37 P38 g39 => mpp 45 rfl ?_)
    obtain ⟨⟨rfl, g41⟩, hT42, k43, R44⟩ := g39
    have k45 : KW [256, 320, 2113] Po P38 := KW.trans hK k43 rfl
    show MEvP _ none q_37 45 [(0, .ref a0_), (1, .ref a1_), (2, .int t2), (3, .int v3)] [] _ _ _ _
    refine mp_a (a_aload_n dX2_lengthenBy_45 rfl) (mpp 46 rfl ?_)
    refine mt_getE (i := 15) (k := 4) hT42 dX2_lengthenBy_46 rfl ha0 (by decide) rfl (by decide) rfl ((KW.xr k45 hX).1 a0_ (Or.inr ha0)).2 (fun q47 => mpp 49 rfl ?_)
    refine mp_a (a_aload_n dX2_lengthenBy_49 rfl) (mpp 50 rfl ?_)
    have e48 : (fv P38 a0_ 1).toInt = (fv P a0_ 1).toInt := congrArg Int32.toInt (KW.at k43 1 ha0 rfl)
    refine mt_getI (i := 26) (k := 1) hT42 dX2_lengthenBy_50 rfl ha0 (by decide) rfl (by decide) rfl (fun g49 g50 => mpp 53 rfl ?_)
    refine mp_a (a_iload_n dX2_lengthenBy_53 rfl) (mpp 54 rfl ?_)
    obtain ⟨z51, h52⟩ := ti_ex ((fv P38 a0_ 1) + v3 : Int32)
    have wz51 := ti_full z51
    refine mp_t (s_iadd (v := z51) dX2_lengthenBy_54 h52) (mpp 55 rfl ?_)
    try have e53 : z51.toInt = (fv P38 a0_ 1).toInt + v3.toInt := ti_addz h52 rfl rfl (by omega) (by omega)
    refine mp_a (a_aload_n dX2_lengthenBy_55 rfl) (mpp 56 rfl ?_)
    refine mt_getE (i := 15) (k := 4) hT42 dX2_lengthenBy_56 rfl ha1 (by decide) rfl (by decide) rfl ((KW.xr k45 hX).1 a1_ (Or.inr ha1)).2 (fun q54 => mpp 59 rfl ?_)
    refine mp_a (a_iload_n dX2_lengthenBy_59 rfl) (mpp 60 rfl ?_)
    refine mp_calls (i := 48) (q' := q_12) (As := [.ref (a1_ + 2), .int v3]) (rest := [.int z51, .ref (a0_ + 2)]) dX2_lengthenBy_60 rfl qm_12 (by decide) rfl (Nat.le_of_ble_eq_true rfl) rfl ⟨rfl, rfl⟩ ⟨Nat.le_of_ble_eq_true rfl, Nat.le_of_ble_eq_true rfl⟩ (EvP.mono (by decide) (c_F_at_creases hT42 (KW.xr k45 hX) q54)) (fun r55 P56 g57 => mpp 63 rfl ?_)
    obtain ⟨⟨x58, rfl, g59⟩, e60⟩ := g57
    have e60 := e60.symm
    subst e60
    have wx58 := ti_full x58
    show MEvP _ none q_37 63 [(0, .ref a0_), (1, .ref a1_), (2, .int t2), (3, .int v3)] [.int x58, .int z51, .ref (a0_ + 2)] _ _ _ _
    refine mp_calls (i := 29) (q' := q_22) (As := [.ref (a0_ + 2), .int z51, .int x58]) (rest := []) dX2_lengthenBy_63 rfl qm_22 (by decide) rfl (Nat.le_of_ble_eq_true rfl) rfl ⟨rfl, rfl⟩ ⟨Nat.le_of_ble_eq_true rfl, Nat.le_of_ble_eq_true rfl⟩ (EvP.mono (by decide) (c_F_put_creases hT42 (KW.xr k45 hX) q47)) (fun r61 P62 g63 => mpp 66 rfl ?_)
    obtain ⟨⟨rfl, g65⟩, hT66, k67, R68⟩ := g63
    have k69 : KW [256, 320, 2113] Po P62 := KW.trans k45 k67 rfl
    show MEvP _ none q_37 66 [(0, .ref a0_), (1, .ref a1_), (2, .int t2), (3, .int v3)] [] _ _ _ _
    obtain ⟨z71, h72⟩ := ti_ex (v3 + 1 : Int32)
    have wz71 := ti_full z71
    refine mp_a (a_iinc (v := z71) (L' := [(3, .int z71), (0, .ref a0_), (1, .ref a1_), (2, .int t2)]) dX2_lengthenBy_66 (by decide) rfl h72 rfl) (mpp 69 rfl ?_)
    try have e73 : z71.toInt = v3.toInt + 1 := ti_addz h72 rfl rfl (by omega) (by omega)
    refine mp_a (a_goto (t := 16) dX2_lengthenBy_69 (by decide)) ?_
    refine MEvP.less (L := [(0, .ref a0_), (1, .ref a1_), (2, .int t2), (3, .int z71)]) rfl rfl ⟨rfl, rfl, rfl, rfl, trivial⟩ ?_
    have e74 : (fv P62 a0_ 1).toInt = (fv P38 a0_ 1).toInt := congrArg Int32.toInt (KW.at k67 1 ha0 rfl)
    have i75 : (fv P62 a0_ 1).toInt = (fv Po a0_ 1).toInt := by omega
    have e76 : (fv P62 a1_ 1).toInt = (fv P a1_ 1).toInt := congrArg Int32.toInt ((KW.at k67 1 ha1 rfl).trans (KW.at k43 1 ha1 rfl))
    have i77 : (fv P62 a1_ 1).toInt = (fv Po a1_ 1).toInt := by omega
    have i78 : 0 ≤ z71.toInt := by omega
    exact ih _ (by omega) _ P62 hT66 k69 i75 i77 i78 rfl

set_option maxHeartbeats 4000000 in
theorem c_CP_lengthenBy_NPiece_NPiece {Po : mP} {a0_ : Nat} {a1_ : Nat} {t2 : Int32} (hT : Typ Po) (hX : XR Po)  (hp0 : (fv Po a0_ 1).toInt + (fv Po a1_ 1).toInt ≤ 8) (ha0 : rl a0_ = 33) (ha1 : rl a1_ = 33) : EvP 2 37 [.ref a0_, .ref a1_, .int t2] Po (fun r P' => (r = none ∧ (True)) ∧ Typ P' ∧ KW [256, 320, 2113] Po P' ∧ True) := by
  refine EvP.of qm_37 (Nat.le_of_ble_eq_true rfl) rfl ?_
  show MEvP _ none q_37 0 [(0, .ref a0_), (1, .ref a1_), (2, .int t2)] [] _ 0 0 _
  have w1 := np_ar ha0
  have w2 := np_ar ha1
  have g3 : (0 : Int) ≤ (fv Po a0_ 1).toInt ∧ (fv Po a0_ 1).toInt ≤ 8 := Typ.rng hT ha0 (by decide) (by decide) rfl
  have g4 : (0 : Int) ≤ (fv Po a1_ 1).toInt ∧ (fv Po a1_ 1).toInt ≤ 8 := Typ.rng hT ha1 (by decide) (by decide) rfl
  refine mp_a (a_aload_n dX2_lengthenBy_0 rfl) (mpp 1 rfl ?_)
  refine mt_getE (i := 15) (k := 4) hT dX2_lengthenBy_1 rfl ha0 (by decide) rfl (by decide) rfl (hX.1 a0_ (Or.inr ha0)).2 (fun q5 => mpp 4 rfl ?_)
  refine mp_a (a_aload_n dX2_lengthenBy_4 rfl) (mpp 5 rfl ?_)
  refine mt_getI (i := 26) (k := 1) hT dX2_lengthenBy_5 rfl ha0 (by decide) rfl (by decide) rfl (fun g6 g7 => mpp 8 rfl ?_)
  refine mp_a (a_iconst (v := 1) dX2_lengthenBy_8 rfl) (mpp 9 rfl ?_)
  obtain ⟨z8, h9⟩ := ti_ex ((fv Po a0_ 1) - 1 : Int32)
  have wz8 := ti_full z8
  refine mp_t (s_isub (v := z8) dX2_lengthenBy_9 h9) (mpp 10 rfl ?_)
  try have e10 : z8.toInt = (fv Po a0_ 1).toInt - 1 := ti_subz h9 rfl rfl (by omega) (by omega)
  refine mp_a (a_iload_n dX2_lengthenBy_10 rfl) (mpp 11 rfl ?_)
  refine mp_calls (i := 29) (q' := q_22) (As := [.ref (a0_ + 2), .int z8, .int t2]) (rest := []) dX2_lengthenBy_11 rfl qm_22 (by decide) rfl (Nat.le_of_ble_eq_true rfl) rfl ⟨rfl, rfl⟩ ⟨Nat.le_of_ble_eq_true rfl, Nat.le_of_ble_eq_true rfl⟩ (EvP.mono (by decide) (c_F_put_creases hT hX q5)) (fun r11 P12 g13 => mpp 14 rfl ?_)
  obtain ⟨⟨rfl, g15⟩, hT16, k17, R18⟩ := g13
  have k19 : KW [256, 320, 2113] Po P12 := KW.trans KW.refl k17 rfl
  show MEvP _ none q_37 14 [(0, .ref a0_), (1, .ref a1_), (2, .int t2)] [] _ _ _ _
  refine mp_a (a_iconst (v := 0) dX2_lengthenBy_14 rfl) (mpp 15 rfl ?_)
  refine mp_a (a_istore_n (L' := [(3, .int 0), (0, .ref a0_), (1, .ref a1_), (2, .int t2)]) dX2_lengthenBy_15 (by decide) rfl) (mpp 16 rfl ?_)
  refine MEvP.less (L := [(0, .ref a0_), (1, .ref a1_), (2, .int t2), (3, .int 0)]) rfl rfl ⟨rfl, rfl, rfl, rfl, trivial⟩ ?_
  have e21 : (fv P12 a0_ 1).toInt = (fv Po a0_ 1).toInt := congrArg Int32.toInt (KW.at k17 1 ha0 rfl)
  have i22 : (fv P12 a0_ 1).toInt = (fv Po a0_ 1).toInt := by omega
  have e23 : (fv P12 a1_ 1).toInt = (fv Po a1_ 1).toInt := congrArg Int32.toInt (KW.at k17 1 ha1 rfl)
  have i24 : (fv P12 a1_ 1).toInt = (fv Po a1_ 1).toInt := by omega
  have i25 : 0 ≤ (0 : Int) := by omega
  exact c_CP_lengthenBy_NPiece_NPiece_l16 hT hX  hp0 ha0 ha1 _ _ P12 hT16 k19 i22 i24 i25 rfl

set_option maxHeartbeats 4000000 in
theorem c_CS_removeAt_NState_l18 {Po : mP} {t1 : Int32} (hTo : Typ Po) (hX : XR Po) (hJo : Inj Po)  : ∀ (n : Nat) (b2_ : Nat) (v3 : Int32) (v4 : Int32), rl b2_ = 33 → ∀ (P : mP), Typ P → KW [1985, 2048] Po P → (RMv Po P t1.toInt.toNat v4.toInt.toNat) → (v3.toInt + 1 = v4.toInt) → (0 ≤ t1.toInt ∧ t1.toInt ≤ 7 ∧ t1.toInt + 1 ≤ v4.toInt) → ((fv P 1 1).toInt = (fv Po 1 1).toInt) → (v4.toInt ≤ 8 ∧ v4.toInt ≤ (fv P 1 1).toInt) → (rv Po 2 t1.toInt.toNat = b2_) → (2147483647 - v4.toInt).toNat = n → MEvP 1 none q_38 18 [(0, .ref 1), (1, .int t1), (2, .ref b2_), (3, .int v3), (4, .int v4)] [] P 0 0 (fun r P' => (r = none ∧ (True)) ∧ Typ P' ∧ KW [1985, 2048] Po P' ∧ Inj P' ∧ True) := by
  intro n
  induction n using Nat.strongRecOn with | _ n ih => ?_
  intro b2_ v3 v4 hb2 P hT hK i_0 i_1 i_2 i_3 i_4 i_5 hm
  have w_t1 := ti_full t1
  have w_v3 := ti_full v3
  have w_v4 := ti_full v4
  have g1 : (0 : Int) ≤ (fv P 1 1).toInt ∧ (fv P 1 1).toInt ≤ 8 := Typ.rng hT rl_1 (by decide) (by decide) rfl
  have g2 : (0 : Int) ≤ (fv P 1 1).toInt ∧ (fv P 1 1).toInt ≤ 8 := Typ.rng hT rl_1 (by decide) (by decide) rfl
  refine mp_a (a_iload dX5_removeAt_18 rfl) (mpp 20 rfl ?_)
  refine mp_Tb (t := 67) (j_if_le dX5_removeAt_20) (by decide) (fun c3 => ?_) (fun c3 => mpp 23 rfl ?_)
  · have c3 : v4.toInt ≤ 0 := ti_le c3
    refine mp_a (a_iload_n dX5_removeAt_67 rfl) (mpp 68 rfl ?_)
    refine mp_Tb (t := 87) (j_if_lt dX5_removeAt_68) (by decide) (fun c4 => ?_) (fun c4 => mpp 71 rfl ?_)
    · have c4 : v3.toInt < 0 := ti_lt c4
      exfalso
      omega
    · have c4 : v3.toInt ≥ 0 := ti_lt_n c4
      refine mp_a (a_iload_n dX5_removeAt_71 rfl) (mpp 72 rfl ?_)
      refine mp_a (a_aload_n dX5_removeAt_72 rfl) (mpp 73 rfl ?_)
      refine mt_getU (i := 11) (k := 0) (A := 2) hT dX5_removeAt_73 rfl rl_1 (by decide) rfl (by decide) rfl un_32 (mpp 76 rfl ?_)
      refine mt_len (n := 8) hT dX5_removeAt_76 rl_2 (by decide) (by decide) rfl (mpp 77 rfl ?_)
      refine mp_Tb (t := 87) (j_icmp_ge dX5_removeAt_77) (by decide) (fun c5 => ?_) (fun c5 => mpp 80 rfl ?_)
      · have c5 : v3.toInt ≥ 8 := ti_ge c5
        exfalso
        omega
      · have c5 : v3.toInt < 8 := ti_ge_n c5
        refine mp_a (a_aload_n dX5_removeAt_80 rfl) (mpp 81 rfl ?_)
        refine mt_getU (i := 11) (k := 0) (A := 2) hT dX5_removeAt_81 rfl rl_1 (by decide) rfl (by decide) rfl un_32 (mpp 84 rfl ?_)
        refine mp_a (a_iload_n dX5_removeAt_84 rfl) (mpp 85 rfl ?_)
        refine mp_a (a_aload_n dX5_removeAt_85 rfl) (mpp 86 rfl ?_)
        refine mt_aas (n := 8) hT dX5_removeAt_86 rl_2 (by decide) (ci := 2) hb2 (by decide) (by decide) (by decide) rfl (by omega) (by omega) rfl (fun _ => (by decide : (34 : Nat) ≠ 0)) (fun P6 hT7 f8 f10 f11 => mpp 87 rfl ?_)
        have k9 : KW [1985, 2048] Po P6 := KW.perm hK rfl f8 f11
        have hRM := RMv.fin (l := v3.toInt.toNat) i_0 f10 f11 i_5 (by omega) (by omega) (by omega) (by omega)
        have hJe := hRM.inj hJo (by omega) (by omega) (by omega)
        refine mp_a (a_aload_n dX5_removeAt_87 rfl) (mpp 88 rfl ?_)
        refine mp_t (s_dup dX5_removeAt_88 rfl) (mpp 89 rfl ?_)
        have e12 : (fv P6 1 1).toInt = (fv P 1 1).toInt := congrArg Int32.toInt (f8 1 1)
        refine mt_getI (i := 22) (k := 1) hT7 dX5_removeAt_89 rfl rl_1 (by decide) rfl (by decide) rfl (fun g13 g14 => mpp 92 rfl ?_)
        refine mp_a (a_iconst (v := 1) dX5_removeAt_92 rfl) (mpp 93 rfl ?_)
        obtain ⟨z15, h16⟩ := ti_ex ((fv P6 1 1) - 1 : Int32)
        have wz15 := ti_full z15
        refine mp_t (s_isub (v := z15) dX5_removeAt_93 h16) (mpp 94 rfl ?_)
        try have e17 : z15.toInt = (fv P6 1 1).toInt - 1 := ti_subz h16 rfl rfl (by omega) (by omega)
        refine mt_putI (i := 22) (k := 1) (x := z15) hT7 dX5_removeAt_94 rfl rl_1 (by decide) rfl (by decide) rfl ⟨by omega, by omega⟩ rfl rfl (fun P18 hT19 f20 f21 f22 => mpp 97 rfl ?_)
        have k23 : KW [1985, 2048] Po P18 := KW.step k9 rl_1 rfl f21 f22
        have J24 := Inj.st hJe f22
        have e25 : (fv P18 1 1).toInt = z15.toInt := congrArg Int32.toInt f20
        exact mp_ret ⟨⟨rfl, trivial⟩, hT19, k23, J24, trivial⟩ dX5_removeAt_97 rfl
  · have c3 : v4.toInt > 0 := ti_le_n c3
    refine mp_a (a_iload dX5_removeAt_23 rfl) (mpp 25 rfl ?_)
    refine mp_a (a_aload_n dX5_removeAt_25 rfl) (mpp 26 rfl ?_)
    refine mt_getI (i := 22) (k := 1) hT dX5_removeAt_26 rfl rl_1 (by decide) rfl (by decide) rfl (fun g26 g27 => mpp 29 rfl ?_)
    refine mp_Tb (t := 67) (j_icmp_ge dX5_removeAt_29) (by decide) (fun c28 => ?_) (fun c28 => mpp 32 rfl ?_)
    · have c28 : v4.toInt ≥ (fv P 1 1).toInt := ti_ge c28
      refine mp_a (a_iload_n dX5_removeAt_67 rfl) (mpp 68 rfl ?_)
      refine mp_Tb (t := 87) (j_if_lt dX5_removeAt_68) (by decide) (fun c29 => ?_) (fun c29 => mpp 71 rfl ?_)
      · have c29 : v3.toInt < 0 := ti_lt c29
        exfalso
        omega
      · have c29 : v3.toInt ≥ 0 := ti_lt_n c29
        refine mp_a (a_iload_n dX5_removeAt_71 rfl) (mpp 72 rfl ?_)
        refine mp_a (a_aload_n dX5_removeAt_72 rfl) (mpp 73 rfl ?_)
        refine mt_getU (i := 11) (k := 0) (A := 2) hT dX5_removeAt_73 rfl rl_1 (by decide) rfl (by decide) rfl un_32 (mpp 76 rfl ?_)
        refine mt_len (n := 8) hT dX5_removeAt_76 rl_2 (by decide) (by decide) rfl (mpp 77 rfl ?_)
        refine mp_Tb (t := 87) (j_icmp_ge dX5_removeAt_77) (by decide) (fun c30 => ?_) (fun c30 => mpp 80 rfl ?_)
        · have c30 : v3.toInt ≥ 8 := ti_ge c30
          exfalso
          omega
        · have c30 : v3.toInt < 8 := ti_ge_n c30
          refine mp_a (a_aload_n dX5_removeAt_80 rfl) (mpp 81 rfl ?_)
          refine mt_getU (i := 11) (k := 0) (A := 2) hT dX5_removeAt_81 rfl rl_1 (by decide) rfl (by decide) rfl un_32 (mpp 84 rfl ?_)
          refine mp_a (a_iload_n dX5_removeAt_84 rfl) (mpp 85 rfl ?_)
          refine mp_a (a_aload_n dX5_removeAt_85 rfl) (mpp 86 rfl ?_)
          refine mt_aas (n := 8) hT dX5_removeAt_86 rl_2 (by decide) (ci := 2) hb2 (by decide) (by decide) (by decide) rfl (by omega) (by omega) rfl (fun _ => (by decide : (34 : Nat) ≠ 0)) (fun P31 hT32 f33 f35 f36 => mpp 87 rfl ?_)
          have k34 : KW [1985, 2048] Po P31 := KW.perm hK rfl f33 f36
          have hRM := RMv.fin (l := v3.toInt.toNat) i_0 f35 f36 i_5 (by omega) (by omega) (by omega) (by omega)
          have hJe := hRM.inj hJo (by omega) (by omega) (by omega)
          refine mp_a (a_aload_n dX5_removeAt_87 rfl) (mpp 88 rfl ?_)
          refine mp_t (s_dup dX5_removeAt_88 rfl) (mpp 89 rfl ?_)
          have e37 : (fv P31 1 1).toInt = (fv P 1 1).toInt := congrArg Int32.toInt (f33 1 1)
          refine mt_getI (i := 22) (k := 1) hT32 dX5_removeAt_89 rfl rl_1 (by decide) rfl (by decide) rfl (fun g38 g39 => mpp 92 rfl ?_)
          refine mp_a (a_iconst (v := 1) dX5_removeAt_92 rfl) (mpp 93 rfl ?_)
          obtain ⟨z40, h41⟩ := ti_ex ((fv P31 1 1) - 1 : Int32)
          have wz40 := ti_full z40
          refine mp_t (s_isub (v := z40) dX5_removeAt_93 h41) (mpp 94 rfl ?_)
          try have e42 : z40.toInt = (fv P31 1 1).toInt - 1 := ti_subz h41 rfl rfl (by omega) (by omega)
          refine mt_putI (i := 22) (k := 1) (x := z40) hT32 dX5_removeAt_94 rfl rl_1 (by decide) rfl (by decide) rfl ⟨by omega, by omega⟩ rfl rfl (fun P43 hT44 f45 f46 f47 => mpp 97 rfl ?_)
          have k48 : KW [1985, 2048] Po P43 := KW.step k34 rl_1 rfl f46 f47
          have J49 := Inj.st hJe f47
          have e50 : (fv P43 1 1).toInt = z40.toInt := congrArg Int32.toInt f45
          exact mp_ret ⟨⟨rfl, trivial⟩, hT44, k48, J49, trivial⟩ dX5_removeAt_97 rfl
    · have c28 : v4.toInt < (fv P 1 1).toInt := ti_ge_n c28
      refine mp_a (a_iload dX5_removeAt_32 rfl) (mpp 34 rfl ?_)
      refine mp_a (a_aload_n dX5_removeAt_34 rfl) (mpp 35 rfl ?_)
      refine mt_getU (i := 11) (k := 0) (A := 2) hT dX5_removeAt_35 rfl rl_1 (by decide) rfl (by decide) rfl un_32 (mpp 38 rfl ?_)
      refine mt_len (n := 8) hT dX5_removeAt_38 rl_2 (by decide) (by decide) rfl (mpp 39 rfl ?_)
      refine mp_Tb (t := 67) (j_icmp_ge dX5_removeAt_39) (by decide) (fun c51 => ?_) (fun c51 => mpp 42 rfl ?_)
      · have c51 : v4.toInt ≥ 8 := ti_ge c51
        refine mp_a (a_iload_n dX5_removeAt_67 rfl) (mpp 68 rfl ?_)
        refine mp_Tb (t := 87) (j_if_lt dX5_removeAt_68) (by decide) (fun c52 => ?_) (fun c52 => mpp 71 rfl ?_)
        · have c52 : v3.toInt < 0 := ti_lt c52
          exfalso
          omega
        · have c52 : v3.toInt ≥ 0 := ti_lt_n c52
          refine mp_a (a_iload_n dX5_removeAt_71 rfl) (mpp 72 rfl ?_)
          refine mp_a (a_aload_n dX5_removeAt_72 rfl) (mpp 73 rfl ?_)
          refine mt_getU (i := 11) (k := 0) (A := 2) hT dX5_removeAt_73 rfl rl_1 (by decide) rfl (by decide) rfl un_32 (mpp 76 rfl ?_)
          refine mt_len (n := 8) hT dX5_removeAt_76 rl_2 (by decide) (by decide) rfl (mpp 77 rfl ?_)
          refine mp_Tb (t := 87) (j_icmp_ge dX5_removeAt_77) (by decide) (fun c53 => ?_) (fun c53 => mpp 80 rfl ?_)
          · have c53 : v3.toInt ≥ 8 := ti_ge c53
            exfalso
            omega
          · have c53 : v3.toInt < 8 := ti_ge_n c53
            refine mp_a (a_aload_n dX5_removeAt_80 rfl) (mpp 81 rfl ?_)
            refine mt_getU (i := 11) (k := 0) (A := 2) hT dX5_removeAt_81 rfl rl_1 (by decide) rfl (by decide) rfl un_32 (mpp 84 rfl ?_)
            refine mp_a (a_iload_n dX5_removeAt_84 rfl) (mpp 85 rfl ?_)
            refine mp_a (a_aload_n dX5_removeAt_85 rfl) (mpp 86 rfl ?_)
            refine mt_aas (n := 8) hT dX5_removeAt_86 rl_2 (by decide) (ci := 2) hb2 (by decide) (by decide) (by decide) rfl (by omega) (by omega) rfl (fun _ => (by decide : (34 : Nat) ≠ 0)) (fun P54 hT55 f56 f58 f59 => mpp 87 rfl ?_)
            have k57 : KW [1985, 2048] Po P54 := KW.perm hK rfl f56 f59
            have hRM := RMv.fin (l := v3.toInt.toNat) i_0 f58 f59 i_5 (by omega) (by omega) (by omega) (by omega)
            have hJe := hRM.inj hJo (by omega) (by omega) (by omega)
            refine mp_a (a_aload_n dX5_removeAt_87 rfl) (mpp 88 rfl ?_)
            refine mp_t (s_dup dX5_removeAt_88 rfl) (mpp 89 rfl ?_)
            have e60 : (fv P54 1 1).toInt = (fv P 1 1).toInt := congrArg Int32.toInt (f56 1 1)
            refine mt_getI (i := 22) (k := 1) hT55 dX5_removeAt_89 rfl rl_1 (by decide) rfl (by decide) rfl (fun g61 g62 => mpp 92 rfl ?_)
            refine mp_a (a_iconst (v := 1) dX5_removeAt_92 rfl) (mpp 93 rfl ?_)
            obtain ⟨z63, h64⟩ := ti_ex ((fv P54 1 1) - 1 : Int32)
            have wz63 := ti_full z63
            refine mp_t (s_isub (v := z63) dX5_removeAt_93 h64) (mpp 94 rfl ?_)
            try have e65 : z63.toInt = (fv P54 1 1).toInt - 1 := ti_subz h64 rfl rfl (by omega) (by omega)
            refine mt_putI (i := 22) (k := 1) (x := z63) hT55 dX5_removeAt_94 rfl rl_1 (by decide) rfl (by decide) rfl ⟨by omega, by omega⟩ rfl rfl (fun P66 hT67 f68 f69 f70 => mpp 97 rfl ?_)
            have k71 : KW [1985, 2048] Po P66 := KW.step k57 rl_1 rfl f69 f70
            have J72 := Inj.st hJe f70
            have e73 : (fv P66 1 1).toInt = z63.toInt := congrArg Int32.toInt f68
            exact mp_ret ⟨⟨rfl, trivial⟩, hT67, k71, J72, trivial⟩ dX5_removeAt_97 rfl
      · have c51 : v4.toInt < 8 := ti_ge_n c51
        refine mp_a (a_aload_n dX5_removeAt_42 rfl) (mpp 43 rfl ?_)
        refine mt_getU (i := 11) (k := 0) (A := 2) hT dX5_removeAt_43 rfl rl_1 (by decide) rfl (by decide) rfl un_32 (mpp 46 rfl ?_)
        refine mp_a (a_iload dX5_removeAt_46 rfl) (mpp 48 rfl ?_)
        refine mp_a (a_iconst (v := 1) dX5_removeAt_48 rfl) (mpp 49 rfl ?_)
        obtain ⟨z74, h75⟩ := ti_ex (v4 - 1 : Int32)
        have wz74 := ti_full z74
        refine mp_t (s_isub (v := z74) dX5_removeAt_49 h75) (mpp 50 rfl ?_)
        try have e76 : z74.toInt = v4.toInt - 1 := ti_subz h75 rfl rfl (by omega) (by omega)
        refine mp_a (a_aload_n dX5_removeAt_50 rfl) (mpp 51 rfl ?_)
        refine mt_getU (i := 11) (k := 0) (A := 2) hT dX5_removeAt_51 rfl rl_1 (by decide) rfl (by decide) rfl un_32 (mpp 54 rfl ?_)
        refine mp_a (a_iload dX5_removeAt_54 rfl) (mpp 56 rfl ?_)
        refine mt_aal (n := 8) hT dX5_removeAt_56 rl_2 (by decide) (by decide) rfl (by omega) (by omega) rfl (fun q77 => mpp 57 rfl ?_)
        generalize h79 : rv P 2 v4.toInt.toNat = b78 at q77 ⊢
        have e80 := np_ar q77
        refine mt_aas (n := 8) hT dX5_removeAt_57 rl_2 (by decide) (ci := 2) q77 (by decide) (by decide) (by decide) rfl (by omega) (by omega) rfl (fun _ => (by decide : (34 : Nat) ≠ 0)) (fun P81 hT82 f83 f85 f86 => mpp 58 rfl ?_)
        have k84 : KW [1985, 2048] Po P81 := KW.perm hK rfl f83 f86
        refine mp_a (a_iload dX5_removeAt_58 rfl) (mpp 60 rfl ?_)
        refine mp_a (a_istore_n (L' := [(3, .int v4), (0, .ref 1), (1, .int t1), (2, .ref b2_), (4, .int v4)]) dX5_removeAt_60 (by decide) rfl) (mpp 61 rfl ?_)
        obtain ⟨z87, h88⟩ := ti_ex (v4 + 1 : Int32)
        have wz87 := ti_full z87
        refine mp_a (a_iinc (v := z87) (L' := [(4, .int z87), (3, .int v4), (0, .ref 1), (1, .int t1), (2, .ref b2_)]) dX5_removeAt_61 (by decide) rfl h88 rfl) (mpp 64 rfl ?_)
        try have e89 : z87.toInt = v4.toInt + 1 := ti_addz h88 rfl rfl (by omega) (by omega)
        refine mp_a (a_goto (t := 18) dX5_removeAt_64 (by decide)) ?_
        refine MEvP.less (L := [(0, .ref 1), (1, .int t1), (2, .ref b2_), (3, .int v4), (4, .int z87)]) rfl rfl ⟨rfl, rfl, rfl, rfl, rfl, trivial⟩ ?_
        have i90 : RMv Po P81 t1.toInt.toNat z87.toInt.toNat := RMv.step i_0 f85 f86 h79 (by omega) (by omega) (by omega)
        have i91 : v4.toInt + 1 = z87.toInt := by omega
        have i92 : 0 ≤ t1.toInt ∧ t1.toInt ≤ 7 ∧ t1.toInt + 1 ≤ z87.toInt := by omega
        have e93 : (fv P81 1 1).toInt = (fv P 1 1).toInt := congrArg Int32.toInt (f83 1 1)
        have i94 : (fv P81 1 1).toInt = (fv Po 1 1).toInt := by omega
        have i95 : z87.toInt ≤ 8 ∧ z87.toInt ≤ (fv P81 1 1).toInt := by omega
        have i96 : rv Po 2 t1.toInt.toNat = b2_ := i_5
        exact ih _ (by omega) _ _ _ hb2 P81 hT82 k84 i90 i91 i92 i94 i95 i96 rfl

set_option maxHeartbeats 4000000 in
theorem c_CS_removeAt_NState {Po : mP} {t1 : Int32} (hT : Typ Po) (hX : XR Po)  (hJ : Inj Po)  : EvP 2 38 [.ref 1, .int t1] Po (fun r P' => (r = none ∧ (True)) ∧ Typ P' ∧ KW [1985, 2048] Po P' ∧ Inj P' ∧ True) := by
  refine EvP.of qm_38 (Nat.le_of_ble_eq_true rfl) rfl ?_
  show MEvP _ none q_38 0 [(0, .ref 1), (1, .int t1)] [] _ 0 0 _
  refine mp_a (a_aload_n dX5_removeAt_0 rfl) (mpp 1 rfl ?_)
  refine mp_a (a_iload_n dX5_removeAt_1 rfl) (mpp 2 rfl ?_)
  refine mt_callv (i := 28) (q' := q_9) (As := [.int t1]) (rest := []) hT dX5_removeAt_2 rfl qm_9 (by decide) rfl rl_1 (by decide) rfl (Nat.le_of_ble_eq_true rfl) rfl ⟨rfl, rfl⟩ ⟨Nat.le_of_ble_eq_true rfl, Nat.le_of_ble_eq_true rfl⟩ (EvP.mono (by decide) (c_CS_pieceAt_NState hT hX )) (fun r1 P2 g3 => mpp 5 rfl ?_)
  obtain ⟨g3, e4⟩ := g3
  have e4 := e4.symm
  subst e4
  rcases g3 with ⟨rfl, q6n⟩ | ⟨b5, rfl, q6, q6r⟩
  · show MEvP _ none q_38 5 [(0, .ref 1), (1, .int t1)] [.null] _ _ _ _
    have q6n : t1.toInt < 0 ∨ (fv Po 1 1).toInt ≤ t1.toInt ∨ 8 ≤ t1.toInt := q6n
    have g7 : (0 : Int) ≤ (fv Po 1 1).toInt ∧ (fv Po 1 1).toInt ≤ 8 := Typ.rng hT rl_1 (by decide) (by decide) rfl
    refine mp_a (a_astore_nN (L' := [(2, .null), (0, .ref 1), (1, .int t1)]) dX5_removeAt_5 (by decide) rfl) (mpp 6 rfl ?_)
    refine mp_a (a_aload_nN dX5_removeAt_6 rfl) (mpp 7 rfl ?_)
    refine mp_t (s_ifnonnullN dX5_removeAt_7) (mpp 10 rfl ?_)
    exact mp_ret ⟨⟨rfl, trivial⟩, hT, KW.refl, hJ, trivial⟩ dX5_removeAt_10 rfl
  · show MEvP _ none q_38 5 [(0, .ref 1), (1, .int t1)] [.ref b5] _ _ _ _
    have q6r : 0 ≤ t1.toInt ∧ t1.toInt ≤ 7 ∧ t1.toInt + 1 ≤ (fv Po 1 1).toInt ∧ rv Po 2 t1.toInt.toNat = b5 := q6r
    have g8 : (0 : Int) ≤ (fv Po 1 1).toInt ∧ (fv Po 1 1).toInt ≤ 8 := Typ.rng hT rl_1 (by decide) (by decide) rfl
    have w9 := np_ar q6
    refine mp_a (a_astore_n (L' := [(2, .ref b5), (0, .ref 1), (1, .int t1)]) dX5_removeAt_5 (by decide) rfl) (mpp 6 rfl ?_)
    refine mp_a (a_aload_n dX5_removeAt_6 rfl) (mpp 7 rfl ?_)
    refine mp_t (s_ifnonnullR (t := 11) dX5_removeAt_7 (by decide)) ?_
    refine mp_a (a_iload_n dX5_removeAt_11 rfl) (mpp 12 rfl ?_)
    refine mp_a (a_istore_n (L' := [(3, .int t1), (2, .ref b5), (0, .ref 1), (1, .int t1)]) dX5_removeAt_12 (by decide) rfl) (mpp 13 rfl ?_)
    refine mp_a (a_iload_n dX5_removeAt_13 rfl) (mpp 14 rfl ?_)
    refine mp_a (a_iconst (v := 1) dX5_removeAt_14 rfl) (mpp 15 rfl ?_)
    obtain ⟨z10, h11⟩ := ti_ex (t1 + 1 : Int32)
    have wz10 := ti_full z10
    refine mp_t (s_iadd (v := z10) dX5_removeAt_15 h11) (mpp 16 rfl ?_)
    try have e12 : z10.toInt = t1.toInt + 1 := ti_addz h11 rfl rfl (by omega) (by omega)
    refine mp_a (a_istore (L' := [(4, .int z10), (3, .int t1), (2, .ref b5), (0, .ref 1), (1, .int t1)]) dX5_removeAt_16 (by decide) rfl) (mpp 18 rfl ?_)
    refine MEvP.less (L := [(0, .ref 1), (1, .int t1), (2, .ref b5), (3, .int t1), (4, .int z10)]) rfl rfl ⟨rfl, rfl, rfl, rfl, rfl, trivial⟩ ?_
    have i13 : RMv Po Po t1.toInt.toNat z10.toInt.toNat := RMv.start (by omega)
    have i14 : t1.toInt + 1 = z10.toInt := by omega
    have i15 : 0 ≤ t1.toInt ∧ t1.toInt ≤ 7 ∧ t1.toInt + 1 ≤ z10.toInt := by omega
    have i16 : (fv Po 1 1).toInt = (fv Po 1 1).toInt := by omega
    have i17 : z10.toInt ≤ 8 ∧ z10.toInt ≤ (fv Po 1 1).toInt := by omega
    have i18 : rv Po 2 t1.toInt.toNat = b5 := q6r.2.2.2
    exact c_CS_removeAt_NState_l18 hT hX hJ  _ _ _ _ q6 Po hT KW.refl i13 i14 i15 i16 i17 i18 rfl

