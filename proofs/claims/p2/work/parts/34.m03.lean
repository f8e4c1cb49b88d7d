/-! methods on typed pools, 3 (written by a program) -/
set_option maxHeartbeats 4000000 in
theorem c_CP_creaseCount_NPiece {Po : mP} {a0_ : Nat} (hT : Typ Po) (hX : XR Po)  (ha0 : rl a0_ = 33) : EvP 1 25 [.ref a0_] Po (fun r P' => (∃ x : Int32, r = some (.int x) ∧ (-1 ≤ x.toInt ∧ x.toInt ≤ (fv Po a0_ 1).toInt ∧ (((fv Po a0_ 0).toInt = 0 ∧ x.toInt = (fv Po a0_ 1).toInt - 1) ∨ ((fv Po a0_ 0).toInt ≠ 0 ∧ x.toInt = (fv Po a0_ 1).toInt)))) ∧ P' = Po) := by
  refine EvP.of qm_25 (Nat.le_of_ble_eq_true rfl) rfl ?_
  show MEvP _ none q_25 0 [(0, .ref a0_)] [] _ 0 0 _
  have w1 := np_ar ha0
  have g2 : (0 : Int) ≤ (fv Po a0_ 1).toInt ∧ (fv Po a0_ 1).toInt ≤ 8 := Typ.rng hT ha0 (by decide) (by decide) rfl
  have g3 := ti_full (fv Po a0_ 0)
  refine mp_a (a_aload_n dX2_creaseCount_0 rfl) (mpp 1 rfl ?_)
  refine mt_getI (i := 18) (k := 0) hT dX2_creaseCount_1 rfl ha0 (by decide) rfl (by decide) rfl (fun g4 g5 => mpp 4 rfl ?_)
  refine mp_Tb (t := 16) (j_if_ne dX2_creaseCount_4) (by decide) (fun c6 => ?_) (fun c6 => mpp 7 rfl ?_)
  · have c6 : (fv Po a0_ 0).toInt ≠ 0 := ti_ne c6
    refine mp_a (a_aload_n dX2_creaseCount_16 rfl) (mpp 17 rfl ?_)
    refine mt_getI (i := 26) (k := 1) hT dX2_creaseCount_17 rfl ha0 (by decide) rfl (by decide) rfl (fun g7 g8 => mpp 20 rfl ?_)
    have u9 : -1 ≤ (fv Po a0_ 1).toInt ∧ (fv Po a0_ 1).toInt ≤ (fv Po a0_ 1).toInt ∧ (((fv Po a0_ 0).toInt = 0 ∧ (fv Po a0_ 1).toInt = (fv Po a0_ 1).toInt - 1) ∨ ((fv Po a0_ 0).toInt ≠ 0 ∧ (fv Po a0_ 1).toInt = (fv Po a0_ 1).toInt)) := by omega
    exact mp_iret ⟨⟨_, rfl, u9⟩, rfl⟩ dX2_creaseCount_20 (Or.inl rfl)
  · have c6 : (fv Po a0_ 0).toInt = 0 := ti_ne_n c6
    refine mp_a (a_aload_n dX2_creaseCount_7 rfl) (mpp 8 rfl ?_)
    refine mt_getI (i := 26) (k := 1) hT dX2_creaseCount_8 rfl ha0 (by decide) rfl (by decide) rfl (fun g10 g11 => mpp 11 rfl ?_)
    refine mp_a (a_iconst (v := 1) dX2_creaseCount_11 rfl) (mpp 12 rfl ?_)
    obtain ⟨z12, h13⟩ := ti_ex ((fv Po a0_ 1) - 1 : Int32)
    have wz12 := ti_full z12
    refine mp_t (s_isub (v := z12) dX2_creaseCount_12 h13) (mpp 13 rfl ?_)
    try have e14 : z12.toInt = (fv Po a0_ 1).toInt - 1 := ti_subz h13 rfl rfl (by omega) (by omega)
    refine mp_a (a_goto (t := 20) dX2_creaseCount_13 (by decide)) ?_
    have u15 : -1 ≤ z12.toInt ∧ z12.toInt ≤ (fv Po a0_ 1).toInt ∧ (((fv Po a0_ 0).toInt = 0 ∧ z12.toInt = (fv Po a0_ 1).toInt - 1) ∨ ((fv Po a0_ 0).toInt ≠ 0 ∧ z12.toInt = (fv Po a0_ 1).toInt)) := by omega
    exact mp_iret ⟨⟨_, rfl, u15⟩, rfl⟩ dX2_creaseCount_20 (Or.inl rfl)

set_option maxHeartbeats 4000000 in
theorem c_CP_hasCrease_NPiece {Po : mP} {a0_ : Nat} {t1 : Int32} (hT : Typ Po) (hX : XR Po)  (ha0 : rl a0_ = 33) : EvP 2 29 [.ref a0_, .int t1] Po (fun r P' => (∃ x : Int32, r = some (.int x) ∧ (0 ≤ x.toInt ∧ x.toInt ≤ 1 ∧ ((x.toInt = 0 ∧ (t1.toInt < 0 ∨ ((fv Po a0_ 0).toInt = 0 ∧ (fv Po a0_ 1).toInt - 1 ≤ t1.toInt) ∨ ((fv Po a0_ 0).toInt ≠ 0 ∧ (fv Po a0_ 1).toInt ≤ t1.toInt))) ∨ (x.toInt = 1 ∧ 0 ≤ t1.toInt ∧ t1.toInt + 1 ≤ (fv Po a0_ 1).toInt ∧ (((fv Po a0_ 0).toInt = 0 ∧ t1.toInt < (fv Po a0_ 1).toInt - 1) ∨ ((fv Po a0_ 0).toInt ≠ 0 ∧ t1.toInt < (fv Po a0_ 1).toInt)))))) ∧ P' = Po) := by
  refine EvP.of qm_29 (Nat.le_of_ble_eq_true rfl) rfl ?_
  show MEvP _ none q_29 0 [(0, .ref a0_), (1, .int t1)] [] _ 0 0 _
  have w1 := np_ar ha0
  have g2 := ti_full (fv Po a0_ 0)
  have g3 : (0 : Int) ≤ (fv Po a0_ 1).toInt ∧ (fv Po a0_ 1).toInt ≤ 8 := Typ.rng hT ha0 (by decide) (by decide) rfl
  refine mp_a (a_iload_n dX2_hasCrease_0 rfl) (mpp 1 rfl ?_)
  refine mp_Tb (t := 16) (j_if_lt dX2_hasCrease_1) (by decide) (fun c4 => ?_) (fun c4 => mpp 4 rfl ?_)
  · have c4 : t1.toInt < 0 := ti_lt c4
    refine mp_a (a_iconst (v := 0) dX2_hasCrease_16 rfl) (mpp 17 rfl ?_)
    have u5 : 0 ≤ (0 : Int) ∧ (0 : Int) ≤ 1 ∧ (((0 : Int) = 0 ∧ (t1.toInt < 0 ∨ ((fv Po a0_ 0).toInt = 0 ∧ (fv Po a0_ 1).toInt - 1 ≤ t1.toInt) ∨ ((fv Po a0_ 0).toInt ≠ 0 ∧ (fv Po a0_ 1).toInt ≤ t1.toInt))) ∨ ((0 : Int) = 1 ∧ 0 ≤ t1.toInt ∧ t1.toInt + 1 ≤ (fv Po a0_ 1).toInt ∧ (((fv Po a0_ 0).toInt = 0 ∧ t1.toInt < (fv Po a0_ 1).toInt - 1) ∨ ((fv Po a0_ 0).toInt ≠ 0 ∧ t1.toInt < (fv Po a0_ 1).toInt)))) := by omega
    exact mp_iret ⟨⟨_, rfl, u5⟩, rfl⟩ dX2_hasCrease_17 (Or.inr ⟨rfl, by decide⟩)
  · have c4 : t1.toInt ≥ 0 := ti_lt_n c4
    refine mp_a (a_iload_n dX2_hasCrease_4 rfl) (mpp 5 rfl ?_)
    refine mp_a (a_aload_n dX2_hasCrease_5 rfl) (mpp 6 rfl ?_)
    refine mt_callv (i := 37) (q' := q_25) (As := []) (rest := [.int t1]) hT dX2_hasCrease_6 rfl qm_25 (by decide) rfl ha0 (by decide) rfl (Nat.le_of_ble_eq_true rfl) rfl ⟨rfl, rfl⟩ ⟨Nat.le_of_ble_eq_true rfl, Nat.le_of_ble_eq_true rfl⟩ (EvP.mono (by decide) (c_CP_creaseCount_NPiece hT hX ha0)) (fun r6 P7 g8 => mpp 9 rfl ?_)
    obtain ⟨⟨x9, rfl, g10⟩, e11⟩ := g8
    have e11 := e11.symm
    subst e11
    have wx9 := ti_full x9
    have g10 : -1 ≤ x9.toInt ∧ x9.toInt ≤ (fv Po a0_ 1).toInt ∧ (((fv Po a0_ 0).toInt = 0 ∧ x9.toInt = (fv Po a0_ 1).toInt - 1) ∨ ((fv Po a0_ 0).toInt ≠ 0 ∧ x9.toInt = (fv Po a0_ 1).toInt)) := g10
    show MEvP _ none q_29 9 [(0, .ref a0_), (1, .int t1)] [.int x9, .int t1] _ _ _ _
    refine mp_Tb (t := 16) (j_icmp_ge dX2_hasCrease_9) (by decide) (fun c12 => ?_) (fun c12 => mpp 12 rfl ?_)
    · have c12 : t1.toInt ≥ x9.toInt := ti_ge c12
      refine mp_a (a_iconst (v := 0) dX2_hasCrease_16 rfl) (mpp 17 rfl ?_)
      have u13 : 0 ≤ (0 : Int) ∧ (0 : Int) ≤ 1 ∧ (((0 : Int) = 0 ∧ (t1.toInt < 0 ∨ ((fv Po a0_ 0).toInt = 0 ∧ (fv Po a0_ 1).toInt - 1 ≤ t1.toInt) ∨ ((fv Po a0_ 0).toInt ≠ 0 ∧ (fv Po a0_ 1).toInt ≤ t1.toInt))) ∨ ((0 : Int) = 1 ∧ 0 ≤ t1.toInt ∧ t1.toInt + 1 ≤ (fv Po a0_ 1).toInt ∧ (((fv Po a0_ 0).toInt = 0 ∧ t1.toInt < (fv Po a0_ 1).toInt - 1) ∨ ((fv Po a0_ 0).toInt ≠ 0 ∧ t1.toInt < (fv Po a0_ 1).toInt)))) := by omega
      exact mp_iret ⟨⟨_, rfl, u13⟩, rfl⟩ dX2_hasCrease_17 (Or.inr ⟨rfl, by decide⟩)
    · have c12 : t1.toInt < x9.toInt := ti_ge_n c12
      refine mp_a (a_iconst (v := 1) dX2_hasCrease_12 rfl) (mpp 13 rfl ?_)
      refine mp_a (a_goto (t := 17) dX2_hasCrease_13 (by decide)) ?_
      have u14 : 0 ≤ (1 : Int) ∧ (1 : Int) ≤ 1 ∧ (((1 : Int) = 0 ∧ (t1.toInt < 0 ∨ ((fv Po a0_ 0).toInt = 0 ∧ (fv Po a0_ 1).toInt - 1 ≤ t1.toInt) ∨ ((fv Po a0_ 0).toInt ≠ 0 ∧ (fv Po a0_ 1).toInt ≤ t1.toInt))) ∨ ((1 : Int) = 1 ∧ 0 ≤ t1.toInt ∧ t1.toInt + 1 ≤ (fv Po a0_ 1).toInt ∧ (((fv Po a0_ 0).toInt = 0 ∧ t1.toInt < (fv Po a0_ 1).toInt - 1) ∨ ((fv Po a0_ 0).toInt ≠ 0 ∧ t1.toInt < (fv Po a0_ 1).toInt)))) := by omega
      exact mp_iret ⟨⟨_, rfl, u14⟩, rfl⟩ dX2_hasCrease_17 (Or.inr ⟨rfl, by decide⟩)

set_option maxHeartbeats 4000000 in
theorem c_F_at_creases {Po : mP} {a0_ : Nat} {t1 : Int32} (hT : Typ Po) (hX : XR Po)  (ha0 : rl a0_ = 5) : EvP 1 12 [.ref a0_, .int t1] Po (fun r P' => (∃ x : Int32, r = some (.int x) ∧ (True)) ∧ P' = Po) := by
  refine EvP.of qm_12 (Nat.le_of_ble_eq_true rfl) rfl ?_
  show MEvP _ none q_12 0 [(0, .ref a0_), (1, .int t1)] [] _ 0 0 _
  refine mp_a (a_iload_n dX6_at_0 rfl) (mpp 1 rfl ?_)
  refine mp_Tb (t := 16) (j_if_lt dX6_at_1) (by decide) (fun c1 => ?_) (fun c1 => mpp 4 rfl ?_)
  · have c1 : t1.toInt < 0 := ti_lt c1
    refine mp_a (a_iconst (v := 0) dX6_at_16 rfl) (mpp 17 rfl ?_)
    exact mp_iret ⟨⟨_, rfl, trivial⟩, rfl⟩ dX6_at_17 (Or.inl rfl)
  · have c1 : t1.toInt ≥ 0 := ti_lt_n c1
    refine mp_a (a_iload_n dX6_at_4 rfl) (mpp 5 rfl ?_)
    refine mp_a (a_aload_n dX6_at_5 rfl) (mpp 6 rfl ?_)
    refine mt_len (n := 8) hT dX6_at_6 ha0 (by decide) (by decide) rfl (mpp 7 rfl ?_)
    refine mp_Tb (t := 16) (j_icmp_ge dX6_at_7) (by decide) (fun c2 => ?_) (fun c2 => mpp 10 rfl ?_)
    · have c2 : t1.toInt ≥ 8 := ti_ge c2
      refine mp_a (a_iconst (v := 0) dX6_at_16 rfl) (mpp 17 rfl ?_)
      exact mp_iret ⟨⟨_, rfl, trivial⟩, rfl⟩ dX6_at_17 (Or.inl rfl)
    · have c2 : t1.toInt < 8 := ti_ge_n c2
      refine mp_a (a_aload_n dX6_at_10 rfl) (mpp 11 rfl ?_)
      refine mp_a (a_iload_n dX6_at_11 rfl) (mpp 12 rfl ?_)
      refine mt_ial (n := 8) hT dX6_at_12 ha0 (by decide) rfl rfl (by omega) (by omega) rfl (fun g3 g4 => mpp 13 rfl ?_)
      refine mp_a (a_goto (t := 17) dX6_at_13 (by decide)) ?_
      exact mp_iret ⟨⟨_, rfl, trivial⟩, rfl⟩ dX6_at_17 (Or.inl rfl)

set_option maxHeartbeats 4000000 in
theorem c_F_mark {Po : mP} {t1 : Int32} {t2 : Int32} {t3 : Int32} (hT : Typ Po) (hX : XR Po)  (hJ : Inj Po)  : EvP 5 28 [.ref 0, .int t1, .int t2, .int t3] Po (fun r P' => (∃ x : Int32, r = some (.int x) ∧ (True)) ∧ Typ P' ∧ KW [10, 11, 12, 65, 66, 67, 192, 193, 194, 256, 320, 385, 386] Po P' ∧ Inj P' ∧ True) := by
  refine EvP.of qm_28 (Nat.le_of_ble_eq_true rfl) rfl ?_
  show MEvP _ none q_28 0 [(0, .ref 0), (1, .int t1), (2, .int t2), (3, .int t3)] [] _ 0 0 _
  refine mp_a (a_aload_n dX6_mark_0 rfl) (mpp 1 rfl ?_)
  refine mt_getU (i := 10) (k := 0) (A := 1) hT dX6_mark_1 rfl rl_0 (by decide) rfl (by decide) rfl un_31 (mpp 4 rfl ?_)
  refine mp_a (a_iload_n dX6_mark_4 rfl) (mpp 5 rfl ?_)
  refine mt_callv (i := 94) (q' := q_9) (As := [.int t1]) (rest := []) hT dX6_mark_5 rfl qm_9 (by decide) rfl rl_1 (by decide) rfl (Nat.le_of_ble_eq_true rfl) rfl ⟨rfl, rfl⟩ ⟨Nat.le_of_ble_eq_true rfl, Nat.le_of_ble_eq_true rfl⟩ (EvP.mono (by decide) (c_CS_pieceAt_NState hT hX )) (fun r1 P2 g3 => mpp 8 rfl ?_)
  obtain ⟨g3, e4⟩ := g3
  have e4 := e4.symm
  subst e4
  rcases g3 with ⟨rfl, q6n⟩ | ⟨b5, rfl, q6, q6r⟩
  · show MEvP _ none q_28 8 [(0, .ref 0), (1, .int t1), (2, .int t2), (3, .int t3)] [.null] _ _ _ _
    have q6n : t1.toInt < 0 ∨ (fv Po 1 1).toInt ≤ t1.toInt ∨ 8 ≤ t1.toInt := q6n
    have g7 : (0 : Int) ≤ (fv Po 1 1).toInt ∧ (fv Po 1 1).toInt ≤ 8 := Typ.rng hT rl_1 (by decide) (by decide) rfl
    refine mp_a (a_astoreN (L' := [(4, .null), (0, .ref 0), (1, .int t1), (2, .int t2), (3, .int t3)]) dX6_mark_8 (by decide) rfl) (mpp 10 rfl ?_)
    refine mp_a (a_aloadN dX6_mark_10 rfl) (mpp 12 rfl ?_)
    refine mp_t (s_ifnullN (t := 24) dX6_mark_12 (by decide)) ?_
    refine mp_a (a_sipush (v := -1001) dX6_mark_24 rfl) (mpp 27 rfl ?_)
    exact mp_iret ⟨⟨_, rfl, trivial⟩, hT, KW.refl, hJ, trivial⟩ dX6_mark_27 (Or.inl rfl)
  · show MEvP _ none q_28 8 [(0, .ref 0), (1, .int t1), (2, .int t2), (3, .int t3)] [.ref b5] _ _ _ _
    have q6r : 0 ≤ t1.toInt ∧ t1.toInt ≤ 7 ∧ t1.toInt + 1 ≤ (fv Po 1 1).toInt ∧ rv Po 2 t1.toInt.toNat = b5 := q6r
    have g8 : (0 : Int) ≤ (fv Po 1 1).toInt ∧ (fv Po 1 1).toInt ≤ 8 := Typ.rng hT rl_1 (by decide) (by decide) rfl
    have w9 := np_ar q6
    refine mp_a (a_astore (L' := [(4, .ref b5), (0, .ref 0), (1, .int t1), (2, .int t2), (3, .int t3)]) dX6_mark_8 (by decide) rfl) (mpp 10 rfl ?_)
    refine mp_a (a_aload dX6_mark_10 rfl) (mpp 12 rfl ?_)
    refine mp_t (s_ifnullR dX6_mark_12) (mpp 15 rfl ?_)
    refine mp_a (a_aload dX6_mark_15 rfl) (mpp 17 rfl ?_)
    refine mp_a (a_iload_n dX6_mark_17 rfl) (mpp 18 rfl ?_)
    refine mt_callv (i := 98) (q' := q_29) (As := [.int t2]) (rest := []) hT dX6_mark_18 rfl qm_29 (by decide) rfl q6 (by decide) rfl (Nat.le_of_ble_eq_true rfl) rfl ⟨rfl, rfl⟩ ⟨Nat.le_of_ble_eq_true rfl, Nat.le_of_ble_eq_true rfl⟩ (EvP.mono (by decide) (c_CP_hasCrease_NPiece hT hX q6)) (fun r10 P11 g12 => mpp 21 rfl ?_)
    obtain ⟨⟨x13, rfl, g14⟩, e15⟩ := g12
    have e15 := e15.symm
    subst e15
    have wx13 := ti_full x13
    have g14 : 0 ≤ x13.toInt ∧ x13.toInt ≤ 1 ∧ ((x13.toInt = 0 ∧ (t2.toInt < 0 ∨ ((fv Po b5 0).toInt = 0 ∧ (fv Po b5 1).toInt - 1 ≤ t2.toInt) ∨ ((fv Po b5 0).toInt ≠ 0 ∧ (fv Po b5 1).toInt ≤ t2.toInt))) ∨ (x13.toInt = 1 ∧ 0 ≤ t2.toInt ∧ t2.toInt + 1 ≤ (fv Po b5 1).toInt ∧ (((fv Po b5 0).toInt = 0 ∧ t2.toInt < (fv Po b5 1).toInt - 1) ∨ ((fv Po b5 0).toInt ≠ 0 ∧ t2.toInt < (fv Po b5 1).toInt)))) := g14
    have g16 := ti_full (fv Po b5 0)
    have g17 : (0 : Int) ≤ (fv Po b5 1).toInt ∧ (fv Po b5 1).toInt ≤ 8 := Typ.rng hT q6 (by decide) (by decide) rfl
    show MEvP _ none q_28 21 [(4, .ref b5), (0, .ref 0), (1, .int t1), (2, .int t2), (3, .int t3)] [.int x13] _ _ _ _
    refine mp_Tb (t := 28) (j_if_ne dX6_mark_21) (by decide) (fun c18 => ?_) (fun c18 => mpp 24 rfl ?_)
    · have c18 : x13.toInt ≠ 0 := ti_ne c18
      refine mp_a (a_iload_n dX6_mark_28 rfl) (mpp 29 rfl ?_)
      refine mp_calls (i := 101) (q' := q_26) (As := [.int t3]) (rest := []) dX6_mark_29 rfl qm_26 (by decide) rfl (Nat.le_of_ble_eq_true rfl) rfl ⟨rfl, rfl⟩ ⟨Nat.le_of_ble_eq_true rfl, Nat.le_of_ble_eq_true rfl⟩ (EvP.mono (by decide) (c_F_isCreaseKind hT hX )) (fun r19 P20 g21 => mpp 32 rfl ?_)
      obtain ⟨⟨x22, rfl, g23⟩, e24⟩ := g21
      have e24 := e24.symm
      subst e24
      have wx22 := ti_full x22
      have g23 : 0 ≤ x22.toInt ∧ x22.toInt ≤ 1 := g23
      show MEvP _ none q_28 32 [(4, .ref b5), (0, .ref 0), (1, .int t1), (2, .int t2), (3, .int t3)] [.int x22] _ _ _ _
      refine mp_Tb (t := 39) (j_if_ne dX6_mark_32) (by decide) (fun c25 => ?_) (fun c25 => mpp 35 rfl ?_)
      · have c25 : x22.toInt ≠ 0 := ti_ne c25
        refine mp_a (a_aload dX6_mark_39 rfl) (mpp 41 rfl ?_)
        have g26 : (0 : Int) ≤ (fv Po b5 2).toInt ∧ (fv Po b5 2).toInt ≤ 1 := Typ.rng hT q6 (by decide) (by decide) rfl
        refine mt_getI (i := 104) (k := 2) hT dX6_mark_41 rfl q6 (by decide) rfl (by decide) rfl (fun g27 g28 => mpp 44 rfl ?_)
        refine mp_Tb (t := 54) (j_if_eq dX6_mark_44) (by decide) (fun c29 => ?_) (fun c29 => mpp 47 rfl ?_)
        · have c29 : (fv Po b5 2).toInt = 0 := ti_eq c29
          refine mp_a (a_aload_n dX6_mark_54 rfl) (mpp 55 rfl ?_)
          refine mt_getU (i := 25) (k := 3) (A := 79) hT dX6_mark_55 rfl rl_0 (by decide) rfl (by decide) rfl un_6 (mpp 58 rfl ?_)
          refine mp_a (a_aload_n dX6_mark_58 rfl) (mpp 59 rfl ?_)
          refine mt_getU (i := 10) (k := 0) (A := 1) hT dX6_mark_59 rfl rl_0 (by decide) rfl (by decide) rfl un_31 (mpp 62 rfl ?_)
          refine mt_callv (i := 72) (q' := q_15) (As := [.ref 1]) (rest := []) hT dX6_mark_62 rfl qm_15 (by decide) rfl rl_79 (by decide) rfl (Nat.le_of_ble_eq_true rfl) rfl ⟨rfl, rfl⟩ ⟨Nat.le_of_ble_eq_true rfl, Nat.le_of_ble_eq_true rfl⟩ (EvP.mono (by decide) (c_CH_push_History_NState hT hX hJ )) (fun r30 P31 g32 => mpp 65 rfl ?_)
          obtain ⟨⟨rfl, g34⟩, hT35, k36, J39, R37⟩ := g32
          have k38 : KW [10, 11, 12, 65, 66, 67, 192, 193, 194, 256, 320, 385, 386] Po P31 := KW.trans KW.refl k36 rfl
          show MEvP _ none q_28 65 [(4, .ref b5), (0, .ref 0), (1, .int t1), (2, .int t2), (3, .int t3)] [] _ _ _ _
          refine mp_a (a_aload dX6_mark_65 rfl) (mpp 67 rfl ?_)
          refine mt_getE (i := 108) (k := 4) hT35 dX6_mark_67 rfl q6 (by decide) rfl (by decide) rfl ((KW.xr k38 hX).1 b5 (Or.inr q6)).2 (fun q40 => mpp 70 rfl ?_)
          refine mp_a (a_iload_n dX6_mark_70 rfl) (mpp 71 rfl ?_)
          refine mp_calls (i := 112) (q' := q_12) (As := [.ref (b5 + 2), .int t2]) (rest := []) dX6_mark_71 rfl qm_12 (by decide) rfl (Nat.le_of_ble_eq_true rfl) rfl ⟨rfl, rfl⟩ ⟨Nat.le_of_ble_eq_true rfl, Nat.le_of_ble_eq_true rfl⟩ (EvP.mono (by decide) (c_F_at_creases hT35 (KW.xr k38 hX) q40)) (fun r41 P42 g43 => mpp 74 rfl ?_)
          obtain ⟨⟨x44, rfl, g45⟩, e46⟩ := g43
          have e46 := e46.symm
          subst e46
          have wx44 := ti_full x44
          show MEvP _ none q_28 74 [(4, .ref b5), (0, .ref 0), (1, .int t1), (2, .int t2), (3, .int t3)] [.int x44] _ _ _ _
          refine mp_a (a_istore (L' := [(5, .int x44), (4, .ref b5), (0, .ref 0), (1, .int t1), (2, .int t2), (3, .int t3)]) dX6_mark_74 (by decide) rfl) (mpp 76 rfl ?_)
          refine mp_a (a_aload dX6_mark_76 rfl) (mpp 78 rfl ?_)
          refine mt_getE (i := 108) (k := 4) hT35 dX6_mark_78 rfl q6 (by decide) rfl (by decide) rfl ((KW.xr k38 hX).1 b5 (Or.inr q6)).2 (fun q47 => mpp 81 rfl ?_)
          refine mp_a (a_iload_n dX6_mark_81 rfl) (mpp 82 rfl ?_)
          refine mp_a (a_iload_n dX6_mark_82 rfl) (mpp 83 rfl ?_)
          refine mp_calls (i := 116) (q' := q_22) (As := [.ref (b5 + 2), .int t2, .int t3]) (rest := []) dX6_mark_83 rfl qm_22 (by decide) rfl (Nat.le_of_ble_eq_true rfl) rfl ⟨rfl, rfl⟩ ⟨Nat.le_of_ble_eq_true rfl, Nat.le_of_ble_eq_true rfl⟩ (EvP.mono (by decide) (c_F_put_creases hT35 (KW.xr k38 hX) q47)) (fun r48 P49 g50 => mpp 86 rfl ?_)
          obtain ⟨⟨rfl, g52⟩, hT53, k54, R55⟩ := g50
          have k56 : KW [10, 11, 12, 65, 66, 67, 192, 193, 194, 256, 320, 385, 386] Po P49 := KW.trans k38 k54 rfl
          have J58 := Inj.kw J39 k54 rfl
          show MEvP _ none q_28 86 [(5, .int x44), (4, .ref b5), (0, .ref 0), (1, .int t1), (2, .int t2), (3, .int t3)] [] _ _ _ _
          refine mp_a (a_iload dX6_mark_86 rfl) (mpp 88 rfl ?_)
          exact mp_iret ⟨⟨_, rfl, trivial⟩, hT53, k56, J58, trivial⟩ dX6_mark_88 (Or.inl rfl)
        · have c29 : (fv Po b5 2).toInt ≠ 0 := ti_eq_n c29
          refine mp_a (a_aload_n dX6_mark_47 rfl) (mpp 48 rfl ?_)
          refine mp_a (a_iconst (v := 2) dX6_mark_48 rfl) (mpp 49 rfl ?_)
          refine mp_a (a_iload_n dX6_mark_49 rfl) (mpp 50 rfl ?_)
          refine mt_callv (i := 68) (q' := q_14) (As := [.int 2, .int t1]) (rest := []) hT dX6_mark_50 rfl qm_14 (by decide) rfl rl_0 (by decide) rfl (Nat.le_of_ble_eq_true rfl) rfl ⟨rfl, rfl⟩ ⟨Nat.le_of_ble_eq_true rfl, Nat.le_of_ble_eq_true rfl⟩ (EvP.mono (by decide) (c_F_refuse hT hX )) (fun r59 P60 g61 => mpp 53 rfl ?_)
          obtain ⟨⟨x62, rfl, g63⟩, hT64, k65, R66⟩ := g61
          have k67 : KW [10, 11, 12, 65, 66, 67, 192, 193, 194, 256, 320, 385, 386] Po P60 := KW.trans KW.refl k65 rfl
          have J69 := Inj.kw hJ k65 rfl
          have wx62 := ti_full x62
          show MEvP _ none q_28 53 [(4, .ref b5), (0, .ref 0), (1, .int t1), (2, .int t2), (3, .int t3)] [.int x62] _ _ _ _
          exact mp_iret ⟨⟨_, rfl, trivial⟩, hT64, k67, J69, trivial⟩ dX6_mark_53 (Or.inl rfl)
      · have c25 : x22.toInt = 0 := ti_ne_n c25
        refine mp_a (a_sipush (v := -1002) dX6_mark_35 rfl) (mpp 38 rfl ?_)
        exact mp_iret ⟨⟨_, rfl, trivial⟩, hT, KW.refl, hJ, trivial⟩ dX6_mark_38 (Or.inl rfl)
    · have c18 : x13.toInt = 0 := ti_ne_n c18
      refine mp_a (a_sipush (v := -1001) dX6_mark_24 rfl) (mpp 27 rfl ?_)
      exact mp_iret ⟨⟨_, rfl, trivial⟩, hT, KW.refl, hJ, trivial⟩ dX6_mark_27 (Or.inl rfl)

set_option maxHeartbeats 4000000 in
theorem c_CP_turnOver_NPiece_l2 {Po : mP} {a0_ : Nat} (hTo : Typ Po) (hX : XR Po) (ha0 : rl a0_ = 33) : ∀ (n : Nat) (v1 : Int32), ∀ (P : mP), Typ P → KW [320] Po P → (0 ≤ v1.toInt) → (2147483647 - v1.toInt).toNat = n → MEvP 1 none q_31 2 [(0, .ref a0_), (1, .int v1)] [] P 0 0 (fun r P' => (r = none ∧ (True)) ∧ Typ P' ∧ KW [320] Po P' ∧ True) := by
  intro n
  induction n using Nat.strongRecOn with | _ n ih => ?_
  intro v1 P hT hK i_0 hm
  have w1 := np_ar ha0
  have w_v1 := ti_full v1
  refine mp_a (a_iload_n dX2_turnOver_2 rfl) (mpp 3 rfl ?_)
  refine mp_a (a_aload_n dX2_turnOver_3 rfl) (mpp 4 rfl ?_)
  refine mt_callv (i := 37) (q' := q_25) (As := []) (rest := [.int v1]) hT dX2_turnOver_4 rfl qm_25 (by decide) rfl ha0 (by decide) rfl (Nat.le_of_ble_eq_true rfl) rfl ⟨rfl, rfl⟩ ⟨Nat.le_of_ble_eq_true rfl, Nat.le_of_ble_eq_true rfl⟩ (EvP.mono (by decide) (c_CP_creaseCount_NPiece hT (KW.xr hK hX) ha0)) (fun r2 P3 g4 => mpp 7 rfl ?_)
  obtain ⟨⟨x5, rfl, g6⟩, e7⟩ := g4
  have e7 := e7.symm
  subst e7
  have wx5 := ti_full x5
  have g6 : -1 ≤ x5.toInt ∧ x5.toInt ≤ (fv P a0_ 1).toInt ∧ (((fv P a0_ 0).toInt = 0 ∧ x5.toInt = (fv P a0_ 1).toInt - 1) ∨ ((fv P a0_ 0).toInt ≠ 0 ∧ x5.toInt = (fv P a0_ 1).toInt)) := g6
  have g8 : (0 : Int) ≤ (fv P a0_ 1).toInt ∧ (fv P a0_ 1).toInt ≤ 8 := Typ.rng hT ha0 (by decide) (by decide) rfl
  have g9 := ti_full (fv P a0_ 0)
  show MEvP _ none q_31 7 [(0, .ref a0_), (1, .int v1)] [.int x5, .int v1] _ _ _ _
  refine mp_Tb (t := 47) (j_icmp_ge dX2_turnOver_7) (by decide) (fun c10 => ?_) (fun c10 => mpp 10 rfl ?_)
  · have c10 : v1.toInt ≥ x5.toInt := ti_ge c10
    exact mp_ret ⟨⟨rfl, trivial⟩, hT, hK, trivial⟩ dX2_turnOver_47 rfl
  · have c10 : v1.toInt < x5.toInt := ti_ge_n c10
    refine mp_a (a_aload_n dX2_turnOver_10 rfl) (mpp 11 rfl ?_)
    refine mt_getE (i := 15) (k := 4) hT dX2_turnOver_11 rfl ha0 (by decide) rfl (by decide) rfl ((KW.xr hK hX).1 a0_ (Or.inr ha0)).2 (fun q11 => mpp 14 rfl ?_)
    refine mp_a (a_iload_n dX2_turnOver_14 rfl) (mpp 15 rfl ?_)
    refine mp_calls (i := 48) (q' := q_12) (As := [.ref (a0_ + 2), .int v1]) (rest := []) dX2_turnOver_15 rfl qm_12 (by decide) rfl (Nat.le_of_ble_eq_true rfl) rfl ⟨rfl, rfl⟩ ⟨Nat.le_of_ble_eq_true rfl, Nat.le_of_ble_eq_true rfl⟩ (EvP.mono (by decide) (c_F_at_creases hT (KW.xr hK hX) q11)) (fun r12 P13 g14 => mpp 18 rfl ?_)
    obtain ⟨⟨x15, rfl, g16⟩, e17⟩ := g14
    have e17 := e17.symm
    subst e17
    have wx15 := ti_full x15
    show MEvP _ none q_31 18 [(0, .ref a0_), (1, .int v1)] [.int x15] _ _ _ _
    refine mp_a (a_istore_n (L' := [(2, .int x15), (0, .ref a0_), (1, .int v1)]) dX2_turnOver_18 (by decide) rfl) (mpp 19 rfl ?_)
    refine mp_a (a_iload_n dX2_turnOver_19 rfl) (mpp 20 rfl ?_)
    refine mp_Tb (t := 41) (j_if_eq dX2_turnOver_20) (by decide) (fun c18 => ?_) (fun c18 => mpp 23 rfl ?_)
    · have c18 : x15.toInt = 0 := ti_eq c18
      obtain ⟨z19, h20⟩ := ti_ex (v1 + 1 : Int32)
      have wz19 := ti_full z19
      refine mp_a (a_iinc (v := z19) (L' := [(1, .int z19), (2, .int x15), (0, .ref a0_)]) dX2_turnOver_41 (by decide) rfl h20 rfl) (mpp 44 rfl ?_)
      try have e21 : z19.toInt = v1.toInt + 1 := ti_addz h20 rfl rfl (by omega) (by omega)
      refine mp_a (a_goto (t := 2) dX2_turnOver_44 (by decide)) ?_
      refine MEvP.less (L := [(0, .ref a0_), (1, .int z19)]) rfl rfl ⟨rfl, rfl, trivial⟩ ?_
      have i22 : 0 ≤ z19.toInt := by omega
      exact ih _ (by omega) _ P hT hK i22 rfl
    · have c18 : x15.toInt ≠ 0 := ti_eq_n c18
      refine mp_a (a_aload_n dX2_turnOver_23 rfl) (mpp 24 rfl ?_)
      refine mt_getE (i := 15) (k := 4) hT dX2_turnOver_24 rfl ha0 (by decide) rfl (by decide) rfl ((KW.xr hK hX).1 a0_ (Or.inr ha0)).2 (fun q23 => mpp 27 rfl ?_)
      refine mp_a (a_iload_n dX2_turnOver_27 rfl) (mpp 28 rfl ?_)
      refine mp_a (a_iload_n dX2_turnOver_28 rfl) (mpp 29 rfl ?_)
      refine mp_a (a_iconst (v := 1) dX2_turnOver_29 rfl) (mpp 30 rfl ?_)
      refine mp_Tb (t := 37) (j_icmp_ne dX2_turnOver_30) (by decide) (fun c24 => ?_) (fun c24 => mpp 33 rfl ?_)
      · have c24 : x15.toInt ≠ 1 := ti_ne c24
        refine mp_a (a_iconst (v := 1) dX2_turnOver_37 rfl) (mpp 38 rfl ?_)
        refine mp_calls (i := 29) (q' := q_22) (As := [.ref (a0_ + 2), .int v1, .int 1]) (rest := []) dX2_turnOver_38 rfl qm_22 (by decide) rfl (Nat.le_of_ble_eq_true rfl) rfl ⟨rfl, rfl⟩ ⟨Nat.le_of_ble_eq_true rfl, Nat.le_of_ble_eq_true rfl⟩ (EvP.mono (by decide) (c_F_put_creases hT (KW.xr hK hX) q23)) (fun r25 P26 g27 => mpp 41 rfl ?_)
        obtain ⟨⟨rfl, g29⟩, hT30, k31, R32⟩ := g27
        have k33 : KW [320] Po P26 := KW.trans hK k31 rfl
        show MEvP _ none q_31 41 [(2, .int x15), (0, .ref a0_), (1, .int v1)] [] _ _ _ _
        obtain ⟨z35, h36⟩ := ti_ex (v1 + 1 : Int32)
        have wz35 := ti_full z35
        refine mp_a (a_iinc (v := z35) (L' := [(1, .int z35), (2, .int x15), (0, .ref a0_)]) dX2_turnOver_41 (by decide) rfl h36 rfl) (mpp 44 rfl ?_)
        try have e37 : z35.toInt = v1.toInt + 1 := ti_addz h36 rfl rfl (by omega) (by omega)
        refine mp_a (a_goto (t := 2) dX2_turnOver_44 (by decide)) ?_
        refine MEvP.less (L := [(0, .ref a0_), (1, .int z35)]) rfl rfl ⟨rfl, rfl, trivial⟩ ?_
        have i38 : 0 ≤ z35.toInt := by omega
        exact ih _ (by omega) _ P26 hT30 k33 i38 rfl
      · have c24 : x15.toInt = 1 := ti_ne_n c24
        refine mp_a (a_iconst (v := 2) dX2_turnOver_33 rfl) (mpp 34 rfl ?_)
        refine mp_a (a_goto (t := 38) dX2_turnOver_34 (by decide)) ?_
        refine mp_calls (i := 29) (q' := q_22) (As := [.ref (a0_ + 2), .int v1, .int 2]) (rest := []) dX2_turnOver_38 rfl qm_22 (by decide) rfl (Nat.le_of_ble_eq_true rfl) rfl ⟨rfl, rfl⟩ ⟨Nat.le_of_ble_eq_true rfl, Nat.le_of_ble_eq_true rfl⟩ (EvP.mono (by decide) (c_F_put_creases hT (KW.xr hK hX) q23)) (fun r39 P40 g41 => mpp 41 rfl ?_)
        obtain ⟨⟨rfl, g43⟩, hT44, k45, R46⟩ := g41
        have k47 : KW [320] Po P40 := KW.trans hK k45 rfl
        show MEvP _ none q_31 41 [(2, .int x15), (0, .ref a0_), (1, .int v1)] [] _ _ _ _
        obtain ⟨z49, h50⟩ := ti_ex (v1 + 1 : Int32)
        have wz49 := ti_full z49
        refine mp_a (a_iinc (v := z49) (L' := [(1, .int z49), (2, .int x15), (0, .ref a0_)]) dX2_turnOver_41 (by decide) rfl h50 rfl) (mpp 44 rfl ?_)
        try have e51 : z49.toInt = v1.toInt + 1 := ti_addz h50 rfl rfl (by omega) (by omega)
        refine mp_a (a_goto (t := 2) dX2_turnOver_44 (by decide)) ?_
        refine MEvP.less (L := [(0, .ref a0_), (1, .int z49)]) rfl rfl ⟨rfl, rfl, trivial⟩ ?_
        have i52 : 0 ≤ z49.toInt := by omega
        exact ih _ (by omega) _ P40 hT44 k47 i52 rfl

set_option maxHeartbeats 4000000 in
theorem c_CP_turnOver_NPiece {Po : mP} {a0_ : Nat} (hT : Typ Po) (hX : XR Po)  (ha0 : rl a0_ = 33) : EvP 2 31 [.ref a0_] Po (fun r P' => (r = none ∧ (True)) ∧ Typ P' ∧ KW [320] Po P' ∧ True) := by
  refine EvP.of qm_31 (Nat.le_of_ble_eq_true rfl) rfl ?_
  show MEvP _ none q_31 0 [(0, .ref a0_)] [] _ 0 0 _
  have w1 := np_ar ha0
  refine mp_a (a_iconst (v := 0) dX2_turnOver_0 rfl) (mpp 1 rfl ?_)
  refine mp_a (a_istore_n (L' := [(1, .int 0), (0, .ref a0_)]) dX2_turnOver_1 (by decide) rfl) (mpp 2 rfl ?_)
  refine MEvP.less (L := [(0, .ref a0_), (1, .int 0)]) rfl rfl ⟨rfl, rfl, trivial⟩ ?_
  have i2 : 0 ≤ (0 : Int) := by omega
  exact c_CP_turnOver_NPiece_l2 hT hX  ha0 _ _ Po hT KW.refl i2 rfl

set_option maxHeartbeats 4000000 in
theorem c_CP_countOf_NPiece_l4 {Po : mP} {a0_ : Nat} {t1 : Int32} (hT : Typ Po) (hX : XR Po)  (ha0 : rl a0_ = 33) : ∀ (n : Nat) (v2 : Int32) (v3 : Int32), (0 ≤ v2.toInt) → (v2.toInt ≤ v3.toInt) → (v3.toInt ≤ 8) → (0 ≤ v3.toInt) → (2147483647 - v3.toInt).toNat = n → MEvP 1 none q_32 4 [(0, .ref a0_), (1, .int t1), (2, .int v2), (3, .int v3)] [] Po 0 0 (fun r P' => (∃ x : Int32, r = some (.int x) ∧ (0 ≤ x.toInt ∧ x.toInt ≤ 8)) ∧ P' = Po) := by
  intro n
  induction n using Nat.strongRecOn with | _ n ih => ?_
  intro v2 v3 i_0 i_1 i_2 i_3 hm
  have w1 := np_ar ha0
  have w_t1 := ti_full t1
  have w_v2 := ti_full v2
  have w_v3 := ti_full v3
  refine mp_a (a_iload_n dX2_countOf_4 rfl) (mpp 5 rfl ?_)
  refine mp_a (a_aload_n dX2_countOf_5 rfl) (mpp 6 rfl ?_)
  refine mt_callv (i := 37) (q' := q_25) (As := []) (rest := [.int v3]) hT dX2_countOf_6 rfl qm_25 (by decide) rfl ha0 (by decide) rfl (Nat.le_of_ble_eq_true rfl) rfl ⟨rfl, rfl⟩ ⟨Nat.le_of_ble_eq_true rfl, Nat.le_of_ble_eq_true rfl⟩ (EvP.mono (by decide) (c_CP_creaseCount_NPiece hT hX ha0)) (fun r2 P3 g4 => mpp 9 rfl ?_)
  obtain ⟨⟨x5, rfl, g6⟩, e7⟩ := g4
  have e7 := e7.symm
  subst e7
  have wx5 := ti_full x5
  have g6 : -1 ≤ x5.toInt ∧ x5.toInt ≤ (fv Po a0_ 1).toInt ∧ (((fv Po a0_ 0).toInt = 0 ∧ x5.toInt = (fv Po a0_ 1).toInt - 1) ∨ ((fv Po a0_ 0).toInt ≠ 0 ∧ x5.toInt = (fv Po a0_ 1).toInt)) := g6
  have g8 : (0 : Int) ≤ (fv Po a0_ 1).toInt ∧ (fv Po a0_ 1).toInt ≤ 8 := Typ.rng hT ha0 (by decide) (by decide) rfl
  have g9 := ti_full (fv Po a0_ 0)
  show MEvP _ none q_32 9 [(0, .ref a0_), (1, .int t1), (2, .int v2), (3, .int v3)] [.int x5, .int v3] _ _ _ _
  refine mp_Tb (t := 33) (j_icmp_ge dX2_countOf_9) (by decide) (fun c10 => ?_) (fun c10 => mpp 12 rfl ?_)
  · have c10 : v3.toInt ≥ x5.toInt := ti_ge c10
    refine mp_a (a_iload_n dX2_countOf_33 rfl) (mpp 34 rfl ?_)
    have u11 : 0 ≤ v2.toInt ∧ v2.toInt ≤ 8 := by omega
    exact mp_iret ⟨⟨_, rfl, u11⟩, rfl⟩ dX2_countOf_34 (Or.inl rfl)
  · have c10 : v3.toInt < x5.toInt := ti_ge_n c10
    refine mp_a (a_aload_n dX2_countOf_12 rfl) (mpp 13 rfl ?_)
    refine mt_getE (i := 15) (k := 4) hT dX2_countOf_13 rfl ha0 (by decide) rfl (by decide) rfl (hX.1 a0_ (Or.inr ha0)).2 (fun q12 => mpp 16 rfl ?_)
    refine mp_a (a_iload_n dX2_countOf_16 rfl) (mpp 17 rfl ?_)
    refine mp_calls (i := 48) (q' := q_12) (As := [.ref (a0_ + 2), .int v3]) (rest := []) dX2_countOf_17 rfl qm_12 (by decide) rfl (Nat.le_of_ble_eq_true rfl) rfl ⟨rfl, rfl⟩ ⟨Nat.le_of_ble_eq_true rfl, Nat.le_of_ble_eq_true rfl⟩ (EvP.mono (by decide) (c_F_at_creases hT hX q12)) (fun r13 P14 g15 => mpp 20 rfl ?_)
    obtain ⟨⟨x16, rfl, g17⟩, e18⟩ := g15
    have e18 := e18.symm
    subst e18
    have wx16 := ti_full x16
    show MEvP _ none q_32 20 [(0, .ref a0_), (1, .int t1), (2, .int v2), (3, .int v3)] [.int x16] _ _ _ _
    refine mp_a (a_iload_n dX2_countOf_20 rfl) (mpp 21 rfl ?_)
    refine mp_Tb (t := 27) (j_icmp_ne dX2_countOf_21) (by decide) (fun c19 => ?_) (fun c19 => mpp 24 rfl ?_)
    · have c19 : x16.toInt ≠ t1.toInt := ti_ne c19
      obtain ⟨z20, h21⟩ := ti_ex (v3 + 1 : Int32)
      have wz20 := ti_full z20
      refine mp_a (a_iinc (v := z20) (L' := [(3, .int z20), (0, .ref a0_), (1, .int t1), (2, .int v2)]) dX2_countOf_27 (by decide) rfl h21 rfl) (mpp 30 rfl ?_)
      try have e22 : z20.toInt = v3.toInt + 1 := ti_addz h21 rfl rfl (by omega) (by omega)
      refine mp_a (a_goto (t := 4) dX2_countOf_30 (by decide)) ?_
      refine MEvP.less (L := [(0, .ref a0_), (1, .int t1), (2, .int v2), (3, .int z20)]) rfl rfl ⟨rfl, rfl, rfl, rfl, trivial⟩ ?_
      have i23 : 0 ≤ v2.toInt := by omega
      have i24 : v2.toInt ≤ z20.toInt := by omega
      have i25 : z20.toInt ≤ 8 := by omega
      have i26 : 0 ≤ z20.toInt := by omega
      exact ih _ (by omega) _ _ i23 i24 i25 i26 rfl
    · have c19 : x16.toInt = t1.toInt := ti_ne_n c19
      obtain ⟨z27, h28⟩ := ti_ex (v2 + 1 : Int32)
      have wz27 := ti_full z27
      refine mp_a (a_iinc (v := z27) (L' := [(2, .int z27), (0, .ref a0_), (1, .int t1), (3, .int v3)]) dX2_countOf_24 (by decide) rfl h28 rfl) (mpp 27 rfl ?_)
      try have e29 : z27.toInt = v2.toInt + 1 := ti_addz h28 rfl rfl (by omega) (by omega)
      obtain ⟨z30, h31⟩ := ti_ex (v3 + 1 : Int32)
      have wz30 := ti_full z30
      refine mp_a (a_iinc (v := z30) (L' := [(3, .int z30), (2, .int z27), (0, .ref a0_), (1, .int t1)]) dX2_countOf_27 (by decide) rfl h31 rfl) (mpp 30 rfl ?_)
      try have e32 : z30.toInt = v3.toInt + 1 := ti_addz h31 rfl rfl (by omega) (by omega)
      refine mp_a (a_goto (t := 4) dX2_countOf_30 (by decide)) ?_
      refine MEvP.less (L := [(0, .ref a0_), (1, .int t1), (2, .int z27), (3, .int z30)]) rfl rfl ⟨rfl, rfl, rfl, rfl, trivial⟩ ?_
      have i33 : 0 ≤ z27.toInt := by omega
      have i34 : z27.toInt ≤ z30.toInt := by omega
      have i35 : z30.toInt ≤ 8 := by omega
      have i36 : 0 ≤ z30.toInt := by omega
      exact ih _ (by omega) _ _ i33 i34 i35 i36 rfl

set_option maxHeartbeats 4000000 in
theorem c_CP_countOf_NPiece {Po : mP} {a0_ : Nat} {t1 : Int32} (hT : Typ Po) (hX : XR Po)  (ha0 : rl a0_ = 33) : EvP 2 32 [.ref a0_, .int t1] Po (fun r P' => (∃ x : Int32, r = some (.int x) ∧ (0 ≤ x.toInt ∧ x.toInt ≤ 8)) ∧ P' = Po) := by
  refine EvP.of qm_32 (Nat.le_of_ble_eq_true rfl) rfl ?_
  show MEvP _ none q_32 0 [(0, .ref a0_), (1, .int t1)] [] _ 0 0 _
  have w1 := np_ar ha0
  refine mp_a (a_iconst (v := 0) dX2_countOf_0 rfl) (mpp 1 rfl ?_)
  refine mp_a (a_istore_n (L' := [(2, .int 0), (0, .ref a0_), (1, .int t1)]) dX2_countOf_1 (by decide) rfl) (mpp 2 rfl ?_)
  refine mp_a (a_iconst (v := 0) dX2_countOf_2 rfl) (mpp 3 rfl ?_)
  refine mp_a (a_istore_n (L' := [(3, .int 0), (2, .int 0), (0, .ref a0_), (1, .int t1)]) dX2_countOf_3 (by decide) rfl) (mpp 4 rfl ?_)
  refine MEvP.less (L := [(0, .ref a0_), (1, .int t1), (2, .int 0), (3, .int 0)]) rfl rfl ⟨rfl, rfl, rfl, rfl, trivial⟩ ?_
  have i2 : 0 ≤ (0 : Int) := by omega
  have i3 : (0 : Int) ≤ (0 : Int) := by omega
  have i4 : (0 : Int) ≤ 8 := by omega
  have i5 : 0 ≤ (0 : Int) := by omega
  exact c_CP_countOf_NPiece_l4 hT hX  ha0 _ _ _ i2 i3 i4 i5 rfl

set_option maxHeartbeats 4000000 in
theorem c_F_turn {Po : mP} {t1 : Int32} (hT : Typ Po) (hX : XR Po)  (hJ : Inj Po)  : EvP 5 30 [.ref 0, .int t1] Po (fun r P' => (∃ x : Int32, r = some (.int x) ∧ (True)) ∧ Typ P' ∧ KW [10, 11, 12, 65, 66, 67, 192, 193, 194, 256, 320, 385, 386] Po P' ∧ Inj P' ∧ True) := by
  refine EvP.of qm_30 (Nat.le_of_ble_eq_true rfl) rfl ?_
  show MEvP _ none q_30 0 [(0, .ref 0), (1, .int t1)] [] _ 0 0 _
  refine mp_a (a_aload_n dX6_turn_0 rfl) (mpp 1 rfl ?_)
  refine mt_getU (i := 10) (k := 0) (A := 1) hT dX6_turn_1 rfl rl_0 (by decide) rfl (by decide) rfl un_31 (mpp 4 rfl ?_)
  refine mp_a (a_iload_n dX6_turn_4 rfl) (mpp 5 rfl ?_)
  refine mt_callv (i := 94) (q' := q_9) (As := [.int t1]) (rest := []) hT dX6_turn_5 rfl qm_9 (by decide) rfl rl_1 (by decide) rfl (Nat.le_of_ble_eq_true rfl) rfl ⟨rfl, rfl⟩ ⟨Nat.le_of_ble_eq_true rfl, Nat.le_of_ble_eq_true rfl⟩ (EvP.mono (by decide) (c_CS_pieceAt_NState hT hX )) (fun r1 P2 g3 => mpp 8 rfl ?_)
  obtain ⟨g3, e4⟩ := g3
  have e4 := e4.symm
  subst e4
  rcases g3 with ⟨rfl, q6n⟩ | ⟨b5, rfl, q6, q6r⟩
  · show MEvP _ none q_30 8 [(0, .ref 0), (1, .int t1)] [.null] _ _ _ _
    have q6n : t1.toInt < 0 ∨ (fv Po 1 1).toInt ≤ t1.toInt ∨ 8 ≤ t1.toInt := q6n
    have g7 : (0 : Int) ≤ (fv Po 1 1).toInt ∧ (fv Po 1 1).toInt ≤ 8 := Typ.rng hT rl_1 (by decide) (by decide) rfl
    refine mp_a (a_astore_nN (L' := [(2, .null), (0, .ref 0), (1, .int t1)]) dX6_turn_8 (by decide) rfl) (mpp 9 rfl ?_)
    refine mp_a (a_aload_nN dX6_turn_9 rfl) (mpp 10 rfl ?_)
    refine mp_t (s_ifnonnullN dX6_turn_10) (mpp 13 rfl ?_)
    refine mp_a (a_sipush (v := -1001) dX6_turn_13 rfl) (mpp 16 rfl ?_)
    exact mp_iret ⟨⟨_, rfl, trivial⟩, hT, KW.refl, hJ, trivial⟩ dX6_turn_16 (Or.inl rfl)
  · show MEvP _ none q_30 8 [(0, .ref 0), (1, .int t1)] [.ref b5] _ _ _ _
    have q6r : 0 ≤ t1.toInt ∧ t1.toInt ≤ 7 ∧ t1.toInt + 1 ≤ (fv Po 1 1).toInt ∧ rv Po 2 t1.toInt.toNat = b5 := q6r
    have g8 : (0 : Int) ≤ (fv Po 1 1).toInt ∧ (fv Po 1 1).toInt ≤ 8 := Typ.rng hT rl_1 (by decide) (by decide) rfl
    have w9 := np_ar q6
    refine mp_a (a_astore_n (L' := [(2, .ref b5), (0, .ref 0), (1, .int t1)]) dX6_turn_8 (by decide) rfl) (mpp 9 rfl ?_)
    refine mp_a (a_aload_n dX6_turn_9 rfl) (mpp 10 rfl ?_)
    refine mp_t (s_ifnonnullR (t := 17) dX6_turn_10 (by decide)) ?_
    refine mp_a (a_aload_n dX6_turn_17 rfl) (mpp 18 rfl ?_)
    have g10 : (0 : Int) ≤ (fv Po b5 2).toInt ∧ (fv Po b5 2).toInt ≤ 1 := Typ.rng hT q6 (by decide) (by decide) rfl
    refine mt_getI (i := 104) (k := 2) hT dX6_turn_18 rfl q6 (by decide) rfl (by decide) rfl (fun g11 g12 => mpp 21 rfl ?_)
    refine mp_Tb (t := 31) (j_if_eq dX6_turn_21) (by decide) (fun c13 => ?_) (fun c13 => mpp 24 rfl ?_)
    · have c13 : (fv Po b5 2).toInt = 0 := ti_eq c13
      refine mp_a (a_aload_n dX6_turn_31 rfl) (mpp 32 rfl ?_)
      refine mt_getU (i := 25) (k := 3) (A := 79) hT dX6_turn_32 rfl rl_0 (by decide) rfl (by decide) rfl un_6 (mpp 35 rfl ?_)
      refine mp_a (a_aload_n dX6_turn_35 rfl) (mpp 36 rfl ?_)
      refine mt_getU (i := 10) (k := 0) (A := 1) hT dX6_turn_36 rfl rl_0 (by decide) rfl (by decide) rfl un_31 (mpp 39 rfl ?_)
      refine mt_callv (i := 72) (q' := q_15) (As := [.ref 1]) (rest := []) hT dX6_turn_39 rfl qm_15 (by decide) rfl rl_79 (by decide) rfl (Nat.le_of_ble_eq_true rfl) rfl ⟨rfl, rfl⟩ ⟨Nat.le_of_ble_eq_true rfl, Nat.le_of_ble_eq_true rfl⟩ (EvP.mono (by decide) (c_CH_push_History_NState hT hX hJ )) (fun r14 P15 g16 => mpp 42 rfl ?_)
      obtain ⟨⟨rfl, g18⟩, hT19, k20, J23, R21⟩ := g16
      have k22 : KW [10, 11, 12, 65, 66, 67, 192, 193, 194, 256, 320, 385, 386] Po P15 := KW.trans KW.refl k20 rfl
      show MEvP _ none q_30 42 [(2, .ref b5), (0, .ref 0), (1, .int t1)] [] _ _ _ _
      refine mp_a (a_aload_n dX6_turn_42 rfl) (mpp 43 rfl ?_)
      refine mt_callv (i := 120) (q' := q_31) (As := []) (rest := []) hT19 dX6_turn_43 rfl qm_31 (by decide) rfl q6 (by decide) rfl (Nat.le_of_ble_eq_true rfl) rfl ⟨rfl, rfl⟩ ⟨Nat.le_of_ble_eq_true rfl, Nat.le_of_ble_eq_true rfl⟩ (EvP.mono (by decide) (c_CP_turnOver_NPiece hT19 (KW.xr k22 hX) q6)) (fun r24 P25 g26 => mpp 46 rfl ?_)
      obtain ⟨⟨rfl, g28⟩, hT29, k30, R31⟩ := g26
      have k32 : KW [10, 11, 12, 65, 66, 67, 192, 193, 194, 256, 320, 385, 386] Po P25 := KW.trans k22 k30 rfl
      have J34 := Inj.kw J23 k30 rfl
      show MEvP _ none q_30 46 [(2, .ref b5), (0, .ref 0), (1, .int t1)] [] _ _ _ _
      refine mp_a (a_aload_n dX6_turn_46 rfl) (mpp 47 rfl ?_)
      refine mt_callv (i := 123) (q' := q_25) (As := []) (rest := []) hT29 dX6_turn_47 rfl qm_25 (by decide) rfl q6 (by decide) rfl (Nat.le_of_ble_eq_true rfl) rfl ⟨rfl, rfl⟩ ⟨Nat.le_of_ble_eq_true rfl, Nat.le_of_ble_eq_true rfl⟩ (EvP.mono (by decide) (c_CP_creaseCount_NPiece hT29 (KW.xr k32 hX) q6)) (fun r35 P36 g37 => mpp 50 rfl ?_)
      obtain ⟨⟨x38, rfl, g39⟩, e40⟩ := g37
      have e40 := e40.symm
      subst e40
      have wx38 := ti_full x38
      have g39 : -1 ≤ x38.toInt ∧ x38.toInt ≤ (fv P25 b5 1).toInt ∧ (((fv P25 b5 0).toInt = 0 ∧ x38.toInt = (fv P25 b5 1).toInt - 1) ∨ ((fv P25 b5 0).toInt ≠ 0 ∧ x38.toInt = (fv P25 b5 1).toInt)) := g39
      have g41 : (0 : Int) ≤ (fv P25 b5 1).toInt ∧ (fv P25 b5 1).toInt ≤ 8 := Typ.rng hT29 q6 (by decide) (by decide) rfl
      have g42 := ti_full (fv P25 b5 0)
      show MEvP _ none q_30 50 [(2, .ref b5), (0, .ref 0), (1, .int t1)] [.int x38] _ _ _ _
      refine mp_a (a_aload_n dX6_turn_50 rfl) (mpp 51 rfl ?_)
      refine mp_a (a_iconst (v := 0) dX6_turn_51 rfl) (mpp 52 rfl ?_)
      refine mt_callv (i := 126) (q' := q_32) (As := [.int 0]) (rest := [.int x38]) hT29 dX6_turn_52 rfl qm_32 (by decide) rfl q6 (by decide) rfl (Nat.le_of_ble_eq_true rfl) rfl ⟨rfl, rfl⟩ ⟨Nat.le_of_ble_eq_true rfl, Nat.le_of_ble_eq_true rfl⟩ (EvP.mono (by decide) (c_CP_countOf_NPiece hT29 (KW.xr k32 hX) q6)) (fun r43 P44 g45 => mpp 55 rfl ?_)
      obtain ⟨⟨x46, rfl, g47⟩, e48⟩ := g45
      have e48 := e48.symm
      subst e48
      have wx46 := ti_full x46
      have g47 : 0 ≤ x46.toInt ∧ x46.toInt ≤ 8 := g47
      show MEvP _ none q_30 55 [(2, .ref b5), (0, .ref 0), (1, .int t1)] [.int x46, .int x38] _ _ _ _
      obtain ⟨z49, h50⟩ := ti_ex (x38 - x46 : Int32)
      have wz49 := ti_full z49
      refine mp_t (s_isub (v := z49) dX6_turn_55 h50) (mpp 56 rfl ?_)
      try have e51 : z49.toInt = x38.toInt - x46.toInt := ti_subz h50 rfl rfl (by omega) (by omega)
      exact mp_iret ⟨⟨_, rfl, trivial⟩, hT29, k32, J34, trivial⟩ dX6_turn_56 (Or.inl rfl)
    · have c13 : (fv Po b5 2).toInt ≠ 0 := ti_eq_n c13
      refine mp_a (a_aload_n dX6_turn_24 rfl) (mpp 25 rfl ?_)
      refine mp_a (a_iconst (v := 2) dX6_turn_25 rfl) (mpp 26 rfl ?_)
      refine mp_a (a_iload_n dX6_turn_26 rfl) (mpp 27 rfl ?_)
      refine mt_callv (i := 68) (q' := q_14) (As := [.int 2, .int t1]) (rest := []) hT dX6_turn_27 rfl qm_14 (by decide) rfl rl_0 (by decide) rfl (Nat.le_of_ble_eq_true rfl) rfl ⟨rfl, rfl⟩ ⟨Nat.le_of_ble_eq_true rfl, Nat.le_of_ble_eq_true rfl⟩ (EvP.mono (by decide) (c_F_refuse hT hX )) (fun r52 P53 g54 => mpp 30 rfl ?_)
      obtain ⟨⟨x55, rfl, g56⟩, hT57, k58, R59⟩ := g54
      have k60 : KW [10, 11, 12, 65, 66, 67, 192, 193, 194, 256, 320, 385, 386] Po P53 := KW.trans KW.refl k58 rfl
      have J62 := Inj.kw hJ k58 rfl
      have wx55 := ti_full x55
      show MEvP _ none q_30 30 [(2, .ref b5), (0, .ref 0), (1, .int t1)] [.int x55] _ _ _ _
      exact mp_iret ⟨⟨_, rfl, trivial⟩, hT57, k60, J62, trivial⟩ dX6_turn_30 (Or.inl rfl)

set_option maxHeartbeats 4000000 in
theorem c_CP_becomeRotated_NPiece_Piece_l2 {Po : mP} {a0_ : Nat} {a1_ : Nat} {t2 : Int32} (hTo : Typ Po) (hX : XR Po) (ha0 : rl a0_ = 33) (ha1 : rl a1_ = 3) : ∀ (n : Nat) (v3 : Int32), ∀ (P : mP), Typ P → KW [256, 320] Po P → (0 ≤ v3.toInt) → (2147483647 - v3.toInt).toNat = n → MEvP 1 none q_34 2 [(0, .ref a0_), (1, .ref a1_), (2, .int t2), (3, .int v3)] [] P 0 0 (fun r P' => (r = none ∧ (True)) ∧ Typ P' ∧ KW [256, 320] Po P' ∧ True) := by
  intro n
  induction n using Nat.strongRecOn with | _ n ih => ?_
  intro v3 P hT hK i_0 hm
  have w1 := np_ar ha0
  have w2 := pc_ar ha1
  have w_t2 := ti_full t2
  have w_v3 := ti_full v3
  refine mp_a (a_iload_n dX2_becomeRotated_2 rfl) (mpp 3 rfl ?_)
  refine mp_a (a_aload_n dX2_becomeRotated_3 rfl) (mpp 4 rfl ?_)
  have g3 : (0 : Int) ≤ (fv P a0_ 1).toInt ∧ (fv P a0_ 1).toInt ≤ 8 := Typ.rng hT ha0 (by decide) (by decide) rfl
  refine mt_getI (i := 26) (k := 1) hT dX2_becomeRotated_4 rfl ha0 (by decide) rfl (by decide) rfl (fun g4 g5 => mpp 7 rfl ?_)
  refine mp_Tb (t := 76) (j_icmp_ge dX2_becomeRotated_7) (by decide) (fun c6 => ?_) (fun c6 => mpp 10 rfl ?_)
  · have c6 : v3.toInt ≥ (fv P a0_ 1).toInt := ti_ge c6
    exact mp_ret ⟨⟨rfl, trivial⟩, hT, hK, trivial⟩ dX2_becomeRotated_76 rfl
  · have c6 : v3.toInt < (fv P a0_ 1).toInt := ti_ge_n c6
    refine mp_a (a_iload_n dX2_becomeRotated_10 rfl) (mpp 11 rfl ?_)
    refine mp_a (a_iload_n dX2_becomeRotated_11 rfl) (mpp 12 rfl ?_)
    obtain ⟨z7, h8⟩ := ti_ex (t2 + v3 : Int32)
    have wz7 := ti_full z7
    refine mp_t (s_iadd (v := z7) dX2_becomeRotated_12 h8) (mpp 13 rfl ?_)
    try have e9 : z7.toInt = t2.toInt + v3.toInt := ti_addz h8 rfl rfl (by omega) (by omega)
    refine mp_a (a_aload_n dX2_becomeRotated_13 rfl) (mpp 14 rfl ?_)
    refine mt_getI (i := 26) (k := 1) hT dX2_becomeRotated_14 rfl ha0 (by decide) rfl (by decide) rfl (fun g10 g11 => mpp 17 rfl ?_)
    refine mp_Tb (t := 26) (j_icmp_ge dX2_becomeRotated_17) (by decide) (fun c12 => ?_) (fun c12 => mpp 20 rfl ?_)
    · have c12 : z7.toInt ≥ (fv P a0_ 1).toInt := ti_ge c12
      refine mp_a (a_iload_n dX2_becomeRotated_26 rfl) (mpp 27 rfl ?_)
      refine mp_a (a_iload_n dX2_becomeRotated_27 rfl) (mpp 28 rfl ?_)
      obtain ⟨z13, h14⟩ := ti_ex (t2 + v3 : Int32)
      have wz13 := ti_full z13
      refine mp_t (s_iadd (v := z13) dX2_becomeRotated_28 h14) (mpp 29 rfl ?_)
      try have e15 : z13.toInt = t2.toInt + v3.toInt := ti_addz h14 rfl rfl (by omega) (by omega)
      refine mp_a (a_aload_n dX2_becomeRotated_29 rfl) (mpp 30 rfl ?_)
      refine mt_getI (i := 26) (k := 1) hT dX2_becomeRotated_30 rfl ha0 (by decide) rfl (by decide) rfl (fun g16 g17 => mpp 33 rfl ?_)
      obtain ⟨z18, h19⟩ := ti_ex (z13 - (fv P a0_ 1) : Int32)
      have wz18 := ti_full z18
      refine mp_t (s_isub (v := z18) dX2_becomeRotated_33 h19) (mpp 34 rfl ?_)
      try have e20 : z18.toInt = z13.toInt - (fv P a0_ 1).toInt := ti_subz h19 rfl rfl (by omega) (by omega)
      refine mp_a (a_istore (L' := [(4, .int z18), (0, .ref a0_), (1, .ref a1_), (2, .int t2), (3, .int v3)]) dX2_becomeRotated_34 (by decide) rfl) (mpp 36 rfl ?_)
      refine mp_a (a_aload_n dX2_becomeRotated_36 rfl) (mpp 37 rfl ?_)
      refine mt_getE (i := 9) (k := 3) hT dX2_becomeRotated_37 rfl ha0 (by decide) rfl (by decide) rfl ((KW.xr hK hX).1 a0_ (Or.inr ha0)).1 (fun q21 => mpp 40 rfl ?_)
      refine mp_a (a_iload_n dX2_becomeRotated_40 rfl) (mpp 41 rfl ?_)
      refine mp_a (a_aload_n dX2_becomeRotated_41 rfl) (mpp 42 rfl ?_)
      refine mt_getE (i := 9) (k := 3) hT dX2_becomeRotated_42 rfl ha1 (by decide) rfl (by decide) rfl ((KW.xr hK hX).1 a1_ (Or.inl ha1)).1 (fun q22 => mpp 45 rfl ?_)
      refine mp_a (a_iload dX2_becomeRotated_45 rfl) (mpp 47 rfl ?_)
      refine mp_calls (i := 48) (q' := q_12) (As := [.ref (a1_ + 1), .int z18]) (rest := [.int v3, .ref (a0_ + 1)]) dX2_becomeRotated_47 rfl qm_12 (by decide) rfl (Nat.le_of_ble_eq_true rfl) rfl ⟨rfl, rfl⟩ ⟨Nat.le_of_ble_eq_true rfl, Nat.le_of_ble_eq_true rfl⟩ (EvP.mono (by decide) (c_F_at_sizes hT (KW.xr hK hX) q22)) (fun r23 P24 g25 => mpp 50 rfl ?_)
      obtain ⟨⟨x26, rfl, g27⟩, e28⟩ := g25
      have e28 := e28.symm
      subst e28
      have wx26 := ti_full x26
      show MEvP _ none q_34 50 [(4, .int z18), (0, .ref a0_), (1, .ref a1_), (2, .int t2), (3, .int v3)] [.int x26, .int v3, .ref (a0_ + 1)] _ _ _ _
      refine mp_calls (i := 29) (q' := q_22) (As := [.ref (a0_ + 1), .int v3, .int x26]) (rest := []) dX2_becomeRotated_50 rfl qm_22 (by decide) rfl (Nat.le_of_ble_eq_true rfl) rfl ⟨rfl, rfl⟩ ⟨Nat.le_of_ble_eq_true rfl, Nat.le_of_ble_eq_true rfl⟩ (EvP.mono (by decide) (c_F_put_sizes hT (KW.xr hK hX) q21)) (fun r29 P30 g31 => mpp 53 rfl ?_)
      obtain ⟨⟨rfl, g33⟩, hT34, k35, R36⟩ := g31
      have k37 : KW [256, 320] Po P30 := KW.trans hK k35 rfl
      show MEvP _ none q_34 53 [(4, .int z18), (0, .ref a0_), (1, .ref a1_), (2, .int t2), (3, .int v3)] [] _ _ _ _
      refine mp_a (a_aload_n dX2_becomeRotated_53 rfl) (mpp 54 rfl ?_)
      refine mt_getE (i := 15) (k := 4) hT34 dX2_becomeRotated_54 rfl ha0 (by decide) rfl (by decide) rfl ((KW.xr k37 hX).1 a0_ (Or.inr ha0)).2 (fun q39 => mpp 57 rfl ?_)
      refine mp_a (a_iload_n dX2_becomeRotated_57 rfl) (mpp 58 rfl ?_)
      refine mp_a (a_aload_n dX2_becomeRotated_58 rfl) (mpp 59 rfl ?_)
      refine mt_getE (i := 15) (k := 4) hT34 dX2_becomeRotated_59 rfl ha1 (by decide) rfl (by decide) rfl ((KW.xr k37 hX).1 a1_ (Or.inl ha1)).2 (fun q40 => mpp 62 rfl ?_)
      refine mp_a (a_iload dX2_becomeRotated_62 rfl) (mpp 64 rfl ?_)
      refine mp_calls (i := 48) (q' := q_12) (As := [.ref (a1_ + 2), .int z18]) (rest := [.int v3, .ref (a0_ + 2)]) dX2_becomeRotated_64 rfl qm_12 (by decide) rfl (Nat.le_of_ble_eq_true rfl) rfl ⟨rfl, rfl⟩ ⟨Nat.le_of_ble_eq_true rfl, Nat.le_of_ble_eq_true rfl⟩ (EvP.mono (by decide) (c_F_at_creases hT34 (KW.xr k37 hX) q40)) (fun r41 P42 g43 => mpp 67 rfl ?_)
      obtain ⟨⟨x44, rfl, g45⟩, e46⟩ := g43
      have e46 := e46.symm
      subst e46
      have wx44 := ti_full x44
      show MEvP _ none q_34 67 [(4, .int z18), (0, .ref a0_), (1, .ref a1_), (2, .int t2), (3, .int v3)] [.int x44, .int v3, .ref (a0_ + 2)] _ _ _ _
      refine mp_calls (i := 29) (q' := q_22) (As := [.ref (a0_ + 2), .int v3, .int x44]) (rest := []) dX2_becomeRotated_67 rfl qm_22 (by decide) rfl (Nat.le_of_ble_eq_true rfl) rfl ⟨rfl, rfl⟩ ⟨Nat.le_of_ble_eq_true rfl, Nat.le_of_ble_eq_true rfl⟩ (EvP.mono (by decide) (c_F_put_creases hT34 (KW.xr k37 hX) q39)) (fun r47 P48 g49 => mpp 70 rfl ?_)
      obtain ⟨⟨rfl, g51⟩, hT52, k53, R54⟩ := g49
      have k55 : KW [256, 320] Po P48 := KW.trans k37 k53 rfl
      show MEvP _ none q_34 70 [(4, .int z18), (0, .ref a0_), (1, .ref a1_), (2, .int t2), (3, .int v3)] [] _ _ _ _
      obtain ⟨z57, h58⟩ := ti_ex (v3 + 1 : Int32)
      have wz57 := ti_full z57
      refine mp_a (a_iinc (v := z57) (L' := [(3, .int z57), (4, .int z18), (0, .ref a0_), (1, .ref a1_), (2, .int t2)]) dX2_becomeRotated_70 (by decide) rfl h58 rfl) (mpp 73 rfl ?_)
      try have e59 : z57.toInt = v3.toInt + 1 := ti_addz h58 rfl rfl (by omega) (by omega)
      refine mp_a (a_goto (t := 2) dX2_becomeRotated_73 (by decide)) ?_
      refine MEvP.less (L := [(0, .ref a0_), (1, .ref a1_), (2, .int t2), (3, .int z57)]) rfl rfl ⟨rfl, rfl, rfl, rfl, trivial⟩ ?_
      have i60 : 0 ≤ z57.toInt := by omega
      exact ih _ (by omega) _ P48 hT52 k55 i60 rfl
    · have c12 : z7.toInt < (fv P a0_ 1).toInt := ti_ge_n c12
      refine mp_a (a_iload_n dX2_becomeRotated_20 rfl) (mpp 21 rfl ?_)
      refine mp_a (a_iload_n dX2_becomeRotated_21 rfl) (mpp 22 rfl ?_)
      obtain ⟨z61, h62⟩ := ti_ex (t2 + v3 : Int32)
      have wz61 := ti_full z61
      refine mp_t (s_iadd (v := z61) dX2_becomeRotated_22 h62) (mpp 23 rfl ?_)
      try have e63 : z61.toInt = t2.toInt + v3.toInt := ti_addz h62 rfl rfl (by omega) (by omega)
      refine mp_a (a_goto (t := 34) dX2_becomeRotated_23 (by decide)) ?_
      refine mp_a (a_istore (L' := [(4, .int z61), (0, .ref a0_), (1, .ref a1_), (2, .int t2), (3, .int v3)]) dX2_becomeRotated_34 (by decide) rfl) (mpp 36 rfl ?_)
      refine mp_a (a_aload_n dX2_becomeRotated_36 rfl) (mpp 37 rfl ?_)
      refine mt_getE (i := 9) (k := 3) hT dX2_becomeRotated_37 rfl ha0 (by decide) rfl (by decide) rfl ((KW.xr hK hX).1 a0_ (Or.inr ha0)).1 (fun q64 => mpp 40 rfl ?_)
      refine mp_a (a_iload_n dX2_becomeRotated_40 rfl) (mpp 41 rfl ?_)
      refine mp_a (a_aload_n dX2_becomeRotated_41 rfl) (mpp 42 rfl ?_)
      refine mt_getE (i := 9) (k := 3) hT dX2_becomeRotated_42 rfl ha1 (by decide) rfl (by decide) rfl ((KW.xr hK hX).1 a1_ (Or.inl ha1)).1 (fun q65 => mpp 45 rfl ?_)
      refine mp_a (a_iload dX2_becomeRotated_45 rfl) (mpp 47 rfl ?_)
      refine mp_calls (i := 48) (q' := q_12) (As := [.ref (a1_ + 1), .int z61]) (rest := [.int v3, .ref (a0_ + 1)]) dX2_becomeRotated_47 rfl qm_12 (by decide) rfl (Nat.le_of_ble_eq_true rfl) rfl ⟨rfl, rfl⟩ ⟨Nat.le_of_ble_eq_true rfl, Nat.le_of_ble_eq_true rfl⟩ (EvP.mono (by decide) (c_F_at_sizes hT (KW.xr hK hX) q65)) (fun r66 P67 g68 => mpp 50 rfl ?_)
      obtain ⟨⟨x69, rfl, g70⟩, e71⟩ := g68
      have e71 := e71.symm
      subst e71
      have wx69 := ti_full x69
      show MEvP _ none q_34 50 [(4, .int z61), (0, .ref a0_), (1, .ref a1_), (2, .int t2), (3, .int v3)] [.int x69, .int v3, .ref (a0_ + 1)] _ _ _ _
      refine mp_calls (i := 29) (q' := q_22) (As := [.ref (a0_ + 1), .int v3, .int x69]) (rest := []) dX2_becomeRotated_50 rfl qm_22 (by decide) rfl (Nat.le_of_ble_eq_true rfl) rfl ⟨rfl, rfl⟩ ⟨Nat.le_of_ble_eq_true rfl, Nat.le_of_ble_eq_true rfl⟩ (EvP.mono (by decide) (c_F_put_sizes hT (KW.xr hK hX) q64)) (fun r72 P73 g74 => mpp 53 rfl ?_)
      obtain ⟨⟨rfl, g76⟩, hT77, k78, R79⟩ := g74
      have k80 : KW [256, 320] Po P73 := KW.trans hK k78 rfl
      show MEvP _ none q_34 53 [(4, .int z61), (0, .ref a0_), (1, .ref a1_), (2, .int t2), (3, .int v3)] [] _ _ _ _
      refine mp_a (a_aload_n dX2_becomeRotated_53 rfl) (mpp 54 rfl ?_)
      refine mt_getE (i := 15) (k := 4) hT77 dX2_becomeRotated_54 rfl ha0 (by decide) rfl (by decide) rfl ((KW.xr k80 hX).1 a0_ (Or.inr ha0)).2 (fun q82 => mpp 57 rfl ?_)
      refine mp_a (a_iload_n dX2_becomeRotated_57 rfl) (mpp 58 rfl ?_)
      refine mp_a (a_aload_n dX2_becomeRotated_58 rfl) (mpp 59 rfl ?_)
      refine mt_getE (i := 15) (k := 4) hT77 dX2_becomeRotated_59 rfl ha1 (by decide) rfl (by decide) rfl ((KW.xr k80 hX).1 a1_ (Or.inl ha1)).2 (fun q83 => mpp 62 rfl ?_)
      refine mp_a (a_iload dX2_becomeRotated_62 rfl) (mpp 64 rfl ?_)
      refine mp_calls (i := 48) (q' := q_12) (As := [.ref (a1_ + 2), .int z61]) (rest := [.int v3, .ref (a0_ + 2)]) dX2_becomeRotated_64 rfl qm_12 (by decide) rfl (Nat.le_of_ble_eq_true rfl) rfl ⟨rfl, rfl⟩ ⟨Nat.le_of_ble_eq_true rfl, Nat.le_of_ble_eq_true rfl⟩ (EvP.mono (by decide) (c_F_at_creases hT77 (KW.xr k80 hX) q83)) (fun r84 P85 g86 => mpp 67 rfl ?_)
      obtain ⟨⟨x87, rfl, g88⟩, e89⟩ := g86
      have e89 := e89.symm
      subst e89
      have wx87 := ti_full x87
      show MEvP _ none q_34 67 [(4, .int z61), (0, .ref a0_), (1, .ref a1_), (2, .int t2), (3, .int v3)] [.int x87, .int v3, .ref (a0_ + 2)] _ _ _ _
      refine mp_calls (i := 29) (q' := q_22) (As := [.ref (a0_ + 2), .int v3, .int x87]) (rest := []) dX2_becomeRotated_67 rfl qm_22 (by decide) rfl (Nat.le_of_ble_eq_true rfl) rfl ⟨rfl, rfl⟩ ⟨Nat.le_of_ble_eq_true rfl, Nat.le_of_ble_eq_true rfl⟩ (EvP.mono (by decide) (c_F_put_creases hT77 (KW.xr k80 hX) q82)) (fun r90 P91 g92 => mpp 70 rfl ?_)
      obtain ⟨⟨rfl, g94⟩, hT95, k96, R97⟩ := g92
      have k98 : KW [256, 320] Po P91 := KW.trans k80 k96 rfl
      show MEvP _ none q_34 70 [(4, .int z61), (0, .ref a0_), (1, .ref a1_), (2, .int t2), (3, .int v3)] [] _ _ _ _
      obtain ⟨z100, h101⟩ := ti_ex (v3 + 1 : Int32)
      have wz100 := ti_full z100
      refine mp_a (a_iinc (v := z100) (L' := [(3, .int z100), (4, .int z61), (0, .ref a0_), (1, .ref a1_), (2, .int t2)]) dX2_becomeRotated_70 (by decide) rfl h101 rfl) (mpp 73 rfl ?_)
      try have e102 : z100.toInt = v3.toInt + 1 := ti_addz h101 rfl rfl (by omega) (by omega)
      refine mp_a (a_goto (t := 2) dX2_becomeRotated_73 (by decide)) ?_
      refine MEvP.less (L := [(0, .ref a0_), (1, .ref a1_), (2, .int t2), (3, .int z100)]) rfl rfl ⟨rfl, rfl, rfl, rfl, trivial⟩ ?_
      have i103 : 0 ≤ z100.toInt := by omega
      exact ih _ (by omega) _ P91 hT95 k98 i103 rfl

set_option maxHeartbeats 4000000 in
theorem c_CP_becomeRotated_NPiece_Piece {Po : mP} {a0_ : Nat} {a1_ : Nat} {t2 : Int32} (hT : Typ Po) (hX : XR Po)  (ha0 : rl a0_ = 33) (ha1 : rl a1_ = 3) : EvP 2 34 [.ref a0_, .ref a1_, .int t2] Po (fun r P' => (r = none ∧ (True)) ∧ Typ P' ∧ KW [256, 320] Po P' ∧ True) := by
  refine EvP.of qm_34 (Nat.le_of_ble_eq_true rfl) rfl ?_
  show MEvP _ none q_34 0 [(0, .ref a0_), (1, .ref a1_), (2, .int t2)] [] _ 0 0 _
  have w1 := np_ar ha0
  have w2 := pc_ar ha1
  refine mp_a (a_iconst (v := 0) dX2_becomeRotated_0 rfl) (mpp 1 rfl ?_)
  refine mp_a (a_istore_n (L' := [(3, .int 0), (0, .ref a0_), (1, .ref a1_), (2, .int t2)]) dX2_becomeRotated_1 (by decide) rfl) (mpp 2 rfl ?_)
  refine MEvP.less (L := [(0, .ref a0_), (1, .ref a1_), (2, .int t2), (3, .int 0)]) rfl rfl ⟨rfl, rfl, rfl, rfl, trivial⟩ ?_
  have i3 : 0 ≤ (0 : Int) := by omega
  exact c_CP_becomeRotated_NPiece_Piece_l2 hT hX  ha0 ha1 _ _ Po hT KW.refl i3 rfl

set_option maxHeartbeats 4000000 in
theorem c_CP_sizesAsNumber_NPiece_l4 {Po : mP} {a0_ : Nat} (hT : Typ Po) (hX : XR Po)  (ha0 : rl a0_ = 33) : ∀ (n : Nat) (v1 : Int32) (v2 : Int32), (0 ≤ v2.toInt) → (2147483647 - v2.toInt).toNat = n → MEvP 1 none q_35 4 [(0, .ref a0_), (1, .int v1), (2, .int v2)] [] Po 0 0 (fun r P' => (∃ x : Int32, r = some (.int x) ∧ (True)) ∧ P' = Po) := by
  intro n
  induction n using Nat.strongRecOn with | _ n ih => ?_
  intro v1 v2 i_0 hm
  have w1 := np_ar ha0
  have w_v1 := ti_full v1
  have w_v2 := ti_full v2
  refine mp_a (a_iload_n dX2_sizesAsNumber_4 rfl) (mpp 5 rfl ?_)
  refine mp_a (a_aload_n dX2_sizesAsNumber_5 rfl) (mpp 6 rfl ?_)
  have g2 : (0 : Int) ≤ (fv Po a0_ 1).toInt ∧ (fv Po a0_ 1).toInt ≤ 8 := Typ.rng hT ha0 (by decide) (by decide) rfl
  refine mt_getI (i := 26) (k := 1) hT dX2_sizesAsNumber_6 rfl ha0 (by decide) rfl (by decide) rfl (fun g3 g4 => mpp 9 rfl ?_)
  refine mp_Tb (t := 32) (j_icmp_ge dX2_sizesAsNumber_9) (by decide) (fun c5 => ?_) (fun c5 => mpp 12 rfl ?_)
  · have c5 : v2.toInt ≥ (fv Po a0_ 1).toInt := ti_ge c5
    refine mp_a (a_iload_n dX2_sizesAsNumber_32 rfl) (mpp 33 rfl ?_)
    exact mp_iret ⟨⟨_, rfl, trivial⟩, rfl⟩ dX2_sizesAsNumber_33 (Or.inl rfl)
  · have c5 : v2.toInt < (fv Po a0_ 1).toInt := ti_ge_n c5
    refine mp_a (a_iload_n dX2_sizesAsNumber_12 rfl) (mpp 13 rfl ?_)
    refine mp_a (a_bipush (v := 10) dX2_sizesAsNumber_13 rfl) (mpp 15 rfl ?_)
    obtain ⟨z6, h7⟩ := ti_ex (v1 * 10 : Int32)
    have wz6 := ti_full z6
    refine mp_t (s_imul (v := z6) dX2_sizesAsNumber_15 h7) (mpp 16 rfl ?_)
    try have e8 : z6.toInt = v1.toInt * 10 := ti_mulz h7 rfl rfl (by omega) (by omega)
    refine mp_a (a_aload_n dX2_sizesAsNumber_16 rfl) (mpp 17 rfl ?_)
    refine mt_getE (i := 9) (k := 3) hT dX2_sizesAsNumber_17 rfl ha0 (by decide) rfl (by decide) rfl (hX.1 a0_ (Or.inr ha0)).1 (fun q9 => mpp 20 rfl ?_)
    refine mp_a (a_iload_n dX2_sizesAsNumber_20 rfl) (mpp 21 rfl ?_)
    refine mp_calls (i := 48) (q' := q_12) (As := [.ref (a0_ + 1), .int v2]) (rest := [.int z6]) dX2_sizesAsNumber_21 rfl qm_12 (by decide) rfl (Nat.le_of_ble_eq_true rfl) rfl ⟨rfl, rfl⟩ ⟨Nat.le_of_ble_eq_true rfl, Nat.le_of_ble_eq_true rfl⟩ (EvP.mono (by decide) (c_F_at_sizes hT hX q9)) (fun r10 P11 g12 => mpp 24 rfl ?_)
    obtain ⟨⟨x13, rfl, g14⟩, e15⟩ := g12
    have e15 := e15.symm
    subst e15
    have wx13 := ti_full x13
    show MEvP _ none q_35 24 [(0, .ref a0_), (1, .int v1), (2, .int v2)] [.int x13, .int z6] _ _ _ _
    obtain ⟨z16, h17⟩ := ti_ex (z6 + x13 : Int32)
    have wz16 := ti_full z16
    refine mp_t (s_iadd (v := z16) dX2_sizesAsNumber_24 h17) (mpp 25 rfl ?_)
    try have e18 : z16.toInt = z6.toInt + x13.toInt := ti_addz h17 rfl rfl (by omega) (by omega)
    refine mp_a (a_istore_n (L' := [(1, .int z16), (0, .ref a0_), (2, .int v2)]) dX2_sizesAsNumber_25 (by decide) rfl) (mpp 26 rfl ?_)
    obtain ⟨z19, h20⟩ := ti_ex (v2 + 1 : Int32)
    have wz19 := ti_full z19
    refine mp_a (a_iinc (v := z19) (L' := [(2, .int z19), (1, .int z16), (0, .ref a0_)]) dX2_sizesAsNumber_26 (by decide) rfl h20 rfl) (mpp 29 rfl ?_)
    try have e21 : z19.toInt = v2.toInt + 1 := ti_addz h20 rfl rfl (by omega) (by omega)
    refine mp_a (a_goto (t := 4) dX2_sizesAsNumber_29 (by decide)) ?_
    refine MEvP.less (L := [(0, .ref a0_), (1, .int z16), (2, .int z19)]) rfl rfl ⟨rfl, rfl, rfl, trivial⟩ ?_
    have i22 : 0 ≤ z19.toInt := by omega
    exact ih _ (by omega) _ _ i22 rfl

set_option maxHeartbeats 4000000 in
theorem c_CP_sizesAsNumber_NPiece {Po : mP} {a0_ : Nat} (hT : Typ Po) (hX : XR Po)  (ha0 : rl a0_ = 33) : EvP 2 35 [.ref a0_] Po (fun r P' => (∃ x : Int32, r = some (.int x) ∧ (True)) ∧ P' = Po) := by
  refine EvP.of qm_35 (Nat.le_of_ble_eq_true rfl) rfl ?_
  show MEvP _ none q_35 0 [(0, .ref a0_)] [] _ 0 0 _
  have w1 := np_ar ha0
  refine mp_a (a_iconst (v := 0) dX2_sizesAsNumber_0 rfl) (mpp 1 rfl ?_)
  refine mp_a (a_istore_n (L' := [(1, .int 0), (0, .ref a0_)]) dX2_sizesAsNumber_1 (by decide) rfl) (mpp 2 rfl ?_)
  refine mp_a (a_iconst (v := 0) dX2_sizesAsNumber_2 rfl) (mpp 3 rfl ?_)
  refine mp_a (a_istore_n (L' := [(2, .int 0), (1, .int 0), (0, .ref a0_)]) dX2_sizesAsNumber_3 (by decide) rfl) (mpp 4 rfl ?_)
  refine MEvP.less (L := [(0, .ref a0_), (1, .int 0), (2, .int 0)]) rfl rfl ⟨rfl, rfl, rfl, trivial⟩ ?_
  have i2 : 0 ≤ (0 : Int) := by omega
  exact c_CP_sizesAsNumber_NPiece_l4 hT hX  ha0 _ _ _ i2 rfl

