/-! methods on typed pools, 9 (written by a program) -/
set_option maxHeartbeats 4000000 in
theorem c_CR_foldsWith_Reducer_NPiece_l7 {Po : mP} {a1_ : Nat} {t2 : Int32} (ha1 : rl a1_ = 33) : ∀ (n : Nat) (v3 : Int32), ∀ (P : mP), Typ P → KW [640, 641, 704, 768] Po P → (0 ≤ v3.toInt) → (2147483647 - v3.toInt).toNat = n → MEvP 3 none q_79 7 [(0, .ref 291), (1, .ref a1_), (2, .int t2), (3, .int v3)] [] P 0 0 (fun r P' => (∃ x : Int32, r = some (.int x) ∧ (0 ≤ x.toInt ∧ x.toInt ≤ 1)) ∧ Typ P' ∧ KW [640, 641, 704, 768] Po P' ∧ True) := by
  intro n
  induction n using Nat.strongRecOn with | _ n ih => ?_
  intro v3 P hT hK i_0 hm
  have w_v3 := ti_full v3
  refine mp_a (a_iload_n dX3_foldsWith_7 rfl) (mpp 8 rfl ?_)
  refine mp_a (a_aload_n dX3_foldsWith_8 rfl) (mpp 9 rfl ?_)
  refine mt_callv (i := 34) (q' := q_25) (As := []) (rest := [.int v3]) hT dX3_foldsWith_9 rfl qm_25 (by decide) rfl ha1 (by decide) rfl (Nat.le_of_ble_eq_true rfl) rfl ⟨rfl, rfl⟩ ⟨Nat.le_of_ble_eq_true rfl, Nat.le_of_ble_eq_true rfl⟩ (EvP.mono (by decide) (c_CP_creaseCount_NPiece hT ha1)) (fun r1 P2 g3 => mpp 12 rfl ?_)
  obtain ⟨⟨x4, rfl, g5⟩, e6⟩ := g3
  have e6 := e6.symm
  subst e6
  have wx4 := ti_full x4
  have g5 : -1 ≤ x4.toInt ∧ x4.toInt ≤ (fv P a1_ 1).toInt := g5
  have g7 : (0 : Int) ≤ (fv P a1_ 1).toInt ∧ (fv P a1_ 1).toInt ≤ 8 := Typ.rng hT ha1 (by decide) (by decide) rfl
  show MEvP _ none q_79 12 [(0, .ref 291), (1, .ref a1_), (2, .int t2), (3, .int v3)] [.int x4, .int v3] _ _ _ _
  refine mp_Tb (t := 31) (j_icmp_ge dX3_foldsWith_12) (by decide) (fun c8 => ?_) (fun c8 => mpp 15 rfl ?_)
  · have c8 : v3.toInt ≥ x4.toInt := ti_ge c8
    refine mp_a (a_aload_n dX3_foldsWith_31 rfl) (mpp 32 rfl ?_)
    refine mt_callv (i := 74) (q' := q_51) (As := []) (rest := []) hT dX3_foldsWith_32 rfl qm_51 (by decide) rfl rl_291 (by decide) rfl (Nat.le_of_ble_eq_true rfl) rfl ⟨rfl, rfl⟩ ⟨Nat.le_of_ble_eq_true rfl, Nat.le_of_ble_eq_true rfl⟩ (EvP.mono (by decide) (c_CR_reduce_Reducer hT )) (fun r9 P10 g11 => mpp 35 rfl ?_)
    obtain ⟨⟨x12, rfl, g13⟩, hT14, k15, R16⟩ := g11
    have k17 : KW [640, 641, 704, 768] Po P10 := KW.trans hK k15 rfl
    have wx12 := ti_full x12
    show MEvP _ none q_79 35 [(0, .ref 291), (1, .ref a1_), (2, .int t2), (3, .int v3)] [.int x12] _ _ _ _
    refine mp_t (s_pop dX3_foldsWith_35 rfl) (mpp 36 rfl ?_)
    refine mp_a (a_aload_n dX3_foldsWith_36 rfl) (mpp 37 rfl ?_)
    refine mt_callv (i := 77) (q' := q_55) (As := []) (rest := []) hT14 dX3_foldsWith_37 rfl qm_55 (by decide) rfl rl_291 (by decide) rfl (Nat.le_of_ble_eq_true rfl) rfl ⟨rfl, rfl⟩ ⟨Nat.le_of_ble_eq_true rfl, Nat.le_of_ble_eq_true rfl⟩ (EvP.mono (by decide) (c_CR_isReduced_Reducer hT14 )) (fun r18 P19 g20 => mpp 40 rfl ?_)
    obtain ⟨⟨x21, rfl, g22⟩, e23⟩ := g20
    have e23 := e23.symm
    subst e23
    have wx21 := ti_full x21
    have g22 : 0 ≤ x21.toInt ∧ x21.toInt ≤ 1 := g22
    show MEvP _ none q_79 40 [(0, .ref 291), (1, .ref a1_), (2, .int t2), (3, .int v3)] [.int x21] _ _ _ _
    have u24 : 0 ≤ x21.toInt ∧ x21.toInt ≤ 1 := by omega
    exact mp_iret ⟨⟨_, rfl, u24⟩, hT14, k17, trivial⟩ dX3_foldsWith_40 (Or.inr ⟨rfl, ti_01 (by omega)⟩)
  · have c8 : v3.toInt < x4.toInt := ti_ge_n c8
    refine mp_a (a_aload_n dX3_foldsWith_15 rfl) (mpp 16 rfl ?_)
    refine mp_a (a_iload_n dX3_foldsWith_16 rfl) (mpp 17 rfl ?_)
    refine mp_a (a_iload_n dX3_foldsWith_17 rfl) (mpp 18 rfl ?_)
    refine mp_a (a_iload_n dX3_foldsWith_18 rfl) (mpp 19 rfl ?_)
    refine mp_calls (i := 94) (q' := q_78) (As := [.int t2, .int v3]) (rest := [.int v3, .ref 291]) dX3_foldsWith_19 rfl qm_78 (by decide) rfl (Nat.le_of_ble_eq_true rfl) rfl ⟨rfl, rfl⟩ ⟨Nat.le_of_ble_eq_true rfl, Nat.le_of_ble_eq_true rfl⟩ (EvP.mono (by decide) (c_CR_kindIn hT )) (fun r25 P26 g27 => mpp 22 rfl ?_)
    obtain ⟨⟨x28, rfl, g29⟩, e30⟩ := g27
    have e30 := e30.symm
    subst e30
    have wx28 := ti_full x28
    show MEvP _ none q_79 22 [(0, .ref 291), (1, .ref a1_), (2, .int t2), (3, .int v3)] [.int x28, .int v3, .ref 291] _ _ _ _
    refine mt_callv (i := 43) (q' := q_46) (As := [.int v3, .int x28]) (rest := []) hT dX3_foldsWith_22 rfl qm_46 (by decide) rfl rl_291 (by decide) rfl (Nat.le_of_ble_eq_true rfl) rfl ⟨rfl, rfl⟩ ⟨Nat.le_of_ble_eq_true rfl, Nat.le_of_ble_eq_true rfl⟩ (EvP.mono (by decide) (c_CR_putCrease_Reducer hT )) (fun r31 P32 g33 => mpp 25 rfl ?_)
    obtain ⟨⟨rfl, g35⟩, hT36, k37, R38⟩ := g33
    have k39 : KW [640, 641, 704, 768] Po P32 := KW.trans hK k37 rfl
    show MEvP _ none q_79 25 [(0, .ref 291), (1, .ref a1_), (2, .int t2), (3, .int v3)] [] _ _ _ _
    obtain ⟨z40, h41⟩ := ti_ex (v3 + 1 : Int32)
    have wz40 := ti_full z40
    refine mp_a (a_iinc (v := z40) (L' := [(3, .int z40), (0, .ref 291), (1, .ref a1_), (2, .int t2)]) dX3_foldsWith_25 (by decide) rfl h41 rfl) (mpp 28 rfl ?_)
    try have e42 : z40.toInt = v3.toInt + 1 := ti_addz h41 rfl rfl (by omega) (by omega)
    refine mp_a (a_goto (t := 7) dX3_foldsWith_28 (by decide)) ?_
    refine MEvP.less (L := [(0, .ref 291), (1, .ref a1_), (2, .int t2), (3, .int z40)]) rfl rfl ⟨rfl, rfl, rfl, rfl, trivial⟩ ?_
    have i43 : 0 ≤ z40.toInt := by omega
    exact ih _ (by omega) _ P32 hT36 k39 i43 rfl

set_option maxHeartbeats 4000000 in
theorem c_CR_foldsWith_Reducer_NPiece {Po : mP} {a1_ : Nat} {t2 : Int32} (hT : Typ Po)  (ha1 : rl a1_ = 33) : EvP 4 79 [.ref 291, .ref a1_, .int t2] Po (fun r P' => (∃ x : Int32, r = some (.int x) ∧ (0 ≤ x.toInt ∧ x.toInt ≤ 1)) ∧ Typ P' ∧ KW [640, 641, 704, 768] Po P' ∧ True) := by
  refine EvP.of qm_79 (Nat.le_of_ble_eq_true rfl) rfl ?_
  show MEvP _ none q_79 0 [(0, .ref 291), (1, .ref a1_), (2, .int t2)] [] _ 0 0 _
  refine mp_a (a_aload_n dX3_foldsWith_0 rfl) (mpp 1 rfl ?_)
  refine mp_a (a_aload_n dX3_foldsWith_1 rfl) (mpp 2 rfl ?_)
  refine mt_callv (i := 55) (q' := q_45) (As := [.ref a1_]) (rest := []) hT dX3_foldsWith_2 rfl qm_45 (by decide) rfl rl_291 (by decide) rfl (Nat.le_of_ble_eq_true rfl) rfl ⟨rfl, rfl⟩ ⟨Nat.le_of_ble_eq_true rfl, Nat.le_of_ble_eq_true rfl⟩ (EvP.mono (by decide) (c_CR_load_Reducer_NPiece hT ha1)) (fun r1 P2 g3 => mpp 5 rfl ?_)
  obtain ⟨⟨rfl, g5⟩, hT6, k7, R8⟩ := g3
  have k9 : KW [640, 641, 704, 768] Po P2 := KW.trans KW.refl k7 rfl
  show MEvP _ none q_79 5 [(0, .ref 291), (1, .ref a1_), (2, .int t2)] [] _ _ _ _
  refine mp_a (a_iconst (v := 0) dX3_foldsWith_5 rfl) (mpp 6 rfl ?_)
  refine mp_a (a_istore_n (L' := [(3, .int 0), (0, .ref 291), (1, .ref a1_), (2, .int t2)]) dX3_foldsWith_6 (by decide) rfl) (mpp 7 rfl ?_)
  refine MEvP.less (L := [(0, .ref 291), (1, .ref a1_), (2, .int t2), (3, .int 0)]) rfl rfl ⟨rfl, rfl, rfl, rfl, trivial⟩ ?_
  have i10 : 0 ≤ (0 : Int) := by omega
  exact c_CR_foldsWith_Reducer_NPiece_l7  ha1 _ _ P2 hT6 k9 i10 rfl

set_option maxHeartbeats 4000000 in
theorem c_CR_countWays_Reducer_NPiece_l4 {Po : mP} {a1_ : Nat} (ha1 : rl a1_ = 33) : ∀ (n : Nat) (v2 : Int32) (v3 : Int32), ∀ (P : mP), Typ P → KW [640, 641, 704, 768] Po P → (0 ≤ v3.toInt) → (2147483647 - v3.toInt).toNat = n → MEvP 4 none q_76 4 [(0, .ref 291), (1, .ref a1_), (2, .int v2), (3, .int v3)] [] P 0 0 (fun r P' => (∃ x : Int32, r = some (.int x) ∧ (True)) ∧ Typ P' ∧ KW [640, 641, 704, 768] Po P' ∧ True) := by
  intro n
  induction n using Nat.strongRecOn with | _ n ih => ?_
  intro v2 v3 P hT hK i_0 hm
  have w_v2 := ti_full v2
  have w_v3 := ti_full v3
  refine mp_a (a_iload_n dX3_countWays_4 rfl) (mpp 5 rfl ?_)
  refine mp_a (a_iconst (v := 1) dX3_countWays_5 rfl) (mpp 6 rfl ?_)
  refine mp_a (a_aload_n dX3_countWays_6 rfl) (mpp 7 rfl ?_)
  refine mt_callv (i := 34) (q' := q_25) (As := []) (rest := [.int 1, .int v3]) hT dX3_countWays_7 rfl qm_25 (by decide) rfl ha1 (by decide) rfl (Nat.le_of_ble_eq_true rfl) rfl ⟨rfl, rfl⟩ ⟨Nat.le_of_ble_eq_true rfl, Nat.le_of_ble_eq_true rfl⟩ (EvP.mono (by decide) (c_CP_creaseCount_NPiece hT ha1)) (fun r1 P2 g3 => mpp 10 rfl ?_)
  obtain ⟨⟨x4, rfl, g5⟩, e6⟩ := g3
  have e6 := e6.symm
  subst e6
  have wx4 := ti_full x4
  have g5 : -1 ≤ x4.toInt ∧ x4.toInt ≤ (fv P a1_ 1).toInt := g5
  have g7 : (0 : Int) ≤ (fv P a1_ 1).toInt ∧ (fv P a1_ 1).toInt ≤ 8 := Typ.rng hT ha1 (by decide) (by decide) rfl
  show MEvP _ none q_76 10 [(0, .ref 291), (1, .ref a1_), (2, .int v2), (3, .int v3)] [.int x4, .int 1, .int v3] _ _ _ _
  obtain ⟨z8, h9⟩ := ti_ex (1 <<< (x4 &&& 31) : Int32)
  have wz8 := ti_full z8
  refine mp_t (s_ishl (v := z8) dX3_countWays_10 h9) (mpp 11 rfl ?_)
  refine mp_Tb (t := 40) (j_icmp_ge dX3_countWays_11) (by decide) (fun c10 => ?_) (fun c10 => mpp 14 rfl ?_)
  · have c10 : v3.toInt ≥ z8.toInt := ti_ge c10
    refine mp_a (a_iload_n dX3_countWays_40 rfl) (mpp 41 rfl ?_)
    exact mp_iret ⟨⟨_, rfl, trivial⟩, hT, hK, trivial⟩ dX3_countWays_41 (Or.inl rfl)
  · have c10 : v3.toInt < z8.toInt := ti_ge_n c10
    refine mp_a (a_aload_n dX3_countWays_14 rfl) (mpp 15 rfl ?_)
    refine mp_a (a_iload_n dX3_countWays_15 rfl) (mpp 16 rfl ?_)
    refine mp_calls (i := 86) (q' := q_77) (As := [.ref a1_, .int v3]) (rest := []) dX3_countWays_16 rfl qm_77 (by decide) rfl (Nat.le_of_ble_eq_true rfl) rfl ⟨rfl, rfl⟩ ⟨Nat.le_of_ble_eq_true rfl, Nat.le_of_ble_eq_true rfl⟩ (EvP.mono (by decide) (c_CR_changesTo_NPiece hT ha1)) (fun r11 P12 g13 => mpp 19 rfl ?_)
    obtain ⟨⟨x14, rfl, g15⟩, e16⟩ := g13
    have e16 := e16.symm
    subst e16
    have wx14 := ti_full x14
    show MEvP _ none q_76 19 [(0, .ref 291), (1, .ref a1_), (2, .int v2), (3, .int v3)] [.int x14] _ _ _ _
    refine mp_Tb (t := 34) (j_if_ne dX3_countWays_19) (by decide) (fun c17 => ?_) (fun c17 => mpp 22 rfl ?_)
    · have c17 : x14.toInt ≠ 0 := ti_ne c17
      obtain ⟨z18, h19⟩ := ti_ex (v3 + 1 : Int32)
      have wz18 := ti_full z18
      refine mp_a (a_iinc (v := z18) (L' := [(3, .int z18), (0, .ref 291), (1, .ref a1_), (2, .int v2)]) dX3_countWays_34 (by decide) rfl h19 rfl) (mpp 37 rfl ?_)
      try have e20 : z18.toInt = v3.toInt + 1 := ti_addz h19 rfl rfl (by omega) (by omega)
      refine mp_a (a_goto (t := 4) dX3_countWays_37 (by decide)) ?_
      refine MEvP.less (L := [(0, .ref 291), (1, .ref a1_), (2, .int v2), (3, .int z18)]) rfl rfl ⟨rfl, rfl, rfl, rfl, trivial⟩ ?_
      have i21 : 0 ≤ z18.toInt := by omega
      exact ih _ (by omega) _ _ P hT hK i21 rfl
    · have c17 : x14.toInt = 0 := ti_ne_n c17
      refine mp_a (a_aload_n dX3_countWays_22 rfl) (mpp 23 rfl ?_)
      refine mp_a (a_aload_n dX3_countWays_23 rfl) (mpp 24 rfl ?_)
      refine mp_a (a_iload_n dX3_countWays_24 rfl) (mpp 25 rfl ?_)
      refine mt_callv (i := 90) (q' := q_79) (As := [.ref a1_, .int v3]) (rest := []) hT dX3_countWays_25 rfl qm_79 (by decide) rfl rl_291 (by decide) rfl (Nat.le_of_ble_eq_true rfl) rfl ⟨rfl, rfl⟩ ⟨Nat.le_of_ble_eq_true rfl, Nat.le_of_ble_eq_true rfl⟩ (EvP.mono (by decide) (c_CR_foldsWith_Reducer_NPiece hT ha1)) (fun r22 P23 g24 => mpp 28 rfl ?_)
      obtain ⟨⟨x25, rfl, g26⟩, hT27, k28, R29⟩ := g24
      have k30 : KW [640, 641, 704, 768] Po P23 := KW.trans hK k28 rfl
      have wx25 := ti_full x25
      have g26 : 0 ≤ x25.toInt ∧ x25.toInt ≤ 1 := g26
      show MEvP _ none q_76 28 [(0, .ref 291), (1, .ref a1_), (2, .int v2), (3, .int v3)] [.int x25] _ _ _ _
      refine mp_Tb (t := 34) (j_if_eq dX3_countWays_28) (by decide) (fun c31 => ?_) (fun c31 => mpp 31 rfl ?_)
      · have c31 : x25.toInt = 0 := ti_eq c31
        obtain ⟨z32, h33⟩ := ti_ex (v3 + 1 : Int32)
        have wz32 := ti_full z32
        refine mp_a (a_iinc (v := z32) (L' := [(3, .int z32), (0, .ref 291), (1, .ref a1_), (2, .int v2)]) dX3_countWays_34 (by decide) rfl h33 rfl) (mpp 37 rfl ?_)
        try have e34 : z32.toInt = v3.toInt + 1 := ti_addz h33 rfl rfl (by omega) (by omega)
        refine mp_a (a_goto (t := 4) dX3_countWays_37 (by decide)) ?_
        refine MEvP.less (L := [(0, .ref 291), (1, .ref a1_), (2, .int v2), (3, .int z32)]) rfl rfl ⟨rfl, rfl, rfl, rfl, trivial⟩ ?_
        have i35 : 0 ≤ z32.toInt := by omega
        exact ih _ (by omega) _ _ P23 hT27 k30 i35 rfl
      · have c31 : x25.toInt ≠ 0 := ti_eq_n c31
        obtain ⟨z36, h37⟩ := ti_ex (v2 + 1 : Int32)
        have wz36 := ti_full z36
        refine mp_a (a_iinc (v := z36) (L' := [(2, .int z36), (0, .ref 291), (1, .ref a1_), (3, .int v3)]) dX3_countWays_31 (by decide) rfl h37 rfl) (mpp 34 rfl ?_)
        try have e38 : z36.toInt = v2.toInt + 1 := ti_addz h37 rfl rfl (by omega) (by omega)
        obtain ⟨z39, h40⟩ := ti_ex (v3 + 1 : Int32)
        have wz39 := ti_full z39
        refine mp_a (a_iinc (v := z39) (L' := [(3, .int z39), (2, .int z36), (0, .ref 291), (1, .ref a1_)]) dX3_countWays_34 (by decide) rfl h40 rfl) (mpp 37 rfl ?_)
        try have e41 : z39.toInt = v3.toInt + 1 := ti_addz h40 rfl rfl (by omega) (by omega)
        refine mp_a (a_goto (t := 4) dX3_countWays_37 (by decide)) ?_
        refine MEvP.less (L := [(0, .ref 291), (1, .ref a1_), (2, .int z36), (3, .int z39)]) rfl rfl ⟨rfl, rfl, rfl, rfl, trivial⟩ ?_
        have i42 : 0 ≤ z39.toInt := by omega
        exact ih _ (by omega) _ _ P23 hT27 k30 i42 rfl

set_option maxHeartbeats 4000000 in
theorem c_CR_countWays_Reducer_NPiece {Po : mP} {a1_ : Nat} (hT : Typ Po)  (ha1 : rl a1_ = 33) : EvP 5 76 [.ref 291, .ref a1_] Po (fun r P' => (∃ x : Int32, r = some (.int x) ∧ (True)) ∧ Typ P' ∧ KW [640, 641, 704, 768] Po P' ∧ True) := by
  refine EvP.of qm_76 (Nat.le_of_ble_eq_true rfl) rfl ?_
  show MEvP _ none q_76 0 [(0, .ref 291), (1, .ref a1_)] [] _ 0 0 _
  refine mp_a (a_iconst (v := 0) dX3_countWays_0 rfl) (mpp 1 rfl ?_)
  refine mp_a (a_istore_n (L' := [(2, .int 0), (0, .ref 291), (1, .ref a1_)]) dX3_countWays_1 (by decide) rfl) (mpp 2 rfl ?_)
  refine mp_a (a_iconst (v := 0) dX3_countWays_2 rfl) (mpp 3 rfl ?_)
  refine mp_a (a_istore_n (L' := [(3, .int 0), (2, .int 0), (0, .ref 291), (1, .ref a1_)]) dX3_countWays_3 (by decide) rfl) (mpp 4 rfl ?_)
  refine MEvP.less (L := [(0, .ref 291), (1, .ref a1_), (2, .int 0), (3, .int 0)]) rfl rfl ⟨rfl, rfl, rfl, rfl, trivial⟩ ?_
  have i1 : 0 ≤ (0 : Int) := by omega
  exact c_CR_countWays_Reducer_NPiece_l4  ha1 _ _ _ Po hT KW.refl i1 rfl

set_option maxHeartbeats 4000000 in
theorem c_F_ways {Po : mP} {t1 : Int32} (hT : Typ Po)   : EvP 6 75 [.ref 0, .int t1] Po (fun r P' => (∃ x : Int32, r = some (.int x) ∧ (True)) ∧ Typ P' ∧ KW [640, 641, 704, 768] Po P' ∧ True) := by
  refine EvP.of qm_75 (Nat.le_of_ble_eq_true rfl) rfl ?_
  show MEvP _ none q_75 0 [(0, .ref 0), (1, .int t1)] [] _ 0 0 _
  refine mp_a (a_aload_n dX6_ways_0 rfl) (mpp 1 rfl ?_)
  refine mt_getU (i := 10) (k := 0) (A := 1) hT dX6_ways_1 rfl rl_0 (by decide) rfl (by decide) rfl un_31 (mpp 4 rfl ?_)
  refine mp_a (a_iload_n dX6_ways_4 rfl) (mpp 5 rfl ?_)
  refine mt_callv (i := 94) (q' := q_9) (As := [.int t1]) (rest := []) hT dX6_ways_5 rfl qm_9 (by decide) rfl rl_1 (by decide) rfl (Nat.le_of_ble_eq_true rfl) rfl ⟨rfl, rfl⟩ ⟨Nat.le_of_ble_eq_true rfl, Nat.le_of_ble_eq_true rfl⟩ (EvP.mono (by decide) (c_CS_pieceAt_NState hT )) (fun r1 P2 g3 => mpp 8 rfl ?_)
  obtain ⟨g3, e4⟩ := g3
  have e4 := e4.symm
  subst e4
  rcases g3 with rfl | ⟨b5, rfl, q6⟩
  · show MEvP _ none q_75 8 [(0, .ref 0), (1, .int t1)] [.null] _ _ _ _
    refine mp_a (a_astore_nN (L' := [(2, .null), (0, .ref 0), (1, .int t1)]) dX6_ways_8 (by decide) rfl) (mpp 9 rfl ?_)
    refine mp_a (a_aload_nN dX6_ways_9 rfl) (mpp 10 rfl ?_)
    refine mp_t (s_ifnonnullN dX6_ways_10) (mpp 13 rfl ?_)
    refine mp_a (a_sipush (v := -1001) dX6_ways_13 rfl) (mpp 16 rfl ?_)
    refine mp_a (a_goto (t := 27) dX6_ways_16 (by decide)) ?_
    exact mp_iret ⟨⟨_, rfl, trivial⟩, hT, KW.refl, trivial⟩ dX6_ways_27 (Or.inl rfl)
  · show MEvP _ none q_75 8 [(0, .ref 0), (1, .int t1)] [.ref b5] _ _ _ _
    refine mp_a (a_astore_n (L' := [(2, .ref b5), (0, .ref 0), (1, .int t1)]) dX6_ways_8 (by decide) rfl) (mpp 9 rfl ?_)
    refine mp_a (a_aload_n dX6_ways_9 rfl) (mpp 10 rfl ?_)
    refine mp_t (s_ifnonnullR (t := 19) dX6_ways_10 (by decide)) ?_
    refine mp_a (a_aload_n dX6_ways_19 rfl) (mpp 20 rfl ?_)
    refine mt_getU (i := 39) (k := 5) (A := 291) hT dX6_ways_20 rfl rl_0 (by decide) rfl (by decide) rfl un_10 (mpp 23 rfl ?_)
    refine mp_a (a_aload_n dX6_ways_23 rfl) (mpp 24 rfl ?_)
    refine mt_callv (i := 197) (q' := q_76) (As := [.ref b5]) (rest := []) hT dX6_ways_24 rfl qm_76 (by decide) rfl rl_291 (by decide) rfl (Nat.le_of_ble_eq_true rfl) rfl ⟨rfl, rfl⟩ ⟨Nat.le_of_ble_eq_true rfl, Nat.le_of_ble_eq_true rfl⟩ (EvP.mono (by decide) (c_CR_countWays_Reducer_NPiece hT q6)) (fun r7 P8 g9 => mpp 27 rfl ?_)
    obtain ⟨⟨x10, rfl, g11⟩, hT12, k13, R14⟩ := g9
    have k15 : KW [640, 641, 704, 768] Po P8 := KW.trans KW.refl k13 rfl
    have wx10 := ti_full x10
    show MEvP _ none q_75 27 [(2, .ref b5), (0, .ref 0), (1, .int t1)] [.int x10] _ _ _ _
    exact mp_iret ⟨⟨_, rfl, trivial⟩, hT12, k15, trivial⟩ dX6_ways_27 (Or.inl rfl)

set_option maxHeartbeats 4000000 in
theorem c_CR_fewestChanges_Reducer_NPiece_l6 {Po : mP} {a1_ : Nat} (ha1 : rl a1_ = 33) : ∀ (n : Nat) (v2 : Int32) (v3 : Int32), ∀ (P : mP), Typ P → KW [640, 641, 704, 768] Po P → (0 ≤ v3.toInt) → (2147483647 - v3.toInt).toNat = n → MEvP 4 none q_81 6 [(0, .ref 291), (1, .ref a1_), (2, .int v2), (3, .int v3)] [] P 0 0 (fun r P' => (∃ x : Int32, r = some (.int x) ∧ (True)) ∧ Typ P' ∧ KW [640, 641, 704, 768] Po P' ∧ True) := by
  intro n
  induction n using Nat.strongRecOn with | _ n ih => ?_
  intro v2 v3 P hT hK i_0 hm
  have w_v2 := ti_full v2
  have w_v3 := ti_full v3
  refine mp_a (a_iload_n dX3_fewestChanges_6 rfl) (mpp 7 rfl ?_)
  refine mp_a (a_iconst (v := 1) dX3_fewestChanges_7 rfl) (mpp 8 rfl ?_)
  refine mp_a (a_aload_n dX3_fewestChanges_8 rfl) (mpp 9 rfl ?_)
  refine mt_callv (i := 34) (q' := q_25) (As := []) (rest := [.int 1, .int v3]) hT dX3_fewestChanges_9 rfl qm_25 (by decide) rfl ha1 (by decide) rfl (Nat.le_of_ble_eq_true rfl) rfl ⟨rfl, rfl⟩ ⟨Nat.le_of_ble_eq_true rfl, Nat.le_of_ble_eq_true rfl⟩ (EvP.mono (by decide) (c_CP_creaseCount_NPiece hT ha1)) (fun r1 P2 g3 => mpp 12 rfl ?_)
  obtain ⟨⟨x4, rfl, g5⟩, e6⟩ := g3
  have e6 := e6.symm
  subst e6
  have wx4 := ti_full x4
  have g5 : -1 ≤ x4.toInt ∧ x4.toInt ≤ (fv P a1_ 1).toInt := g5
  have g7 : (0 : Int) ≤ (fv P a1_ 1).toInt ∧ (fv P a1_ 1).toInt ≤ 8 := Typ.rng hT ha1 (by decide) (by decide) rfl
  show MEvP _ none q_81 12 [(0, .ref 291), (1, .ref a1_), (2, .int v2), (3, .int v3)] [.int x4, .int 1, .int v3] _ _ _ _
  obtain ⟨z8, h9⟩ := ti_ex (1 <<< (x4 &&& 31) : Int32)
  have wz8 := ti_full z8
  refine mp_t (s_ishl (v := z8) dX3_fewestChanges_12 h9) (mpp 13 rfl ?_)
  refine mp_Tb (t := 54) (j_icmp_ge dX3_fewestChanges_13) (by decide) (fun c10 => ?_) (fun c10 => mpp 16 rfl ?_)
  · have c10 : v3.toInt ≥ z8.toInt := ti_ge c10
    refine mp_a (a_iload_n dX3_fewestChanges_54 rfl) (mpp 55 rfl ?_)
    exact mp_iret ⟨⟨_, rfl, trivial⟩, hT, hK, trivial⟩ dX3_fewestChanges_55 (Or.inl rfl)
  · have c10 : v3.toInt < z8.toInt := ti_ge_n c10
    refine mp_a (a_aload_n dX3_fewestChanges_16 rfl) (mpp 17 rfl ?_)
    refine mp_a (a_iload_n dX3_fewestChanges_17 rfl) (mpp 18 rfl ?_)
    refine mp_calls (i := 86) (q' := q_77) (As := [.ref a1_, .int v3]) (rest := []) dX3_fewestChanges_18 rfl qm_77 (by decide) rfl (Nat.le_of_ble_eq_true rfl) rfl ⟨rfl, rfl⟩ ⟨Nat.le_of_ble_eq_true rfl, Nat.le_of_ble_eq_true rfl⟩ (EvP.mono (by decide) (c_CR_changesTo_NPiece hT ha1)) (fun r11 P12 g13 => mpp 21 rfl ?_)
    obtain ⟨⟨x14, rfl, g15⟩, e16⟩ := g13
    have e16 := e16.symm
    subst e16
    have wx14 := ti_full x14
    show MEvP _ none q_81 21 [(0, .ref 291), (1, .ref a1_), (2, .int v2), (3, .int v3)] [.int x14] _ _ _ _
    refine mp_a (a_istore (L' := [(4, .int x14), (0, .ref 291), (1, .ref a1_), (2, .int v2), (3, .int v3)]) dX3_fewestChanges_21 (by decide) rfl) (mpp 23 rfl ?_)
    refine mp_a (a_iload_n dX3_fewestChanges_23 rfl) (mpp 24 rfl ?_)
    refine mp_a (a_sipush (v := -1004) dX3_fewestChanges_24 rfl) (mpp 27 rfl ?_)
    refine mp_Tb (t := 36) (j_icmp_eq dX3_fewestChanges_27) (by decide) (fun c17 => ?_) (fun c17 => mpp 30 rfl ?_)
    · have c17 : v2.toInt = (-1004) := ti_eq c17
      refine mp_a (a_aload_n dX3_fewestChanges_36 rfl) (mpp 37 rfl ?_)
      refine mp_a (a_aload_n dX3_fewestChanges_37 rfl) (mpp 38 rfl ?_)
      refine mp_a (a_iload_n dX3_fewestChanges_38 rfl) (mpp 39 rfl ?_)
      refine mt_callv (i := 90) (q' := q_79) (As := [.ref a1_, .int v3]) (rest := []) hT dX3_fewestChanges_39 rfl qm_79 (by decide) rfl rl_291 (by decide) rfl (Nat.le_of_ble_eq_true rfl) rfl ⟨rfl, rfl⟩ ⟨Nat.le_of_ble_eq_true rfl, Nat.le_of_ble_eq_true rfl⟩ (EvP.mono (by decide) (c_CR_foldsWith_Reducer_NPiece hT ha1)) (fun r18 P19 g20 => mpp 42 rfl ?_)
      obtain ⟨⟨x21, rfl, g22⟩, hT23, k24, R25⟩ := g20
      have k26 : KW [640, 641, 704, 768] Po P19 := KW.trans hK k24 rfl
      have wx21 := ti_full x21
      have g22 : 0 ≤ x21.toInt ∧ x21.toInt ≤ 1 := g22
      show MEvP _ none q_81 42 [(4, .int x14), (0, .ref 291), (1, .ref a1_), (2, .int v2), (3, .int v3)] [.int x21] _ _ _ _
      refine mp_Tb (t := 48) (j_if_eq dX3_fewestChanges_42) (by decide) (fun c27 => ?_) (fun c27 => mpp 45 rfl ?_)
      · have c27 : x21.toInt = 0 := ti_eq c27
        obtain ⟨z28, h29⟩ := ti_ex (v3 + 1 : Int32)
        have wz28 := ti_full z28
        refine mp_a (a_iinc (v := z28) (L' := [(3, .int z28), (4, .int x14), (0, .ref 291), (1, .ref a1_), (2, .int v2)]) dX3_fewestChanges_48 (by decide) rfl h29 rfl) (mpp 51 rfl ?_)
        try have e30 : z28.toInt = v3.toInt + 1 := ti_addz h29 rfl rfl (by omega) (by omega)
        refine mp_a (a_goto (t := 6) dX3_fewestChanges_51 (by decide)) ?_
        refine MEvP.less (L := [(0, .ref 291), (1, .ref a1_), (2, .int v2), (3, .int z28)]) rfl rfl ⟨rfl, rfl, rfl, rfl, trivial⟩ ?_
        have i31 : 0 ≤ z28.toInt := by omega
        exact ih _ (by omega) _ _ P19 hT23 k26 i31 rfl
      · have c27 : x21.toInt ≠ 0 := ti_eq_n c27
        refine mp_a (a_iload dX3_fewestChanges_45 rfl) (mpp 47 rfl ?_)
        refine mp_a (a_istore_n (L' := [(2, .int x14), (4, .int x14), (0, .ref 291), (1, .ref a1_), (3, .int v3)]) dX3_fewestChanges_47 (by decide) rfl) (mpp 48 rfl ?_)
        obtain ⟨z32, h33⟩ := ti_ex (v3 + 1 : Int32)
        have wz32 := ti_full z32
        refine mp_a (a_iinc (v := z32) (L' := [(3, .int z32), (2, .int x14), (4, .int x14), (0, .ref 291), (1, .ref a1_)]) dX3_fewestChanges_48 (by decide) rfl h33 rfl) (mpp 51 rfl ?_)
        try have e34 : z32.toInt = v3.toInt + 1 := ti_addz h33 rfl rfl (by omega) (by omega)
        refine mp_a (a_goto (t := 6) dX3_fewestChanges_51 (by decide)) ?_
        refine MEvP.less (L := [(0, .ref 291), (1, .ref a1_), (2, .int x14), (3, .int z32)]) rfl rfl ⟨rfl, rfl, rfl, rfl, trivial⟩ ?_
        have i35 : 0 ≤ z32.toInt := by omega
        exact ih _ (by omega) _ _ P19 hT23 k26 i35 rfl
    · have c17 : v2.toInt ≠ (-1004) := ti_eq_n c17
      refine mp_a (a_iload dX3_fewestChanges_30 rfl) (mpp 32 rfl ?_)
      refine mp_a (a_iload_n dX3_fewestChanges_32 rfl) (mpp 33 rfl ?_)
      refine mp_Tb (t := 48) (j_icmp_ge dX3_fewestChanges_33) (by decide) (fun c36 => ?_) (fun c36 => mpp 36 rfl ?_)
      · have c36 : x14.toInt ≥ v2.toInt := ti_ge c36
        obtain ⟨z37, h38⟩ := ti_ex (v3 + 1 : Int32)
        have wz37 := ti_full z37
        refine mp_a (a_iinc (v := z37) (L' := [(3, .int z37), (4, .int x14), (0, .ref 291), (1, .ref a1_), (2, .int v2)]) dX3_fewestChanges_48 (by decide) rfl h38 rfl) (mpp 51 rfl ?_)
        try have e39 : z37.toInt = v3.toInt + 1 := ti_addz h38 rfl rfl (by omega) (by omega)
        refine mp_a (a_goto (t := 6) dX3_fewestChanges_51 (by decide)) ?_
        refine MEvP.less (L := [(0, .ref 291), (1, .ref a1_), (2, .int v2), (3, .int z37)]) rfl rfl ⟨rfl, rfl, rfl, rfl, trivial⟩ ?_
        have i40 : 0 ≤ z37.toInt := by omega
        exact ih _ (by omega) _ _ P hT hK i40 rfl
      · have c36 : x14.toInt < v2.toInt := ti_ge_n c36
        refine mp_a (a_aload_n dX3_fewestChanges_36 rfl) (mpp 37 rfl ?_)
        refine mp_a (a_aload_n dX3_fewestChanges_37 rfl) (mpp 38 rfl ?_)
        refine mp_a (a_iload_n dX3_fewestChanges_38 rfl) (mpp 39 rfl ?_)
        refine mt_callv (i := 90) (q' := q_79) (As := [.ref a1_, .int v3]) (rest := []) hT dX3_fewestChanges_39 rfl qm_79 (by decide) rfl rl_291 (by decide) rfl (Nat.le_of_ble_eq_true rfl) rfl ⟨rfl, rfl⟩ ⟨Nat.le_of_ble_eq_true rfl, Nat.le_of_ble_eq_true rfl⟩ (EvP.mono (by decide) (c_CR_foldsWith_Reducer_NPiece hT ha1)) (fun r41 P42 g43 => mpp 42 rfl ?_)
        obtain ⟨⟨x44, rfl, g45⟩, hT46, k47, R48⟩ := g43
        have k49 : KW [640, 641, 704, 768] Po P42 := KW.trans hK k47 rfl
        have wx44 := ti_full x44
        have g45 : 0 ≤ x44.toInt ∧ x44.toInt ≤ 1 := g45
        show MEvP _ none q_81 42 [(4, .int x14), (0, .ref 291), (1, .ref a1_), (2, .int v2), (3, .int v3)] [.int x44] _ _ _ _
        refine mp_Tb (t := 48) (j_if_eq dX3_fewestChanges_42) (by decide) (fun c50 => ?_) (fun c50 => mpp 45 rfl ?_)
        · have c50 : x44.toInt = 0 := ti_eq c50
          obtain ⟨z51, h52⟩ := ti_ex (v3 + 1 : Int32)
          have wz51 := ti_full z51
          refine mp_a (a_iinc (v := z51) (L' := [(3, .int z51), (4, .int x14), (0, .ref 291), (1, .ref a1_), (2, .int v2)]) dX3_fewestChanges_48 (by decide) rfl h52 rfl) (mpp 51 rfl ?_)
          try have e53 : z51.toInt = v3.toInt + 1 := ti_addz h52 rfl rfl (by omega) (by omega)
          refine mp_a (a_goto (t := 6) dX3_fewestChanges_51 (by decide)) ?_
          refine MEvP.less (L := [(0, .ref 291), (1, .ref a1_), (2, .int v2), (3, .int z51)]) rfl rfl ⟨rfl, rfl, rfl, rfl, trivial⟩ ?_
          have i54 : 0 ≤ z51.toInt := by omega
          exact ih _ (by omega) _ _ P42 hT46 k49 i54 rfl
        · have c50 : x44.toInt ≠ 0 := ti_eq_n c50
          refine mp_a (a_iload dX3_fewestChanges_45 rfl) (mpp 47 rfl ?_)
          refine mp_a (a_istore_n (L' := [(2, .int x14), (4, .int x14), (0, .ref 291), (1, .ref a1_), (3, .int v3)]) dX3_fewestChanges_47 (by decide) rfl) (mpp 48 rfl ?_)
          obtain ⟨z55, h56⟩ := ti_ex (v3 + 1 : Int32)
          have wz55 := ti_full z55
          refine mp_a (a_iinc (v := z55) (L' := [(3, .int z55), (2, .int x14), (4, .int x14), (0, .ref 291), (1, .ref a1_)]) dX3_fewestChanges_48 (by decide) rfl h56 rfl) (mpp 51 rfl ?_)
          try have e57 : z55.toInt = v3.toInt + 1 := ti_addz h56 rfl rfl (by omega) (by omega)
          refine mp_a (a_goto (t := 6) dX3_fewestChanges_51 (by decide)) ?_
          refine MEvP.less (L := [(0, .ref 291), (1, .ref a1_), (2, .int x14), (3, .int z55)]) rfl rfl ⟨rfl, rfl, rfl, rfl, trivial⟩ ?_
          have i58 : 0 ≤ z55.toInt := by omega
          exact ih _ (by omega) _ _ P42 hT46 k49 i58 rfl

set_option maxHeartbeats 4000000 in
theorem c_CR_fewestChanges_Reducer_NPiece {Po : mP} {a1_ : Nat} (hT : Typ Po)  (ha1 : rl a1_ = 33) : EvP 5 81 [.ref 291, .ref a1_] Po (fun r P' => (∃ x : Int32, r = some (.int x) ∧ (True)) ∧ Typ P' ∧ KW [640, 641, 704, 768] Po P' ∧ True) := by
  refine EvP.of qm_81 (Nat.le_of_ble_eq_true rfl) rfl ?_
  show MEvP _ none q_81 0 [(0, .ref 291), (1, .ref a1_)] [] _ 0 0 _
  refine mp_a (a_sipush (v := -1004) dX3_fewestChanges_0 rfl) (mpp 3 rfl ?_)
  refine mp_a (a_istore_n (L' := [(2, .int (-1004)), (0, .ref 291), (1, .ref a1_)]) dX3_fewestChanges_3 (by decide) rfl) (mpp 4 rfl ?_)
  refine mp_a (a_iconst (v := 0) dX3_fewestChanges_4 rfl) (mpp 5 rfl ?_)
  refine mp_a (a_istore_n (L' := [(3, .int 0), (2, .int (-1004)), (0, .ref 291), (1, .ref a1_)]) dX3_fewestChanges_5 (by decide) rfl) (mpp 6 rfl ?_)
  refine MEvP.less (L := [(0, .ref 291), (1, .ref a1_), (2, .int (-1004)), (3, .int 0)]) rfl rfl ⟨rfl, rfl, rfl, rfl, trivial⟩ ?_
  have i1 : 0 ≤ (0 : Int) := by omega
  exact c_CR_fewestChanges_Reducer_NPiece_l6  ha1 _ _ _ Po hT KW.refl i1 rfl

set_option maxHeartbeats 4000000 in
theorem c_F_fewest {Po : mP} {t1 : Int32} (hT : Typ Po)   : EvP 6 80 [.ref 0, .int t1] Po (fun r P' => (∃ x : Int32, r = some (.int x) ∧ (True)) ∧ Typ P' ∧ KW [640, 641, 704, 768] Po P' ∧ True) := by
  refine EvP.of qm_80 (Nat.le_of_ble_eq_true rfl) rfl ?_
  show MEvP _ none q_80 0 [(0, .ref 0), (1, .int t1)] [] _ 0 0 _
  refine mp_a (a_aload_n dX6_fewest_0 rfl) (mpp 1 rfl ?_)
  refine mt_getU (i := 10) (k := 0) (A := 1) hT dX6_fewest_1 rfl rl_0 (by decide) rfl (by decide) rfl un_31 (mpp 4 rfl ?_)
  refine mp_a (a_iload_n dX6_fewest_4 rfl) (mpp 5 rfl ?_)
  refine mt_callv (i := 94) (q' := q_9) (As := [.int t1]) (rest := []) hT dX6_fewest_5 rfl qm_9 (by decide) rfl rl_1 (by decide) rfl (Nat.le_of_ble_eq_true rfl) rfl ⟨rfl, rfl⟩ ⟨Nat.le_of_ble_eq_true rfl, Nat.le_of_ble_eq_true rfl⟩ (EvP.mono (by decide) (c_CS_pieceAt_NState hT )) (fun r1 P2 g3 => mpp 8 rfl ?_)
  obtain ⟨g3, e4⟩ := g3
  have e4 := e4.symm
  subst e4
  rcases g3 with rfl | ⟨b5, rfl, q6⟩
  · show MEvP _ none q_80 8 [(0, .ref 0), (1, .int t1)] [.null] _ _ _ _
    refine mp_a (a_astore_nN (L' := [(2, .null), (0, .ref 0), (1, .int t1)]) dX6_fewest_8 (by decide) rfl) (mpp 9 rfl ?_)
    refine mp_a (a_aload_nN dX6_fewest_9 rfl) (mpp 10 rfl ?_)
    refine mp_t (s_ifnonnullN dX6_fewest_10) (mpp 13 rfl ?_)
    refine mp_a (a_sipush (v := -1001) dX6_fewest_13 rfl) (mpp 16 rfl ?_)
    refine mp_a (a_goto (t := 27) dX6_fewest_16 (by decide)) ?_
    exact mp_iret ⟨⟨_, rfl, trivial⟩, hT, KW.refl, trivial⟩ dX6_fewest_27 (Or.inl rfl)
  · show MEvP _ none q_80 8 [(0, .ref 0), (1, .int t1)] [.ref b5] _ _ _ _
    refine mp_a (a_astore_n (L' := [(2, .ref b5), (0, .ref 0), (1, .int t1)]) dX6_fewest_8 (by decide) rfl) (mpp 9 rfl ?_)
    refine mp_a (a_aload_n dX6_fewest_9 rfl) (mpp 10 rfl ?_)
    refine mp_t (s_ifnonnullR (t := 19) dX6_fewest_10 (by decide)) ?_
    refine mp_a (a_aload_n dX6_fewest_19 rfl) (mpp 20 rfl ?_)
    refine mt_getU (i := 39) (k := 5) (A := 291) hT dX6_fewest_20 rfl rl_0 (by decide) rfl (by decide) rfl un_10 (mpp 23 rfl ?_)
    refine mp_a (a_aload_n dX6_fewest_23 rfl) (mpp 24 rfl ?_)
    refine mt_callv (i := 200) (q' := q_81) (As := [.ref b5]) (rest := []) hT dX6_fewest_24 rfl qm_81 (by decide) rfl rl_291 (by decide) rfl (Nat.le_of_ble_eq_true rfl) rfl ⟨rfl, rfl⟩ ⟨Nat.le_of_ble_eq_true rfl, Nat.le_of_ble_eq_true rfl⟩ (EvP.mono (by decide) (c_CR_fewestChanges_Reducer_NPiece hT q6)) (fun r7 P8 g9 => mpp 27 rfl ?_)
    obtain ⟨⟨x10, rfl, g11⟩, hT12, k13, R14⟩ := g9
    have k15 : KW [640, 641, 704, 768] Po P8 := KW.trans KW.refl k13 rfl
    have wx10 := ti_full x10
    show MEvP _ none q_80 27 [(2, .ref b5), (0, .ref 0), (1, .int t1)] [.int x10] _ _ _ _
    exact mp_iret ⟨⟨_, rfl, trivial⟩, hT12, k15, trivial⟩ dX6_fewest_27 (Or.inl rfl)

set_option maxHeartbeats 4000000 in
theorem c_F_place {Po : mP} {t1 : Int32} {t2 : Int32} (hT : Typ Po)   : EvP 3 82 [.ref 0, .int t1, .int t2] Po (fun r P' => (∃ x : Int32, r = some (.int x) ∧ (True)) ∧ P' = Po) := by
  refine EvP.of qm_82 (Nat.le_of_ble_eq_true rfl) rfl ?_
  show MEvP _ none q_82 0 [(0, .ref 0), (1, .int t1), (2, .int t2)] [] _ 0 0 _
  refine mp_a (a_aload_n dX6_place_0 rfl) (mpp 1 rfl ?_)
  refine mt_getU (i := 10) (k := 0) (A := 1) hT dX6_place_1 rfl rl_0 (by decide) rfl (by decide) rfl un_31 (mpp 4 rfl ?_)
  refine mp_a (a_iload_n dX6_place_4 rfl) (mpp 5 rfl ?_)
  refine mt_callv (i := 94) (q' := q_9) (As := [.int t1]) (rest := []) hT dX6_place_5 rfl qm_9 (by decide) rfl rl_1 (by decide) rfl (Nat.le_of_ble_eq_true rfl) rfl ⟨rfl, rfl⟩ ⟨Nat.le_of_ble_eq_true rfl, Nat.le_of_ble_eq_true rfl⟩ (EvP.mono (by decide) (c_CS_pieceAt_NState hT )) (fun r1 P2 g3 => mpp 8 rfl ?_)
  obtain ⟨g3, e4⟩ := g3
  have e4 := e4.symm
  subst e4
  rcases g3 with rfl | ⟨b5, rfl, q6⟩
  · show MEvP _ none q_82 8 [(0, .ref 0), (1, .int t1), (2, .int t2)] [.null] _ _ _ _
    refine mp_a (a_astore_nN (L' := [(3, .null), (0, .ref 0), (1, .int t1), (2, .int t2)]) dX6_place_8 (by decide) rfl) (mpp 9 rfl ?_)
    refine mp_a (a_aload_nN dX6_place_9 rfl) (mpp 10 rfl ?_)
    refine mp_t (s_ifnonnullN dX6_place_10) (mpp 13 rfl ?_)
    refine mp_a (a_sipush (v := -1001) dX6_place_13 rfl) (mpp 16 rfl ?_)
    exact mp_iret ⟨⟨_, rfl, trivial⟩, rfl⟩ dX6_place_16 (Or.inl rfl)
  · show MEvP _ none q_82 8 [(0, .ref 0), (1, .int t1), (2, .int t2)] [.ref b5] _ _ _ _
    refine mp_a (a_astore_n (L' := [(3, .ref b5), (0, .ref 0), (1, .int t1), (2, .int t2)]) dX6_place_8 (by decide) rfl) (mpp 9 rfl ?_)
    refine mp_a (a_aload_n dX6_place_9 rfl) (mpp 10 rfl ?_)
    refine mp_t (s_ifnonnullR (t := 17) dX6_place_10 (by decide)) ?_
    refine mp_a (a_aload_n dX6_place_17 rfl) (mpp 18 rfl ?_)
    have g7 := ti_full (fv Po b5 0)
    refine mt_getI (i := 130) (k := 0) hT dX6_place_18 rfl q6 (by decide) rfl (by decide) rfl (fun g8 g9 => mpp 21 rfl ?_)
    refine mp_Tb (t := 28) (j_if_eq dX6_place_21) (by decide) (fun c10 => ?_) (fun c10 => mpp 24 rfl ?_)
    · have c10 : (fv Po b5 0).toInt = 0 := ti_eq c10
      refine mp_a (a_iload_n dX6_place_28 rfl) (mpp 29 rfl ?_)
      refine mp_Tb (t := 40) (j_if_lt dX6_place_29) (by decide) (fun c11 => ?_) (fun c11 => mpp 32 rfl ?_)
      · have c11 : t2.toInt < 0 := ti_lt c11
        refine mp_a (a_sipush (v := -1001) dX6_place_40 rfl) (mpp 43 rfl ?_)
        exact mp_iret ⟨⟨_, rfl, trivial⟩, rfl⟩ dX6_place_43 (Or.inl rfl)
      · have c11 : t2.toInt ≥ 0 := ti_lt_n c11
        refine mp_a (a_iload_n dX6_place_32 rfl) (mpp 33 rfl ?_)
        refine mp_a (a_aload_n dX6_place_33 rfl) (mpp 34 rfl ?_)
        have g12 : (0 : Int) ≤ (fv Po b5 1).toInt ∧ (fv Po b5 1).toInt ≤ 8 := Typ.rng hT q6 (by decide) (by decide) rfl
        refine mt_getI (i := 143) (k := 1) hT dX6_place_34 rfl q6 (by decide) rfl (by decide) rfl (fun g13 g14 => mpp 37 rfl ?_)
        refine mp_Tb (t := 44) (j_icmp_le dX6_place_37) (by decide) (fun c15 => ?_) (fun c15 => mpp 40 rfl ?_)
        · have c15 : t2.toInt ≤ (fv Po b5 1).toInt := ti_le c15
          refine mp_a (a_aload_n dX6_place_44 rfl) (mpp 45 rfl ?_)
          refine mp_a (a_iload_n dX6_place_45 rfl) (mpp 46 rfl ?_)
          refine mt_callv (i := 203) (q' := q_13) (As := [.int t2]) (rest := []) hT dX6_place_46 rfl qm_13 (by decide) rfl q6 (by decide) rfl (Nat.le_of_ble_eq_true rfl) rfl ⟨rfl, rfl⟩ ⟨Nat.le_of_ble_eq_true rfl, Nat.le_of_ble_eq_true rfl⟩ (EvP.mono (by decide) (c_CP_placeOf_NPiece hT q6)) (fun r16 P17 g18 => mpp 49 rfl ?_)
          obtain ⟨⟨x19, rfl, g20⟩, e21⟩ := g18
          have e21 := e21.symm
          subst e21
          have wx19 := ti_full x19
          show MEvP _ none q_82 49 [(3, .ref b5), (0, .ref 0), (1, .int t1), (2, .int t2)] [.int x19] _ _ _ _
          exact mp_iret ⟨⟨_, rfl, trivial⟩, rfl⟩ dX6_place_49 (Or.inl rfl)
        · have c15 : t2.toInt > (fv Po b5 1).toInt := ti_le_n c15
          refine mp_a (a_sipush (v := -1001) dX6_place_40 rfl) (mpp 43 rfl ?_)
          exact mp_iret ⟨⟨_, rfl, trivial⟩, rfl⟩ dX6_place_43 (Or.inl rfl)
    · have c10 : (fv Po b5 0).toInt ≠ 0 := ti_eq_n c10
      refine mp_a (a_sipush (v := -1002) dX6_place_24 rfl) (mpp 27 rfl ?_)
      exact mp_iret ⟨⟨_, rfl, trivial⟩, rfl⟩ dX6_place_27 (Or.inl rfl)

set_option maxHeartbeats 4000000 in
theorem c_CP_leftEndOf_NPiece {Po : mP} {a0_ : Nat} {t1 : Int32} (hT : Typ Po)  (ha0 : rl a0_ = 33) : EvP 3 87 [.ref a0_, .int t1] Po (fun r P' => (∃ x : Int32, r = some (.int x) ∧ (True)) ∧ P' = Po) := by
  refine EvP.of qm_87 (Nat.le_of_ble_eq_true rfl) rfl ?_
  show MEvP _ none q_87 0 [(0, .ref a0_), (1, .int t1)] [] _ 0 0 _
  refine mp_a (a_aload_n dX2_leftEndOf_0 rfl) (mpp 1 rfl ?_)
  refine mp_a (a_iload_n dX2_leftEndOf_1 rfl) (mpp 2 rfl ?_)
  refine mt_callv (i := 56) (q' := q_13) (As := [.int t1]) (rest := []) hT dX2_leftEndOf_2 rfl qm_13 (by decide) rfl ha0 (by decide) rfl (Nat.le_of_ble_eq_true rfl) rfl ⟨rfl, rfl⟩ ⟨Nat.le_of_ble_eq_true rfl, Nat.le_of_ble_eq_true rfl⟩ (EvP.mono (by decide) (c_CP_placeOf_NPiece hT ha0)) (fun r1 P2 g3 => mpp 5 rfl ?_)
  obtain ⟨⟨x4, rfl, g5⟩, e6⟩ := g3
  have e6 := e6.symm
  subst e6
  have wx4 := ti_full x4
  show MEvP _ none q_87 5 [(0, .ref a0_), (1, .int t1)] [.int x4] _ _ _ _
  refine mp_a (a_aload_n dX2_leftEndOf_5 rfl) (mpp 6 rfl ?_)
  refine mp_a (a_iload_n dX2_leftEndOf_6 rfl) (mpp 7 rfl ?_)
  refine mp_a (a_iconst (v := 1) dX2_leftEndOf_7 rfl) (mpp 8 rfl ?_)
  obtain ⟨z7, h8⟩ := ti_ex (t1 + 1 : Int32)
  have wz7 := ti_full z7
  refine mp_t (s_iadd (v := z7) dX2_leftEndOf_8 h8) (mpp 9 rfl ?_)
  try have e9 : z7.toInt = t1.toInt + 1 := ti_addz h8 rfl rfl (by omega) (by omega)
  refine mt_callv (i := 56) (q' := q_13) (As := [.int z7]) (rest := [.int x4]) hT dX2_leftEndOf_9 rfl qm_13 (by decide) rfl ha0 (by decide) rfl (Nat.le_of_ble_eq_true rfl) rfl ⟨rfl, rfl⟩ ⟨Nat.le_of_ble_eq_true rfl, Nat.le_of_ble_eq_true rfl⟩ (EvP.mono (by decide) (c_CP_placeOf_NPiece hT ha0)) (fun r10 P11 g12 => mpp 12 rfl ?_)
  obtain ⟨⟨x13, rfl, g14⟩, e15⟩ := g12
  have e15 := e15.symm
  subst e15
  have wx13 := ti_full x13
  show MEvP _ none q_87 12 [(0, .ref a0_), (1, .int t1)] [.int x13, .int x4] _ _ _ _
  obtain ⟨z16, h17⟩ := ti_ex (if (8 : Nat) = 7 then (if x4 < x13 then x13 else x4) else (if x13 < x4 then x13 else x4) : Int32)
  have e18 : z16.toInt = min x4.toInt x13.toInt := ti_mm8 h17
  refine mp_math (i := 59) (k := 0) (v := z16) dX2_leftEndOf_12 rfl (by decide) (Nat.le_of_ble_eq_true rfl) h17 ⟨Nat.le_of_ble_eq_true rfl, Nat.le_of_ble_eq_true rfl⟩ (mpp 15 rfl ?_)
  exact mp_iret ⟨⟨_, rfl, trivial⟩, rfl⟩ dX2_leftEndOf_15 (Or.inl rfl)

set_option maxHeartbeats 4000000 in
theorem c_CP_rightEndOf_NPiece {Po : mP} {a0_ : Nat} {t1 : Int32} (hT : Typ Po)  (ha0 : rl a0_ = 33) : EvP 3 89 [.ref a0_, .int t1] Po (fun r P' => (∃ x : Int32, r = some (.int x) ∧ (True)) ∧ P' = Po) := by
  refine EvP.of qm_89 (Nat.le_of_ble_eq_true rfl) rfl ?_
  show MEvP _ none q_89 0 [(0, .ref a0_), (1, .int t1)] [] _ 0 0 _
  refine mp_a (a_aload_n dX2_rightEndOf_0 rfl) (mpp 1 rfl ?_)
  refine mp_a (a_iload_n dX2_rightEndOf_1 rfl) (mpp 2 rfl ?_)
  refine mt_callv (i := 56) (q' := q_13) (As := [.int t1]) (rest := []) hT dX2_rightEndOf_2 rfl qm_13 (by decide) rfl ha0 (by decide) rfl (Nat.le_of_ble_eq_true rfl) rfl ⟨rfl, rfl⟩ ⟨Nat.le_of_ble_eq_true rfl, Nat.le_of_ble_eq_true rfl⟩ (EvP.mono (by decide) (c_CP_placeOf_NPiece hT ha0)) (fun r1 P2 g3 => mpp 5 rfl ?_)
  obtain ⟨⟨x4, rfl, g5⟩, e6⟩ := g3
  have e6 := e6.symm
  subst e6
  have wx4 := ti_full x4
  show MEvP _ none q_89 5 [(0, .ref a0_), (1, .int t1)] [.int x4] _ _ _ _
  refine mp_a (a_aload_n dX2_rightEndOf_5 rfl) (mpp 6 rfl ?_)
  refine mp_a (a_iload_n dX2_rightEndOf_6 rfl) (mpp 7 rfl ?_)
  refine mp_a (a_iconst (v := 1) dX2_rightEndOf_7 rfl) (mpp 8 rfl ?_)
  obtain ⟨z7, h8⟩ := ti_ex (t1 + 1 : Int32)
  have wz7 := ti_full z7
  refine mp_t (s_iadd (v := z7) dX2_rightEndOf_8 h8) (mpp 9 rfl ?_)
  try have e9 : z7.toInt = t1.toInt + 1 := ti_addz h8 rfl rfl (by omega) (by omega)
  refine mt_callv (i := 56) (q' := q_13) (As := [.int z7]) (rest := [.int x4]) hT dX2_rightEndOf_9 rfl qm_13 (by decide) rfl ha0 (by decide) rfl (Nat.le_of_ble_eq_true rfl) rfl ⟨rfl, rfl⟩ ⟨Nat.le_of_ble_eq_true rfl, Nat.le_of_ble_eq_true rfl⟩ (EvP.mono (by decide) (c_CP_placeOf_NPiece hT ha0)) (fun r10 P11 g12 => mpp 12 rfl ?_)
  obtain ⟨⟨x13, rfl, g14⟩, e15⟩ := g12
  have e15 := e15.symm
  subst e15
  have wx13 := ti_full x13
  show MEvP _ none q_89 12 [(0, .ref a0_), (1, .int t1)] [.int x13, .int x4] _ _ _ _
  obtain ⟨z16, h17⟩ := ti_ex (if (7 : Nat) = 7 then (if x4 < x13 then x13 else x4) else (if x13 < x4 then x13 else x4) : Int32)
  have e18 : z16.toInt = max x4.toInt x13.toInt := ti_mm7 h17
  refine mp_math (i := 65) (k := 0) (v := z16) dX2_rightEndOf_12 rfl (by decide) (Nat.le_of_ble_eq_true rfl) h17 ⟨Nat.le_of_ble_eq_true rfl, Nat.le_of_ble_eq_true rfl⟩ (mpp 15 rfl ?_)
  exact mp_iret ⟨⟨_, rfl, trivial⟩, rfl⟩ dX2_rightEndOf_15 (Or.inl rfl)

set_option maxHeartbeats 4000000 in
theorem c_CP_panelsBehind_NPiece_l4 {Po : mP} {a0_ : Nat} {t1 : Int32} (hT : Typ Po)  (ha0 : rl a0_ = 33) : ∀ (n : Nat) (v2 : Int32) (v3 : Int32), (0 ≤ v3.toInt) → (2147483647 - v3.toInt).toNat = n → MEvP 3 none q_88 4 [(0, .ref a0_), (1, .int t1), (2, .int v2), (3, .int v3)] [] Po 0 0 (fun r P' => (∃ x : Int32, r = some (.int x) ∧ (True)) ∧ P' = Po) := by
  intro n
  induction n using Nat.strongRecOn with | _ n ih => ?_
  intro v2 v3 i_0 hm
  have w_v2 := ti_full v2
  have w_v3 := ti_full v3
  refine mp_a (a_iload_n dX2_panelsBehind_4 rfl) (mpp 5 rfl ?_)
  refine mp_a (a_aload_n dX2_panelsBehind_5 rfl) (mpp 6 rfl ?_)
  have g1 : (0 : Int) ≤ (fv Po a0_ 1).toInt ∧ (fv Po a0_ 1).toInt ≤ 8 := Typ.rng hT ha0 (by decide) (by decide) rfl
  refine mt_getI (i := 26) (k := 1) hT dX2_panelsBehind_6 rfl ha0 (by decide) rfl (by decide) rfl (fun g2 g3 => mpp 9 rfl ?_)
  refine mp_Tb (t := 39) (j_icmp_ge dX2_panelsBehind_9) (by decide) (fun c4 => ?_) (fun c4 => mpp 12 rfl ?_)
  · have c4 : v3.toInt ≥ (fv Po a0_ 1).toInt := ti_ge c4
    refine mp_a (a_iload_n dX2_panelsBehind_39 rfl) (mpp 40 rfl ?_)
    exact mp_iret ⟨⟨_, rfl, trivial⟩, rfl⟩ dX2_panelsBehind_40 (Or.inl rfl)
  · have c4 : v3.toInt < (fv Po a0_ 1).toInt := ti_ge_n c4
    refine mp_a (a_aload_n dX2_panelsBehind_12 rfl) (mpp 13 rfl ?_)
    refine mp_a (a_iload_n dX2_panelsBehind_13 rfl) (mpp 14 rfl ?_)
    refine mt_callv (i := 71) (q' := q_87) (As := [.int v3]) (rest := []) hT dX2_panelsBehind_14 rfl qm_87 (by decide) rfl ha0 (by decide) rfl (Nat.le_of_ble_eq_true rfl) rfl ⟨rfl, rfl⟩ ⟨Nat.le_of_ble_eq_true rfl, Nat.le_of_ble_eq_true rfl⟩ (EvP.mono (by decide) (c_CP_leftEndOf_NPiece hT ha0)) (fun r5 P6 g7 => mpp 17 rfl ?_)
    obtain ⟨⟨x8, rfl, g9⟩, e10⟩ := g7
    have e10 := e10.symm
    subst e10
    have wx8 := ti_full x8
    show MEvP _ none q_88 17 [(0, .ref a0_), (1, .int t1), (2, .int v2), (3, .int v3)] [.int x8] _ _ _ _
    refine mp_a (a_iload_n dX2_panelsBehind_17 rfl) (mpp 18 rfl ?_)
    refine mp_Tb (t := 33) (j_icmp_gt dX2_panelsBehind_18) (by decide) (fun c11 => ?_) (fun c11 => mpp 21 rfl ?_)
    · have c11 : x8.toInt > t1.toInt := ti_gt c11
      obtain ⟨z12, h13⟩ := ti_ex (v3 + 1 : Int32)
      have wz12 := ti_full z12
      refine mp_a (a_iinc (v := z12) (L' := [(3, .int z12), (0, .ref a0_), (1, .int t1), (2, .int v2)]) dX2_panelsBehind_33 (by decide) rfl h13 rfl) (mpp 36 rfl ?_)
      try have e14 : z12.toInt = v3.toInt + 1 := ti_addz h13 rfl rfl (by omega) (by omega)
      refine mp_a (a_goto (t := 4) dX2_panelsBehind_36 (by decide)) ?_
      refine MEvP.less (L := [(0, .ref a0_), (1, .int t1), (2, .int v2), (3, .int z12)]) rfl rfl ⟨rfl, rfl, rfl, rfl, trivial⟩ ?_
      have i15 : 0 ≤ z12.toInt := by omega
      exact ih _ (by omega) _ _ i15 rfl
    · have c11 : x8.toInt ≤ t1.toInt := ti_gt_n c11
      refine mp_a (a_iload_n dX2_panelsBehind_21 rfl) (mpp 22 rfl ?_)
      refine mp_a (a_aload_n dX2_panelsBehind_22 rfl) (mpp 23 rfl ?_)
      refine mp_a (a_iload_n dX2_panelsBehind_23 rfl) (mpp 24 rfl ?_)
      refine mt_callv (i := 77) (q' := q_89) (As := [.int v3]) (rest := [.int t1]) hT dX2_panelsBehind_24 rfl qm_89 (by decide) rfl ha0 (by decide) rfl (Nat.le_of_ble_eq_true rfl) rfl ⟨rfl, rfl⟩ ⟨Nat.le_of_ble_eq_true rfl, Nat.le_of_ble_eq_true rfl⟩ (EvP.mono (by decide) (c_CP_rightEndOf_NPiece hT ha0)) (fun r16 P17 g18 => mpp 27 rfl ?_)
      obtain ⟨⟨x19, rfl, g20⟩, e21⟩ := g18
      have e21 := e21.symm
      subst e21
      have wx19 := ti_full x19
      show MEvP _ none q_88 27 [(0, .ref a0_), (1, .int t1), (2, .int v2), (3, .int v3)] [.int x19, .int t1] _ _ _ _
      refine mp_Tb (t := 33) (j_icmp_ge dX2_panelsBehind_27) (by decide) (fun c22 => ?_) (fun c22 => mpp 30 rfl ?_)
      · have c22 : t1.toInt ≥ x19.toInt := ti_ge c22
        obtain ⟨z23, h24⟩ := ti_ex (v3 + 1 : Int32)
        have wz23 := ti_full z23
        refine mp_a (a_iinc (v := z23) (L' := [(3, .int z23), (0, .ref a0_), (1, .int t1), (2, .int v2)]) dX2_panelsBehind_33 (by decide) rfl h24 rfl) (mpp 36 rfl ?_)
        try have e25 : z23.toInt = v3.toInt + 1 := ti_addz h24 rfl rfl (by omega) (by omega)
        refine mp_a (a_goto (t := 4) dX2_panelsBehind_36 (by decide)) ?_
        refine MEvP.less (L := [(0, .ref a0_), (1, .int t1), (2, .int v2), (3, .int z23)]) rfl rfl ⟨rfl, rfl, rfl, rfl, trivial⟩ ?_
        have i26 : 0 ≤ z23.toInt := by omega
        exact ih _ (by omega) _ _ i26 rfl
      · have c22 : t1.toInt < x19.toInt := ti_ge_n c22
        obtain ⟨z27, h28⟩ := ti_ex (v2 + 1 : Int32)
        have wz27 := ti_full z27
        refine mp_a (a_iinc (v := z27) (L' := [(2, .int z27), (0, .ref a0_), (1, .int t1), (3, .int v3)]) dX2_panelsBehind_30 (by decide) rfl h28 rfl) (mpp 33 rfl ?_)
        try have e29 : z27.toInt = v2.toInt + 1 := ti_addz h28 rfl rfl (by omega) (by omega)
        obtain ⟨z30, h31⟩ := ti_ex (v3 + 1 : Int32)
        have wz30 := ti_full z30
        refine mp_a (a_iinc (v := z30) (L' := [(3, .int z30), (2, .int z27), (0, .ref a0_), (1, .int t1)]) dX2_panelsBehind_33 (by decide) rfl h31 rfl) (mpp 36 rfl ?_)
        try have e32 : z30.toInt = v3.toInt + 1 := ti_addz h31 rfl rfl (by omega) (by omega)
        refine mp_a (a_goto (t := 4) dX2_panelsBehind_36 (by decide)) ?_
        refine MEvP.less (L := [(0, .ref a0_), (1, .int t1), (2, .int z27), (3, .int z30)]) rfl rfl ⟨rfl, rfl, rfl, rfl, trivial⟩ ?_
        have i33 : 0 ≤ z30.toInt := by omega
        exact ih _ (by omega) _ _ i33 rfl

set_option maxHeartbeats 4000000 in
theorem c_CP_panelsBehind_NPiece {Po : mP} {a0_ : Nat} {t1 : Int32} (hT : Typ Po)  (ha0 : rl a0_ = 33) : EvP 4 88 [.ref a0_, .int t1] Po (fun r P' => (∃ x : Int32, r = some (.int x) ∧ (True)) ∧ P' = Po) := by
  refine EvP.of qm_88 (Nat.le_of_ble_eq_true rfl) rfl ?_
  show MEvP _ none q_88 0 [(0, .ref a0_), (1, .int t1)] [] _ 0 0 _
  refine mp_a (a_iconst (v := 0) dX2_panelsBehind_0 rfl) (mpp 1 rfl ?_)
  refine mp_a (a_istore_n (L' := [(2, .int 0), (0, .ref a0_), (1, .int t1)]) dX2_panelsBehind_1 (by decide) rfl) (mpp 2 rfl ?_)
  refine mp_a (a_iconst (v := 0) dX2_panelsBehind_2 rfl) (mpp 3 rfl ?_)
  refine mp_a (a_istore_n (L' := [(3, .int 0), (2, .int 0), (0, .ref a0_), (1, .int t1)]) dX2_panelsBehind_3 (by decide) rfl) (mpp 4 rfl ?_)
  refine MEvP.less (L := [(0, .ref a0_), (1, .int t1), (2, .int 0), (3, .int 0)]) rfl rfl ⟨rfl, rfl, rfl, rfl, trivial⟩ ?_
  have i1 : 0 ≤ (0 : Int) := by omega
  exact c_CP_panelsBehind_NPiece_l4 hT  ha0 _ _ _ i1 rfl

set_option maxHeartbeats 4000000 in
theorem c_CP_thickness_NPiece_l4 {Po : mP} {a0_ : Nat} (hT : Typ Po)  (ha0 : rl a0_ = 33) : ∀ (n : Nat) (v1 : Int32) (v2 : Int32), (0 ≤ v2.toInt) → (2147483647 - v2.toInt).toNat = n → MEvP 4 none q_86 4 [(0, .ref a0_), (1, .int v1), (2, .int v2)] [] Po 0 0 (fun r P' => (∃ x : Int32, r = some (.int x) ∧ (True)) ∧ P' = Po) := by
  intro n
  induction n using Nat.strongRecOn with | _ n ih => ?_
  intro v1 v2 i_0 hm
  have w_v1 := ti_full v1
  have w_v2 := ti_full v2
  refine mp_a (a_iload_n dX2_thickness_4 rfl) (mpp 5 rfl ?_)
  refine mp_a (a_aload_n dX2_thickness_5 rfl) (mpp 6 rfl ?_)
  have g1 : (0 : Int) ≤ (fv Po a0_ 1).toInt ∧ (fv Po a0_ 1).toInt ≤ 8 := Typ.rng hT ha0 (by decide) (by decide) rfl
  refine mt_getI (i := 26) (k := 1) hT dX2_thickness_6 rfl ha0 (by decide) rfl (by decide) rfl (fun g2 g3 => mpp 9 rfl ?_)
  refine mp_Tb (t := 32) (j_icmp_ge dX2_thickness_9) (by decide) (fun c4 => ?_) (fun c4 => mpp 12 rfl ?_)
  · have c4 : v2.toInt ≥ (fv Po a0_ 1).toInt := ti_ge c4
    refine mp_a (a_iload_n dX2_thickness_32 rfl) (mpp 33 rfl ?_)
    exact mp_iret ⟨⟨_, rfl, trivial⟩, rfl⟩ dX2_thickness_33 (Or.inl rfl)
  · have c4 : v2.toInt < (fv Po a0_ 1).toInt := ti_ge_n c4
    refine mp_a (a_iload_n dX2_thickness_12 rfl) (mpp 13 rfl ?_)
    refine mp_a (a_aload_n dX2_thickness_13 rfl) (mpp 14 rfl ?_)
    refine mp_a (a_aload_n dX2_thickness_14 rfl) (mpp 15 rfl ?_)
    refine mp_a (a_iload_n dX2_thickness_15 rfl) (mpp 16 rfl ?_)
    refine mt_callv (i := 71) (q' := q_87) (As := [.int v2]) (rest := [.ref a0_, .int v1]) hT dX2_thickness_16 rfl qm_87 (by decide) rfl ha0 (by decide) rfl (Nat.le_of_ble_eq_true rfl) rfl ⟨rfl, rfl⟩ ⟨Nat.le_of_ble_eq_true rfl, Nat.le_of_ble_eq_true rfl⟩ (EvP.mono (by decide) (c_CP_leftEndOf_NPiece hT ha0)) (fun r5 P6 g7 => mpp 19 rfl ?_)
    obtain ⟨⟨x8, rfl, g9⟩, e10⟩ := g7
    have e10 := e10.symm
    subst e10
    have wx8 := ti_full x8
    show MEvP _ none q_86 19 [(0, .ref a0_), (1, .int v1), (2, .int v2)] [.int x8, .ref a0_, .int v1] _ _ _ _
    refine mt_callv (i := 74) (q' := q_88) (As := [.int x8]) (rest := [.int v1]) hT dX2_thickness_19 rfl qm_88 (by decide) rfl ha0 (by decide) rfl (Nat.le_of_ble_eq_true rfl) rfl ⟨rfl, rfl⟩ ⟨Nat.le_of_ble_eq_true rfl, Nat.le_of_ble_eq_true rfl⟩ (EvP.mono (by decide) (c_CP_panelsBehind_NPiece hT ha0)) (fun r11 P12 g13 => mpp 22 rfl ?_)
    obtain ⟨⟨x14, rfl, g15⟩, e16⟩ := g13
    have e16 := e16.symm
    subst e16
    have wx14 := ti_full x14
    show MEvP _ none q_86 22 [(0, .ref a0_), (1, .int v1), (2, .int v2)] [.int x14, .int v1] _ _ _ _
    obtain ⟨z17, h18⟩ := ti_ex (if (7 : Nat) = 7 then (if v1 < x14 then x14 else v1) else (if x14 < v1 then x14 else v1) : Int32)
    have e19 : z17.toInt = max v1.toInt x14.toInt := ti_mm7 h18
    refine mp_math (i := 65) (k := 0) (v := z17) dX2_thickness_22 rfl (by decide) (Nat.le_of_ble_eq_true rfl) h18 ⟨Nat.le_of_ble_eq_true rfl, Nat.le_of_ble_eq_true rfl⟩ (mpp 25 rfl ?_)
    refine mp_a (a_istore_n (L' := [(1, .int z17), (0, .ref a0_), (2, .int v2)]) dX2_thickness_25 (by decide) rfl) (mpp 26 rfl ?_)
    obtain ⟨z20, h21⟩ := ti_ex (v2 + 1 : Int32)
    have wz20 := ti_full z20
    refine mp_a (a_iinc (v := z20) (L' := [(2, .int z20), (1, .int z17), (0, .ref a0_)]) dX2_thickness_26 (by decide) rfl h21 rfl) (mpp 29 rfl ?_)
    try have e22 : z20.toInt = v2.toInt + 1 := ti_addz h21 rfl rfl (by omega) (by omega)
    refine mp_a (a_goto (t := 4) dX2_thickness_29 (by decide)) ?_
    refine MEvP.less (L := [(0, .ref a0_), (1, .int z17), (2, .int z20)]) rfl rfl ⟨rfl, rfl, rfl, trivial⟩ ?_
    have i23 : 0 ≤ z20.toInt := by omega
    exact ih _ (by omega) _ _ i23 rfl

set_option maxHeartbeats 4000000 in
theorem c_CP_thickness_NPiece {Po : mP} {a0_ : Nat} (hT : Typ Po)  (ha0 : rl a0_ = 33) : EvP 5 86 [.ref a0_] Po (fun r P' => (∃ x : Int32, r = some (.int x) ∧ (True)) ∧ P' = Po) := by
  refine EvP.of qm_86 (Nat.le_of_ble_eq_true rfl) rfl ?_
  show MEvP _ none q_86 0 [(0, .ref a0_)] [] _ 0 0 _
  refine mp_a (a_iconst (v := 0) dX2_thickness_0 rfl) (mpp 1 rfl ?_)
  refine mp_a (a_istore_n (L' := [(1, .int 0), (0, .ref a0_)]) dX2_thickness_1 (by decide) rfl) (mpp 2 rfl ?_)
  refine mp_a (a_iconst (v := 0) dX2_thickness_2 rfl) (mpp 3 rfl ?_)
  refine mp_a (a_istore_n (L' := [(2, .int 0), (1, .int 0), (0, .ref a0_)]) dX2_thickness_3 (by decide) rfl) (mpp 4 rfl ?_)
  refine MEvP.less (L := [(0, .ref a0_), (1, .int 0), (2, .int 0)]) rfl rfl ⟨rfl, rfl, rfl, trivial⟩ ?_
  have i1 : 0 ≤ (0 : Int) := by omega
  exact c_CP_thickness_NPiece_l4 hT  ha0 _ _ _ i1 rfl

set_option maxHeartbeats 4000000 in
theorem c_F_thickest {Po : mP} {t1 : Int32} (hT : Typ Po)   : EvP 6 85 [.ref 0, .int t1] Po (fun r P' => (∃ x : Int32, r = some (.int x) ∧ (True)) ∧ P' = Po) := by
  refine EvP.of qm_85 (Nat.le_of_ble_eq_true rfl) rfl ?_
  show MEvP _ none q_85 0 [(0, .ref 0), (1, .int t1)] [] _ 0 0 _
  refine mp_a (a_aload_n dX6_thickest_0 rfl) (mpp 1 rfl ?_)
  refine mt_getU (i := 10) (k := 0) (A := 1) hT dX6_thickest_1 rfl rl_0 (by decide) rfl (by decide) rfl un_31 (mpp 4 rfl ?_)
  refine mp_a (a_iload_n dX6_thickest_4 rfl) (mpp 5 rfl ?_)
  refine mt_callv (i := 94) (q' := q_9) (As := [.int t1]) (rest := []) hT dX6_thickest_5 rfl qm_9 (by decide) rfl rl_1 (by decide) rfl (Nat.le_of_ble_eq_true rfl) rfl ⟨rfl, rfl⟩ ⟨Nat.le_of_ble_eq_true rfl, Nat.le_of_ble_eq_true rfl⟩ (EvP.mono (by decide) (c_CS_pieceAt_NState hT )) (fun r1 P2 g3 => mpp 8 rfl ?_)
  obtain ⟨g3, e4⟩ := g3
  have e4 := e4.symm
  subst e4
  rcases g3 with rfl | ⟨b5, rfl, q6⟩
  · show MEvP _ none q_85 8 [(0, .ref 0), (1, .int t1)] [.null] _ _ _ _
    refine mp_a (a_astore_nN (L' := [(2, .null), (0, .ref 0), (1, .int t1)]) dX6_thickest_8 (by decide) rfl) (mpp 9 rfl ?_)
    refine mp_a (a_aload_nN dX6_thickest_9 rfl) (mpp 10 rfl ?_)
    refine mp_t (s_ifnonnullN dX6_thickest_10) (mpp 13 rfl ?_)
    refine mp_a (a_sipush (v := -1001) dX6_thickest_13 rfl) (mpp 16 rfl ?_)
    exact mp_iret ⟨⟨_, rfl, trivial⟩, rfl⟩ dX6_thickest_16 (Or.inl rfl)
  · show MEvP _ none q_85 8 [(0, .ref 0), (1, .int t1)] [.ref b5] _ _ _ _
    refine mp_a (a_astore_n (L' := [(2, .ref b5), (0, .ref 0), (1, .int t1)]) dX6_thickest_8 (by decide) rfl) (mpp 9 rfl ?_)
    refine mp_a (a_aload_n dX6_thickest_9 rfl) (mpp 10 rfl ?_)
    refine mp_t (s_ifnonnullR (t := 17) dX6_thickest_10 (by decide)) ?_
    refine mp_a (a_aload_n dX6_thickest_17 rfl) (mpp 18 rfl ?_)
    have g7 := ti_full (fv Po b5 0)
    refine mt_getI (i := 130) (k := 0) hT dX6_thickest_18 rfl q6 (by decide) rfl (by decide) rfl (fun g8 g9 => mpp 21 rfl ?_)
    refine mp_Tb (t := 30) (j_if_eq dX6_thickest_21) (by decide) (fun c10 => ?_) (fun c10 => mpp 24 rfl ?_)
    · have c10 : (fv Po b5 0).toInt = 0 := ti_eq c10
      refine mp_a (a_aload_n dX6_thickest_30 rfl) (mpp 31 rfl ?_)
      refine mt_callv (i := 210) (q' := q_86) (As := []) (rest := []) hT dX6_thickest_31 rfl qm_86 (by decide) rfl q6 (by decide) rfl (Nat.le_of_ble_eq_true rfl) rfl ⟨rfl, rfl⟩ ⟨Nat.le_of_ble_eq_true rfl, Nat.le_of_ble_eq_true rfl⟩ (EvP.mono (by decide) (c_CP_thickness_NPiece hT q6)) (fun r11 P12 g13 => mpp 34 rfl ?_)
      obtain ⟨⟨x14, rfl, g15⟩, e16⟩ := g13
      have e16 := e16.symm
      subst e16
      have wx14 := ti_full x14
      show MEvP _ none q_85 34 [(2, .ref b5), (0, .ref 0), (1, .int t1)] [.int x14] _ _ _ _
      exact mp_iret ⟨⟨_, rfl, trivial⟩, rfl⟩ dX6_thickest_34 (Or.inl rfl)
    · have c10 : (fv Po b5 0).toInt ≠ 0 := ti_eq_n c10
      refine mp_a (a_sipush (v := -1002) dX6_thickest_24 rfl) (mpp 27 rfl ?_)
      refine mp_a (a_goto (t := 34) dX6_thickest_27 (by decide)) ?_
      exact mp_iret ⟨⟨_, rfl, trivial⟩, rfl⟩ dX6_thickest_34 (Or.inl rfl)

set_option maxHeartbeats 4000000 in
theorem c_F_put_codes {Po : mP} {t1 : Int32} {t2 : Int32} (hT : Typ Po)   : EvP 1 22 [.ref 290, .int t1, .int t2] Po (fun r P' => (r = none ∧ (True)) ∧ Typ P' ∧ KW [576] Po P' ∧ True) := by
  refine EvP.of qm_22 (Nat.le_of_ble_eq_true rfl) rfl ?_
  show MEvP _ none q_22 0 [(0, .ref 290), (1, .int t1), (2, .int t2)] [] _ 0 0 _
  refine mp_a (a_iload_n dX6_put_0 rfl) (mpp 1 rfl ?_)
  refine mp_Tb (t := 14) (j_if_lt dX6_put_1) (by decide) (fun c1 => ?_) (fun c1 => mpp 4 rfl ?_)
  · have c1 : t1.toInt < 0 := ti_lt c1
    exact mp_ret ⟨⟨rfl, trivial⟩, hT, KW.refl, trivial⟩ dX6_put_14 rfl
  · have c1 : t1.toInt ≥ 0 := ti_lt_n c1
    refine mp_a (a_iload_n dX6_put_4 rfl) (mpp 5 rfl ?_)
    refine mp_a (a_aload_n dX6_put_5 rfl) (mpp 6 rfl ?_)
    refine mt_len (n := 80) hT dX6_put_6 rl_290 (by decide) (by decide) rfl (mpp 7 rfl ?_)
    refine mp_Tb (t := 14) (j_icmp_ge dX6_put_7) (by decide) (fun c2 => ?_) (fun c2 => mpp 10 rfl ?_)
    · have c2 : t1.toInt ≥ 80 := ti_ge c2
      exact mp_ret ⟨⟨rfl, trivial⟩, hT, KW.refl, trivial⟩ dX6_put_14 rfl
    · have c2 : t1.toInt < 80 := ti_ge_n c2
      refine mp_a (a_aload_n dX6_put_10 rfl) (mpp 11 rfl ?_)
      refine mp_a (a_iload_n dX6_put_11 rfl) (mpp 12 rfl ?_)
      refine mp_a (a_iload_n dX6_put_12 rfl) (mpp 13 rfl ?_)
      refine mt_ias (n := 80) hT dX6_put_13 rl_290 (by decide) rfl rfl (by omega) (by omega) rfl (ti_full t2) (fun P3 hT4 f5 f6 => mpp 14 rfl ?_)
      have k7 : KW [576] Po P3 := KW.step KW.refl rl_290 rfl f6
      exact mp_ret ⟨⟨rfl, trivial⟩, hT4, k7, trivial⟩ dX6_put_14 rfl

set_option maxHeartbeats 4000000 in
theorem c_CS_write_Script {Po : mP} {t1 : Int32} (hT : Typ Po)  (hp0 : (fv Po 289 1).toInt ≤ 79)  : EvP 2 93 [.ref 289, .int t1] Po (fun r P' => (r = none ∧ ((fv P' 289 1).toInt = (fv Po 289 1).toInt + 1)) ∧ Typ P' ∧ KW [513, 576] Po P' ∧ True) := by
  refine EvP.of qm_93 (Nat.le_of_ble_eq_true rfl) rfl ?_
  show MEvP _ none q_93 0 [(0, .ref 289), (1, .int t1)] [] _ 0 0 _
  have g1 : (0 : Int) ≤ (fv Po 289 1).toInt ∧ (fv Po 289 1).toInt ≤ 80 := Typ.rng hT rl_289 (by decide) (by decide) rfl
  refine mp_a (a_aload_n dX4_write_0 rfl) (mpp 1 rfl ?_)
  refine mt_getU (i := 9) (k := 0) (A := 290) hT dX4_write_1 rfl rl_289 (by decide) rfl (by decide) rfl un_9 (mpp 4 rfl ?_)
  refine mp_a (a_aload_n dX4_write_4 rfl) (mpp 5 rfl ?_)
  refine mt_getI (i := 15) (k := 1) hT dX4_write_5 rfl rl_289 (by decide) rfl (by decide) rfl (fun g2 g3 => mpp 8 rfl ?_)
  refine mp_a (a_iload_n dX4_write_8 rfl) (mpp 9 rfl ?_)
  refine mp_calls (i := 19) (q' := q_22) (As := [.ref 290, .int (fv Po 289 1), .int t1]) (rest := []) dX4_write_9 rfl qm_22 (by decide) rfl (Nat.le_of_ble_eq_true rfl) rfl ⟨rfl, rfl⟩ ⟨Nat.le_of_ble_eq_true rfl, Nat.le_of_ble_eq_true rfl⟩ (EvP.mono (by decide) (c_F_put_codes hT )) (fun r4 P5 g6 => mpp 12 rfl ?_)
  obtain ⟨⟨rfl, g8⟩, hT9, k10, R11⟩ := g6
  have k12 : KW [513, 576] Po P5 := KW.trans KW.refl k10 rfl
  show MEvP _ none q_93 12 [(0, .ref 289), (1, .int t1)] [] _ _ _ _
  refine mp_a (a_aload_n dX4_write_12 rfl) (mpp 13 rfl ?_)
  refine mp_t (s_dup dX4_write_13 rfl) (mpp 14 rfl ?_)
  have e13 : (fv P5 289 1).toInt = (fv Po 289 1).toInt := congrArg Int32.toInt (KW.at k10 1 rl_289 rfl)
  refine mt_getI (i := 15) (k := 1) hT9 dX4_write_14 rfl rl_289 (by decide) rfl (by decide) rfl (fun g14 g15 => mpp 17 rfl ?_)
  refine mp_a (a_iconst (v := 1) dX4_write_17 rfl) (mpp 18 rfl ?_)
  obtain ⟨z16, h17⟩ := ti_ex ((fv P5 289 1) + 1 : Int32)
  have wz16 := ti_full z16
  refine mp_t (s_iadd (v := z16) dX4_write_18 h17) (mpp 19 rfl ?_)
  try have e18 : z16.toInt = (fv P5 289 1).toInt + 1 := ti_addz h17 rfl rfl (by omega) (by omega)
  refine mt_putI (i := 15) (k := 1) (x := z16) hT9 dX4_write_19 rfl rl_289 (by decide) rfl (by decide) rfl ⟨by omega, by omega⟩ rfl rfl (fun P19 hT20 f21 f22 => mpp 22 rfl ?_)
  have k23 : KW [513, 576] Po P19 := KW.step k12 rl_289 rfl f22
  have e24 : (fv P19 289 1).toInt = z16.toInt := congrArg Int32.toInt f21
  have u25 : (fv P19 289 1).toInt = (fv Po 289 1).toInt + 1 := by omega
  exact mp_ret ⟨⟨rfl, u25⟩, hT20, k23, trivial⟩ dX4_write_22 rfl

