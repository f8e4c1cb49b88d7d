/-! methods on typed pools, 11 (written by a program) -/
set_option maxHeartbeats 4000000 in
theorem c_F_ways {Po : mP} {t1 : Int32} (hT : Typ Po)   : EvP 6 75 [.ref 0, .int t1] Po (fun r P' => (∃ x : Int32, r = some (.int x) ∧ (True)) ∧ Typ P' ∧ KW [640, 641, 704, 768] Po P' ∧ True) := by
  refine EvP.of qm_75 (Nat.le_of_ble_eq_true rfl) rfl ?_
  show MEvP _ none q_75 0 [(0, .ref 0), (1, .int t1)] [] _ 0 0 _
  refine mp_a (a_aload_n dX6_ways_0 rfl) (mpp 1 rfl ?_)
  refine mt_getU (i := 10) (k := 0) (A := 1) hT dX6_ways_1 rfl rl_0 (by decide) rfl (by decide) rfl un_31 (mpp 4 rfl ?_)
  refine mp_a (a_iload_n dX6_ways_4 rfl) (mpp 5 rfl ?_)
  refine mt_callv (i := 94) (q' := q_9) (As := [.int t1]) (rest := []) hT dX6_ways_5 rfl qm_9 (by decide) rfl rl_1 (by decide) rfl (Nat.le_of_ble_eq_true rfl) rfl ⟨rfl, rfl⟩ ⟨Nat.le_of_ble_eq_true rfl, Nat.le_of_ble_eq_true rfl⟩ (EvP.mono (by decide) (c_CS_pieceAt_NState hT )) (fun r1 P2 g3 => mpp 8 rfl ?_)
  obtain ⟨g3, e4⟩ := g3
  have e4 := e4.symm
  subst e4
  rcases g3 with rfl | ⟨b5, rfl, q6, q6r⟩
  · show MEvP _ none q_75 8 [(0, .ref 0), (1, .int t1)] [.null] _ _ _ _
    refine mp_a (a_astore_nN (L' := [(2, .null), (0, .ref 0), (1, .int t1)]) dX6_ways_8 (by decide) rfl) (mpp 9 rfl ?_)
    refine mp_a (a_aload_nN dX6_ways_9 rfl) (mpp 10 rfl ?_)
    refine mp_t (s_ifnonnullN dX6_ways_10) (mpp 13 rfl ?_)
    refine mp_a (a_sipush (v := -1001) dX6_ways_13 rfl) (mpp 16 rfl ?_)
    refine mp_a (a_goto (t := 27) dX6_ways_16 (by decide)) ?_
    exact mp_iret ⟨⟨_, rfl, trivial⟩, hT, KW.refl, trivial⟩ dX6_ways_27 (Or.inl rfl)
  · show MEvP _ none q_75 8 [(0, .ref 0), (1, .int t1)] [.ref b5] _ _ _ _
    refine mp_a (a_astore_n (L' := [(2, .ref b5), (0, .ref 0), (1, .int t1)]) dX6_ways_8 (by decide) rfl) (mpp 9 rfl ?_)
    refine mp_a (a_aload_n dX6_ways_9 rfl) (mpp 10 rfl ?_)
    refine mp_t (s_ifnonnullR (t := 19) dX6_ways_10 (by decide)) ?_
    refine mp_a (a_aload_n dX6_ways_19 rfl) (mpp 20 rfl ?_)
    refine mt_getU (i := 39) (k := 5) (A := 291) hT dX6_ways_20 rfl rl_0 (by decide) rfl (by decide) rfl un_10 (mpp 23 rfl ?_)
    refine mp_a (a_aload_n dX6_ways_23 rfl) (mpp 24 rfl ?_)
    refine mt_callv (i := 197) (q' := q_76) (As := [.ref b5]) (rest := []) hT dX6_ways_24 rfl qm_76 (by decide) rfl rl_291 (by decide) rfl (Nat.le_of_ble_eq_true rfl) rfl ⟨rfl, rfl⟩ ⟨Nat.le_of_ble_eq_true rfl, Nat.le_of_ble_eq_true rfl⟩ (EvP.mono (by decide) (c_CR_countWays_Reducer_NPiece hT q6)) (fun r7 P8 g9 => mpp 27 rfl ?_)
    obtain ⟨⟨x10, rfl, g11⟩, hT12, k13, R14⟩ := g9
    have k15 : KW [640, 641, 704, 768] Po P8 := KW.trans KW.refl k13 rfl
    have wx10 := ti_full x10
    show MEvP _ none q_75 27 [(2, .ref b5), (0, .ref 0), (1, .int t1)] [.int x10] _ _ _ _
    exact mp_iret ⟨⟨_, rfl, trivial⟩, hT12, k15, trivial⟩ dX6_ways_27 (Or.inl rfl)

set_option maxHeartbeats 4000000 in
theorem c_CR_fewestChanges_Reducer_NPiece_l6 {Po : mP} {a1_ : Nat} (ha1 : rl a1_ = 33) : ∀ (n : Nat) (v2 : Int32) (v3 : Int32), ∀ (P : mP), Typ P → KW [640, 641, 704, 768] Po P → (0 ≤ v3.toInt) → (2147483647 - v3.toInt).toNat = n → MEvP 4 none q_81 6 [(0, .ref 291), (1, .ref a1_), (2, .int v2), (3, .int v3)] [] P 0 0 (fun r P' => (∃ x : Int32, r = some (.int x) ∧ (True)) ∧ Typ P' ∧ KW [640, 641, 704, 768] Po P' ∧ True) := by
  intro n
  induction n using Nat.strongRecOn with | _ n ih => ?_
  intro v2 v3 P hT hK i_0 hm
  have w_v2 := ti_full v2
  have w_v3 := ti_full v3
  refine mp_a (a_iload_n dX3_fewestChanges_6 rfl) (mpp 7 rfl ?_)
  refine mp_a (a_iconst (v := 1) dX3_fewestChanges_7 rfl) (mpp 8 rfl ?_)
  refine mp_a (a_aload_n dX3_fewestChanges_8 rfl) (mpp 9 rfl ?_)
  refine mt_callv (i := 34) (q' := q_25) (As := []) (rest := [.int 1, .int v3]) hT dX3_fewestChanges_9 rfl qm_25 (by decide) rfl ha1 (by decide) rfl (Nat.le_of_ble_eq_true rfl) rfl ⟨rfl, rfl⟩ ⟨Nat.le_of_ble_eq_true rfl, Nat.le_of_ble_eq_true rfl⟩ (EvP.mono (by decide) (c_CP_creaseCount_NPiece hT ha1)) (fun r1 P2 g3 => mpp 12 rfl ?_)
  obtain ⟨⟨x4, rfl, g5⟩, e6⟩ := g3
  have e6 := e6.symm
  subst e6
  have wx4 := ti_full x4
  have g5 : -1 ≤ x4.toInt ∧ x4.toInt ≤ (fv P a1_ 1).toInt := g5
  have g7 : (0 : Int) ≤ (fv P a1_ 1).toInt ∧ (fv P a1_ 1).toInt ≤ 8 := Typ.rng hT ha1 (by decide) (by decide) rfl
  show MEvP _ none q_81 12 [(0, .ref 291), (1, .ref a1_), (2, .int v2), (3, .int v3)] [.int x4, .int 1, .int v3] _ _ _ _
  obtain ⟨z8, h9⟩ := ti_ex (1 <<< (x4 &&& 31) : Int32)
  have wz8 := ti_full z8
  refine mp_t (s_ishl (v := z8) dX3_fewestChanges_12 h9) (mpp 13 rfl ?_)
  refine mp_Tb (t := 54) (j_icmp_ge dX3_fewestChanges_13) (by decide) (fun c10 => ?_) (fun c10 => mpp 16 rfl ?_)
  · have c10 : v3.toInt ≥ z8.toInt := ti_ge c10
    refine mp_a (a_iload_n dX3_fewestChanges_54 rfl) (mpp 55 rfl ?_)
    exact mp_iret ⟨⟨_, rfl, trivial⟩, hT, hK, trivial⟩ dX3_fewestChanges_55 (Or.inl rfl)
  · have c10 : v3.toInt < z8.toInt := ti_ge_n c10
    refine mp_a (a_aload_n dX3_fewestChanges_16 rfl) (mpp 17 rfl ?_)
    refine mp_a (a_iload_n dX3_fewestChanges_17 rfl) (mpp 18 rfl ?_)
    refine mp_calls (i := 86) (q' := q_77) (As := [.ref a1_, .int v3]) (rest := []) dX3_fewestChanges_18 rfl qm_77 (by decide) rfl (Nat.le_of_ble_eq_true rfl) rfl ⟨rfl, rfl⟩ ⟨Nat.le_of_ble_eq_true rfl, Nat.le_of_ble_eq_true rfl⟩ (EvP.mono (by decide) (c_CR_changesTo_NPiece hT ha1)) (fun r11 P12 g13 => mpp 21 rfl ?_)
    obtain ⟨⟨x14, rfl, g15⟩, e16⟩ := g13
    have e16 := e16.symm
    subst e16
    have wx14 := ti_full x14
    show MEvP _ none q_81 21 [(0, .ref 291), (1, .ref a1_), (2, .int v2), (3, .int v3)] [.int x14] _ _ _ _
    refine mp_a (a_istore (L' := [(4, .int x14), (0, .ref 291), (1, .ref a1_), (2, .int v2), (3, .int v3)]) dX3_fewestChanges_21 (by decide) rfl) (mpp 23 rfl ?_)
    refine mp_a (a_iload_n dX3_fewestChanges_23 rfl) (mpp 24 rfl ?_)
    refine mp_a (a_sipush (v := -1004) dX3_fewestChanges_24 rfl) (mpp 27 rfl ?_)
    refine mp_Tb (t := 36) (j_icmp_eq dX3_fewestChanges_27) (by decide) (fun c17 => ?_) (fun c17 => mpp 30 rfl ?_)
    · have c17 : v2.toInt = (-1004) := ti_eq c17
      refine mp_a (a_aload_n dX3_fewestChanges_36 rfl) (mpp 37 rfl ?_)
      refine mp_a (a_aload_n dX3_fewestChanges_37 rfl) (mpp 38 rfl ?_)
      refine mp_a (a_iload_n dX3_fewestChanges_38 rfl) (mpp 39 rfl ?_)
      refine mt_callv (i := 90) (q' := q_79) (As := [.ref a1_, .int v3]) (rest := []) hT dX3_fewestChanges_39 rfl qm_79 (by decide) rfl rl_291 (by decide) rfl (Nat.le_of_ble_eq_true rfl) rfl ⟨rfl, rfl⟩ ⟨Nat.le_of_ble_eq_true rfl, Nat.le_of_ble_eq_true rfl⟩ (EvP.mono (by decide) (c_CR_foldsWith_Reducer_NPiece hT ha1)) (fun r18 P19 g20 => mpp 42 rfl ?_)
      obtain ⟨⟨x21, rfl, g22⟩, hT23, k24, R25⟩ := g20
      have k26 : KW [640, 641, 704, 768] Po P19 := KW.trans hK k24 rfl
      have wx21 := ti_full x21
      have g22 : 0 ≤ x21.toInt ∧ x21.toInt ≤ 1 := g22
      show MEvP _ none q_81 42 [(4, .int x14), (0, .ref 291), (1, .ref a1_), (2, .int v2), (3, .int v3)] [.int x21] _ _ _ _
      refine mp_Tb (t := 48) (j_if_eq dX3_fewestChanges_42) (by decide) (fun c27 => ?_) (fun c27 => mpp 45 rfl ?_)
      · have c27 : x21.toInt = 0 := ti_eq c27
        obtain ⟨z28, h29⟩ := ti_ex (v3 + 1 : Int32)
        have wz28 := ti_full z28
        refine mp_a (a_iinc (v := z28) (L' := [(3, .int z28), (4, .int x14), (0, .ref 291), (1, .ref a1_), (2, .int v2)]) dX3_fewestChanges_48 (by decide) rfl h29 rfl) (mpp 51 rfl ?_)
        try have e30 : z28.toInt = v3.toInt + 1 := ti_addz h29 rfl rfl (by omega) (by omega)
        refine mp_a (a_goto (t := 6) dX3_fewestChanges_51 (by decide)) ?_
        refine MEvP.less (L := [(0, .ref 291), (1, .ref a1_), (2, .int v2), (3, .int z28)]) rfl rfl ⟨rfl, rfl, rfl, rfl, trivial⟩ ?_
        have i31 : 0 ≤ z28.toInt := by omega
        exact ih _ (by omega) _ _ P19 hT23 k26 i31 rfl
      · have c27 : x21.toInt ≠ 0 := ti_eq_n c27
        refine mp_a (a_iload dX3_fewestChanges_45 rfl) (mpp 47 rfl ?_)
        refine mp_a (a_istore_n (L' := [(2, .int x14), (4, .int x14), (0, .ref 291), (1, .ref a1_), (3, .int v3)]) dX3_fewestChanges_47 (by decide) rfl) (mpp 48 rfl ?_)
        obtain ⟨z32, h33⟩ := ti_ex (v3 + 1 : Int32)
        have wz32 := ti_full z32
        refine mp_a (a_iinc (v := z32) (L' := [(3, .int z32), (2, .int x14), (4, .int x14), (0, .ref 291), (1, .ref a1_)]) dX3_fewestChanges_48 (by decide) rfl h33 rfl) (mpp 51 rfl ?_)
        try have e34 : z32.toInt = v3.toInt + 1 := ti_addz h33 rfl rfl (by omega) (by omega)
        refine mp_a (a_goto (t := 6) dX3_fewestChanges_51 (by decide)) ?_
        refine MEvP.less (L := [(0, .ref 291), (1, .ref a1_), (2, .int x14), (3, .int z32)]) rfl rfl ⟨rfl, rfl, rfl, rfl, trivial⟩ ?_
        have i35 : 0 ≤ z32.toInt := by omega
        exact ih _ (by omega) _ _ P19 hT23 k26 i35 rfl
    · have c17 : v2.toInt ≠ (-1004) := ti_eq_n c17
      refine mp_a (a_iload dX3_fewestChanges_30 rfl) (mpp 32 rfl ?_)
      refine mp_a (a_iload_n dX3_fewestChanges_32 rfl) (mpp 33 rfl ?_)
      refine mp_Tb (t := 48) (j_icmp_ge dX3_fewestChanges_33) (by decide) (fun c36 => ?_) (fun c36 => mpp 36 rfl ?_)
      · have c36 : x14.toInt ≥ v2.toInt := ti_ge c36
        obtain ⟨z37, h38⟩ := ti_ex (v3 + 1 : Int32)
        have wz37 := ti_full z37
        refine mp_a (a_iinc (v := z37) (L' := [(3, .int z37), (4, .int x14), (0, .ref 291), (1, .ref a1_), (2, .int v2)]) dX3_fewestChanges_48 (by decide) rfl h38 rfl) (mpp 51 rfl ?_)
        try have e39 : z37.toInt = v3.toInt + 1 := ti_addz h38 rfl rfl (by omega) (by omega)
        refine mp_a (a_goto (t := 6) dX3_fewestChanges_51 (by decide)) ?_
        refine MEvP.less (L := [(0, .ref 291), (1, .ref a1_), (2, .int v2), (3, .int z37)]) rfl rfl ⟨rfl, rfl, rfl, rfl, trivial⟩ ?_
        have i40 : 0 ≤ z37.toInt := by omega
        exact ih _ (by omega) _ _ P hT hK i40 rfl
      · have c36 : x14.toInt < v2.toInt := ti_ge_n c36
        refine mp_a (a_aload_n dX3_fewestChanges_36 rfl) (mpp 37 rfl ?_)
        refine mp_a (a_aload_n dX3_fewestChanges_37 rfl) (mpp 38 rfl ?_)
        refine mp_a (a_iload_n dX3_fewestChanges_38 rfl) (mpp 39 rfl ?_)
        refine mt_callv (i := 90) (q' := q_79) (As := [.ref a1_, .int v3]) (rest := []) hT dX3_fewestChanges_39 rfl qm_79 (by decide) rfl rl_291 (by decide) rfl (Nat.le_of_ble_eq_true rfl) rfl ⟨rfl, rfl⟩ ⟨Nat.le_of_ble_eq_true rfl, Nat.le_of_ble_eq_true rfl⟩ (EvP.mono (by decide) (c_CR_foldsWith_Reducer_NPiece hT ha1)) (fun r41 P42 g43 => mpp 42 rfl ?_)
        obtain ⟨⟨x44, rfl, g45⟩, hT46, k47, R48⟩ := g43
        have k49 : KW [640, 641, 704, 768] Po P42 := KW.trans hK k47 rfl
        have wx44 := ti_full x44
        have g45 : 0 ≤ x44.toInt ∧ x44.toInt ≤ 1 := g45
        show MEvP _ none q_81 42 [(4, .int x14), (0, .ref 291), (1, .ref a1_), (2, .int v2), (3, .int v3)] [.int x44] _ _ _ _
        refine mp_Tb (t := 48) (j_if_eq dX3_fewestChanges_42) (by decide) (fun c50 => ?_) (fun c50 => mpp 45 rfl ?_)
        · have c50 : x44.toInt = 0 := ti_eq c50
          obtain ⟨z51, h52⟩ := ti_ex (v3 + 1 : Int32)
          have wz51 := ti_full z51
          refine mp_a (a_iinc (v := z51) (L' := [(3, .int z51), (4, .int x14), (0, .ref 291), (1, .ref a1_), (2, .int v2)]) dX3_fewestChanges_48 (by decide) rfl h52 rfl) (mpp 51 rfl ?_)
          try have e53 : z51.toInt = v3.toInt + 1 := ti_addz h52 rfl rfl (by omega) (by omega)
          refine mp_a (a_goto (t := 6) dX3_fewestChanges_51 (by decide)) ?_
          refine MEvP.less (L := [(0, .ref 291), (1, .ref a1_), (2, .int v2), (3, .int z51)]) rfl rfl ⟨rfl, rfl, rfl, rfl, trivial⟩ ?_
          have i54 : 0 ≤ z51.toInt := by omega
          exact ih _ (by omega) _ _ P42 hT46 k49 i54 rfl
        · have c50 : x44.toInt ≠ 0 := ti_eq_n c50
          refine mp_a (a_iload dX3_fewestChanges_45 rfl) (mpp 47 rfl ?_)
          refine mp_a (a_istore_n (L' := [(2, .int x14), (4, .int x14), (0, .ref 291), (1, .ref a1_), (3, .int v3)]) dX3_fewestChanges_47 (by decide) rfl) (mpp 48 rfl ?_)
          obtain ⟨z55, h56⟩ := ti_ex (v3 + 1 : Int32)
          have wz55 := ti_full z55
          refine mp_a (a_iinc (v := z55) (L' := [(3, .int z55), (2, .int x14), (4, .int x14), (0, .ref 291), (1, .ref a1_)]) dX3_fewestChanges_48 (by decide) rfl h56 rfl) (mpp 51 rfl ?_)
          try have e57 : z55.toInt = v3.toInt + 1 := ti_addz h56 rfl rfl (by omega) (by omega)
          refine mp_a (a_goto (t := 6) dX3_fewestChanges_51 (by decide)) ?_
          refine MEvP.less (L := [(0, .ref 291), (1, .ref a1_), (2, .int x14), (3, .int z55)]) rfl rfl ⟨rfl, rfl, rfl, rfl, trivial⟩ ?_
          have i58 : 0 ≤ z55.toInt := by omega
          exact ih _ (by omega) _ _ P42 hT46 k49 i58 rfl

set_option maxHeartbeats 4000000 in
theorem c_CR_fewestChanges_Reducer_NPiece {Po : mP} {a1_ : Nat} (hT : Typ Po)  (ha1 : rl a1_ = 33) : EvP 5 81 [.ref 291, .ref a1_] Po (fun r P' => (∃ x : Int32, r = some (.int x) ∧ (True)) ∧ Typ P' ∧ KW [640, 641, 704, 768] Po P' ∧ True) := by
  refine EvP.of qm_81 (Nat.le_of_ble_eq_true rfl) rfl ?_
  show MEvP _ none q_81 0 [(0, .ref 291), (1, .ref a1_)] [] _ 0 0 _
  refine mp_a (a_sipush (v := -1004) dX3_fewestChanges_0 rfl) (mpp 3 rfl ?_)
  refine mp_a (a_istore_n (L' := [(2, .int (-1004)), (0, .ref 291), (1, .ref a1_)]) dX3_fewestChanges_3 (by decide) rfl) (mpp 4 rfl ?_)
  refine mp_a (a_iconst (v := 0) dX3_fewestChanges_4 rfl) (mpp 5 rfl ?_)
  refine mp_a (a_istore_n (L' := [(3, .int 0), (2, .int (-1004)), (0, .ref 291), (1, .ref a1_)]) dX3_fewestChanges_5 (by decide) rfl) (mpp 6 rfl ?_)
  refine MEvP.less (L := [(0, .ref 291), (1, .ref a1_), (2, .int (-1004)), (3, .int 0)]) rfl rfl ⟨rfl, rfl, rfl, rfl, trivial⟩ ?_
  have i1 : 0 ≤ (0 : Int) := by omega
  exact c_CR_fewestChanges_Reducer_NPiece_l6  ha1 _ _ _ Po hT KW.refl i1 rfl

set_option maxHeartbeats 4000000 in
theorem c_F_fewest {Po : mP} {t1 : Int32} (hT : Typ Po)   : EvP 6 80 [.ref 0, .int t1] Po (fun r P' => (∃ x : Int32, r = some (.int x) ∧ (True)) ∧ Typ P' ∧ KW [640, 641, 704, 768] Po P' ∧ True) := by
  refine EvP.of qm_80 (Nat.le_of_ble_eq_true rfl) rfl ?_
  show MEvP _ none q_80 0 [(0, .ref 0), (1, .int t1)] [] _ 0 0 _
  refine mp_a (a_aload_n dX6_fewest_0 rfl) (mpp 1 rfl ?_)
  refine mt_getU (i := 10) (k := 0) (A := 1) hT dX6_fewest_1 rfl rl_0 (by decide) rfl (by decide) rfl un_31 (mpp 4 rfl ?_)
  refine mp_a (a_iload_n dX6_fewest_4 rfl) (mpp 5 rfl ?_)
  refine mt_callv (i := 94) (q' := q_9) (As := [.int t1]) (rest := []) hT dX6_fewest_5 rfl qm_9 (by decide) rfl rl_1 (by decide) rfl (Nat.le_of_ble_eq_true rfl) rfl ⟨rfl, rfl⟩ ⟨Nat.le_of_ble_eq_true rfl, Nat.le_of_ble_eq_true rfl⟩ (EvP.mono (by decide) (c_CS_pieceAt_NState hT )) (fun r1 P2 g3 => mpp 8 rfl ?_)
  obtain ⟨g3, e4⟩ := g3
  have e4 := e4.symm
  subst e4
  rcases g3 with rfl | ⟨b5, rfl, q6, q6r⟩
  · show MEvP _ none q_80 8 [(0, .ref 0), (1, .int t1)] [.null] _ _ _ _
    refine mp_a (a_astore_nN (L' := [(2, .null), (0, .ref 0), (1, .int t1)]) dX6_fewest_8 (by decide) rfl) (mpp 9 rfl ?_)
    refine mp_a (a_aload_nN dX6_fewest_9 rfl) (mpp 10 rfl ?_)
    refine mp_t (s_ifnonnullN dX6_fewest_10) (mpp 13 rfl ?_)
    refine mp_a (a_sipush (v := -1001) dX6_fewest_13 rfl) (mpp 16 rfl ?_)
    refine mp_a (a_goto (t := 27) dX6_fewest_16 (by decide)) ?_
    exact mp_iret ⟨⟨_, rfl, trivial⟩, hT, KW.refl, trivial⟩ dX6_fewest_27 (Or.inl rfl)
  · show MEvP _ none q_80 8 [(0, .ref 0), (1, .int t1)] [.ref b5] _ _ _ _
    refine mp_a (a_astore_n (L' := [(2, .ref b5), (0, .ref 0), (1, .int t1)]) dX6_fewest_8 (by decide) rfl) (mpp 9 rfl ?_)
    refine mp_a (a_aload_n dX6_fewest_9 rfl) (mpp 10 rfl ?_)
    refine mp_t (s_ifnonnullR (t := 19) dX6_fewest_10 (by decide)) ?_
    refine mp_a (a_aload_n dX6_fewest_19 rfl) (mpp 20 rfl ?_)
    refine mt_getU (i := 39) (k := 5) (A := 291) hT dX6_fewest_20 rfl rl_0 (by decide) rfl (by decide) rfl un_10 (mpp 23 rfl ?_)
    refine mp_a (a_aload_n dX6_fewest_23 rfl) (mpp 24 rfl ?_)
    refine mt_callv (i := 200) (q' := q_81) (As := [.ref b5]) (rest := []) hT dX6_fewest_24 rfl qm_81 (by decide) rfl rl_291 (by decide) rfl (Nat.le_of_ble_eq_true rfl) rfl ⟨rfl, rfl⟩ ⟨Nat.le_of_ble_eq_true rfl, Nat.le_of_ble_eq_true rfl⟩ (EvP.mono (by decide) (c_CR_fewestChanges_Reducer_NPiece hT q6)) (fun r7 P8 g9 => mpp 27 rfl ?_)
    obtain ⟨⟨x10, rfl, g11⟩, hT12, k13, R14⟩ := g9
    have k15 : KW [640, 641, 704, 768] Po P8 := KW.trans KW.refl k13 rfl
    have wx10 := ti_full x10
    show MEvP _ none q_80 27 [(2, .ref b5), (0, .ref 0), (1, .int t1)] [.int x10] _ _ _ _
    exact mp_iret ⟨⟨_, rfl, trivial⟩, hT12, k15, trivial⟩ dX6_fewest_27 (Or.inl rfl)

set_option maxHeartbeats 4000000 in
theorem c_F_place {Po : mP} {t1 : Int32} {t2 : Int32} (hT : Typ Po)   : EvP 3 82 [.ref 0, .int t1, .int t2] Po (fun r P' => (∃ x : Int32, r = some (.int x) ∧ (True)) ∧ P' = Po) := by
  refine EvP.of qm_82 (Nat.le_of_ble_eq_true rfl) rfl ?_
  show MEvP _ none q_82 0 [(0, .ref 0), (1, .int t1), (2, .int t2)] [] _ 0 0 _
  refine mp_a (a_aload_n dX6_place_0 rfl) (mpp 1 rfl ?_)
  refine mt_getU (i := 10) (k := 0) (A := 1) hT dX6_place_1 rfl rl_0 (by decide) rfl (by decide) rfl un_31 (mpp 4 rfl ?_)
  refine mp_a (a_iload_n dX6_place_4 rfl) (mpp 5 rfl ?_)
  refine mt_callv (i := 94) (q' := q_9) (As := [.int t1]) (rest := []) hT dX6_place_5 rfl qm_9 (by decide) rfl rl_1 (by decide) rfl (Nat.le_of_ble_eq_true rfl) rfl ⟨rfl, rfl⟩ ⟨Nat.le_of_ble_eq_true rfl, Nat.le_of_ble_eq_true rfl⟩ (EvP.mono (by decide) (c_CS_pieceAt_NState hT )) (fun r1 P2 g3 => mpp 8 rfl ?_)
  obtain ⟨g3, e4⟩ := g3
  have e4 := e4.symm
  subst e4
  rcases g3 with rfl | ⟨b5, rfl, q6, q6r⟩
  · show MEvP _ none q_82 8 [(0, .ref 0), (1, .int t1), (2, .int t2)] [.null] _ _ _ _
    refine mp_a (a_astore_nN (L' := [(3, .null), (0, .ref 0), (1, .int t1), (2, .int t2)]) dX6_place_8 (by decide) rfl) (mpp 9 rfl ?_)
    refine mp_a (a_aload_nN dX6_place_9 rfl) (mpp 10 rfl ?_)
    refine mp_t (s_ifnonnullN dX6_place_10) (mpp 13 rfl ?_)
    refine mp_a (a_sipush (v := -1001) dX6_place_13 rfl) (mpp 16 rfl ?_)
    exact mp_iret ⟨⟨_, rfl, trivial⟩, rfl⟩ dX6_place_16 (Or.inl rfl)
  · show MEvP _ none q_82 8 [(0, .ref 0), (1, .int t1), (2, .int t2)] [.ref b5] _ _ _ _
    refine mp_a (a_astore_n (L' := [(3, .ref b5), (0, .ref 0), (1, .int t1), (2, .int t2)]) dX6_place_8 (by decide) rfl) (mpp 9 rfl ?_)
    refine mp_a (a_aload_n dX6_place_9 rfl) (mpp 10 rfl ?_)
    refine mp_t (s_ifnonnullR (t := 17) dX6_place_10 (by decide)) ?_
    refine mp_a (a_aload_n dX6_place_17 rfl) (mpp 18 rfl ?_)
    have g7 := ti_full (fv Po b5 0)
    refine mt_getI (i := 130) (k := 0) hT dX6_place_18 rfl q6 (by decide) rfl (by decide) rfl (fun g8 g9 => mpp 21 rfl ?_)
    refine mp_Tb (t := 28) (j_if_eq dX6_place_21) (by decide) (fun c10 => ?_) (fun c10 => mpp 24 rfl ?_)
    · have c10 : (fv Po b5 0).toInt = 0 := ti_eq c10
      refine mp_a (a_iload_n dX6_place_28 rfl) (mpp 29 rfl ?_)
      refine mp_Tb (t := 40) (j_if_lt dX6_place_29) (by decide) (fun c11 => ?_) (fun c11 => mpp 32 rfl ?_)
      · have c11 : t2.toInt < 0 := ti_lt c11
        refine mp_a (a_sipush (v := -1001) dX6_place_40 rfl) (mpp 43 rfl ?_)
        exact mp_iret ⟨⟨_, rfl, trivial⟩, rfl⟩ dX6_place_43 (Or.inl rfl)
      · have c11 : t2.toInt ≥ 0 := ti_lt_n c11
        refine mp_a (a_iload_n dX6_place_32 rfl) (mpp 33 rfl ?_)
        refine mp_a (a_aload_n dX6_place_33 rfl) (mpp 34 rfl ?_)
        have g12 : (0 : Int) ≤ (fv Po b5 1).toInt ∧ (fv Po b5 1).toInt ≤ 8 := Typ.rng hT q6 (by decide) (by decide) rfl
        refine mt_getI (i := 143) (k := 1) hT dX6_place_34 rfl q6 (by decide) rfl (by decide) rfl (fun g13 g14 => mpp 37 rfl ?_)
        refine mp_Tb (t := 44) (j_icmp_le dX6_place_37) (by decide) (fun c15 => ?_) (fun c15 => mpp 40 rfl ?_)
        · have c15 : t2.toInt ≤ (fv Po b5 1).toInt := ti_le c15
          refine mp_a (a_aload_n dX6_place_44 rfl) (mpp 45 rfl ?_)
          refine mp_a (a_iload_n dX6_place_45 rfl) (mpp 46 rfl ?_)
          refine mt_callv (i := 203) (q' := q_13) (As := [.int t2]) (rest := []) hT dX6_place_46 rfl qm_13 (by decide) rfl q6 (by decide) rfl (Nat.le_of_ble_eq_true rfl) rfl ⟨rfl, rfl⟩ ⟨Nat.le_of_ble_eq_true rfl, Nat.le_of_ble_eq_true rfl⟩ (EvP.mono (by decide) (c_CP_placeOf_NPiece hT q6)) (fun r16 P17 g18 => mpp 49 rfl ?_)
          obtain ⟨⟨x19, rfl, g20⟩, e21⟩ := g18
          have e21 := e21.symm
          subst e21
          have wx19 := ti_full x19
          show MEvP _ none q_82 49 [(3, .ref b5), (0, .ref 0), (1, .int t1), (2, .int t2)] [.int x19] _ _ _ _
          exact mp_iret ⟨⟨_, rfl, trivial⟩, rfl⟩ dX6_place_49 (Or.inl rfl)
        · have c15 : t2.toInt > (fv Po b5 1).toInt := ti_le_n c15
          refine mp_a (a_sipush (v := -1001) dX6_place_40 rfl) (mpp 43 rfl ?_)
          exact mp_iret ⟨⟨_, rfl, trivial⟩, rfl⟩ dX6_place_43 (Or.inl rfl)
    · have c10 : (fv Po b5 0).toInt ≠ 0 := ti_eq_n c10
      refine mp_a (a_sipush (v := -1002) dX6_place_24 rfl) (mpp 27 rfl ?_)
      exact mp_iret ⟨⟨_, rfl, trivial⟩, rfl⟩ dX6_place_27 (Or.inl rfl)

set_option maxHeartbeats 4000000 in
theorem c_F_layer {Po : mP} {t1 : Int32} {t2 : Int32} (hT : Typ Po)   : EvP 6 83 [.ref 0, .int t1, .int t2] Po (fun r P' => (∃ x : Int32, r = some (.int x) ∧ (True)) ∧ Typ P' ∧ KW [832, 896, 960, 1024] Po P' ∧ True) := by
  refine EvP.of qm_83 (Nat.le_of_ble_eq_true rfl) rfl ?_
  show MEvP _ none q_83 0 [(0, .ref 0), (1, .int t1), (2, .int t2)] [] _ 0 0 _
  refine mp_a (a_aload_n dX6_layer_0 rfl) (mpp 1 rfl ?_)
  refine mt_getU (i := 10) (k := 0) (A := 1) hT dX6_layer_1 rfl rl_0 (by decide) rfl (by decide) rfl un_31 (mpp 4 rfl ?_)
  refine mp_a (a_iload_n dX6_layer_4 rfl) (mpp 5 rfl ?_)
  refine mt_callv (i := 94) (q' := q_9) (As := [.int t1]) (rest := []) hT dX6_layer_5 rfl qm_9 (by decide) rfl rl_1 (by decide) rfl (Nat.le_of_ble_eq_true rfl) rfl ⟨rfl, rfl⟩ ⟨Nat.le_of_ble_eq_true rfl, Nat.le_of_ble_eq_true rfl⟩ (EvP.mono (by decide) (c_CS_pieceAt_NState hT )) (fun r1 P2 g3 => mpp 8 rfl ?_)
  obtain ⟨g3, e4⟩ := g3
  have e4 := e4.symm
  subst e4
  rcases g3 with rfl | ⟨b5, rfl, q6, q6r⟩
  · show MEvP _ none q_83 8 [(0, .ref 0), (1, .int t1), (2, .int t2)] [.null] _ _ _ _
    refine mp_a (a_astore_nN (L' := [(3, .null), (0, .ref 0), (1, .int t1), (2, .int t2)]) dX6_layer_8 (by decide) rfl) (mpp 9 rfl ?_)
    refine mp_a (a_aload_nN dX6_layer_9 rfl) (mpp 10 rfl ?_)
    refine mp_t (s_ifnonnullN dX6_layer_10) (mpp 13 rfl ?_)
    refine mp_a (a_sipush (v := -1001) dX6_layer_13 rfl) (mpp 16 rfl ?_)
    exact mp_iret ⟨⟨_, rfl, trivial⟩, hT, KW.refl, trivial⟩ dX6_layer_16 (Or.inl rfl)
  · show MEvP _ none q_83 8 [(0, .ref 0), (1, .int t1), (2, .int t2)] [.ref b5] _ _ _ _
    refine mp_a (a_astore_n (L' := [(3, .ref b5), (0, .ref 0), (1, .int t1), (2, .int t2)]) dX6_layer_8 (by decide) rfl) (mpp 9 rfl ?_)
    refine mp_a (a_aload_n dX6_layer_9 rfl) (mpp 10 rfl ?_)
    refine mp_t (s_ifnonnullR (t := 17) dX6_layer_10 (by decide)) ?_
    refine mp_a (a_aload_n dX6_layer_17 rfl) (mpp 18 rfl ?_)
    have g7 := ti_full (fv Po b5 0)
    refine mt_getI (i := 130) (k := 0) hT dX6_layer_18 rfl q6 (by decide) rfl (by decide) rfl (fun g8 g9 => mpp 21 rfl ?_)
    refine mp_Tb (t := 40) (j_if_ne dX6_layer_21) (by decide) (fun c10 => ?_) (fun c10 => mpp 24 rfl ?_)
    · have c10 : (fv Po b5 0).toInt ≠ 0 := ti_ne c10
      refine mp_a (a_aload_n dX6_layer_40 rfl) (mpp 41 rfl ?_)
      refine mp_calls (i := 181) (q' := q_63) (As := [.ref b5]) (rest := []) dX6_layer_41 rfl qm_63 (by decide) rfl (Nat.le_of_ble_eq_true rfl) rfl ⟨rfl, rfl⟩ ⟨Nat.le_of_ble_eq_true rfl, Nat.le_of_ble_eq_true rfl⟩ (EvP.mono (by decide) (c_F_errorOfDecidedStrip_NPiece hT q6)) (fun r11 P12 g13 => mpp 44 rfl ?_)
      obtain ⟨⟨x14, rfl, g15⟩, e16⟩ := g13
      have e16 := e16.symm
      subst e16
      have wx14 := ti_full x14
      show MEvP _ none q_83 44 [(3, .ref b5), (0, .ref 0), (1, .int t1), (2, .int t2)] [.int x14] _ _ _ _
      refine mp_a (a_istore (L' := [(4, .int x14), (3, .ref b5), (0, .ref 0), (1, .int t1), (2, .int t2)]) dX6_layer_44 (by decide) rfl) (mpp 46 rfl ?_)
      refine mp_a (a_iload dX6_layer_46 rfl) (mpp 48 rfl ?_)
      refine mp_Tb (t := 54) (j_if_eq dX6_layer_48) (by decide) (fun c17 => ?_) (fun c17 => mpp 51 rfl ?_)
      · have c17 : x14.toInt = 0 := ti_eq c17
        refine mp_a (a_aload_n dX6_layer_54 rfl) (mpp 55 rfl ?_)
        refine mt_getU (i := 46) (k := 6) (A := 294) hT dX6_layer_55 rfl rl_0 (by decide) rfl (by decide) rfl un_13 (mpp 58 rfl ?_)
        refine mp_a (a_aload_n dX6_layer_58 rfl) (mpp 59 rfl ?_)
        refine mp_a (a_iconst (v := 1) dX6_layer_59 rfl) (mpp 60 rfl ?_)
        refine mt_callv (i := 184) (q' := q_64) (As := [.ref b5, .int 1]) (rest := []) hT dX6_layer_60 rfl qm_64 (by decide) rfl rl_294 (by decide) rfl (Nat.le_of_ble_eq_true rfl) rfl ⟨rfl, rfl⟩ ⟨Nat.le_of_ble_eq_true rfl, Nat.le_of_ble_eq_true rfl⟩ (EvP.mono (by decide) (c_CL_search_Layers_NPiece hT q6)) (fun r18 P19 g20 => mpp 63 rfl ?_)
        obtain ⟨⟨x21, rfl, g22⟩, hT23, k24, R25⟩ := g20
        have k26 : KW [832, 896, 960, 1024] Po P19 := KW.trans KW.refl k24 rfl
        have wx21 := ti_full x21
        show MEvP _ none q_83 63 [(4, .int x14), (3, .ref b5), (0, .ref 0), (1, .int t1), (2, .int t2)] [.int x21] _ _ _ _
        refine mp_Tb (t := 72) (j_if_ne dX6_layer_63) (by decide) (fun c27 => ?_) (fun c27 => mpp 66 rfl ?_)
        · have c27 : x21.toInt ≠ 0 := ti_ne c27
          refine mp_a (a_aload_n dX6_layer_72 rfl) (mpp 73 rfl ?_)
          refine mt_getU (i := 46) (k := 6) (A := 294) hT23 dX6_layer_73 rfl rl_0 (by decide) rfl (by decide) rfl un_13 (mpp 76 rfl ?_)
          refine mt_getU (i := 206) (k := 1) (A := 295) hT23 dX6_layer_76 rfl rl_294 (by decide) rfl (by decide) rfl un_14 (mpp 79 rfl ?_)
          refine mp_a (a_iload_n dX6_layer_79 rfl) (mpp 80 rfl ?_)
          refine mp_calls (i := 112) (q' := q_12) (As := [.ref 295, .int t2]) (rest := []) dX6_layer_80 rfl qm_12 (by decide) rfl (Nat.le_of_ble_eq_true rfl) rfl ⟨rfl, rfl⟩ ⟨Nat.le_of_ble_eq_true rfl, Nat.le_of_ble_eq_true rfl⟩ (EvP.mono (by decide) (c_F_at_order hT23 )) (fun r28 P29 g30 => mpp 83 rfl ?_)
          obtain ⟨⟨x31, rfl, g32⟩, e33⟩ := g30
          have e33 := e33.symm
          subst e33
          have wx31 := ti_full x31
          show MEvP _ none q_83 83 [(4, .int x14), (3, .ref b5), (0, .ref 0), (1, .int t1), (2, .int t2)] [.int x31] _ _ _ _
          exact mp_iret ⟨⟨_, rfl, trivial⟩, hT23, k26, trivial⟩ dX6_layer_83 (Or.inl rfl)
        · have c27 : x21.toInt = 0 := ti_ne_n c27
          refine mp_a (a_sipush (v := -1004) dX6_layer_66 rfl) (mpp 69 rfl ?_)
          refine mp_a (a_goto (t := 83) dX6_layer_69 (by decide)) ?_
          exact mp_iret ⟨⟨_, rfl, trivial⟩, hT23, k26, trivial⟩ dX6_layer_83 (Or.inl rfl)
      · have c17 : x14.toInt ≠ 0 := ti_eq_n c17
        refine mp_a (a_iload dX6_layer_51 rfl) (mpp 53 rfl ?_)
        exact mp_iret ⟨⟨_, rfl, trivial⟩, hT, KW.refl, trivial⟩ dX6_layer_53 (Or.inl rfl)
    · have c10 : (fv Po b5 0).toInt = 0 := ti_ne_n c10
      refine mp_a (a_iload_n dX6_layer_24 rfl) (mpp 25 rfl ?_)
      refine mp_Tb (t := 36) (j_if_lt dX6_layer_25) (by decide) (fun c34 => ?_) (fun c34 => mpp 28 rfl ?_)
      · have c34 : t2.toInt < 0 := ti_lt c34
        refine mp_a (a_sipush (v := -1001) dX6_layer_36 rfl) (mpp 39 rfl ?_)
        exact mp_iret ⟨⟨_, rfl, trivial⟩, hT, KW.refl, trivial⟩ dX6_layer_39 (Or.inl rfl)
      · have c34 : t2.toInt ≥ 0 := ti_lt_n c34
        refine mp_a (a_iload_n dX6_layer_28 rfl) (mpp 29 rfl ?_)
        refine mp_a (a_aload_n dX6_layer_29 rfl) (mpp 30 rfl ?_)
        have g35 : (0 : Int) ≤ (fv Po b5 1).toInt ∧ (fv Po b5 1).toInt ≤ 8 := Typ.rng hT q6 (by decide) (by decide) rfl
        refine mt_getI (i := 143) (k := 1) hT dX6_layer_30 rfl q6 (by decide) rfl (by decide) rfl (fun g36 g37 => mpp 33 rfl ?_)
        refine mp_Tb (t := 40) (j_icmp_lt dX6_layer_33) (by decide) (fun c38 => ?_) (fun c38 => mpp 36 rfl ?_)
        · have c38 : t2.toInt < (fv Po b5 1).toInt := ti_lt c38
          refine mp_a (a_aload_n dX6_layer_40 rfl) (mpp 41 rfl ?_)
          refine mp_calls (i := 181) (q' := q_63) (As := [.ref b5]) (rest := []) dX6_layer_41 rfl qm_63 (by decide) rfl (Nat.le_of_ble_eq_true rfl) rfl ⟨rfl, rfl⟩ ⟨Nat.le_of_ble_eq_true rfl, Nat.le_of_ble_eq_true rfl⟩ (EvP.mono (by decide) (c_F_errorOfDecidedStrip_NPiece hT q6)) (fun r39 P40 g41 => mpp 44 rfl ?_)
          obtain ⟨⟨x42, rfl, g43⟩, e44⟩ := g41
          have e44 := e44.symm
          subst e44
          have wx42 := ti_full x42
          show MEvP _ none q_83 44 [(3, .ref b5), (0, .ref 0), (1, .int t1), (2, .int t2)] [.int x42] _ _ _ _
          refine mp_a (a_istore (L' := [(4, .int x42), (3, .ref b5), (0, .ref 0), (1, .int t1), (2, .int t2)]) dX6_layer_44 (by decide) rfl) (mpp 46 rfl ?_)
          refine mp_a (a_iload dX6_layer_46 rfl) (mpp 48 rfl ?_)
          refine mp_Tb (t := 54) (j_if_eq dX6_layer_48) (by decide) (fun c45 => ?_) (fun c45 => mpp 51 rfl ?_)
          · have c45 : x42.toInt = 0 := ti_eq c45
            refine mp_a (a_aload_n dX6_layer_54 rfl) (mpp 55 rfl ?_)
            refine mt_getU (i := 46) (k := 6) (A := 294) hT dX6_layer_55 rfl rl_0 (by decide) rfl (by decide) rfl un_13 (mpp 58 rfl ?_)
            refine mp_a (a_aload_n dX6_layer_58 rfl) (mpp 59 rfl ?_)
            refine mp_a (a_iconst (v := 1) dX6_layer_59 rfl) (mpp 60 rfl ?_)
            refine mt_callv (i := 184) (q' := q_64) (As := [.ref b5, .int 1]) (rest := []) hT dX6_layer_60 rfl qm_64 (by decide) rfl rl_294 (by decide) rfl (Nat.le_of_ble_eq_true rfl) rfl ⟨rfl, rfl⟩ ⟨Nat.le_of_ble_eq_true rfl, Nat.le_of_ble_eq_true rfl⟩ (EvP.mono (by decide) (c_CL_search_Layers_NPiece hT q6)) (fun r46 P47 g48 => mpp 63 rfl ?_)
            obtain ⟨⟨x49, rfl, g50⟩, hT51, k52, R53⟩ := g48
            have k54 : KW [832, 896, 960, 1024] Po P47 := KW.trans KW.refl k52 rfl
            have wx49 := ti_full x49
            show MEvP _ none q_83 63 [(4, .int x42), (3, .ref b5), (0, .ref 0), (1, .int t1), (2, .int t2)] [.int x49] _ _ _ _
            refine mp_Tb (t := 72) (j_if_ne dX6_layer_63) (by decide) (fun c55 => ?_) (fun c55 => mpp 66 rfl ?_)
            · have c55 : x49.toInt ≠ 0 := ti_ne c55
              refine mp_a (a_aload_n dX6_layer_72 rfl) (mpp 73 rfl ?_)
              refine mt_getU (i := 46) (k := 6) (A := 294) hT51 dX6_layer_73 rfl rl_0 (by decide) rfl (by decide) rfl un_13 (mpp 76 rfl ?_)
              refine mt_getU (i := 206) (k := 1) (A := 295) hT51 dX6_layer_76 rfl rl_294 (by decide) rfl (by decide) rfl un_14 (mpp 79 rfl ?_)
              refine mp_a (a_iload_n dX6_layer_79 rfl) (mpp 80 rfl ?_)
              refine mp_calls (i := 112) (q' := q_12) (As := [.ref 295, .int t2]) (rest := []) dX6_layer_80 rfl qm_12 (by decide) rfl (Nat.le_of_ble_eq_true rfl) rfl ⟨rfl, rfl⟩ ⟨Nat.le_of_ble_eq_true rfl, Nat.le_of_ble_eq_true rfl⟩ (EvP.mono (by decide) (c_F_at_order hT51 )) (fun r56 P57 g58 => mpp 83 rfl ?_)
              obtain ⟨⟨x59, rfl, g60⟩, e61⟩ := g58
              have e61 := e61.symm
              subst e61
              have wx59 := ti_full x59
              show MEvP _ none q_83 83 [(4, .int x42), (3, .ref b5), (0, .ref 0), (1, .int t1), (2, .int t2)] [.int x59] _ _ _ _
              exact mp_iret ⟨⟨_, rfl, trivial⟩, hT51, k54, trivial⟩ dX6_layer_83 (Or.inl rfl)
            · have c55 : x49.toInt = 0 := ti_ne_n c55
              refine mp_a (a_sipush (v := -1004) dX6_layer_66 rfl) (mpp 69 rfl ?_)
              refine mp_a (a_goto (t := 83) dX6_layer_69 (by decide)) ?_
              exact mp_iret ⟨⟨_, rfl, trivial⟩, hT51, k54, trivial⟩ dX6_layer_83 (Or.inl rfl)
          · have c45 : x42.toInt ≠ 0 := ti_eq_n c45
            refine mp_a (a_iload dX6_layer_51 rfl) (mpp 53 rfl ?_)
            exact mp_iret ⟨⟨_, rfl, trivial⟩, hT, KW.refl, trivial⟩ dX6_layer_53 (Or.inl rfl)
        · have c38 : t2.toInt ≥ (fv Po b5 1).toInt := ti_lt_n c38
          refine mp_a (a_sipush (v := -1001) dX6_layer_36 rfl) (mpp 39 rfl ?_)
          exact mp_iret ⟨⟨_, rfl, trivial⟩, hT, KW.refl, trivial⟩ dX6_layer_39 (Or.inl rfl)

set_option maxHeartbeats 4000000 in
theorem c_F_orders {Po : mP} {t1 : Int32} (hT : Typ Po)   : EvP 6 84 [.ref 0, .int t1] Po (fun r P' => (∃ x : Int32, r = some (.int x) ∧ (True)) ∧ Typ P' ∧ KW [832, 896, 960, 1024] Po P' ∧ True) := by
  refine EvP.of qm_84 (Nat.le_of_ble_eq_true rfl) rfl ?_
  show MEvP _ none q_84 0 [(0, .ref 0), (1, .int t1)] [] _ 0 0 _
  refine mp_a (a_aload_n dX6_orders_0 rfl) (mpp 1 rfl ?_)
  refine mt_getU (i := 10) (k := 0) (A := 1) hT dX6_orders_1 rfl rl_0 (by decide) rfl (by decide) rfl un_31 (mpp 4 rfl ?_)
  refine mp_a (a_iload_n dX6_orders_4 rfl) (mpp 5 rfl ?_)
  refine mt_callv (i := 94) (q' := q_9) (As := [.int t1]) (rest := []) hT dX6_orders_5 rfl qm_9 (by decide) rfl rl_1 (by decide) rfl (Nat.le_of_ble_eq_true rfl) rfl ⟨rfl, rfl⟩ ⟨Nat.le_of_ble_eq_true rfl, Nat.le_of_ble_eq_true rfl⟩ (EvP.mono (by decide) (c_CS_pieceAt_NState hT )) (fun r1 P2 g3 => mpp 8 rfl ?_)
  obtain ⟨g3, e4⟩ := g3
  have e4 := e4.symm
  subst e4
  rcases g3 with rfl | ⟨b5, rfl, q6, q6r⟩
  · show MEvP _ none q_84 8 [(0, .ref 0), (1, .int t1)] [.null] _ _ _ _
    refine mp_a (a_astore_nN (L' := [(2, .null), (0, .ref 0), (1, .int t1)]) dX6_orders_8 (by decide) rfl) (mpp 9 rfl ?_)
    refine mp_a (a_aload_nN dX6_orders_9 rfl) (mpp 10 rfl ?_)
    refine mp_calls (i := 181) (q' := q_63) (As := [.null]) (rest := []) dX6_orders_10 rfl qm_63 (by decide) rfl (Nat.le_of_ble_eq_true rfl) rfl ⟨rfl, rfl⟩ ⟨Nat.le_of_ble_eq_true rfl, Nat.le_of_ble_eq_true rfl⟩ (EvP.mono (by decide) (c_F_errorOfDecidedStrip_null hT )) (fun r7 P8 g9 => mpp 13 rfl ?_)
    obtain ⟨⟨x10, rfl, g11⟩, e12⟩ := g9
    have e12 := e12.symm
    subst e12
    have wx10 := ti_full x10
    show MEvP _ none q_84 13 [(2, .null), (0, .ref 0), (1, .int t1)] [.int x10] _ _ _ _
    refine mp_a (a_istore_n (L' := [(3, .int x10), (2, .null), (0, .ref 0), (1, .int t1)]) dX6_orders_13 (by decide) rfl) (mpp 14 rfl ?_)
    refine mp_a (a_iload_n dX6_orders_14 rfl) (mpp 15 rfl ?_)
    refine mp_Tb (t := 22) (j_if_ne dX6_orders_15) (by decide) (fun c13 => ?_) (fun c13 => mpp 18 rfl ?_)
    · have c13 : x10.toInt ≠ 0 := ti_ne c13
      refine mp_a (a_iload_n dX6_orders_22 rfl) (mpp 23 rfl ?_)
      exact mp_iret ⟨⟨_, rfl, trivial⟩, hT, KW.refl, trivial⟩ dX6_orders_23 (Or.inl rfl)
    · have c13 : x10.toInt = 0 := ti_ne_n c13
      refine mp_a (a_aload_nN dX6_orders_18 rfl) (mpp 19 rfl ?_)
      refine mp_t (s_ifnonnullN dX6_orders_19) (mpp 22 rfl ?_)
      refine mp_a (a_iload_n dX6_orders_22 rfl) (mpp 23 rfl ?_)
      exact mp_iret ⟨⟨_, rfl, trivial⟩, hT, KW.refl, trivial⟩ dX6_orders_23 (Or.inl rfl)
  · show MEvP _ none q_84 8 [(0, .ref 0), (1, .int t1)] [.ref b5] _ _ _ _
    refine mp_a (a_astore_n (L' := [(2, .ref b5), (0, .ref 0), (1, .int t1)]) dX6_orders_8 (by decide) rfl) (mpp 9 rfl ?_)
    refine mp_a (a_aload_n dX6_orders_9 rfl) (mpp 10 rfl ?_)
    refine mp_calls (i := 181) (q' := q_63) (As := [.ref b5]) (rest := []) dX6_orders_10 rfl qm_63 (by decide) rfl (Nat.le_of_ble_eq_true rfl) rfl ⟨rfl, rfl⟩ ⟨Nat.le_of_ble_eq_true rfl, Nat.le_of_ble_eq_true rfl⟩ (EvP.mono (by decide) (c_F_errorOfDecidedStrip_NPiece hT q6)) (fun r14 P15 g16 => mpp 13 rfl ?_)
    obtain ⟨⟨x17, rfl, g18⟩, e19⟩ := g16
    have e19 := e19.symm
    subst e19
    have wx17 := ti_full x17
    show MEvP _ none q_84 13 [(2, .ref b5), (0, .ref 0), (1, .int t1)] [.int x17] _ _ _ _
    refine mp_a (a_istore_n (L' := [(3, .int x17), (2, .ref b5), (0, .ref 0), (1, .int t1)]) dX6_orders_13 (by decide) rfl) (mpp 14 rfl ?_)
    refine mp_a (a_iload_n dX6_orders_14 rfl) (mpp 15 rfl ?_)
    refine mp_Tb (t := 22) (j_if_ne dX6_orders_15) (by decide) (fun c20 => ?_) (fun c20 => mpp 18 rfl ?_)
    · have c20 : x17.toInt ≠ 0 := ti_ne c20
      refine mp_a (a_iload_n dX6_orders_22 rfl) (mpp 23 rfl ?_)
      exact mp_iret ⟨⟨_, rfl, trivial⟩, hT, KW.refl, trivial⟩ dX6_orders_23 (Or.inl rfl)
    · have c20 : x17.toInt = 0 := ti_ne_n c20
      refine mp_a (a_aload_n dX6_orders_18 rfl) (mpp 19 rfl ?_)
      refine mp_t (s_ifnonnullR (t := 24) dX6_orders_19 (by decide)) ?_
      refine mp_a (a_aload_n dX6_orders_24 rfl) (mpp 25 rfl ?_)
      refine mt_getU (i := 46) (k := 6) (A := 294) hT dX6_orders_25 rfl rl_0 (by decide) rfl (by decide) rfl un_13 (mpp 28 rfl ?_)
      refine mp_a (a_aload_n dX6_orders_28 rfl) (mpp 29 rfl ?_)
      refine mp_ldc (v := 1000000) dX6_orders_29 rfl (mpp 31 rfl ?_)
      refine mt_callv (i := 184) (q' := q_64) (As := [.ref b5, .int 1000000]) (rest := []) hT dX6_orders_31 rfl qm_64 (by decide) rfl rl_294 (by decide) rfl (Nat.le_of_ble_eq_true rfl) rfl ⟨rfl, rfl⟩ ⟨Nat.le_of_ble_eq_true rfl, Nat.le_of_ble_eq_true rfl⟩ (EvP.mono (by decide) (c_CL_search_Layers_NPiece hT q6)) (fun r21 P22 g23 => mpp 34 rfl ?_)
      obtain ⟨⟨x24, rfl, g25⟩, hT26, k27, R28⟩ := g23
      have k29 : KW [832, 896, 960, 1024] Po P22 := KW.trans KW.refl k27 rfl
      have wx24 := ti_full x24
      show MEvP _ none q_84 34 [(3, .int x17), (2, .ref b5), (0, .ref 0), (1, .int t1)] [.int x24] _ _ _ _
      exact mp_iret ⟨⟨_, rfl, trivial⟩, hT26, k29, trivial⟩ dX6_orders_34 (Or.inl rfl)

set_option maxHeartbeats 4000000 in
theorem c_CP_leftEndOf_NPiece {Po : mP} {a0_ : Nat} {t1 : Int32} (hT : Typ Po)  (ha0 : rl a0_ = 33) : EvP 3 87 [.ref a0_, .int t1] Po (fun r P' => (∃ x : Int32, r = some (.int x) ∧ (True)) ∧ P' = Po) := by
  refine EvP.of qm_87 (Nat.le_of_ble_eq_true rfl) rfl ?_
  show MEvP _ none q_87 0 [(0, .ref a0_), (1, .int t1)] [] _ 0 0 _
  refine mp_a (a_aload_n dX2_leftEndOf_0 rfl) (mpp 1 rfl ?_)
  refine mp_a (a_iload_n dX2_leftEndOf_1 rfl) (mpp 2 rfl ?_)
  refine mt_callv (i := 56) (q' := q_13) (As := [.int t1]) (rest := []) hT dX2_leftEndOf_2 rfl qm_13 (by decide) rfl ha0 (by decide) rfl (Nat.le_of_ble_eq_true rfl) rfl ⟨rfl, rfl⟩ ⟨Nat.le_of_ble_eq_true rfl, Nat.le_of_ble_eq_true rfl⟩ (EvP.mono (by decide) (c_CP_placeOf_NPiece hT ha0)) (fun r1 P2 g3 => mpp 5 rfl ?_)
  obtain ⟨⟨x4, rfl, g5⟩, e6⟩ := g3
  have e6 := e6.symm
  subst e6
  have wx4 := ti_full x4
  show MEvP _ none q_87 5 [(0, .ref a0_), (1, .int t1)] [.int x4] _ _ _ _
  refine mp_a (a_aload_n dX2_leftEndOf_5 rfl) (mpp 6 rfl ?_)
  refine mp_a (a_iload_n dX2_leftEndOf_6 rfl) (mpp 7 rfl ?_)
  refine mp_a (a_iconst (v := 1) dX2_leftEndOf_7 rfl) (mpp 8 rfl ?_)
  obtain ⟨z7, h8⟩ := ti_ex (t1 + 1 : Int32)
  have wz7 := ti_full z7
  refine mp_t (s_iadd (v := z7) dX2_leftEndOf_8 h8) (mpp 9 rfl ?_)
  try have e9 : z7.toInt = t1.toInt + 1 := ti_addz h8 rfl rfl (by omega) (by omega)
  refine mt_callv (i := 56) (q' := q_13) (As := [.int z7]) (rest := [.int x4]) hT dX2_leftEndOf_9 rfl qm_13 (by decide) rfl ha0 (by decide) rfl (Nat.le_of_ble_eq_true rfl) rfl ⟨rfl, rfl⟩ ⟨Nat.le_of_ble_eq_true rfl, Nat.le_of_ble_eq_true rfl⟩ (EvP.mono (by decide) (c_CP_placeOf_NPiece hT ha0)) (fun r10 P11 g12 => mpp 12 rfl ?_)
  obtain ⟨⟨x13, rfl, g14⟩, e15⟩ := g12
  have e15 := e15.symm
  subst e15
  have wx13 := ti_full x13
  show MEvP _ none q_87 12 [(0, .ref a0_), (1, .int t1)] [.int x13, .int x4] _ _ _ _
  obtain ⟨z16, h17⟩ := ti_ex (if (8 : Nat) = 7 then (if x4 < x13 then x13 else x4) else (if x13 < x4 then x13 else x4) : Int32)
  have e18 : z16.toInt = min x4.toInt x13.toInt := ti_mm8 h17
  refine mp_math (i := 59) (k := 0) (v := z16) dX2_leftEndOf_12 rfl (by decide) (Nat.le_of_ble_eq_true rfl) h17 ⟨Nat.le_of_ble_eq_true rfl, Nat.le_of_ble_eq_true rfl⟩ (mpp 15 rfl ?_)
  exact mp_iret ⟨⟨_, rfl, trivial⟩, rfl⟩ dX2_leftEndOf_15 (Or.inl rfl)

set_option maxHeartbeats 4000000 in
theorem c_CP_rightEndOf_NPiece {Po : mP} {a0_ : Nat} {t1 : Int32} (hT : Typ Po)  (ha0 : rl a0_ = 33) : EvP 3 89 [.ref a0_, .int t1] Po (fun r P' => (∃ x : Int32, r = some (.int x) ∧ (True)) ∧ P' = Po) := by
  refine EvP.of qm_89 (Nat.le_of_ble_eq_true rfl) rfl ?_
  show MEvP _ none q_89 0 [(0, .ref a0_), (1, .int t1)] [] _ 0 0 _
  refine mp_a (a_aload_n dX2_rightEndOf_0 rfl) (mpp 1 rfl ?_)
  refine mp_a (a_iload_n dX2_rightEndOf_1 rfl) (mpp 2 rfl ?_)
  refine mt_callv (i := 56) (q' := q_13) (As := [.int t1]) (rest := []) hT dX2_rightEndOf_2 rfl qm_13 (by decide) rfl ha0 (by decide) rfl (Nat.le_of_ble_eq_true rfl) rfl ⟨rfl, rfl⟩ ⟨Nat.le_of_ble_eq_true rfl, Nat.le_of_ble_eq_true rfl⟩ (EvP.mono (by decide) (c_CP_placeOf_NPiece hT ha0)) (fun r1 P2 g3 => mpp 5 rfl ?_)
  obtain ⟨⟨x4, rfl, g5⟩, e6⟩ := g3
  have e6 := e6.symm
  subst e6
  have wx4 := ti_full x4
  show MEvP _ none q_89 5 [(0, .ref a0_), (1, .int t1)] [.int x4] _ _ _ _
  refine mp_a (a_aload_n dX2_rightEndOf_5 rfl) (mpp 6 rfl ?_)
  refine mp_a (a_iload_n dX2_rightEndOf_6 rfl) (mpp 7 rfl ?_)
  refine mp_a (a_iconst (v := 1) dX2_rightEndOf_7 rfl) (mpp 8 rfl ?_)
  obtain ⟨z7, h8⟩ := ti_ex (t1 + 1 : Int32)
  have wz7 := ti_full z7
  refine mp_t (s_iadd (v := z7) dX2_rightEndOf_8 h8) (mpp 9 rfl ?_)
  try have e9 : z7.toInt = t1.toInt + 1 := ti_addz h8 rfl rfl (by omega) (by omega)
  refine mt_callv (i := 56) (q' := q_13) (As := [.int z7]) (rest := [.int x4]) hT dX2_rightEndOf_9 rfl qm_13 (by decide) rfl ha0 (by decide) rfl (Nat.le_of_ble_eq_true rfl) rfl ⟨rfl, rfl⟩ ⟨Nat.le_of_ble_eq_true rfl, Nat.le_of_ble_eq_true rfl⟩ (EvP.mono (by decide) (c_CP_placeOf_NPiece hT ha0)) (fun r10 P11 g12 => mpp 12 rfl ?_)
  obtain ⟨⟨x13, rfl, g14⟩, e15⟩ := g12
  have e15 := e15.symm
  subst e15
  have wx13 := ti_full x13
  show MEvP _ none q_89 12 [(0, .ref a0_), (1, .int t1)] [.int x13, .int x4] _ _ _ _
  obtain ⟨z16, h17⟩ := ti_ex (if (7 : Nat) = 7 then (if x4 < x13 then x13 else x4) else (if x13 < x4 then x13 else x4) : Int32)
  have e18 : z16.toInt = max x4.toInt x13.toInt := ti_mm7 h17
  refine mp_math (i := 65) (k := 0) (v := z16) dX2_rightEndOf_12 rfl (by decide) (Nat.le_of_ble_eq_true rfl) h17 ⟨Nat.le_of_ble_eq_true rfl, Nat.le_of_ble_eq_true rfl⟩ (mpp 15 rfl ?_)
  exact mp_iret ⟨⟨_, rfl, trivial⟩, rfl⟩ dX2_rightEndOf_15 (Or.inl rfl)

set_option maxHeartbeats 4000000 in
theorem c_CP_panelsBehind_NPiece_l4 {Po : mP} {a0_ : Nat} {t1 : Int32} (hT : Typ Po)  (ha0 : rl a0_ = 33) : ∀ (n : Nat) (v2 : Int32) (v3 : Int32), (0 ≤ v3.toInt) → (2147483647 - v3.toInt).toNat = n → MEvP 3 none q_88 4 [(0, .ref a0_), (1, .int t1), (2, .int v2), (3, .int v3)] [] Po 0 0 (fun r P' => (∃ x : Int32, r = some (.int x) ∧ (True)) ∧ P' = Po) := by
  intro n
  induction n using Nat.strongRecOn with | _ n ih => ?_
  intro v2 v3 i_0 hm
  have w_t1 := ti_full t1
  have w_v2 := ti_full v2
  have w_v3 := ti_full v3
  refine mp_a (a_iload_n dX2_panelsBehind_4 rfl) (mpp 5 rfl ?_)
  refine mp_a (a_aload_n dX2_panelsBehind_5 rfl) (mpp 6 rfl ?_)
  have g1 : (0 : Int) ≤ (fv Po a0_ 1).toInt ∧ (fv Po a0_ 1).toInt ≤ 8 := Typ.rng hT ha0 (by decide) (by decide) rfl
  refine mt_getI (i := 26) (k := 1) hT dX2_panelsBehind_6 rfl ha0 (by decide) rfl (by decide) rfl (fun g2 g3 => mpp 9 rfl ?_)
  refine mp_Tb (t := 39) (j_icmp_ge dX2_panelsBehind_9) (by decide) (fun c4 => ?_) (fun c4 => mpp 12 rfl ?_)
  · have c4 : v3.toInt ≥ (fv Po a0_ 1).toInt := ti_ge c4
    refine mp_a (a_iload_n dX2_panelsBehind_39 rfl) (mpp 40 rfl ?_)
    exact mp_iret ⟨⟨_, rfl, trivial⟩, rfl⟩ dX2_panelsBehind_40 (Or.inl rfl)
  · have c4 : v3.toInt < (fv Po a0_ 1).toInt := ti_ge_n c4
    refine mp_a (a_aload_n dX2_panelsBehind_12 rfl) (mpp 13 rfl ?_)
    refine mp_a (a_iload_n dX2_panelsBehind_13 rfl) (mpp 14 rfl ?_)
    refine mt_callv (i := 71) (q' := q_87) (As := [.int v3]) (rest := []) hT dX2_panelsBehind_14 rfl qm_87 (by decide) rfl ha0 (by decide) rfl (Nat.le_of_ble_eq_true rfl) rfl ⟨rfl, rfl⟩ ⟨Nat.le_of_ble_eq_true rfl, Nat.le_of_ble_eq_true rfl⟩ (EvP.mono (by decide) (c_CP_leftEndOf_NPiece hT ha0)) (fun r5 P6 g7 => mpp 17 rfl ?_)
    obtain ⟨⟨x8, rfl, g9⟩, e10⟩ := g7
    have e10 := e10.symm
    subst e10
    have wx8 := ti_full x8
    show MEvP _ none q_88 17 [(0, .ref a0_), (1, .int t1), (2, .int v2), (3, .int v3)] [.int x8] _ _ _ _
    refine mp_a (a_iload_n dX2_panelsBehind_17 rfl) (mpp 18 rfl ?_)
    refine mp_Tb (t := 33) (j_icmp_gt dX2_panelsBehind_18) (by decide) (fun c11 => ?_) (fun c11 => mpp 21 rfl ?_)
    · have c11 : x8.toInt > t1.toInt := ti_gt c11
      obtain ⟨z12, h13⟩ := ti_ex (v3 + 1 : Int32)
      have wz12 := ti_full z12
      refine mp_a (a_iinc (v := z12) (L' := [(3, .int z12), (0, .ref a0_), (1, .int t1), (2, .int v2)]) dX2_panelsBehind_33 (by decide) rfl h13 rfl) (mpp 36 rfl ?_)
      try have e14 : z12.toInt = v3.toInt + 1 := ti_addz h13 rfl rfl (by omega) (by omega)
      refine mp_a (a_goto (t := 4) dX2_panelsBehind_36 (by decide)) ?_
      refine MEvP.less (L := [(0, .ref a0_), (1, .int t1), (2, .int v2), (3, .int z12)]) rfl rfl ⟨rfl, rfl, rfl, rfl, trivial⟩ ?_
      have i15 : 0 ≤ z12.toInt := by omega
      exact ih _ (by omega) _ _ i15 rfl
    · have c11 : x8.toInt ≤ t1.toInt := ti_gt_n c11
      refine mp_a (a_iload_n dX2_panelsBehind_21 rfl) (mpp 22 rfl ?_)
      refine mp_a (a_aload_n dX2_panelsBehind_22 rfl) (mpp 23 rfl ?_)
      refine mp_a (a_iload_n dX2_panelsBehind_23 rfl) (mpp 24 rfl ?_)
      refine mt_callv (i := 77) (q' := q_89) (As := [.int v3]) (rest := [.int t1]) hT dX2_panelsBehind_24 rfl qm_89 (by decide) rfl ha0 (by decide) rfl (Nat.le_of_ble_eq_true rfl) rfl ⟨rfl, rfl⟩ ⟨Nat.le_of_ble_eq_true rfl, Nat.le_of_ble_eq_true rfl⟩ (EvP.mono (by decide) (c_CP_rightEndOf_NPiece hT ha0)) (fun r16 P17 g18 => mpp 27 rfl ?_)
      obtain ⟨⟨x19, rfl, g20⟩, e21⟩ := g18
      have e21 := e21.symm
      subst e21
      have wx19 := ti_full x19
      show MEvP _ none q_88 27 [(0, .ref a0_), (1, .int t1), (2, .int v2), (3, .int v3)] [.int x19, .int t1] _ _ _ _
      refine mp_Tb (t := 33) (j_icmp_ge dX2_panelsBehind_27) (by decide) (fun c22 => ?_) (fun c22 => mpp 30 rfl ?_)
      · have c22 : t1.toInt ≥ x19.toInt := ti_ge c22
        obtain ⟨z23, h24⟩ := ti_ex (v3 + 1 : Int32)
        have wz23 := ti_full z23
        refine mp_a (a_iinc (v := z23) (L' := [(3, .int z23), (0, .ref a0_), (1, .int t1), (2, .int v2)]) dX2_panelsBehind_33 (by decide) rfl h24 rfl) (mpp 36 rfl ?_)
        try have e25 : z23.toInt = v3.toInt + 1 := ti_addz h24 rfl rfl (by omega) (by omega)
        refine mp_a (a_goto (t := 4) dX2_panelsBehind_36 (by decide)) ?_
        refine MEvP.less (L := [(0, .ref a0_), (1, .int t1), (2, .int v2), (3, .int z23)]) rfl rfl ⟨rfl, rfl, rfl, rfl, trivial⟩ ?_
        have i26 : 0 ≤ z23.toInt := by omega
        exact ih _ (by omega) _ _ i26 rfl
      · have c22 : t1.toInt < x19.toInt := ti_ge_n c22
        obtain ⟨z27, h28⟩ := ti_ex (v2 + 1 : Int32)
        have wz27 := ti_full z27
        refine mp_a (a_iinc (v := z27) (L' := [(2, .int z27), (0, .ref a0_), (1, .int t1), (3, .int v3)]) dX2_panelsBehind_30 (by decide) rfl h28 rfl) (mpp 33 rfl ?_)
        try have e29 : z27.toInt = v2.toInt + 1 := ti_addz h28 rfl rfl (by omega) (by omega)
        obtain ⟨z30, h31⟩ := ti_ex (v3 + 1 : Int32)
        have wz30 := ti_full z30
        refine mp_a (a_iinc (v := z30) (L' := [(3, .int z30), (2, .int z27), (0, .ref a0_), (1, .int t1)]) dX2_panelsBehind_33 (by decide) rfl h31 rfl) (mpp 36 rfl ?_)
        try have e32 : z30.toInt = v3.toInt + 1 := ti_addz h31 rfl rfl (by omega) (by omega)
        refine mp_a (a_goto (t := 4) dX2_panelsBehind_36 (by decide)) ?_
        refine MEvP.less (L := [(0, .ref a0_), (1, .int t1), (2, .int z27), (3, .int z30)]) rfl rfl ⟨rfl, rfl, rfl, rfl, trivial⟩ ?_
        have i33 : 0 ≤ z30.toInt := by omega
        exact ih _ (by omega) _ _ i33 rfl

set_option maxHeartbeats 4000000 in
theorem c_CP_panelsBehind_NPiece {Po : mP} {a0_ : Nat} {t1 : Int32} (hT : Typ Po)  (ha0 : rl a0_ = 33) : EvP 4 88 [.ref a0_, .int t1] Po (fun r P' => (∃ x : Int32, r = some (.int x) ∧ (True)) ∧ P' = Po) := by
  refine EvP.of qm_88 (Nat.le_of_ble_eq_true rfl) rfl ?_
  show MEvP _ none q_88 0 [(0, .ref a0_), (1, .int t1)] [] _ 0 0 _
  refine mp_a (a_iconst (v := 0) dX2_panelsBehind_0 rfl) (mpp 1 rfl ?_)
  refine mp_a (a_istore_n (L' := [(2, .int 0), (0, .ref a0_), (1, .int t1)]) dX2_panelsBehind_1 (by decide) rfl) (mpp 2 rfl ?_)
  refine mp_a (a_iconst (v := 0) dX2_panelsBehind_2 rfl) (mpp 3 rfl ?_)
  refine mp_a (a_istore_n (L' := [(3, .int 0), (2, .int 0), (0, .ref a0_), (1, .int t1)]) dX2_panelsBehind_3 (by decide) rfl) (mpp 4 rfl ?_)
  refine MEvP.less (L := [(0, .ref a0_), (1, .int t1), (2, .int 0), (3, .int 0)]) rfl rfl ⟨rfl, rfl, rfl, rfl, trivial⟩ ?_
  have i1 : 0 ≤ (0 : Int) := by omega
  exact c_CP_panelsBehind_NPiece_l4 hT  ha0 _ _ _ i1 rfl

set_option maxHeartbeats 4000000 in
theorem c_CP_thickness_NPiece_l4 {Po : mP} {a0_ : Nat} (hT : Typ Po)  (ha0 : rl a0_ = 33) : ∀ (n : Nat) (v1 : Int32) (v2 : Int32), (0 ≤ v2.toInt) → (2147483647 - v2.toInt).toNat = n → MEvP 4 none q_86 4 [(0, .ref a0_), (1, .int v1), (2, .int v2)] [] Po 0 0 (fun r P' => (∃ x : Int32, r = some (.int x) ∧ (True)) ∧ P' = Po) := by
  intro n
  induction n using Nat.strongRecOn with | _ n ih => ?_
  intro v1 v2 i_0 hm
  have w_v1 := ti_full v1
  have w_v2 := ti_full v2
  refine mp_a (a_iload_n dX2_thickness_4 rfl) (mpp 5 rfl ?_)
  refine mp_a (a_aload_n dX2_thickness_5 rfl) (mpp 6 rfl ?_)
  have g1 : (0 : Int) ≤ (fv Po a0_ 1).toInt ∧ (fv Po a0_ 1).toInt ≤ 8 := Typ.rng hT ha0 (by decide) (by decide) rfl
  refine mt_getI (i := 26) (k := 1) hT dX2_thickness_6 rfl ha0 (by decide) rfl (by decide) rfl (fun g2 g3 => mpp 9 rfl ?_)
  refine mp_Tb (t := 32) (j_icmp_ge dX2_thickness_9) (by decide) (fun c4 => ?_) (fun c4 => mpp 12 rfl ?_)
  · have c4 : v2.toInt ≥ (fv Po a0_ 1).toInt := ti_ge c4
    refine mp_a (a_iload_n dX2_thickness_32 rfl) (mpp 33 rfl ?_)
    exact mp_iret ⟨⟨_, rfl, trivial⟩, rfl⟩ dX2_thickness_33 (Or.inl rfl)
  · have c4 : v2.toInt < (fv Po a0_ 1).toInt := ti_ge_n c4
    refine mp_a (a_iload_n dX2_thickness_12 rfl) (mpp 13 rfl ?_)
    refine mp_a (a_aload_n dX2_thickness_13 rfl) (mpp 14 rfl ?_)
    refine mp_a (a_aload_n dX2_thickness_14 rfl) (mpp 15 rfl ?_)
    refine mp_a (a_iload_n dX2_thickness_15 rfl) (mpp 16 rfl ?_)
    refine mt_callv (i := 71) (q' := q_87) (As := [.int v2]) (rest := [.ref a0_, .int v1]) hT dX2_thickness_16 rfl qm_87 (by decide) rfl ha0 (by decide) rfl (Nat.le_of_ble_eq_true rfl) rfl ⟨rfl, rfl⟩ ⟨Nat.le_of_ble_eq_true rfl, Nat.le_of_ble_eq_true rfl⟩ (EvP.mono (by decide) (c_CP_leftEndOf_NPiece hT ha0)) (fun r5 P6 g7 => mpp 19 rfl ?_)
    obtain ⟨⟨x8, rfl, g9⟩, e10⟩ := g7
    have e10 := e10.symm
    subst e10
    have wx8 := ti_full x8
    show MEvP _ none q_86 19 [(0, .ref a0_), (1, .int v1), (2, .int v2)] [.int x8, .ref a0_, .int v1] _ _ _ _
    refine mt_callv (i := 74) (q' := q_88) (As := [.int x8]) (rest := [.int v1]) hT dX2_thickness_19 rfl qm_88 (by decide) rfl ha0 (by decide) rfl (Nat.le_of_ble_eq_true rfl) rfl ⟨rfl, rfl⟩ ⟨Nat.le_of_ble_eq_true rfl, Nat.le_of_ble_eq_true rfl⟩ (EvP.mono (by decide) (c_CP_panelsBehind_NPiece hT ha0)) (fun r11 P12 g13 => mpp 22 rfl ?_)
    obtain ⟨⟨x14, rfl, g15⟩, e16⟩ := g13
    have e16 := e16.symm
    subst e16
    have wx14 := ti_full x14
    show MEvP _ none q_86 22 [(0, .ref a0_), (1, .int v1), (2, .int v2)] [.int x14, .int v1] _ _ _ _
    obtain ⟨z17, h18⟩ := ti_ex (if (7 : Nat) = 7 then (if v1 < x14 then x14 else v1) else (if x14 < v1 then x14 else v1) : Int32)
    have e19 : z17.toInt = max v1.toInt x14.toInt := ti_mm7 h18
    refine mp_math (i := 65) (k := 0) (v := z17) dX2_thickness_22 rfl (by decide) (Nat.le_of_ble_eq_true rfl) h18 ⟨Nat.le_of_ble_eq_true rfl, Nat.le_of_ble_eq_true rfl⟩ (mpp 25 rfl ?_)
    refine mp_a (a_istore_n (L' := [(1, .int z17), (0, .ref a0_), (2, .int v2)]) dX2_thickness_25 (by decide) rfl) (mpp 26 rfl ?_)
    obtain ⟨z20, h21⟩ := ti_ex (v2 + 1 : Int32)
    have wz20 := ti_full z20
    refine mp_a (a_iinc (v := z20) (L' := [(2, .int z20), (1, .int z17), (0, .ref a0_)]) dX2_thickness_26 (by decide) rfl h21 rfl) (mpp 29 rfl ?_)
    try have e22 : z20.toInt = v2.toInt + 1 := ti_addz h21 rfl rfl (by omega) (by omega)
    refine mp_a (a_goto (t := 4) dX2_thickness_29 (by decide)) ?_
    refine MEvP.less (L := [(0, .ref a0_), (1, .int z17), (2, .int z20)]) rfl rfl ⟨rfl, rfl, rfl, trivial⟩ ?_
    have i23 : 0 ≤ z20.toInt := by omega
    exact ih _ (by omega) _ _ i23 rfl

set_option maxHeartbeats 4000000 in
theorem c_CP_thickness_NPiece {Po : mP} {a0_ : Nat} (hT : Typ Po)  (ha0 : rl a0_ = 33) : EvP 5 86 [.ref a0_] Po (fun r P' => (∃ x : Int32, r = some (.int x) ∧ (True)) ∧ P' = Po) := by
  refine EvP.of qm_86 (Nat.le_of_ble_eq_true rfl) rfl ?_
  show MEvP _ none q_86 0 [(0, .ref a0_)] [] _ 0 0 _
  refine mp_a (a_iconst (v := 0) dX2_thickness_0 rfl) (mpp 1 rfl ?_)
  refine mp_a (a_istore_n (L' := [(1, .int 0), (0, .ref a0_)]) dX2_thickness_1 (by decide) rfl) (mpp 2 rfl ?_)
  refine mp_a (a_iconst (v := 0) dX2_thickness_2 rfl) (mpp 3 rfl ?_)
  refine mp_a (a_istore_n (L' := [(2, .int 0), (1, .int 0), (0, .ref a0_)]) dX2_thickness_3 (by decide) rfl) (mpp 4 rfl ?_)
  refine MEvP.less (L := [(0, .ref a0_), (1, .int 0), (2, .int 0)]) rfl rfl ⟨rfl, rfl, rfl, trivial⟩ ?_
  have i1 : 0 ≤ (0 : Int) := by omega
  exact c_CP_thickness_NPiece_l4 hT  ha0 _ _ _ i1 rfl

set_option maxHeartbeats 4000000 in
theorem c_F_thickest {Po : mP} {t1 : Int32} (hT : Typ Po)   : EvP 6 85 [.ref 0, .int t1] Po (fun r P' => (∃ x : Int32, r = some (.int x) ∧ (True)) ∧ P' = Po) := by
  refine EvP.of qm_85 (Nat.le_of_ble_eq_true rfl) rfl ?_
  show MEvP _ none q_85 0 [(0, .ref 0), (1, .int t1)] [] _ 0 0 _
  refine mp_a (a_aload_n dX6_thickest_0 rfl) (mpp 1 rfl ?_)
  refine mt_getU (i := 10) (k := 0) (A := 1) hT dX6_thickest_1 rfl rl_0 (by decide) rfl (by decide) rfl un_31 (mpp 4 rfl ?_)
  refine mp_a (a_iload_n dX6_thickest_4 rfl) (mpp 5 rfl ?_)
  refine mt_callv (i := 94) (q' := q_9) (As := [.int t1]) (rest := []) hT dX6_thickest_5 rfl qm_9 (by decide) rfl rl_1 (by decide) rfl (Nat.le_of_ble_eq_true rfl) rfl ⟨rfl, rfl⟩ ⟨Nat.le_of_ble_eq_true rfl, Nat.le_of_ble_eq_true rfl⟩ (EvP.mono (by decide) (c_CS_pieceAt_NState hT )) (fun r1 P2 g3 => mpp 8 rfl ?_)
  obtain ⟨g3, e4⟩ := g3
  have e4 := e4.symm
  subst e4
  rcases g3 with rfl | ⟨b5, rfl, q6, q6r⟩
  · show MEvP _ none q_85 8 [(0, .ref 0), (1, .int t1)] [.null] _ _ _ _
    refine mp_a (a_astore_nN (L' := [(2, .null), (0, .ref 0), (1, .int t1)]) dX6_thickest_8 (by decide) rfl) (mpp 9 rfl ?_)
    refine mp_a (a_aload_nN dX6_thickest_9 rfl) (mpp 10 rfl ?_)
    refine mp_t (s_ifnonnullN dX6_thickest_10) (mpp 13 rfl ?_)
    refine mp_a (a_sipush (v := -1001) dX6_thickest_13 rfl) (mpp 16 rfl ?_)
    exact mp_iret ⟨⟨_, rfl, trivial⟩, rfl⟩ dX6_thickest_16 (Or.inl rfl)
  · show MEvP _ none q_85 8 [(0, .ref 0), (1, .int t1)] [.ref b5] _ _ _ _
    refine mp_a (a_astore_n (L' := [(2, .ref b5), (0, .ref 0), (1, .int t1)]) dX6_thickest_8 (by decide) rfl) (mpp 9 rfl ?_)
    refine mp_a (a_aload_n dX6_thickest_9 rfl) (mpp 10 rfl ?_)
    refine mp_t (s_ifnonnullR (t := 17) dX6_thickest_10 (by decide)) ?_
    refine mp_a (a_aload_n dX6_thickest_17 rfl) (mpp 18 rfl ?_)
    have g7 := ti_full (fv Po b5 0)
    refine mt_getI (i := 130) (k := 0) hT dX6_thickest_18 rfl q6 (by decide) rfl (by decide) rfl (fun g8 g9 => mpp 21 rfl ?_)
    refine mp_Tb (t := 30) (j_if_eq dX6_thickest_21) (by decide) (fun c10 => ?_) (fun c10 => mpp 24 rfl ?_)
    · have c10 : (fv Po b5 0).toInt = 0 := ti_eq c10
      refine mp_a (a_aload_n dX6_thickest_30 rfl) (mpp 31 rfl ?_)
      refine mt_callv (i := 210) (q' := q_86) (As := []) (rest := []) hT dX6_thickest_31 rfl qm_86 (by decide) rfl q6 (by decide) rfl (Nat.le_of_ble_eq_true rfl) rfl ⟨rfl, rfl⟩ ⟨Nat.le_of_ble_eq_true rfl, Nat.le_of_ble_eq_true rfl⟩ (EvP.mono (by decide) (c_CP_thickness_NPiece hT q6)) (fun r11 P12 g13 => mpp 34 rfl ?_)
      obtain ⟨⟨x14, rfl, g15⟩, e16⟩ := g13
      have e16 := e16.symm
      subst e16
      have wx14 := ti_full x14
      show MEvP _ none q_85 34 [(2, .ref b5), (0, .ref 0), (1, .int t1)] [.int x14] _ _ _ _
      exact mp_iret ⟨⟨_, rfl, trivial⟩, rfl⟩ dX6_thickest_34 (Or.inl rfl)
    · have c10 : (fv Po b5 0).toInt ≠ 0 := ti_eq_n c10
      refine mp_a (a_sipush (v := -1002) dX6_thickest_24 rfl) (mpp 27 rfl ?_)
      refine mp_a (a_goto (t := 34) dX6_thickest_27 (by decide)) ?_
      exact mp_iret ⟨⟨_, rfl, trivial⟩, rfl⟩ dX6_thickest_34 (Or.inl rfl)

set_option maxHeartbeats 4000000 in
theorem c_F_floorMod {Po : mP} {t0 : Int32} {t1 : Int32} (hT : Typ Po)  (hp0 : 1 ≤ t1.toInt)  : EvP 1 236 [.int t0, .int t1] Po (fun r P' => (∃ x : Int32, r = some (.int x) ∧ (True)) ∧ P' = Po) := by
  refine EvP.of qm_236 (Nat.le_of_ble_eq_true rfl) rfl ?_
  show MEvP _ none q_236 0 [(0, .int t0), (1, .int t1)] [] _ 0 0 _
  refine mp_a (a_iload_n dJ9_floorMod_7cf53_0 rfl) (mpp 1 rfl ?_)
  refine mp_a (a_iload_n dJ9_floorMod_7cf53_1 rfl) (mpp 2 rfl ?_)
  obtain ⟨z1, h2⟩ := ti_ex (t0 - t0 / t1 * t1 : Int32)
  have wz1 := ti_full z1
  have n3 : ¬ t1 = 0 := ti_n0 (by omega)
  try have e4 : 0 ≤ z1.toInt ∧ z1.toInt < t1.toInt := ti_rem h2 (show (0 : Int) ≤ t0.toInt by omega) (show (0 : Int) < t1.toInt by omega)
  refine mp_t (s_irem (v := z1) dJ9_floorMod_7cf53_2 n3 h2) (mpp 3 rfl ?_)
  refine mp_a (a_istore_n (L' := [(2, .int z1), (0, .int t0), (1, .int t1)]) dJ9_floorMod_7cf53_3 (by decide) rfl) (mpp 4 rfl ?_)
  refine mp_a (a_iload_n dJ9_floorMod_7cf53_4 rfl) (mpp 5 rfl ?_)
  refine mp_a (a_iload_n dJ9_floorMod_7cf53_5 rfl) (mpp 6 rfl ?_)
  obtain ⟨z5, h6⟩ := ti_ex (t0 ^^^ t1 : Int32)
  have wz5 := ti_full z5
  refine mp_t (s_ixor (v := z5) dJ9_floorMod_7cf53_6 h6) (mpp 7 rfl ?_)
  refine mp_Tb (t := 18) (j_if_ge dJ9_floorMod_7cf53_7) (by decide) (fun c7 => ?_) (fun c7 => mpp 10 rfl ?_)
  · have c7 : z5.toInt ≥ 0 := ti_ge c7
    refine mp_a (a_iload_n dJ9_floorMod_7cf53_18 rfl) (mpp 19 rfl ?_)
    exact mp_iret ⟨⟨_, rfl, trivial⟩, rfl⟩ dJ9_floorMod_7cf53_19 (Or.inl rfl)
  · have c7 : z5.toInt < 0 := ti_ge_n c7
    refine mp_a (a_iload_n dJ9_floorMod_7cf53_10 rfl) (mpp 11 rfl ?_)
    refine mp_Tb (t := 18) (j_if_eq dJ9_floorMod_7cf53_11) (by decide) (fun c8 => ?_) (fun c8 => mpp 14 rfl ?_)
    · have c8 : z1.toInt = 0 := ti_eq c8
      refine mp_a (a_iload_n dJ9_floorMod_7cf53_18 rfl) (mpp 19 rfl ?_)
      exact mp_iret ⟨⟨_, rfl, trivial⟩, rfl⟩ dJ9_floorMod_7cf53_19 (Or.inl rfl)
    · have c8 : z1.toInt ≠ 0 := ti_eq_n c8
      refine mp_a (a_iload_n dJ9_floorMod_7cf53_14 rfl) (mpp 15 rfl ?_)
      refine mp_a (a_iload_n dJ9_floorMod_7cf53_15 rfl) (mpp 16 rfl ?_)
      obtain ⟨z9, h10⟩ := ti_ex (z1 + t1 : Int32)
      have wz9 := ti_full z9
      refine mp_t (s_iadd (v := z9) dJ9_floorMod_7cf53_16 h10) (mpp 17 rfl ?_)
      try have e11 : z9.toInt = z1.toInt + t1.toInt := ti_addz h10 rfl rfl (by omega) (by omega)
      exact mp_iret ⟨⟨_, rfl, trivial⟩, rfl⟩ dJ9_floorMod_7cf53_17 (Or.inl rfl)

