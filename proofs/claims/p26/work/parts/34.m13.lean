/-! methods on typed pools, 13 (written by a program) -/
set_option maxHeartbeats 4000000 in
theorem c_F_read {Po : mP}  (hT : Typ Po)   : EvP 7 94 [.ref 0] Po (fun r P' => (∃ x : Int32, r = some (.int x) ∧ ((fv P' 289 1).toInt = 0)) ∧ Typ P' ∧ KW [9, 10, 11, 12, 65, 66, 67, 192, 193, 194, 256, 320, 385, 386, 387, 513, 514, 515, 516, 517, 518, 519, 640, 641, 704, 768, 1985, 1986, 1987, 2112, 2113, 2114] Po P' ∧ True) := by
  refine EvP.of qm_94 (Nat.le_of_ble_eq_true rfl) rfl ?_
  show MEvP _ none q_94 0 [(0, .ref 0)] [] _ 0 0 _
  refine mp_a (a_aload_n dX6_read_0 rfl) (mpp 1 rfl ?_)
  refine mt_getU (i := 32) (k := 4) (A := 289) hT dX6_read_1 rfl rl_0 (by decide) rfl (by decide) rfl un_8 (mpp 4 rfl ?_)
  refine mt_callv (i := 222) (q' := q_95) (As := []) (rest := []) hT dX6_read_4 rfl qm_95 (by decide) rfl rl_289 (by decide) rfl (Nat.le_of_ble_eq_true rfl) rfl ⟨rfl, rfl⟩ ⟨Nat.le_of_ble_eq_true rfl, Nat.le_of_ble_eq_true rfl⟩ (EvP.mono (by decide) (c_CS_faultPosition_Script hT )) (fun r1 P2 g3 => mpp 7 rfl ?_)
  obtain ⟨⟨x4, rfl, g5⟩, hT6, k7, R8⟩ := g3
  have k9 : KW [9, 10, 11, 12, 65, 66, 67, 192, 193, 194, 256, 320, 385, 386, 387, 513, 514, 515, 516, 517, 518, 519, 640, 641, 704, 768, 1985, 1986, 1987, 2112, 2113, 2114] Po P2 := KW.trans KW.refl k7 rfl
  have wx4 := ti_full x4
  show MEvP _ none q_94 7 [(0, .ref 0)] [.int x4] _ _ _ _
  refine mp_a (a_istore_n (L' := [(1, .int x4), (0, .ref 0)]) dX6_read_7 (by decide) rfl) (mpp 8 rfl ?_)
  refine mp_a (a_iload_n dX6_read_8 rfl) (mpp 9 rfl ?_)
  refine mp_a (a_sipush (v := -1004) dX6_read_9 rfl) (mpp 12 rfl ?_)
  refine mp_Tb (t := 28) (j_icmp_eq dX6_read_12) (by decide) (fun c10 => ?_) (fun c10 => mpp 15 rfl ?_)
  · have c10 : x4.toInt = (-1004) := ti_eq c10
    refine mp_a (a_aload_n dX6_read_28 rfl) (mpp 29 rfl ?_)
    refine mt_getR (i := 16) (k := 1) hT6 dX6_read_29 rfl rl_0 (by decide) rfl (by decide) rfl (fun q11 => mpp 32 rfl ?_)
    generalize rv P2 0 1 = b12 at q11 ⊢
    refine mp_a (a_aload_n dX6_read_32 rfl) (mpp 33 rfl ?_)
    refine mt_getU (i := 10) (k := 0) (A := 1) hT6 dX6_read_33 rfl rl_0 (by decide) rfl (by decide) rfl un_31 (mpp 36 rfl ?_)
    refine mt_callv (i := 228) (q' := q_17) (As := [.ref 1]) (rest := []) hT6 dX6_read_36 rfl qm_17 (by decide) rfl q11 (by decide) rfl (Nat.le_of_ble_eq_true rfl) rfl ⟨rfl, rfl⟩ ⟨Nat.le_of_ble_eq_true rfl, Nat.le_of_ble_eq_true rfl⟩ (EvP.mono (by decide) (c_CS_copyFrom_State_NState hT6 q11)) (fun r13 P14 g15 => mpp 39 rfl ?_)
    obtain ⟨⟨rfl, g17⟩, hT18, k19, R20⟩ := g15
    have k21 : KW [9, 10, 11, 12, 65, 66, 67, 192, 193, 194, 256, 320, 385, 386, 387, 513, 514, 515, 516, 517, 518, 519, 640, 641, 704, 768, 1985, 1986, 1987, 2112, 2113, 2114] Po P14 := KW.trans k9 k19 rfl
    show MEvP _ none q_94 39 [(1, .int x4), (0, .ref 0)] [] _ _ _ _
    refine mp_a (a_aload_n dX6_read_39 rfl) (mpp 40 rfl ?_)
    refine mt_getU (i := 25) (k := 3) (A := 79) hT18 dX6_read_40 rfl rl_0 (by decide) rfl (by decide) rfl un_6 (mpp 43 rfl ?_)
    refine mp_a (a_iconst (v := 1) dX6_read_43 rfl) (mpp 44 rfl ?_)
    refine mt_putI (i := 230) (k := 3) (x := 1) hT18 dX6_read_44 rfl rl_79 (by decide) rfl (by decide) rfl (by decide) rfl rfl (fun P22 hT23 f24 f25 => mpp 47 rfl ?_)
    have k26 : KW [9, 10, 11, 12, 65, 66, 67, 192, 193, 194, 256, 320, 385, 386, 387, 513, 514, 515, 516, 517, 518, 519, 640, 641, 704, 768, 1985, 1986, 1987, 2112, 2113, 2114] Po P22 := KW.step k21 rl_79 rfl f25
    have e27 : (fv P22 79 3).toInt = 1 := congrArg Int32.toInt f24
    refine mp_a (a_aload_n dX6_read_47 rfl) (mpp 48 rfl ?_)
    refine mt_getU (i := 32) (k := 4) (A := 289) hT23 dX6_read_48 rfl rl_0 (by decide) rfl (by decide) rfl un_8 (mpp 51 rfl ?_)
    refine mt_callv (i := 233) (q' := q_96) (As := []) (rest := []) hT23 dX6_read_51 rfl qm_96 (by decide) rfl rl_289 (by decide) rfl (Nat.le_of_ble_eq_true rfl) rfl ⟨rfl, rfl⟩ ⟨Nat.le_of_ble_eq_true rfl, Nat.le_of_ble_eq_true rfl⟩ (EvP.mono (by decide) (c_CS_rewind_Script hT23 )) (fun r28 P29 g30 => mpp 54 rfl ?_)
    obtain ⟨⟨rfl, g32⟩, hT33, k34, R35⟩ := g30
    have k36 : KW [9, 10, 11, 12, 65, 66, 67, 192, 193, 194, 256, 320, 385, 386, 387, 513, 514, 515, 516, 517, 518, 519, 640, 641, 704, 768, 1985, 1986, 1987, 2112, 2113, 2114] Po P29 := KW.trans k26 k34 rfl
    show MEvP _ none q_94 54 [(1, .int x4), (0, .ref 0)] [] _ _ _ _
    refine mp_a (a_iconst (v := 0) dX6_read_54 rfl) (mpp 55 rfl ?_)
    refine mp_a (a_istore_n (L' := [(2, .int 0), (1, .int x4), (0, .ref 0)]) dX6_read_55 (by decide) rfl) (mpp 56 rfl ?_)
    refine mp_a (a_iconst (v := 0) dX6_read_56 rfl) (mpp 57 rfl ?_)
    refine mp_a (a_istore_n (L' := [(3, .int 0), (2, .int 0), (1, .int x4), (0, .ref 0)]) dX6_read_57 (by decide) rfl) (mpp 58 rfl ?_)
    refine MEvP.less (L := [(0, .ref 0), (1, .int x4), (2, .int 0), (3, .int 0)]) rfl rfl ⟨rfl, rfl, rfl, rfl, trivial⟩ ?_
    have i37 : 0 ≤ (0 : Int) := by omega
    exact c_F_read_l58   _ _ _ _ P29 hT33 k36 i37 rfl
  · have c10 : x4.toInt ≠ (-1004) := ti_eq_n c10
    refine mp_a (a_aload_n dX6_read_15 rfl) (mpp 16 rfl ?_)
    refine mt_getU (i := 32) (k := 4) (A := 289) hT6 dX6_read_16 rfl rl_0 (by decide) rfl (by decide) rfl un_8 (mpp 19 rfl ?_)
    refine mt_callv (i := 225) (q' := q_106) (As := []) (rest := []) hT6 dX6_read_19 rfl qm_106 (by decide) rfl rl_289 (by decide) rfl (Nat.le_of_ble_eq_true rfl) rfl ⟨rfl, rfl⟩ ⟨Nat.le_of_ble_eq_true rfl, Nat.le_of_ble_eq_true rfl⟩ (EvP.mono (by decide) (c_CS_clear_Script hT6 )) (fun r38 P39 g40 => mpp 22 rfl ?_)
    obtain ⟨⟨rfl, g42⟩, hT43, k44, R45⟩ := g40
    have k46 : KW [9, 10, 11, 12, 65, 66, 67, 192, 193, 194, 256, 320, 385, 386, 387, 513, 514, 515, 516, 517, 518, 519, 640, 641, 704, 768, 1985, 1986, 1987, 2112, 2113, 2114] Po P39 := KW.trans k9 k44 rfl
    have g42 : (fv P39 289 1).toInt = 0 := g42
    have g47 : (0 : Int) ≤ (fv P39 289 1).toInt ∧ (fv P39 289 1).toInt ≤ 80 := Typ.rng hT43 rl_289 (by decide) (by decide) rfl
    show MEvP _ none q_94 22 [(1, .int x4), (0, .ref 0)] [] _ _ _ _
    refine mp_a (a_sipush (v := -2000) dX6_read_22 rfl) (mpp 25 rfl ?_)
    refine mp_a (a_iload_n dX6_read_25 rfl) (mpp 26 rfl ?_)
    obtain ⟨z48, h49⟩ := ti_ex ((-2000) - x4 : Int32)
    have wz48 := ti_full z48
    refine mp_t (s_isub (v := z48) dX6_read_26 h49) (mpp 27 rfl ?_)
    try have e50 : z48.toInt = (-2000) - x4.toInt := ti_subz h49 rfl rfl (by omega) (by omega)
    have u51 : (fv P39 289 1).toInt = 0 := by omega
    exact mp_iret ⟨⟨_, rfl, u51⟩, hT43, k46, trivial⟩ dX6_read_27 (Or.inl rfl)

set_option maxHeartbeats 4000000 in
theorem c_F_refusal {Po : mP} {t1 : Int32} (hT : Typ Po)   : EvP 1 109 [.ref 0, .int t1] Po (fun r P' => (∃ x : Int32, r = some (.int x) ∧ (True)) ∧ P' = Po) := by
  refine EvP.of qm_109 (Nat.le_of_ble_eq_true rfl) rfl ?_
  show MEvP _ none q_109 0 [(0, .ref 0), (1, .int t1)] [] _ 0 0 _
  refine mp_a (a_iload_n dX6_refusal_0 rfl) (mpp 1 rfl ?_)
  refine mp_Tb (t := 9) (j_if_lt dX6_refusal_1) (by decide) (fun c1 => ?_) (fun c1 => mpp 4 rfl ?_)
  · have c1 : t1.toInt < 0 := ti_lt c1
    refine mp_a (a_sipush (v := -1002) dX6_refusal_9 rfl) (mpp 12 rfl ?_)
    exact mp_iret ⟨⟨_, rfl, trivial⟩, rfl⟩ dX6_refusal_12 (Or.inl rfl)
  · have c1 : t1.toInt ≥ 0 := ti_lt_n c1
    refine mp_a (a_iload_n dX6_refusal_4 rfl) (mpp 5 rfl ?_)
    refine mp_a (a_iconst (v := 2) dX6_refusal_5 rfl) (mpp 6 rfl ?_)
    refine mp_Tb (t := 13) (j_icmp_le dX6_refusal_6) (by decide) (fun c2 => ?_) (fun c2 => mpp 9 rfl ?_)
    · have c2 : t1.toInt ≤ 2 := ti_le c2
      refine mp_a (a_aload_n dX6_refusal_13 rfl) (mpp 14 rfl ?_)
      have g3 := ti_full (fv Po 0 10)
      refine mt_getI (i := 246) (k := 10) hT dX6_refusal_14 rfl rl_0 (by decide) rfl (by decide) rfl (fun g4 g5 => mpp 17 rfl ?_)
      refine mp_Tb (t := 24) (j_if_ne dX6_refusal_17) (by decide) (fun c6 => ?_) (fun c6 => mpp 20 rfl ?_)
      · have c6 : (fv Po 0 10).toInt ≠ 0 := ti_ne c6
        refine mp_a (a_iload_n dX6_refusal_24 rfl) (mpp 25 rfl ?_)
        refine mp_Tb (t := 33) (j_if_ne dX6_refusal_25) (by decide) (fun c7 => ?_) (fun c7 => mpp 28 rfl ?_)
        · have c7 : t1.toInt ≠ 0 := ti_ne c7
          refine mp_a (a_iload_n dX6_refusal_33 rfl) (mpp 34 rfl ?_)
          refine mp_a (a_iconst (v := 1) dX6_refusal_34 rfl) (mpp 35 rfl ?_)
          refine mp_Tb (t := 45) (j_icmp_ne dX6_refusal_35) (by decide) (fun c8 => ?_) (fun c8 => mpp 38 rfl ?_)
          · have c8 : t1.toInt ≠ 1 := ti_ne c8
            refine mp_a (a_aload_n dX6_refusal_45 rfl) (mpp 46 rfl ?_)
            have g9 := ti_full (fv Po 0 12)
            refine mt_getI (i := 61) (k := 12) hT dX6_refusal_46 rfl rl_0 (by decide) rfl (by decide) rfl (fun g10 g11 => mpp 49 rfl ?_)
            exact mp_iret ⟨⟨_, rfl, trivial⟩, rfl⟩ dX6_refusal_49 (Or.inl rfl)
          · have c8 : t1.toInt = 1 := ti_ne_n c8
            refine mp_a (a_aload_n dX6_refusal_38 rfl) (mpp 39 rfl ?_)
            have g12 := ti_full (fv Po 0 11)
            refine mt_getI (i := 249) (k := 11) hT dX6_refusal_39 rfl rl_0 (by decide) rfl (by decide) rfl (fun g13 g14 => mpp 42 rfl ?_)
            refine mp_a (a_goto (t := 49) dX6_refusal_42 (by decide)) ?_
            exact mp_iret ⟨⟨_, rfl, trivial⟩, rfl⟩ dX6_refusal_49 (Or.inl rfl)
        · have c7 : t1.toInt = 0 := ti_ne_n c7
          refine mp_a (a_aload_n dX6_refusal_28 rfl) (mpp 29 rfl ?_)
          refine mt_getI (i := 246) (k := 10) hT dX6_refusal_29 rfl rl_0 (by decide) rfl (by decide) rfl (fun g15 g16 => mpp 32 rfl ?_)
          exact mp_iret ⟨⟨_, rfl, trivial⟩, rfl⟩ dX6_refusal_32 (Or.inl rfl)
      · have c6 : (fv Po 0 10).toInt = 0 := ti_ne_n c6
        refine mp_a (a_sipush (v := -1004) dX6_refusal_20 rfl) (mpp 23 rfl ?_)
        exact mp_iret ⟨⟨_, rfl, trivial⟩, rfl⟩ dX6_refusal_23 (Or.inl rfl)
    · have c2 : t1.toInt > 2 := ti_le_n c2
      refine mp_a (a_sipush (v := -1002) dX6_refusal_9 rfl) (mpp 12 rfl ?_)
      exact mp_iret ⟨⟨_, rfl, trivial⟩, rfl⟩ dX6_refusal_12 (Or.inl rfl)

set_option maxHeartbeats 4000000 in
theorem c_CS_countOfKind_NState_l4 {Po : mP} {t1 : Int32} (hT : Typ Po)   : ∀ (n : Nat) (v2 : Int32) (v3 : Int32), (0 ≤ v3.toInt) → (2147483647 - v3.toInt).toNat = n → MEvP 1 none q_111 4 [(0, .ref 1), (1, .int t1), (2, .int v2), (3, .int v3)] [] Po 0 0 (fun r P' => (∃ x : Int32, r = some (.int x) ∧ (True)) ∧ P' = Po) := by
  intro n
  induction n using Nat.strongRecOn with | _ n ih => ?_
  intro v2 v3 i_0 hm
  have w_v2 := ti_full v2
  have w_v3 := ti_full v3
  refine mp_a (a_iload_n dX5_countOfKind_4 rfl) (mpp 5 rfl ?_)
  refine mp_a (a_aload_n dX5_countOfKind_5 rfl) (mpp 6 rfl ?_)
  have g1 := ti_full (fv Po 1 1)
  refine mt_getI (i := 22) (k := 1) hT dX5_countOfKind_6 rfl rl_1 (by decide) rfl (by decide) rfl (fun g2 g3 => mpp 9 rfl ?_)
  refine mp_Tb (t := 42) (j_icmp_ge dX5_countOfKind_9) (by decide) (fun c4 => ?_) (fun c4 => mpp 12 rfl ?_)
  · have c4 : v3.toInt ≥ (fv Po 1 1).toInt := ti_ge c4
    refine mp_a (a_iload_n dX5_countOfKind_42 rfl) (mpp 43 rfl ?_)
    exact mp_iret ⟨⟨_, rfl, trivial⟩, rfl⟩ dX5_countOfKind_43 (Or.inl rfl)
  · have c4 : v3.toInt < (fv Po 1 1).toInt := ti_ge_n c4
    refine mp_a (a_aload_n dX5_countOfKind_12 rfl) (mpp 13 rfl ?_)
    refine mp_a (a_iload_n dX5_countOfKind_13 rfl) (mpp 14 rfl ?_)
    refine mt_callv (i := 28) (q' := q_9) (As := [.int v3]) (rest := []) hT dX5_countOfKind_14 rfl qm_9 (by decide) rfl rl_1 (by decide) rfl (Nat.le_of_ble_eq_true rfl) rfl ⟨rfl, rfl⟩ ⟨Nat.le_of_ble_eq_true rfl, Nat.le_of_ble_eq_true rfl⟩ (EvP.mono (by decide) (c_CS_pieceAt_NState hT )) (fun r5 P6 g7 => mpp 17 rfl ?_)
    obtain ⟨g7, e8⟩ := g7
    have e8 := e8.symm
    subst e8
    rcases g7 with rfl | ⟨b9, rfl, q10⟩
    · show MEvP _ none q_111 17 [(0, .ref 1), (1, .int t1), (2, .int v2), (3, .int v3)] [.null] _ _ _ _
      refine mp_a (a_astoreN (L' := [(4, .null), (0, .ref 1), (1, .int t1), (2, .int v2), (3, .int v3)]) dX5_countOfKind_17 (by decide) rfl) (mpp 19 rfl ?_)
      refine mp_a (a_aloadN dX5_countOfKind_19 rfl) (mpp 21 rfl ?_)
      refine mp_t (s_ifnullN (t := 36) dX5_countOfKind_21 (by decide)) ?_
      obtain ⟨z11, h12⟩ := ti_ex (v3 + 1 : Int32)
      have wz11 := ti_full z11
      refine mp_a (a_iinc (v := z11) (L' := [(3, .int z11), (4, .null), (0, .ref 1), (1, .int t1), (2, .int v2)]) dX5_countOfKind_36 (by decide) rfl h12 rfl) (mpp 39 rfl ?_)
      try have e13 : z11.toInt = v3.toInt + 1 := ti_addz h12 rfl rfl (by omega) (by omega)
      refine mp_a (a_goto (t := 4) dX5_countOfKind_39 (by decide)) ?_
      refine MEvP.less (L := [(0, .ref 1), (1, .int t1), (2, .int v2), (3, .int z11)]) rfl rfl ⟨rfl, rfl, rfl, rfl, trivial⟩ ?_
      have i14 : 0 ≤ z11.toInt := by omega
      exact ih _ (by omega) _ _ i14 rfl
    · show MEvP _ none q_111 17 [(0, .ref 1), (1, .int t1), (2, .int v2), (3, .int v3)] [.ref b9] _ _ _ _
      refine mp_a (a_astore (L' := [(4, .ref b9), (0, .ref 1), (1, .int t1), (2, .int v2), (3, .int v3)]) dX5_countOfKind_17 (by decide) rfl) (mpp 19 rfl ?_)
      refine mp_a (a_aload dX5_countOfKind_19 rfl) (mpp 21 rfl ?_)
      refine mp_t (s_ifnullR dX5_countOfKind_21) (mpp 24 rfl ?_)
      refine mp_a (a_aload dX5_countOfKind_24 rfl) (mpp 26 rfl ?_)
      have g15 := ti_full (fv Po b9 0)
      refine mt_getI (i := 43) (k := 0) hT dX5_countOfKind_26 rfl q10 (by decide) rfl (by decide) rfl (fun g16 g17 => mpp 29 rfl ?_)
      refine mp_a (a_iload_n dX5_countOfKind_29 rfl) (mpp 30 rfl ?_)
      refine mp_Tb (t := 36) (j_icmp_ne dX5_countOfKind_30) (by decide) (fun c18 => ?_) (fun c18 => mpp 33 rfl ?_)
      · have c18 : (fv Po b9 0).toInt ≠ t1.toInt := ti_ne c18
        obtain ⟨z19, h20⟩ := ti_ex (v3 + 1 : Int32)
        have wz19 := ti_full z19
        refine mp_a (a_iinc (v := z19) (L' := [(3, .int z19), (4, .ref b9), (0, .ref 1), (1, .int t1), (2, .int v2)]) dX5_countOfKind_36 (by decide) rfl h20 rfl) (mpp 39 rfl ?_)
        try have e21 : z19.toInt = v3.toInt + 1 := ti_addz h20 rfl rfl (by omega) (by omega)
        refine mp_a (a_goto (t := 4) dX5_countOfKind_39 (by decide)) ?_
        refine MEvP.less (L := [(0, .ref 1), (1, .int t1), (2, .int v2), (3, .int z19)]) rfl rfl ⟨rfl, rfl, rfl, rfl, trivial⟩ ?_
        have i22 : 0 ≤ z19.toInt := by omega
        exact ih _ (by omega) _ _ i22 rfl
      · have c18 : (fv Po b9 0).toInt = t1.toInt := ti_ne_n c18
        obtain ⟨z23, h24⟩ := ti_ex (v2 + 1 : Int32)
        have wz23 := ti_full z23
        refine mp_a (a_iinc (v := z23) (L' := [(2, .int z23), (4, .ref b9), (0, .ref 1), (1, .int t1), (3, .int v3)]) dX5_countOfKind_33 (by decide) rfl h24 rfl) (mpp 36 rfl ?_)
        try have e25 : z23.toInt = v2.toInt + 1 := ti_addz h24 rfl rfl (by omega) (by omega)
        obtain ⟨z26, h27⟩ := ti_ex (v3 + 1 : Int32)
        have wz26 := ti_full z26
        refine mp_a (a_iinc (v := z26) (L' := [(3, .int z26), (2, .int z23), (4, .ref b9), (0, .ref 1), (1, .int t1)]) dX5_countOfKind_36 (by decide) rfl h27 rfl) (mpp 39 rfl ?_)
        try have e28 : z26.toInt = v3.toInt + 1 := ti_addz h27 rfl rfl (by omega) (by omega)
        refine mp_a (a_goto (t := 4) dX5_countOfKind_39 (by decide)) ?_
        refine MEvP.less (L := [(0, .ref 1), (1, .int t1), (2, .int z23), (3, .int z26)]) rfl rfl ⟨rfl, rfl, rfl, rfl, trivial⟩ ?_
        have i29 : 0 ≤ z26.toInt := by omega
        exact ih _ (by omega) _ _ i29 rfl

set_option maxHeartbeats 4000000 in
theorem c_CS_countOfKind_NState {Po : mP} {t1 : Int32} (hT : Typ Po)   : EvP 2 111 [.ref 1, .int t1] Po (fun r P' => (∃ x : Int32, r = some (.int x) ∧ (True)) ∧ P' = Po) := by
  refine EvP.of qm_111 (Nat.le_of_ble_eq_true rfl) rfl ?_
  show MEvP _ none q_111 0 [(0, .ref 1), (1, .int t1)] [] _ 0 0 _
  refine mp_a (a_iconst (v := 0) dX5_countOfKind_0 rfl) (mpp 1 rfl ?_)
  refine mp_a (a_istore_n (L' := [(2, .int 0), (0, .ref 1), (1, .int t1)]) dX5_countOfKind_1 (by decide) rfl) (mpp 2 rfl ?_)
  refine mp_a (a_iconst (v := 0) dX5_countOfKind_2 rfl) (mpp 3 rfl ?_)
  refine mp_a (a_istore_n (L' := [(3, .int 0), (2, .int 0), (0, .ref 1), (1, .int t1)]) dX5_countOfKind_3 (by decide) rfl) (mpp 4 rfl ?_)
  refine MEvP.less (L := [(0, .ref 1), (1, .int t1), (2, .int 0), (3, .int 0)]) rfl rfl ⟨rfl, rfl, rfl, rfl, trivial⟩ ?_
  have i1 : 0 ≤ (0 : Int) := by omega
  exact c_CS_countOfKind_NState_l4 hT  _ _ _ i1 rfl

set_option maxHeartbeats 4000000 in
theorem c_CS_foldedCount_NState_l4 {Po : mP}  (hT : Typ Po)   : ∀ (n : Nat) (v1 : Int32) (v2 : Int32), (0 ≤ v2.toInt) → (2147483647 - v2.toInt).toNat = n → MEvP 1 none q_112 4 [(0, .ref 1), (1, .int v1), (2, .int v2)] [] Po 0 0 (fun r P' => (∃ x : Int32, r = some (.int x) ∧ (True)) ∧ P' = Po) := by
  intro n
  induction n using Nat.strongRecOn with | _ n ih => ?_
  intro v1 v2 i_0 hm
  have w_v1 := ti_full v1
  have w_v2 := ti_full v2
  refine mp_a (a_iload_n dX5_foldedCount_4 rfl) (mpp 5 rfl ?_)
  refine mp_a (a_aload_n dX5_foldedCount_5 rfl) (mpp 6 rfl ?_)
  have g1 := ti_full (fv Po 1 1)
  refine mt_getI (i := 22) (k := 1) hT dX5_foldedCount_6 rfl rl_1 (by decide) rfl (by decide) rfl (fun g2 g3 => mpp 9 rfl ?_)
  refine mp_Tb (t := 38) (j_icmp_ge dX5_foldedCount_9) (by decide) (fun c4 => ?_) (fun c4 => mpp 12 rfl ?_)
  · have c4 : v2.toInt ≥ (fv Po 1 1).toInt := ti_ge c4
    refine mp_a (a_iload_n dX5_foldedCount_38 rfl) (mpp 39 rfl ?_)
    exact mp_iret ⟨⟨_, rfl, trivial⟩, rfl⟩ dX5_foldedCount_39 (Or.inl rfl)
  · have c4 : v2.toInt < (fv Po 1 1).toInt := ti_ge_n c4
    refine mp_a (a_aload_n dX5_foldedCount_12 rfl) (mpp 13 rfl ?_)
    refine mp_a (a_iload_n dX5_foldedCount_13 rfl) (mpp 14 rfl ?_)
    refine mt_callv (i := 28) (q' := q_9) (As := [.int v2]) (rest := []) hT dX5_foldedCount_14 rfl qm_9 (by decide) rfl rl_1 (by decide) rfl (Nat.le_of_ble_eq_true rfl) rfl ⟨rfl, rfl⟩ ⟨Nat.le_of_ble_eq_true rfl, Nat.le_of_ble_eq_true rfl⟩ (EvP.mono (by decide) (c_CS_pieceAt_NState hT )) (fun r5 P6 g7 => mpp 17 rfl ?_)
    obtain ⟨g7, e8⟩ := g7
    have e8 := e8.symm
    subst e8
    rcases g7 with rfl | ⟨b9, rfl, q10⟩
    · show MEvP _ none q_112 17 [(0, .ref 1), (1, .int v1), (2, .int v2)] [.null] _ _ _ _
      refine mp_a (a_astore_nN (L' := [(3, .null), (0, .ref 1), (1, .int v1), (2, .int v2)]) dX5_foldedCount_17 (by decide) rfl) (mpp 18 rfl ?_)
      refine mp_a (a_aload_nN dX5_foldedCount_18 rfl) (mpp 19 rfl ?_)
      refine mp_t (s_ifnullN (t := 32) dX5_foldedCount_19 (by decide)) ?_
      obtain ⟨z11, h12⟩ := ti_ex (v2 + 1 : Int32)
      have wz11 := ti_full z11
      refine mp_a (a_iinc (v := z11) (L' := [(2, .int z11), (3, .null), (0, .ref 1), (1, .int v1)]) dX5_foldedCount_32 (by decide) rfl h12 rfl) (mpp 35 rfl ?_)
      try have e13 : z11.toInt = v2.toInt + 1 := ti_addz h12 rfl rfl (by omega) (by omega)
      refine mp_a (a_goto (t := 4) dX5_foldedCount_35 (by decide)) ?_
      refine MEvP.less (L := [(0, .ref 1), (1, .int v1), (2, .int z11)]) rfl rfl ⟨rfl, rfl, rfl, trivial⟩ ?_
      have i14 : 0 ≤ z11.toInt := by omega
      exact ih _ (by omega) _ _ i14 rfl
    · show MEvP _ none q_112 17 [(0, .ref 1), (1, .int v1), (2, .int v2)] [.ref b9] _ _ _ _
      refine mp_a (a_astore_n (L' := [(3, .ref b9), (0, .ref 1), (1, .int v1), (2, .int v2)]) dX5_foldedCount_17 (by decide) rfl) (mpp 18 rfl ?_)
      refine mp_a (a_aload_n dX5_foldedCount_18 rfl) (mpp 19 rfl ?_)
      refine mp_t (s_ifnullR dX5_foldedCount_19) (mpp 22 rfl ?_)
      refine mp_a (a_aload_n dX5_foldedCount_22 rfl) (mpp 23 rfl ?_)
      have g15 : (0 : Int) ≤ (fv Po b9 2).toInt ∧ (fv Po b9 2).toInt ≤ 1 := Typ.rng hT q10 (by decide) (by decide) rfl
      refine mt_getI (i := 36) (k := 2) hT dX5_foldedCount_23 rfl q10 (by decide) rfl (by decide) rfl (fun g16 g17 => mpp 26 rfl ?_)
      refine mp_Tb (t := 32) (j_if_eq dX5_foldedCount_26) (by decide) (fun c18 => ?_) (fun c18 => mpp 29 rfl ?_)
      · have c18 : (fv Po b9 2).toInt = 0 := ti_eq c18
        obtain ⟨z19, h20⟩ := ti_ex (v2 + 1 : Int32)
        have wz19 := ti_full z19
        refine mp_a (a_iinc (v := z19) (L' := [(2, .int z19), (3, .ref b9), (0, .ref 1), (1, .int v1)]) dX5_foldedCount_32 (by decide) rfl h20 rfl) (mpp 35 rfl ?_)
        try have e21 : z19.toInt = v2.toInt + 1 := ti_addz h20 rfl rfl (by omega) (by omega)
        refine mp_a (a_goto (t := 4) dX5_foldedCount_35 (by decide)) ?_
        refine MEvP.less (L := [(0, .ref 1), (1, .int v1), (2, .int z19)]) rfl rfl ⟨rfl, rfl, rfl, trivial⟩ ?_
        have i22 : 0 ≤ z19.toInt := by omega
        exact ih _ (by omega) _ _ i22 rfl
      · have c18 : (fv Po b9 2).toInt ≠ 0 := ti_eq_n c18
        obtain ⟨z23, h24⟩ := ti_ex (v1 + 1 : Int32)
        have wz23 := ti_full z23
        refine mp_a (a_iinc (v := z23) (L' := [(1, .int z23), (3, .ref b9), (0, .ref 1), (2, .int v2)]) dX5_foldedCount_29 (by decide) rfl h24 rfl) (mpp 32 rfl ?_)
        try have e25 : z23.toInt = v1.toInt + 1 := ti_addz h24 rfl rfl (by omega) (by omega)
        obtain ⟨z26, h27⟩ := ti_ex (v2 + 1 : Int32)
        have wz26 := ti_full z26
        refine mp_a (a_iinc (v := z26) (L' := [(2, .int z26), (1, .int z23), (3, .ref b9), (0, .ref 1)]) dX5_foldedCount_32 (by decide) rfl h27 rfl) (mpp 35 rfl ?_)
        try have e28 : z26.toInt = v2.toInt + 1 := ti_addz h27 rfl rfl (by omega) (by omega)
        refine mp_a (a_goto (t := 4) dX5_foldedCount_35 (by decide)) ?_
        refine MEvP.less (L := [(0, .ref 1), (1, .int z23), (2, .int z26)]) rfl rfl ⟨rfl, rfl, rfl, trivial⟩ ?_
        have i29 : 0 ≤ z26.toInt := by omega
        exact ih _ (by omega) _ _ i29 rfl

set_option maxHeartbeats 4000000 in
theorem c_CS_foldedCount_NState {Po : mP}  (hT : Typ Po)   : EvP 2 112 [.ref 1] Po (fun r P' => (∃ x : Int32, r = some (.int x) ∧ (True)) ∧ P' = Po) := by
  refine EvP.of qm_112 (Nat.le_of_ble_eq_true rfl) rfl ?_
  show MEvP _ none q_112 0 [(0, .ref 1)] [] _ 0 0 _
  refine mp_a (a_iconst (v := 0) dX5_foldedCount_0 rfl) (mpp 1 rfl ?_)
  refine mp_a (a_istore_n (L' := [(1, .int 0), (0, .ref 1)]) dX5_foldedCount_1 (by decide) rfl) (mpp 2 rfl ?_)
  refine mp_a (a_iconst (v := 0) dX5_foldedCount_2 rfl) (mpp 3 rfl ?_)
  refine mp_a (a_istore_n (L' := [(2, .int 0), (1, .int 0), (0, .ref 1)]) dX5_foldedCount_3 (by decide) rfl) (mpp 4 rfl ?_)
  refine MEvP.less (L := [(0, .ref 1), (1, .int 0), (2, .int 0)]) rfl rfl ⟨rfl, rfl, rfl, trivial⟩ ?_
  have i1 : 0 ≤ (0 : Int) := by omega
  exact c_CS_foldedCount_NState_l4 hT  _ _ _ i1 rfl

set_option maxHeartbeats 4000000 in
theorem c_CS_panelCount_NState_l4 {Po : mP}  (hT : Typ Po)   : ∀ (n : Nat) (v1 : Int32) (v2 : Int32), (0 ≤ v2.toInt) → (2147483647 - v2.toInt).toNat = n → MEvP 1 none q_113 4 [(0, .ref 1), (1, .int v1), (2, .int v2)] [] Po 0 0 (fun r P' => (∃ x : Int32, r = some (.int x) ∧ (True)) ∧ P' = Po) := by
  intro n
  induction n using Nat.strongRecOn with | _ n ih => ?_
  intro v1 v2 i_0 hm
  have w_v1 := ti_full v1
  have w_v2 := ti_full v2
  refine mp_a (a_iload_n dX5_panelCount_4 rfl) (mpp 5 rfl ?_)
  refine mp_a (a_aload_n dX5_panelCount_5 rfl) (mpp 6 rfl ?_)
  have g1 := ti_full (fv Po 1 1)
  refine mt_getI (i := 22) (k := 1) hT dX5_panelCount_6 rfl rl_1 (by decide) rfl (by decide) rfl (fun g2 g3 => mpp 9 rfl ?_)
  refine mp_Tb (t := 42) (j_icmp_ge dX5_panelCount_9) (by decide) (fun c4 => ?_) (fun c4 => mpp 12 rfl ?_)
  · have c4 : v2.toInt ≥ (fv Po 1 1).toInt := ti_ge c4
    refine mp_a (a_iload_n dX5_panelCount_42 rfl) (mpp 43 rfl ?_)
    exact mp_iret ⟨⟨_, rfl, trivial⟩, rfl⟩ dX5_panelCount_43 (Or.inl rfl)
  · have c4 : v2.toInt < (fv Po 1 1).toInt := ti_ge_n c4
    refine mp_a (a_aload_n dX5_panelCount_12 rfl) (mpp 13 rfl ?_)
    refine mp_a (a_iload_n dX5_panelCount_13 rfl) (mpp 14 rfl ?_)
    refine mt_callv (i := 28) (q' := q_9) (As := [.int v2]) (rest := []) hT dX5_panelCount_14 rfl qm_9 (by decide) rfl rl_1 (by decide) rfl (Nat.le_of_ble_eq_true rfl) rfl ⟨rfl, rfl⟩ ⟨Nat.le_of_ble_eq_true rfl, Nat.le_of_ble_eq_true rfl⟩ (EvP.mono (by decide) (c_CS_pieceAt_NState hT )) (fun r5 P6 g7 => mpp 17 rfl ?_)
    obtain ⟨g7, e8⟩ := g7
    have e8 := e8.symm
    subst e8
    rcases g7 with rfl | ⟨b9, rfl, q10⟩
    · show MEvP _ none q_113 17 [(0, .ref 1), (1, .int v1), (2, .int v2)] [.null] _ _ _ _
      refine mp_a (a_astore_nN (L' := [(3, .null), (0, .ref 1), (1, .int v1), (2, .int v2)]) dX5_panelCount_17 (by decide) rfl) (mpp 18 rfl ?_)
      refine mp_a (a_aload_nN dX5_panelCount_18 rfl) (mpp 19 rfl ?_)
      refine mp_t (s_ifnullN (t := 36) dX5_panelCount_19 (by decide)) ?_
      obtain ⟨z11, h12⟩ := ti_ex (v2 + 1 : Int32)
      have wz11 := ti_full z11
      refine mp_a (a_iinc (v := z11) (L' := [(2, .int z11), (3, .null), (0, .ref 1), (1, .int v1)]) dX5_panelCount_36 (by decide) rfl h12 rfl) (mpp 39 rfl ?_)
      try have e13 : z11.toInt = v2.toInt + 1 := ti_addz h12 rfl rfl (by omega) (by omega)
      refine mp_a (a_goto (t := 4) dX5_panelCount_39 (by decide)) ?_
      refine MEvP.less (L := [(0, .ref 1), (1, .int v1), (2, .int z11)]) rfl rfl ⟨rfl, rfl, rfl, trivial⟩ ?_
      have i14 : 0 ≤ z11.toInt := by omega
      exact ih _ (by omega) _ _ i14 rfl
    · show MEvP _ none q_113 17 [(0, .ref 1), (1, .int v1), (2, .int v2)] [.ref b9] _ _ _ _
      refine mp_a (a_astore_n (L' := [(3, .ref b9), (0, .ref 1), (1, .int v1), (2, .int v2)]) dX5_panelCount_17 (by decide) rfl) (mpp 18 rfl ?_)
      refine mp_a (a_aload_n dX5_panelCount_18 rfl) (mpp 19 rfl ?_)
      refine mp_t (s_ifnullR dX5_panelCount_19) (mpp 22 rfl ?_)
      refine mp_a (a_aload_n dX5_panelCount_22 rfl) (mpp 23 rfl ?_)
      have g15 := ti_full (fv Po b9 0)
      refine mt_getI (i := 43) (k := 0) hT dX5_panelCount_23 rfl q10 (by decide) rfl (by decide) rfl (fun g16 g17 => mpp 26 rfl ?_)
      refine mp_Tb (t := 36) (j_if_ne dX5_panelCount_26) (by decide) (fun c18 => ?_) (fun c18 => mpp 29 rfl ?_)
      · have c18 : (fv Po b9 0).toInt ≠ 0 := ti_ne c18
        obtain ⟨z19, h20⟩ := ti_ex (v2 + 1 : Int32)
        have wz19 := ti_full z19
        refine mp_a (a_iinc (v := z19) (L' := [(2, .int z19), (3, .ref b9), (0, .ref 1), (1, .int v1)]) dX5_panelCount_36 (by decide) rfl h20 rfl) (mpp 39 rfl ?_)
        try have e21 : z19.toInt = v2.toInt + 1 := ti_addz h20 rfl rfl (by omega) (by omega)
        refine mp_a (a_goto (t := 4) dX5_panelCount_39 (by decide)) ?_
        refine MEvP.less (L := [(0, .ref 1), (1, .int v1), (2, .int z19)]) rfl rfl ⟨rfl, rfl, rfl, trivial⟩ ?_
        have i22 : 0 ≤ z19.toInt := by omega
        exact ih _ (by omega) _ _ i22 rfl
      · have c18 : (fv Po b9 0).toInt = 0 := ti_ne_n c18
        refine mp_a (a_iload_n dX5_panelCount_29 rfl) (mpp 30 rfl ?_)
        refine mp_a (a_aload_n dX5_panelCount_30 rfl) (mpp 31 rfl ?_)
        have g23 : (0 : Int) ≤ (fv Po b9 1).toInt ∧ (fv Po b9 1).toInt ≤ 8 := Typ.rng hT q10 (by decide) (by decide) rfl
        refine mt_getI (i := 46) (k := 1) hT dX5_panelCount_31 rfl q10 (by decide) rfl (by decide) rfl (fun g24 g25 => mpp 34 rfl ?_)
        obtain ⟨z26, h27⟩ := ti_ex (v1 + (fv Po b9 1) : Int32)
        have wz26 := ti_full z26
        refine mp_t (s_iadd (v := z26) dX5_panelCount_34 h27) (mpp 35 rfl ?_)
        try have e28 : z26.toInt = v1.toInt + (fv Po b9 1).toInt := ti_addz h27 rfl rfl (by omega) (by omega)
        refine mp_a (a_istore_n (L' := [(1, .int z26), (3, .ref b9), (0, .ref 1), (2, .int v2)]) dX5_panelCount_35 (by decide) rfl) (mpp 36 rfl ?_)
        obtain ⟨z29, h30⟩ := ti_ex (v2 + 1 : Int32)
        have wz29 := ti_full z29
        refine mp_a (a_iinc (v := z29) (L' := [(2, .int z29), (1, .int z26), (3, .ref b9), (0, .ref 1)]) dX5_panelCount_36 (by decide) rfl h30 rfl) (mpp 39 rfl ?_)
        try have e31 : z29.toInt = v2.toInt + 1 := ti_addz h30 rfl rfl (by omega) (by omega)
        refine mp_a (a_goto (t := 4) dX5_panelCount_39 (by decide)) ?_
        refine MEvP.less (L := [(0, .ref 1), (1, .int z26), (2, .int z29)]) rfl rfl ⟨rfl, rfl, rfl, trivial⟩ ?_
        have i32 : 0 ≤ z29.toInt := by omega
        exact ih _ (by omega) _ _ i32 rfl

set_option maxHeartbeats 4000000 in
theorem c_CS_panelCount_NState {Po : mP}  (hT : Typ Po)   : EvP 2 113 [.ref 1] Po (fun r P' => (∃ x : Int32, r = some (.int x) ∧ (True)) ∧ P' = Po) := by
  refine EvP.of qm_113 (Nat.le_of_ble_eq_true rfl) rfl ?_
  show MEvP _ none q_113 0 [(0, .ref 1)] [] _ 0 0 _
  refine mp_a (a_iconst (v := 0) dX5_panelCount_0 rfl) (mpp 1 rfl ?_)
  refine mp_a (a_istore_n (L' := [(1, .int 0), (0, .ref 1)]) dX5_panelCount_1 (by decide) rfl) (mpp 2 rfl ?_)
  refine mp_a (a_iconst (v := 0) dX5_panelCount_2 rfl) (mpp 3 rfl ?_)
  refine mp_a (a_istore_n (L' := [(2, .int 0), (1, .int 0), (0, .ref 1)]) dX5_panelCount_3 (by decide) rfl) (mpp 4 rfl ?_)
  refine MEvP.less (L := [(0, .ref 1), (1, .int 0), (2, .int 0)]) rfl rfl ⟨rfl, rfl, rfl, trivial⟩ ?_
  have i1 : 0 ≤ (0 : Int) := by omega
  exact c_CS_panelCount_NState_l4 hT  _ _ _ i1 rfl

set_option maxHeartbeats 4000000 in
theorem c_CS_creasesOf_NState_l4 {Po : mP} {t1 : Int32} (hT : Typ Po)   : ∀ (n : Nat) (v2 : Int32) (v3 : Int32), (0 ≤ v3.toInt) → (2147483647 - v3.toInt).toNat = n → MEvP 2 none q_114 4 [(0, .ref 1), (1, .int t1), (2, .int v2), (3, .int v3)] [] Po 0 0 (fun r P' => (∃ x : Int32, r = some (.int x) ∧ (True)) ∧ P' = Po) := by
  intro n
  induction n using Nat.strongRecOn with | _ n ih => ?_
  intro v2 v3 i_0 hm
  have w_v2 := ti_full v2
  have w_v3 := ti_full v3
  refine mp_a (a_iload_n dX5_creasesOf_4 rfl) (mpp 5 rfl ?_)
  refine mp_a (a_aload_n dX5_creasesOf_5 rfl) (mpp 6 rfl ?_)
  have g1 := ti_full (fv Po 1 1)
  refine mt_getI (i := 22) (k := 1) hT dX5_creasesOf_6 rfl rl_1 (by decide) rfl (by decide) rfl (fun g2 g3 => mpp 9 rfl ?_)
  refine mp_Tb (t := 39) (j_icmp_ge dX5_creasesOf_9) (by decide) (fun c4 => ?_) (fun c4 => mpp 12 rfl ?_)
  · have c4 : v3.toInt ≥ (fv Po 1 1).toInt := ti_ge c4
    refine mp_a (a_iload_n dX5_creasesOf_39 rfl) (mpp 40 rfl ?_)
    exact mp_iret ⟨⟨_, rfl, trivial⟩, rfl⟩ dX5_creasesOf_40 (Or.inl rfl)
  · have c4 : v3.toInt < (fv Po 1 1).toInt := ti_ge_n c4
    refine mp_a (a_aload_n dX5_creasesOf_12 rfl) (mpp 13 rfl ?_)
    refine mp_a (a_iload_n dX5_creasesOf_13 rfl) (mpp 14 rfl ?_)
    refine mt_callv (i := 28) (q' := q_9) (As := [.int v3]) (rest := []) hT dX5_creasesOf_14 rfl qm_9 (by decide) rfl rl_1 (by decide) rfl (Nat.le_of_ble_eq_true rfl) rfl ⟨rfl, rfl⟩ ⟨Nat.le_of_ble_eq_true rfl, Nat.le_of_ble_eq_true rfl⟩ (EvP.mono (by decide) (c_CS_pieceAt_NState hT )) (fun r5 P6 g7 => mpp 17 rfl ?_)
    obtain ⟨g7, e8⟩ := g7
    have e8 := e8.symm
    subst e8
    rcases g7 with rfl | ⟨b9, rfl, q10⟩
    · show MEvP _ none q_114 17 [(0, .ref 1), (1, .int t1), (2, .int v2), (3, .int v3)] [.null] _ _ _ _
      refine mp_a (a_astoreN (L' := [(4, .null), (0, .ref 1), (1, .int t1), (2, .int v2), (3, .int v3)]) dX5_creasesOf_17 (by decide) rfl) (mpp 19 rfl ?_)
      refine mp_a (a_aloadN dX5_creasesOf_19 rfl) (mpp 21 rfl ?_)
      refine mp_t (s_ifnullN (t := 33) dX5_creasesOf_21 (by decide)) ?_
      obtain ⟨z11, h12⟩ := ti_ex (v3 + 1 : Int32)
      have wz11 := ti_full z11
      refine mp_a (a_iinc (v := z11) (L' := [(3, .int z11), (4, .null), (0, .ref 1), (1, .int t1), (2, .int v2)]) dX5_creasesOf_33 (by decide) rfl h12 rfl) (mpp 36 rfl ?_)
      try have e13 : z11.toInt = v3.toInt + 1 := ti_addz h12 rfl rfl (by omega) (by omega)
      refine mp_a (a_goto (t := 4) dX5_creasesOf_36 (by decide)) ?_
      refine MEvP.less (L := [(0, .ref 1), (1, .int t1), (2, .int v2), (3, .int z11)]) rfl rfl ⟨rfl, rfl, rfl, rfl, trivial⟩ ?_
      have i14 : 0 ≤ z11.toInt := by omega
      exact ih _ (by omega) _ _ i14 rfl
    · show MEvP _ none q_114 17 [(0, .ref 1), (1, .int t1), (2, .int v2), (3, .int v3)] [.ref b9] _ _ _ _
      refine mp_a (a_astore (L' := [(4, .ref b9), (0, .ref 1), (1, .int t1), (2, .int v2), (3, .int v3)]) dX5_creasesOf_17 (by decide) rfl) (mpp 19 rfl ?_)
      refine mp_a (a_aload dX5_creasesOf_19 rfl) (mpp 21 rfl ?_)
      refine mp_t (s_ifnullR dX5_creasesOf_21) (mpp 24 rfl ?_)
      refine mp_a (a_iload_n dX5_creasesOf_24 rfl) (mpp 25 rfl ?_)
      refine mp_a (a_aload dX5_creasesOf_25 rfl) (mpp 27 rfl ?_)
      refine mp_a (a_iload_n dX5_creasesOf_27 rfl) (mpp 28 rfl ?_)
      refine mt_callv (i := 47) (q' := q_32) (As := [.int t1]) (rest := [.int v2]) hT dX5_creasesOf_28 rfl qm_32 (by decide) rfl q10 (by decide) rfl (Nat.le_of_ble_eq_true rfl) rfl ⟨rfl, rfl⟩ ⟨Nat.le_of_ble_eq_true rfl, Nat.le_of_ble_eq_true rfl⟩ (EvP.mono (by decide) (c_CP_countOf_NPiece hT q10)) (fun r15 P16 g17 => mpp 31 rfl ?_)
      obtain ⟨⟨x18, rfl, g19⟩, e20⟩ := g17
      have e20 := e20.symm
      subst e20
      have wx18 := ti_full x18
      show MEvP _ none q_114 31 [(4, .ref b9), (0, .ref 1), (1, .int t1), (2, .int v2), (3, .int v3)] [.int x18, .int v2] _ _ _ _
      obtain ⟨z21, h22⟩ := ti_ex (v2 + x18 : Int32)
      have wz21 := ti_full z21
      refine mp_t (s_iadd (v := z21) dX5_creasesOf_31 h22) (mpp 32 rfl ?_)
      try have e23 : z21.toInt = v2.toInt + x18.toInt := ti_addz h22 rfl rfl (by omega) (by omega)
      refine mp_a (a_istore_n (L' := [(2, .int z21), (4, .ref b9), (0, .ref 1), (1, .int t1), (3, .int v3)]) dX5_creasesOf_32 (by decide) rfl) (mpp 33 rfl ?_)
      obtain ⟨z24, h25⟩ := ti_ex (v3 + 1 : Int32)
      have wz24 := ti_full z24
      refine mp_a (a_iinc (v := z24) (L' := [(3, .int z24), (2, .int z21), (4, .ref b9), (0, .ref 1), (1, .int t1)]) dX5_creasesOf_33 (by decide) rfl h25 rfl) (mpp 36 rfl ?_)
      try have e26 : z24.toInt = v3.toInt + 1 := ti_addz h25 rfl rfl (by omega) (by omega)
      refine mp_a (a_goto (t := 4) dX5_creasesOf_36 (by decide)) ?_
      refine MEvP.less (L := [(0, .ref 1), (1, .int t1), (2, .int z21), (3, .int z24)]) rfl rfl ⟨rfl, rfl, rfl, rfl, trivial⟩ ?_
      have i27 : 0 ≤ z24.toInt := by omega
      exact ih _ (by omega) _ _ i27 rfl

set_option maxHeartbeats 4000000 in
theorem c_CS_creasesOf_NState {Po : mP} {t1 : Int32} (hT : Typ Po)   : EvP 3 114 [.ref 1, .int t1] Po (fun r P' => (∃ x : Int32, r = some (.int x) ∧ (True)) ∧ P' = Po) := by
  refine EvP.of qm_114 (Nat.le_of_ble_eq_true rfl) rfl ?_
  show MEvP _ none q_114 0 [(0, .ref 1), (1, .int t1)] [] _ 0 0 _
  refine mp_a (a_iconst (v := 0) dX5_creasesOf_0 rfl) (mpp 1 rfl ?_)
  refine mp_a (a_istore_n (L' := [(2, .int 0), (0, .ref 1), (1, .int t1)]) dX5_creasesOf_1 (by decide) rfl) (mpp 2 rfl ?_)
  refine mp_a (a_iconst (v := 0) dX5_creasesOf_2 rfl) (mpp 3 rfl ?_)
  refine mp_a (a_istore_n (L' := [(3, .int 0), (2, .int 0), (0, .ref 1), (1, .int t1)]) dX5_creasesOf_3 (by decide) rfl) (mpp 4 rfl ?_)
  refine MEvP.less (L := [(0, .ref 1), (1, .int t1), (2, .int 0), (3, .int 0)]) rfl rfl ⟨rfl, rfl, rfl, rfl, trivial⟩ ?_
  have i1 : 0 ≤ (0 : Int) := by omega
  exact c_CS_creasesOf_NState_l4 hT  _ _ _ i1 rfl

set_option maxHeartbeats 4000000 in
theorem c_F_account {Po : mP} {t1 : Int32} (hT : Typ Po)   : EvP 5 110 [.ref 0, .int t1] Po (fun r P' => (∃ x : Int32, r = some (.int x) ∧ (True)) ∧ P' = Po) := by
  refine EvP.of qm_110 (Nat.le_of_ble_eq_true rfl) rfl ?_
  show MEvP _ none q_110 0 [(0, .ref 0), (1, .int t1)] [] _ 0 0 _
  refine mp_a (a_iload_n dX6_account_0 rfl) (mpp 1 rfl ?_)
  have c1 : (t1.toInt < 0 ∨ 12 < t1.toInt) ∨ t1.toInt = 0 ∨ t1.toInt = 1 ∨ t1.toInt = 2 ∨ t1.toInt = 3 ∨ t1.toInt = 4 ∨ t1.toInt = 5 ∨ t1.toInt = 6 ∨ t1.toInt = 7 ∨ t1.toInt = 8 ∨ t1.toInt = 9 ∨ t1.toInt = 10 ∨ t1.toInt = 11 ∨ t1.toInt = 12 := by omega
  rcases c1 with c1 | c1 | c1 | c1 | c1 | c1 | c1 | c1 | c1 | c1 | c1 | c1 | c1 | c1
  · refine mp_t (s_tabOut (t := 185) dX6_account_1 c1 (by decide)) ?_
    refine mp_a (a_sipush (v := -1002) dX6_account_185 rfl) (mpp 188 rfl ?_)
    exact mp_iret ⟨⟨_, rfl, trivial⟩, rfl⟩ dX6_account_188 (Or.inl rfl)
  · refine mp_t (s_tabIn (t := 68) (off := 67) dX6_account_1 (by omega) (by rw [c1]; rfl) (by decide)) ?_
    refine mp_a (a_aload_n dX6_account_68 rfl) (mpp 69 rfl ?_)
    refine mt_getU (i := 10) (k := 0) (A := 1) hT dX6_account_69 rfl rl_0 (by decide) rfl (by decide) rfl un_31 (mpp 72 rfl ?_)
    have g2 := ti_full (fv Po 1 1)
    refine mt_getI (i := 87) (k := 1) hT dX6_account_72 rfl rl_1 (by decide) rfl (by decide) rfl (fun g3 g4 => mpp 75 rfl ?_)
    exact mp_iret ⟨⟨_, rfl, trivial⟩, rfl⟩ dX6_account_75 (Or.inl rfl)
  · refine mp_t (s_tabIn (t := 76) (off := 75) dX6_account_1 (by omega) (by rw [c1]; rfl) (by decide)) ?_
    refine mp_a (a_aload_n dX6_account_76 rfl) (mpp 77 rfl ?_)
    refine mt_getU (i := 10) (k := 0) (A := 1) hT dX6_account_77 rfl rl_0 (by decide) rfl (by decide) rfl un_31 (mpp 80 rfl ?_)
    refine mp_a (a_iconst (v := 0) dX6_account_80 rfl) (mpp 81 rfl ?_)
    refine mt_callv (i := 252) (q' := q_111) (As := [.int 0]) (rest := []) hT dX6_account_81 rfl qm_111 (by decide) rfl rl_1 (by decide) rfl (Nat.le_of_ble_eq_true rfl) rfl ⟨rfl, rfl⟩ ⟨Nat.le_of_ble_eq_true rfl, Nat.le_of_ble_eq_true rfl⟩ (EvP.mono (by decide) (c_CS_countOfKind_NState hT )) (fun r5 P6 g7 => mpp 84 rfl ?_)
    obtain ⟨⟨x8, rfl, g9⟩, e10⟩ := g7
    have e10 := e10.symm
    subst e10
    have wx8 := ti_full x8
    show MEvP _ none q_110 84 [(0, .ref 0), (1, .int t1)] [.int x8] _ _ _ _
    exact mp_iret ⟨⟨_, rfl, trivial⟩, rfl⟩ dX6_account_84 (Or.inl rfl)
  · refine mp_t (s_tabIn (t := 85) (off := 84) dX6_account_1 (by omega) (by rw [c1]; rfl) (by decide)) ?_
    refine mp_a (a_aload_n dX6_account_85 rfl) (mpp 86 rfl ?_)
    refine mt_getU (i := 10) (k := 0) (A := 1) hT dX6_account_86 rfl rl_0 (by decide) rfl (by decide) rfl un_31 (mpp 89 rfl ?_)
    refine mp_a (a_iconst (v := 1) dX6_account_89 rfl) (mpp 90 rfl ?_)
    refine mt_callv (i := 252) (q' := q_111) (As := [.int 1]) (rest := []) hT dX6_account_90 rfl qm_111 (by decide) rfl rl_1 (by decide) rfl (Nat.le_of_ble_eq_true rfl) rfl ⟨rfl, rfl⟩ ⟨Nat.le_of_ble_eq_true rfl, Nat.le_of_ble_eq_true rfl⟩ (EvP.mono (by decide) (c_CS_countOfKind_NState hT )) (fun r11 P12 g13 => mpp 93 rfl ?_)
    obtain ⟨⟨x14, rfl, g15⟩, e16⟩ := g13
    have e16 := e16.symm
    subst e16
    have wx14 := ti_full x14
    show MEvP _ none q_110 93 [(0, .ref 0), (1, .int t1)] [.int x14] _ _ _ _
    exact mp_iret ⟨⟨_, rfl, trivial⟩, rfl⟩ dX6_account_93 (Or.inl rfl)
  · refine mp_t (s_tabIn (t := 94) (off := 93) dX6_account_1 (by omega) (by rw [c1]; rfl) (by decide)) ?_
    refine mp_a (a_aload_n dX6_account_94 rfl) (mpp 95 rfl ?_)
    refine mt_getU (i := 10) (k := 0) (A := 1) hT dX6_account_95 rfl rl_0 (by decide) rfl (by decide) rfl un_31 (mpp 98 rfl ?_)
    refine mt_callv (i := 255) (q' := q_112) (As := []) (rest := []) hT dX6_account_98 rfl qm_112 (by decide) rfl rl_1 (by decide) rfl (Nat.le_of_ble_eq_true rfl) rfl ⟨rfl, rfl⟩ ⟨Nat.le_of_ble_eq_true rfl, Nat.le_of_ble_eq_true rfl⟩ (EvP.mono (by decide) (c_CS_foldedCount_NState hT )) (fun r17 P18 g19 => mpp 101 rfl ?_)
    obtain ⟨⟨x20, rfl, g21⟩, e22⟩ := g19
    have e22 := e22.symm
    subst e22
    have wx20 := ti_full x20
    show MEvP _ none q_110 101 [(0, .ref 0), (1, .int t1)] [.int x20] _ _ _ _
    exact mp_iret ⟨⟨_, rfl, trivial⟩, rfl⟩ dX6_account_101 (Or.inl rfl)
  · refine mp_t (s_tabIn (t := 102) (off := 101) dX6_account_1 (by omega) (by rw [c1]; rfl) (by decide)) ?_
    refine mp_a (a_aload_n dX6_account_102 rfl) (mpp 103 rfl ?_)
    refine mt_getU (i := 10) (k := 0) (A := 1) hT dX6_account_103 rfl rl_0 (by decide) rfl (by decide) rfl un_31 (mpp 106 rfl ?_)
    have g23 := ti_full (fv Po 1 2)
    refine mt_getI (i := 76) (k := 2) hT dX6_account_106 rfl rl_1 (by decide) rfl (by decide) rfl (fun g24 g25 => mpp 109 rfl ?_)
    exact mp_iret ⟨⟨_, rfl, trivial⟩, rfl⟩ dX6_account_109 (Or.inl rfl)
  · refine mp_t (s_tabIn (t := 110) (off := 109) dX6_account_1 (by omega) (by rw [c1]; rfl) (by decide)) ?_
    refine mp_a (a_aload_n dX6_account_110 rfl) (mpp 111 rfl ?_)
    refine mt_getU (i := 10) (k := 0) (A := 1) hT dX6_account_111 rfl rl_0 (by decide) rfl (by decide) rfl un_31 (mpp 114 rfl ?_)
    have g26 := ti_full (fv Po 1 2)
    refine mt_getI (i := 76) (k := 2) hT dX6_account_114 rfl rl_1 (by decide) rfl (by decide) rfl (fun g27 g28 => mpp 117 rfl ?_)
    refine mp_a (a_aload_n dX6_account_117 rfl) (mpp 118 rfl ?_)
    refine mt_getU (i := 10) (k := 0) (A := 1) hT dX6_account_118 rfl rl_0 (by decide) rfl (by decide) rfl un_31 (mpp 121 rfl ?_)
    refine mt_callv (i := 64) (q' := q_8) (As := []) (rest := [.int (fv Po 1 2)]) hT dX6_account_121 rfl qm_8 (by decide) rfl rl_1 (by decide) rfl (Nat.le_of_ble_eq_true rfl) rfl ⟨rfl, rfl⟩ ⟨Nat.le_of_ble_eq_true rfl, Nat.le_of_ble_eq_true rfl⟩ (EvP.mono (by decide) (c_CS_occupied_NState hT )) (fun r29 P30 g31 => mpp 124 rfl ?_)
    obtain ⟨⟨x32, rfl, g33⟩, e34⟩ := g31
    have e34 := e34.symm
    subst e34
    have wx32 := ti_full x32
    show MEvP _ none q_110 124 [(0, .ref 0), (1, .int t1)] [.int x32, .int (fv Po 1 2)] _ _ _ _
    obtain ⟨z35, h36⟩ := ti_ex ((fv Po 1 2) - x32 : Int32)
    have wz35 := ti_full z35
    refine mp_t (s_isub (v := z35) dX6_account_124 h36) (mpp 125 rfl ?_)
    try have e37 : z35.toInt = (fv Po 1 2).toInt - x32.toInt := ti_subz h36 rfl rfl (by omega) (by omega)
    exact mp_iret ⟨⟨_, rfl, trivial⟩, rfl⟩ dX6_account_125 (Or.inl rfl)
  · refine mp_t (s_tabIn (t := 126) (off := 125) dX6_account_1 (by omega) (by rw [c1]; rfl) (by decide)) ?_
    refine mp_a (a_aload_n dX6_account_126 rfl) (mpp 127 rfl ?_)
    refine mt_getU (i := 10) (k := 0) (A := 1) hT dX6_account_127 rfl rl_0 (by decide) rfl (by decide) rfl un_31 (mpp 130 rfl ?_)
    refine mt_callv (i := 258) (q' := q_113) (As := []) (rest := []) hT dX6_account_130 rfl qm_113 (by decide) rfl rl_1 (by decide) rfl (Nat.le_of_ble_eq_true rfl) rfl ⟨rfl, rfl⟩ ⟨Nat.le_of_ble_eq_true rfl, Nat.le_of_ble_eq_true rfl⟩ (EvP.mono (by decide) (c_CS_panelCount_NState hT )) (fun r38 P39 g40 => mpp 133 rfl ?_)
    obtain ⟨⟨x41, rfl, g42⟩, e43⟩ := g40
    have e43 := e43.symm
    subst e43
    have wx41 := ti_full x41
    show MEvP _ none q_110 133 [(0, .ref 0), (1, .int t1)] [.int x41] _ _ _ _
    exact mp_iret ⟨⟨_, rfl, trivial⟩, rfl⟩ dX6_account_133 (Or.inl rfl)
  · refine mp_t (s_tabIn (t := 134) (off := 133) dX6_account_1 (by omega) (by rw [c1]; rfl) (by decide)) ?_
    refine mp_a (a_aload_n dX6_account_134 rfl) (mpp 135 rfl ?_)
    refine mt_getU (i := 10) (k := 0) (A := 1) hT dX6_account_135 rfl rl_0 (by decide) rfl (by decide) rfl un_31 (mpp 138 rfl ?_)
    refine mp_a (a_iconst (v := 1) dX6_account_138 rfl) (mpp 139 rfl ?_)
    refine mt_callv (i := 261) (q' := q_114) (As := [.int 1]) (rest := []) hT dX6_account_139 rfl qm_114 (by decide) rfl rl_1 (by decide) rfl (Nat.le_of_ble_eq_true rfl) rfl ⟨rfl, rfl⟩ ⟨Nat.le_of_ble_eq_true rfl, Nat.le_of_ble_eq_true rfl⟩ (EvP.mono (by decide) (c_CS_creasesOf_NState hT )) (fun r44 P45 g46 => mpp 142 rfl ?_)
    obtain ⟨⟨x47, rfl, g48⟩, e49⟩ := g46
    have e49 := e49.symm
    subst e49
    have wx47 := ti_full x47
    show MEvP _ none q_110 142 [(0, .ref 0), (1, .int t1)] [.int x47] _ _ _ _
    exact mp_iret ⟨⟨_, rfl, trivial⟩, rfl⟩ dX6_account_142 (Or.inl rfl)
  · refine mp_t (s_tabIn (t := 143) (off := 142) dX6_account_1 (by omega) (by rw [c1]; rfl) (by decide)) ?_
    refine mp_a (a_aload_n dX6_account_143 rfl) (mpp 144 rfl ?_)
    refine mt_getU (i := 10) (k := 0) (A := 1) hT dX6_account_144 rfl rl_0 (by decide) rfl (by decide) rfl un_31 (mpp 147 rfl ?_)
    refine mp_a (a_iconst (v := 2) dX6_account_147 rfl) (mpp 148 rfl ?_)
    refine mt_callv (i := 261) (q' := q_114) (As := [.int 2]) (rest := []) hT dX6_account_148 rfl qm_114 (by decide) rfl rl_1 (by decide) rfl (Nat.le_of_ble_eq_true rfl) rfl ⟨rfl, rfl⟩ ⟨Nat.le_of_ble_eq_true rfl, Nat.le_of_ble_eq_true rfl⟩ (EvP.mono (by decide) (c_CS_creasesOf_NState hT )) (fun r50 P51 g52 => mpp 151 rfl ?_)
    obtain ⟨⟨x53, rfl, g54⟩, e55⟩ := g52
    have e55 := e55.symm
    subst e55
    have wx53 := ti_full x53
    show MEvP _ none q_110 151 [(0, .ref 0), (1, .int t1)] [.int x53] _ _ _ _
    exact mp_iret ⟨⟨_, rfl, trivial⟩, rfl⟩ dX6_account_151 (Or.inl rfl)
  · refine mp_t (s_tabIn (t := 152) (off := 151) dX6_account_1 (by omega) (by rw [c1]; rfl) (by decide)) ?_
    refine mp_a (a_aload_n dX6_account_152 rfl) (mpp 153 rfl ?_)
    refine mt_getU (i := 10) (k := 0) (A := 1) hT dX6_account_153 rfl rl_0 (by decide) rfl (by decide) rfl un_31 (mpp 156 rfl ?_)
    refine mp_a (a_iconst (v := 0) dX6_account_156 rfl) (mpp 157 rfl ?_)
    refine mt_callv (i := 261) (q' := q_114) (As := [.int 0]) (rest := []) hT dX6_account_157 rfl qm_114 (by decide) rfl rl_1 (by decide) rfl (Nat.le_of_ble_eq_true rfl) rfl ⟨rfl, rfl⟩ ⟨Nat.le_of_ble_eq_true rfl, Nat.le_of_ble_eq_true rfl⟩ (EvP.mono (by decide) (c_CS_creasesOf_NState hT )) (fun r56 P57 g58 => mpp 160 rfl ?_)
    obtain ⟨⟨x59, rfl, g60⟩, e61⟩ := g58
    have e61 := e61.symm
    subst e61
    have wx59 := ti_full x59
    show MEvP _ none q_110 160 [(0, .ref 0), (1, .int t1)] [.int x59] _ _ _ _
    exact mp_iret ⟨⟨_, rfl, trivial⟩, rfl⟩ dX6_account_160 (Or.inl rfl)
  · refine mp_t (s_tabIn (t := 161) (off := 160) dX6_account_1 (by omega) (by rw [c1]; rfl) (by decide)) ?_
    refine mp_a (a_aload_n dX6_account_161 rfl) (mpp 162 rfl ?_)
    refine mt_getU (i := 10) (k := 0) (A := 1) hT dX6_account_162 rfl rl_0 (by decide) rfl (by decide) rfl un_31 (mpp 165 rfl ?_)
    have g62 := ti_full (fv Po 1 3)
    refine mt_getI (i := 172) (k := 3) hT dX6_account_165 rfl rl_1 (by decide) rfl (by decide) rfl (fun g63 g64 => mpp 168 rfl ?_)
    exact mp_iret ⟨⟨_, rfl, trivial⟩, rfl⟩ dX6_account_168 (Or.inl rfl)
  · refine mp_t (s_tabIn (t := 169) (off := 168) dX6_account_1 (by omega) (by rw [c1]; rfl) (by decide)) ?_
    refine mp_a (a_aload_n dX6_account_169 rfl) (mpp 170 rfl ?_)
    refine mt_getU (i := 32) (k := 4) (A := 289) hT dX6_account_170 rfl rl_0 (by decide) rfl (by decide) rfl un_8 (mpp 173 rfl ?_)
    have g65 : (0 : Int) ≤ (fv Po 289 1).toInt ∧ (fv Po 289 1).toInt ≤ 80 := Typ.rng hT rl_289 (by decide) (by decide) rfl
    refine mt_getI (i := 216) (k := 1) hT dX6_account_173 rfl rl_289 (by decide) rfl (by decide) rfl (fun g66 g67 => mpp 176 rfl ?_)
    exact mp_iret ⟨⟨_, rfl, trivial⟩, rfl⟩ dX6_account_176 (Or.inl rfl)
  · refine mp_t (s_tabIn (t := 177) (off := 176) dX6_account_1 (by omega) (by rw [c1]; rfl) (by decide)) ?_
    refine mp_a (a_aload_n dX6_account_177 rfl) (mpp 178 rfl ?_)
    refine mt_getU (i := 25) (k := 3) (A := 79) hT dX6_account_178 rfl rl_0 (by decide) rfl (by decide) rfl un_6 (mpp 181 rfl ?_)
    have g68 := ti_full (fv Po 79 2)
    refine mt_getI (i := 264) (k := 2) hT dX6_account_181 rfl rl_79 (by decide) rfl (by decide) rfl (fun g69 g70 => mpp 184 rfl ?_)
    exact mp_iret ⟨⟨_, rfl, trivial⟩, rfl⟩ dX6_account_184 (Or.inl rfl)

set_option maxHeartbeats 4000000 in
theorem c_CH_pop_History_NState {Po : mP}  (hT : Typ Po)   : EvP 4 118 [.ref 79, .ref 1] Po (fun r P' => (r = none ∧ (True)) ∧ Typ P' ∧ KW [256, 320, 385, 386, 1985, 1986, 1987, 2112, 2113, 2114] Po P' ∧ True) := by
  refine EvP.of qm_118 (Nat.le_of_ble_eq_true rfl) rfl ?_
  show MEvP _ none q_118 0 [(0, .ref 79), (1, .ref 1)] [] _ 0 0 _
  refine mp_a (a_aload_n dX0_pop_0 rfl) (mpp 1 rfl ?_)
  refine mp_a (a_aload_n dX0_pop_1 rfl) (mpp 2 rfl ?_)
  have g1 := ti_full (fv Po 79 1)
  refine mt_getI (i := 18) (k := 1) hT dX0_pop_2 rfl rl_79 (by decide) rfl (by decide) rfl (fun g2 g3 => mpp 5 rfl ?_)
  refine mp_Tb (t := 17) (j_if_le dX0_pop_5) (by decide) (fun c4 => ?_) (fun c4 => mpp 8 rfl ?_)
  · have c4 : (fv Po 79 1).toInt ≤ 0 := ti_le c4
    refine mp_a (a_bipush (v := 7) dX0_pop_17 rfl) (mpp 19 rfl ?_)
    refine mt_putI (i := 18) (k := 1) (x := 7) hT dX0_pop_19 rfl rl_79 (by decide) rfl (by decide) rfl (by decide) rfl rfl (fun P5 hT6 f7 f8 => mpp 22 rfl ?_)
    have k9 : KW [256, 320, 385, 386, 1985, 1986, 1987, 2112, 2113, 2114] Po P5 := KW.step KW.refl rl_79 rfl f8
    have e10 : (fv P5 79 1).toInt = 7 := congrArg Int32.toInt f7
    refine mp_a (a_aload_n dX0_pop_22 rfl) (mpp 23 rfl ?_)
    refine mp_t (s_dup dX0_pop_23 rfl) (mpp 24 rfl ?_)
    have g11 := ti_full (fv P5 79 2)
    refine mt_getI (i := 34) (k := 2) hT6 dX0_pop_24 rfl rl_79 (by decide) rfl (by decide) rfl (fun g12 g13 => mpp 27 rfl ?_)
    refine mp_a (a_iconst (v := 1) dX0_pop_27 rfl) (mpp 28 rfl ?_)
    obtain ⟨z14, h15⟩ := ti_ex ((fv P5 79 2) - 1 : Int32)
    have wz14 := ti_full z14
    refine mp_t (s_isub (v := z14) dX0_pop_28 h15) (mpp 29 rfl ?_)
    try have e16 : z14.toInt = (fv P5 79 2).toInt - 1 := ti_subz h15 rfl rfl (by omega) (by omega)
    refine mt_putI (i := 34) (k := 2) (x := z14) hT6 dX0_pop_29 rfl rl_79 (by decide) rfl (by decide) rfl (ti_full z14) rfl rfl (fun P17 hT18 f19 f20 => mpp 32 rfl ?_)
    have k21 : KW [256, 320, 385, 386, 1985, 1986, 1987, 2112, 2113, 2114] Po P17 := KW.step k9 rl_79 rfl f20
    have e22 : (fv P17 79 2).toInt = z14.toInt := congrArg Int32.toInt f19
    refine mp_a (a_aload_n dX0_pop_32 rfl) (mpp 33 rfl ?_)
    refine mp_a (a_aload_n dX0_pop_33 rfl) (mpp 34 rfl ?_)
    have e23 : (fv P17 79 1).toInt = (fv P5 79 1).toInt := congrArg Int32.toInt (f20 79 1 (ne_k rfl))
    refine mt_getI (i := 18) (k := 1) hT18 dX0_pop_34 rfl rl_79 (by decide) rfl (by decide) rfl (fun g24 g25 => mpp 37 rfl ?_)
    refine mt_callv (i := 22) (q' := q_16) (As := [.int (fv P17 79 1)]) (rest := []) hT18 dX0_pop_37 rfl qm_16 (by decide) rfl rl_79 (by decide) rfl (Nat.le_of_ble_eq_true rfl) rfl ⟨rfl, rfl⟩ ⟨Nat.le_of_ble_eq_true rfl, Nat.le_of_ble_eq_true rfl⟩ (EvP.mono (by decide) (c_CH_stateAt_History hT18 )) (fun r26 P27 g28 => mpp 40 rfl ?_)
    obtain ⟨g28, e29⟩ := g28
    have e29 := e29.symm
    subst e29
    rcases g28 with rfl | ⟨b30, rfl, q31⟩
    · show MEvP _ none q_118 40 [(0, .ref 79), (1, .ref 1)] [.null] _ _ _ _
      refine mp_a (a_astore_nN (L' := [(2, .null), (0, .ref 79), (1, .ref 1)]) dX0_pop_40 (by decide) rfl) (mpp 41 rfl ?_)
      refine mp_a (a_aload_nN dX0_pop_41 rfl) (mpp 42 rfl ?_)
      refine mp_t (s_ifnullN (t := 50) dX0_pop_42 (by decide)) ?_
      exact mp_ret ⟨⟨rfl, trivial⟩, hT18, k21, trivial⟩ dX0_pop_50 rfl
    · show MEvP _ none q_118 40 [(0, .ref 79), (1, .ref 1)] [.ref b30] _ _ _ _
      refine mp_a (a_astore_n (L' := [(2, .ref b30), (0, .ref 79), (1, .ref 1)]) dX0_pop_40 (by decide) rfl) (mpp 41 rfl ?_)
      refine mp_a (a_aload_n dX0_pop_41 rfl) (mpp 42 rfl ?_)
      refine mp_t (s_ifnullR dX0_pop_42) (mpp 45 rfl ?_)
      refine mp_a (a_aload_n dX0_pop_45 rfl) (mpp 46 rfl ?_)
      refine mp_a (a_aload_n dX0_pop_46 rfl) (mpp 47 rfl ?_)
      refine mt_callv (i := 30) (q' := q_17) (As := [.ref b30]) (rest := []) hT18 dX0_pop_47 rfl qm_17 (by decide) rfl rl_1 (by decide) rfl (Nat.le_of_ble_eq_true rfl) rfl ⟨rfl, rfl⟩ ⟨Nat.le_of_ble_eq_true rfl, Nat.le_of_ble_eq_true rfl⟩ (EvP.mono (by decide) (c_CS_copyFrom_NState_State hT18 q31)) (fun r32 P33 g34 => mpp 50 rfl ?_)
      obtain ⟨⟨rfl, g36⟩, hT37, k38, R39⟩ := g34
      have k40 : KW [256, 320, 385, 386, 1985, 1986, 1987, 2112, 2113, 2114] Po P33 := KW.trans k21 k38 rfl
      show MEvP _ none q_118 50 [(2, .ref b30), (0, .ref 79), (1, .ref 1)] [] _ _ _ _
      exact mp_ret ⟨⟨rfl, trivial⟩, hT37, k40, trivial⟩ dX0_pop_50 rfl
  · have c4 : (fv Po 79 1).toInt > 0 := ti_le_n c4
    refine mp_a (a_aload_n dX0_pop_8 rfl) (mpp 9 rfl ?_)
    refine mt_getI (i := 18) (k := 1) hT dX0_pop_9 rfl rl_79 (by decide) rfl (by decide) rfl (fun g41 g42 => mpp 12 rfl ?_)
    refine mp_a (a_iconst (v := 1) dX0_pop_12 rfl) (mpp 13 rfl ?_)
    obtain ⟨z43, h44⟩ := ti_ex ((fv Po 79 1) - 1 : Int32)
    have wz43 := ti_full z43
    refine mp_t (s_isub (v := z43) dX0_pop_13 h44) (mpp 14 rfl ?_)
    try have e45 : z43.toInt = (fv Po 79 1).toInt - 1 := ti_subz h44 rfl rfl (by omega) (by omega)
    refine mp_a (a_goto (t := 19) dX0_pop_14 (by decide)) ?_
    refine mt_putI (i := 18) (k := 1) (x := z43) hT dX0_pop_19 rfl rl_79 (by decide) rfl (by decide) rfl (ti_full z43) rfl rfl (fun P46 hT47 f48 f49 => mpp 22 rfl ?_)
    have k50 : KW [256, 320, 385, 386, 1985, 1986, 1987, 2112, 2113, 2114] Po P46 := KW.step KW.refl rl_79 rfl f49
    have e51 : (fv P46 79 1).toInt = z43.toInt := congrArg Int32.toInt f48
    refine mp_a (a_aload_n dX0_pop_22 rfl) (mpp 23 rfl ?_)
    refine mp_t (s_dup dX0_pop_23 rfl) (mpp 24 rfl ?_)
    have g52 := ti_full (fv P46 79 2)
    refine mt_getI (i := 34) (k := 2) hT47 dX0_pop_24 rfl rl_79 (by decide) rfl (by decide) rfl (fun g53 g54 => mpp 27 rfl ?_)
    refine mp_a (a_iconst (v := 1) dX0_pop_27 rfl) (mpp 28 rfl ?_)
    obtain ⟨z55, h56⟩ := ti_ex ((fv P46 79 2) - 1 : Int32)
    have wz55 := ti_full z55
    refine mp_t (s_isub (v := z55) dX0_pop_28 h56) (mpp 29 rfl ?_)
    try have e57 : z55.toInt = (fv P46 79 2).toInt - 1 := ti_subz h56 rfl rfl (by omega) (by omega)
    refine mt_putI (i := 34) (k := 2) (x := z55) hT47 dX0_pop_29 rfl rl_79 (by decide) rfl (by decide) rfl (ti_full z55) rfl rfl (fun P58 hT59 f60 f61 => mpp 32 rfl ?_)
    have k62 : KW [256, 320, 385, 386, 1985, 1986, 1987, 2112, 2113, 2114] Po P58 := KW.step k50 rl_79 rfl f61
    have e63 : (fv P58 79 2).toInt = z55.toInt := congrArg Int32.toInt f60
    refine mp_a (a_aload_n dX0_pop_32 rfl) (mpp 33 rfl ?_)
    refine mp_a (a_aload_n dX0_pop_33 rfl) (mpp 34 rfl ?_)
    have e64 : (fv P58 79 1).toInt = (fv P46 79 1).toInt := congrArg Int32.toInt (f61 79 1 (ne_k rfl))
    refine mt_getI (i := 18) (k := 1) hT59 dX0_pop_34 rfl rl_79 (by decide) rfl (by decide) rfl (fun g65 g66 => mpp 37 rfl ?_)
    refine mt_callv (i := 22) (q' := q_16) (As := [.int (fv P58 79 1)]) (rest := []) hT59 dX0_pop_37 rfl qm_16 (by decide) rfl rl_79 (by decide) rfl (Nat.le_of_ble_eq_true rfl) rfl ⟨rfl, rfl⟩ ⟨Nat.le_of_ble_eq_true rfl, Nat.le_of_ble_eq_true rfl⟩ (EvP.mono (by decide) (c_CH_stateAt_History hT59 )) (fun r67 P68 g69 => mpp 40 rfl ?_)
    obtain ⟨g69, e70⟩ := g69
    have e70 := e70.symm
    subst e70
    rcases g69 with rfl | ⟨b71, rfl, q72⟩
    · show MEvP _ none q_118 40 [(0, .ref 79), (1, .ref 1)] [.null] _ _ _ _
      refine mp_a (a_astore_nN (L' := [(2, .null), (0, .ref 79), (1, .ref 1)]) dX0_pop_40 (by decide) rfl) (mpp 41 rfl ?_)
      refine mp_a (a_aload_nN dX0_pop_41 rfl) (mpp 42 rfl ?_)
      refine mp_t (s_ifnullN (t := 50) dX0_pop_42 (by decide)) ?_
      exact mp_ret ⟨⟨rfl, trivial⟩, hT59, k62, trivial⟩ dX0_pop_50 rfl
    · show MEvP _ none q_118 40 [(0, .ref 79), (1, .ref 1)] [.ref b71] _ _ _ _
      refine mp_a (a_astore_n (L' := [(2, .ref b71), (0, .ref 79), (1, .ref 1)]) dX0_pop_40 (by decide) rfl) (mpp 41 rfl ?_)
      refine mp_a (a_aload_n dX0_pop_41 rfl) (mpp 42 rfl ?_)
      refine mp_t (s_ifnullR dX0_pop_42) (mpp 45 rfl ?_)
      refine mp_a (a_aload_n dX0_pop_45 rfl) (mpp 46 rfl ?_)
      refine mp_a (a_aload_n dX0_pop_46 rfl) (mpp 47 rfl ?_)
      refine mt_callv (i := 30) (q' := q_17) (As := [.ref b71]) (rest := []) hT59 dX0_pop_47 rfl qm_17 (by decide) rfl rl_1 (by decide) rfl (Nat.le_of_ble_eq_true rfl) rfl ⟨rfl, rfl⟩ ⟨Nat.le_of_ble_eq_true rfl, Nat.le_of_ble_eq_true rfl⟩ (EvP.mono (by decide) (c_CS_copyFrom_NState_State hT59 q72)) (fun r73 P74 g75 => mpp 50 rfl ?_)
      obtain ⟨⟨rfl, g77⟩, hT78, k79, R80⟩ := g75
      have k81 : KW [256, 320, 385, 386, 1985, 1986, 1987, 2112, 2113, 2114] Po P74 := KW.trans k62 k79 rfl
      show MEvP _ none q_118 50 [(2, .ref b71), (0, .ref 79), (1, .ref 1)] [] _ _ _ _
      exact mp_ret ⟨⟨rfl, trivial⟩, hT78, k81, trivial⟩ dX0_pop_50 rfl

set_option maxHeartbeats 4000000 in
theorem c_F_undo {Po : mP}  (hT : Typ Po)   : EvP 5 117 [.ref 0] Po (fun r P' => (∃ x : Int32, r = some (.int x) ∧ (True)) ∧ Typ P' ∧ KW [256, 320, 385, 386, 1985, 1986, 1987, 2112, 2113, 2114] Po P' ∧ True) := by
  refine EvP.of qm_117 (Nat.le_of_ble_eq_true rfl) rfl ?_
  show MEvP _ none q_117 0 [(0, .ref 0)] [] _ 0 0 _
  refine mp_a (a_aload_n dX6_undo_0 rfl) (mpp 1 rfl ?_)
  refine mt_getU (i := 25) (k := 3) (A := 79) hT dX6_undo_1 rfl rl_0 (by decide) rfl (by decide) rfl un_6 (mpp 4 rfl ?_)
  have g1 := ti_full (fv Po 79 2)
  refine mt_getI (i := 264) (k := 2) hT dX6_undo_4 rfl rl_79 (by decide) rfl (by decide) rfl (fun g2 g3 => mpp 7 rfl ?_)
  refine mp_Tb (t := 14) (j_if_gt dX6_undo_7) (by decide) (fun c4 => ?_) (fun c4 => mpp 10 rfl ?_)
  · have c4 : (fv Po 79 2).toInt > 0 := ti_gt c4
    refine mp_a (a_aload_n dX6_undo_14 rfl) (mpp 15 rfl ?_)
    refine mt_getU (i := 25) (k := 3) (A := 79) hT dX6_undo_15 rfl rl_0 (by decide) rfl (by decide) rfl un_6 (mpp 18 rfl ?_)
    refine mp_a (a_aload_n dX6_undo_18 rfl) (mpp 19 rfl ?_)
    refine mt_getU (i := 10) (k := 0) (A := 1) hT dX6_undo_19 rfl rl_0 (by decide) rfl (by decide) rfl un_31 (mpp 22 rfl ?_)
    refine mt_callv (i := 269) (q' := q_118) (As := [.ref 1]) (rest := []) hT dX6_undo_22 rfl qm_118 (by decide) rfl rl_79 (by decide) rfl (Nat.le_of_ble_eq_true rfl) rfl ⟨rfl, rfl⟩ ⟨Nat.le_of_ble_eq_true rfl, Nat.le_of_ble_eq_true rfl⟩ (EvP.mono (by decide) (c_CH_pop_History_NState hT )) (fun r5 P6 g7 => mpp 25 rfl ?_)
    obtain ⟨⟨rfl, g9⟩, hT10, k11, R12⟩ := g7
    have k13 : KW [256, 320, 385, 386, 1985, 1986, 1987, 2112, 2113, 2114] Po P6 := KW.trans KW.refl k11 rfl
    show MEvP _ none q_117 25 [(0, .ref 0)] [] _ _ _ _
    refine mp_a (a_aload_n dX6_undo_25 rfl) (mpp 26 rfl ?_)
    refine mt_getU (i := 25) (k := 3) (A := 79) hT10 dX6_undo_26 rfl rl_0 (by decide) rfl (by decide) rfl un_6 (mpp 29 rfl ?_)
    have g14 := ti_full (fv P6 79 2)
    refine mt_getI (i := 264) (k := 2) hT10 dX6_undo_29 rfl rl_79 (by decide) rfl (by decide) rfl (fun g15 g16 => mpp 32 rfl ?_)
    exact mp_iret ⟨⟨_, rfl, trivial⟩, hT10, k13, trivial⟩ dX6_undo_32 (Or.inl rfl)
  · have c4 : (fv Po 79 2).toInt ≤ 0 := ti_gt_n c4
    refine mp_a (a_sipush (v := -1004) dX6_undo_10 rfl) (mpp 13 rfl ?_)
    exact mp_iret ⟨⟨_, rfl, trivial⟩, hT, KW.refl, trivial⟩ dX6_undo_13 (Or.inl rfl)

set_option maxHeartbeats 4000000 in
theorem c_F_save {Po : mP}  (hT : Typ Po)   : EvP 4 119 [.ref 0] Po (fun r P' => (∃ x : Int32, r = some (.int x) ∧ (True)) ∧ Typ P' ∧ KW [8, 65, 66, 67, 192, 193, 194, 256, 320] Po P' ∧ True) := by
  refine EvP.of qm_119 (Nat.le_of_ble_eq_true rfl) rfl ?_
  show MEvP _ none q_119 0 [(0, .ref 0)] [] _ 0 0 _
  refine mp_a (a_aload_n dX6_save_0 rfl) (mpp 1 rfl ?_)
  refine mt_getR (i := 19) (k := 2) hT dX6_save_1 rfl rl_0 (by decide) rfl (by decide) rfl (fun q1 => mpp 4 rfl ?_)
  generalize rv Po 0 2 = b2 at q1 ⊢
  refine mp_a (a_aload_n dX6_save_4 rfl) (mpp 5 rfl ?_)
  refine mt_getU (i := 10) (k := 0) (A := 1) hT dX6_save_5 rfl rl_0 (by decide) rfl (by decide) rfl un_31 (mpp 8 rfl ?_)
  refine mt_callv (i := 228) (q' := q_17) (As := [.ref 1]) (rest := []) hT dX6_save_8 rfl qm_17 (by decide) rfl q1 (by decide) rfl (Nat.le_of_ble_eq_true rfl) rfl ⟨rfl, rfl⟩ ⟨Nat.le_of_ble_eq_true rfl, Nat.le_of_ble_eq_true rfl⟩ (EvP.mono (by decide) (c_CS_copyFrom_State_NState hT q1)) (fun r3 P4 g5 => mpp 11 rfl ?_)
  obtain ⟨⟨rfl, g7⟩, hT8, k9, R10⟩ := g5
  have k11 : KW [8, 65, 66, 67, 192, 193, 194, 256, 320] Po P4 := KW.trans KW.refl k9 rfl
  show MEvP _ none q_119 11 [(0, .ref 0)] [] _ _ _ _
  refine mp_a (a_aload_n dX6_save_11 rfl) (mpp 12 rfl ?_)
  refine mp_a (a_iconst (v := 1) dX6_save_12 rfl) (mpp 13 rfl ?_)
  refine mt_putI (i := 272) (k := 8) (x := 1) hT8 dX6_save_13 rfl rl_0 (by decide) rfl (by decide) rfl (by decide) rfl rfl (fun P12 hT13 f14 f15 => mpp 16 rfl ?_)
  have k16 : KW [8, 65, 66, 67, 192, 193, 194, 256, 320] Po P12 := KW.step k11 rl_0 rfl f15
  have e17 : (fv P12 0 8).toInt = 1 := congrArg Int32.toInt f14
  refine mp_a (a_aload_n dX6_save_16 rfl) (mpp 17 rfl ?_)
  refine mt_getU (i := 10) (k := 0) (A := 1) hT13 dX6_save_17 rfl rl_0 (by decide) rfl (by decide) rfl un_31 (mpp 20 rfl ?_)
  have g18 := ti_full (fv P12 1 1)
  refine mt_getI (i := 87) (k := 1) hT13 dX6_save_20 rfl rl_1 (by decide) rfl (by decide) rfl (fun g19 g20 => mpp 23 rfl ?_)
  exact mp_iret ⟨⟨_, rfl, trivial⟩, hT13, k16, trivial⟩ dX6_save_23 (Or.inl rfl)

