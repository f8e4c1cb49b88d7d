/-! methods on typed pools, 8 (written by a program) -/
set_option maxHeartbeats 4000000 in
theorem c_CP_lowestUndecided_NPiece_l4 {Po : mP} {a0_ : Nat} (hT : Typ Po) (hX : XR Po)  (ha0 : rl a0_ = 33) : ∀ (n : Nat) (v1 : Int32) (v2 : Int32), (0 ≤ v2.toInt) → (2147483647 - v2.toInt).toNat = n → MEvP 1 none q_43 4 [(0, .ref a0_), (1, .int v1), (2, .int v2)] [] Po 0 0 (fun r P' => (∃ x : Int32, r = some (.int x) ∧ (True)) ∧ P' = Po) := by
  intro n
  induction n using Nat.strongRecOn with | _ n ih => ?_
  intro v1 v2 i_0 hm
  have w1 := np_ar ha0
  have w_v1 := ti_full v1
  have w_v2 := ti_full v2
  refine mp_a (a_iload_n dX2_lowestUndecided_4 rfl) (mpp 5 rfl ?_)
  refine mp_a (a_aload_n dX2_lowestUndecided_5 rfl) (mpp 6 rfl ?_)
  refine mt_callv (i := 37) (q' := q_25) (As := []) (rest := [.int v2]) hT dX2_lowestUndecided_6 rfl qm_25 (by decide) rfl ha0 (by decide) rfl (Nat.le_of_ble_eq_true rfl) rfl ⟨rfl, rfl⟩ ⟨Nat.le_of_ble_eq_true rfl, Nat.le_of_ble_eq_true rfl⟩ (EvP.mono (by decide) (c_CP_creaseCount_NPiece hT hX ha0)) (fun r2 P3 g4 => mpp 9 rfl ?_)
  obtain ⟨⟨x5, rfl, g6⟩, e7⟩ := g4
  have e7 := e7.symm
  subst e7
  have wx5 := ti_full x5
  have g6 : -1 ≤ x5.toInt ∧ x5.toInt ≤ (fv Po a0_ 1).toInt ∧ (((fv Po a0_ 0).toInt = 0 ∧ x5.toInt = (fv Po a0_ 1).toInt - 1) ∨ ((fv Po a0_ 0).toInt ≠ 0 ∧ x5.toInt = (fv Po a0_ 1).toInt)) := g6
  have g8 : (0 : Int) ≤ (fv Po a0_ 1).toInt ∧ (fv Po a0_ 1).toInt ≤ 8 := Typ.rng hT ha0 (by decide) (by decide) rfl
  have g9 := ti_full (fv Po a0_ 0)
  show MEvP _ none q_43 9 [(0, .ref a0_), (1, .int v1), (2, .int v2)] [.int x5, .int v2] _ _ _ _
  refine mp_Tb (t := 33) (j_icmp_ge dX2_lowestUndecided_9) (by decide) (fun c10 => ?_) (fun c10 => mpp 12 rfl ?_)
  · have c10 : v2.toInt ≥ x5.toInt := ti_ge c10
    refine mp_a (a_iload_n dX2_lowestUndecided_33 rfl) (mpp 34 rfl ?_)
    exact mp_iret ⟨⟨_, rfl, trivial⟩, rfl⟩ dX2_lowestUndecided_34 (Or.inl rfl)
  · have c10 : v2.toInt < x5.toInt := ti_ge_n c10
    refine mp_a (a_aload_n dX2_lowestUndecided_12 rfl) (mpp 13 rfl ?_)
    refine mt_getE (i := 15) (k := 4) hT dX2_lowestUndecided_13 rfl ha0 (by decide) rfl (by decide) rfl (hX.1 a0_ (Or.inr ha0)).2 (fun q11 => mpp 16 rfl ?_)
    refine mp_a (a_iload_n dX2_lowestUndecided_16 rfl) (mpp 17 rfl ?_)
    refine mp_calls (i := 48) (q' := q_12) (As := [.ref (a0_ + 2), .int v2]) (rest := []) dX2_lowestUndecided_17 rfl qm_12 (by decide) rfl (Nat.le_of_ble_eq_true rfl) rfl ⟨rfl, rfl⟩ ⟨Nat.le_of_ble_eq_true rfl, Nat.le_of_ble_eq_true rfl⟩ (EvP.mono (by decide) (c_F_at_creases hT hX q11)) (fun r12 P13 g14 => mpp 20 rfl ?_)
    obtain ⟨⟨x15, rfl, g16⟩, e17⟩ := g14
    have e17 := e17.symm
    subst e17
    have wx15 := ti_full x15
    show MEvP _ none q_43 20 [(0, .ref a0_), (1, .int v1), (2, .int v2)] [.int x15] _ _ _ _
    refine mp_Tb (t := 33) (j_if_eq dX2_lowestUndecided_20) (by decide) (fun c18 => ?_) (fun c18 => mpp 23 rfl ?_)
    · have c18 : x15.toInt = 0 := ti_eq c18
      refine mp_a (a_iload_n dX2_lowestUndecided_33 rfl) (mpp 34 rfl ?_)
      exact mp_iret ⟨⟨_, rfl, trivial⟩, rfl⟩ dX2_lowestUndecided_34 (Or.inl rfl)
    · have c18 : x15.toInt ≠ 0 := ti_eq_n c18
      refine mp_a (a_iload_n dX2_lowestUndecided_23 rfl) (mpp 24 rfl ?_)
      refine mp_a (a_iconst (v := 1) dX2_lowestUndecided_24 rfl) (mpp 25 rfl ?_)
      obtain ⟨z19, h20⟩ := ti_ex (v2 + 1 : Int32)
      have wz19 := ti_full z19
      refine mp_t (s_iadd (v := z19) dX2_lowestUndecided_25 h20) (mpp 26 rfl ?_)
      try have e21 : z19.toInt = v2.toInt + 1 := ti_addz h20 rfl rfl (by omega) (by omega)
      refine mp_a (a_istore_n (L' := [(1, .int z19), (0, .ref a0_), (2, .int v2)]) dX2_lowestUndecided_26 (by decide) rfl) (mpp 27 rfl ?_)
      obtain ⟨z22, h23⟩ := ti_ex (v2 + 1 : Int32)
      have wz22 := ti_full z22
      refine mp_a (a_iinc (v := z22) (L' := [(2, .int z22), (1, .int z19), (0, .ref a0_)]) dX2_lowestUndecided_27 (by decide) rfl h23 rfl) (mpp 30 rfl ?_)
      try have e24 : z22.toInt = v2.toInt + 1 := ti_addz h23 rfl rfl (by omega) (by omega)
      refine mp_a (a_goto (t := 4) dX2_lowestUndecided_30 (by decide)) ?_
      refine MEvP.less (L := [(0, .ref a0_), (1, .int z19), (2, .int z22)]) rfl rfl ⟨rfl, rfl, rfl, trivial⟩ ?_
      have i25 : 0 ≤ z22.toInt := by omega
      exact ih _ (by omega) _ _ i25 rfl

set_option maxHeartbeats 4000000 in
theorem c_CP_lowestUndecided_NPiece {Po : mP} {a0_ : Nat} (hT : Typ Po) (hX : XR Po)  (ha0 : rl a0_ = 33) : EvP 2 43 [.ref a0_] Po (fun r P' => (∃ x : Int32, r = some (.int x) ∧ (True)) ∧ P' = Po) := by
  refine EvP.of qm_43 (Nat.le_of_ble_eq_true rfl) rfl ?_
  show MEvP _ none q_43 0 [(0, .ref a0_)] [] _ 0 0 _
  have w1 := np_ar ha0
  refine mp_a (a_iconst (v := 0) dX2_lowestUndecided_0 rfl) (mpp 1 rfl ?_)
  refine mp_a (a_istore_n (L' := [(1, .int 0), (0, .ref a0_)]) dX2_lowestUndecided_1 (by decide) rfl) (mpp 2 rfl ?_)
  refine mp_a (a_iconst (v := 0) dX2_lowestUndecided_2 rfl) (mpp 3 rfl ?_)
  refine mp_a (a_istore_n (L' := [(2, .int 0), (1, .int 0), (0, .ref a0_)]) dX2_lowestUndecided_3 (by decide) rfl) (mpp 4 rfl ?_)
  refine MEvP.less (L := [(0, .ref a0_), (1, .int 0), (2, .int 0)]) rfl rfl ⟨rfl, rfl, rfl, trivial⟩ ?_
  have i2 : 0 ≤ (0 : Int) := by omega
  exact c_CP_lowestUndecided_NPiece_l4 hT hX  ha0 _ _ _ i2 rfl

set_option maxHeartbeats 4000000 in
theorem c_F_fold {Po : mP} {t1 : Int32} (hT : Typ Po) (hX : XR Po)  (hJ : Inj Po)  : EvP 5 41 [.ref 0, .int t1] Po (fun r P' => (∃ x : Int32, r = some (.int x) ∧ (True)) ∧ Typ P' ∧ KW [10, 11, 12, 65, 66, 67, 192, 193, 194, 256, 320, 385, 386, 640, 641, 704, 768, 1987, 2114] Po P' ∧ Inj P' ∧ True) := by
  refine EvP.of qm_41 (Nat.le_of_ble_eq_true rfl) rfl ?_
  show MEvP _ none q_41 0 [(0, .ref 0), (1, .int t1)] [] _ 0 0 _
  refine mp_a (a_aload_n dX6_fold_0 rfl) (mpp 1 rfl ?_)
  refine mt_getU (i := 10) (k := 0) (A := 1) hT dX6_fold_1 rfl rl_0 (by decide) rfl (by decide) rfl un_31 (mpp 4 rfl ?_)
  refine mp_a (a_iload_n dX6_fold_4 rfl) (mpp 5 rfl ?_)
  refine mt_callv (i := 94) (q' := q_9) (As := [.int t1]) (rest := []) hT dX6_fold_5 rfl qm_9 (by decide) rfl rl_1 (by decide) rfl (Nat.le_of_ble_eq_true rfl) rfl ⟨rfl, rfl⟩ ⟨Nat.le_of_ble_eq_true rfl, Nat.le_of_ble_eq_true rfl⟩ (EvP.mono (by decide) (c_CS_pieceAt_NState hT hX )) (fun r1 P2 g3 => mpp 8 rfl ?_)
  obtain ⟨g3, e4⟩ := g3
  have e4 := e4.symm
  subst e4
  rcases g3 with ⟨rfl, q6n⟩ | ⟨b5, rfl, q6, q6r⟩
  · show MEvP _ none q_41 8 [(0, .ref 0), (1, .int t1)] [.null] _ _ _ _
    have q6n : t1.toInt < 0 ∨ (fv Po 1 1).toInt ≤ t1.toInt ∨ 8 ≤ t1.toInt := q6n
    have g7 : (0 : Int) ≤ (fv Po 1 1).toInt ∧ (fv Po 1 1).toInt ≤ 8 := Typ.rng hT rl_1 (by decide) (by decide) rfl
    refine mp_a (a_astore_nN (L' := [(2, .null), (0, .ref 0), (1, .int t1)]) dX6_fold_8 (by decide) rfl) (mpp 9 rfl ?_)
    refine mp_a (a_aload_nN dX6_fold_9 rfl) (mpp 10 rfl ?_)
    refine mp_t (s_ifnonnullN dX6_fold_10) (mpp 13 rfl ?_)
    refine mp_a (a_sipush (v := -1001) dX6_fold_13 rfl) (mpp 16 rfl ?_)
    exact mp_iret ⟨⟨_, rfl, trivial⟩, hT, KW.refl, hJ, trivial⟩ dX6_fold_16 (Or.inl rfl)
  · show MEvP _ none q_41 8 [(0, .ref 0), (1, .int t1)] [.ref b5] _ _ _ _
    have q6r : 0 ≤ t1.toInt ∧ t1.toInt ≤ 7 ∧ t1.toInt + 1 ≤ (fv Po 1 1).toInt ∧ rv Po 2 t1.toInt.toNat = b5 := q6r
    have g8 : (0 : Int) ≤ (fv Po 1 1).toInt ∧ (fv Po 1 1).toInt ≤ 8 := Typ.rng hT rl_1 (by decide) (by decide) rfl
    have w9 := np_ar q6
    refine mp_a (a_astore_n (L' := [(2, .ref b5), (0, .ref 0), (1, .int t1)]) dX6_fold_8 (by decide) rfl) (mpp 9 rfl ?_)
    refine mp_a (a_aload_n dX6_fold_9 rfl) (mpp 10 rfl ?_)
    refine mp_t (s_ifnonnullR (t := 17) dX6_fold_10 (by decide)) ?_
    refine mp_a (a_aload_n dX6_fold_17 rfl) (mpp 18 rfl ?_)
    have g10 : (0 : Int) ≤ (fv Po b5 2).toInt ∧ (fv Po b5 2).toInt ≤ 1 := Typ.rng hT q6 (by decide) (by decide) rfl
    refine mt_getI (i := 104) (k := 2) hT dX6_fold_18 rfl q6 (by decide) rfl (by decide) rfl (fun g11 g12 => mpp 21 rfl ?_)
    refine mp_Tb (t := 31) (j_if_eq dX6_fold_21) (by decide) (fun c13 => ?_) (fun c13 => mpp 24 rfl ?_)
    · have c13 : (fv Po b5 2).toInt = 0 := ti_eq c13
      refine mp_a (a_aload_n dX6_fold_31 rfl) (mpp 32 rfl ?_)
      refine mt_callv (i := 159) (q' := q_42) (As := []) (rest := []) hT dX6_fold_32 rfl qm_42 (by decide) rfl q6 (by decide) rfl (Nat.le_of_ble_eq_true rfl) rfl ⟨rfl, rfl⟩ ⟨Nat.le_of_ble_eq_true rfl, Nat.le_of_ble_eq_true rfl⟩ (EvP.mono (by decide) (c_CP_isUndecided_NPiece hT hX q6)) (fun r14 P15 g16 => mpp 35 rfl ?_)
      obtain ⟨⟨x17, rfl, g18⟩, e19⟩ := g16
      have e19 := e19.symm
      subst e19
      have wx17 := ti_full x17
      have g18 : 0 ≤ x17.toInt ∧ x17.toInt ≤ 1 := g18
      show MEvP _ none q_41 35 [(2, .ref b5), (0, .ref 0), (1, .int t1)] [.int x17] _ _ _ _
      refine mp_Tb (t := 48) (j_if_eq dX6_fold_35) (by decide) (fun c20 => ?_) (fun c20 => mpp 38 rfl ?_)
      · have c20 : x17.toInt = 0 := ti_eq c20
        refine mp_a (a_aload_n dX6_fold_48 rfl) (mpp 49 rfl ?_)
        refine mt_getU (i := 39) (k := 5) (A := 291) hT dX6_fold_49 rfl rl_0 (by decide) rfl (by decide) rfl un_10 (mpp 52 rfl ?_)
        refine mp_a (a_aload_n dX6_fold_52 rfl) (mpp 53 rfl ?_)
        refine mt_callv (i := 166) (q' := q_44) (As := [.ref b5]) (rest := []) hT dX6_fold_53 rfl qm_44 (by decide) rfl rl_291 (by decide) rfl (Nat.le_of_ble_eq_true rfl) rfl ⟨rfl, rfl⟩ ⟨Nat.le_of_ble_eq_true rfl, Nat.le_of_ble_eq_true rfl⟩ (EvP.mono (by decide) (c_CR_whatStandsInTheWay_Reducer_NPiece hT hX q6)) (fun r21 P22 g23 => mpp 56 rfl ?_)
        obtain ⟨⟨x24, rfl, g25⟩, hT26, k27, R28⟩ := g23
        have k29 : KW [10, 11, 12, 65, 66, 67, 192, 193, 194, 256, 320, 385, 386, 640, 641, 704, 768, 1987, 2114] Po P22 := KW.trans KW.refl k27 rfl
        have J31 := Inj.kw hJ k27 rfl
        have wx24 := ti_full x24
        show MEvP _ none q_41 56 [(2, .ref b5), (0, .ref 0), (1, .int t1)] [.int x24] _ _ _ _
        refine mp_a (a_istore_n (L' := [(3, .int x24), (2, .ref b5), (0, .ref 0), (1, .int t1)]) dX6_fold_56 (by decide) rfl) (mpp 57 rfl ?_)
        refine mp_a (a_iload_n dX6_fold_57 rfl) (mpp 58 rfl ?_)
        refine mp_Tb (t := 68) (j_if_eq dX6_fold_58) (by decide) (fun c32 => ?_) (fun c32 => mpp 61 rfl ?_)
        · have c32 : x24.toInt = 0 := ti_eq c32
          refine mp_a (a_aload_n dX6_fold_68 rfl) (mpp 69 rfl ?_)
          refine mt_callv (i := 170) (q' := q_10) (As := []) (rest := []) hT26 dX6_fold_69 rfl qm_10 (by decide) rfl q6 (by decide) rfl (Nat.le_of_ble_eq_true rfl) rfl ⟨rfl, rfl⟩ ⟨Nat.le_of_ble_eq_true rfl, Nat.le_of_ble_eq_true rfl⟩ (EvP.mono (by decide) (c_CP_width_NPiece hT26 (KW.xr k29 hX) q6)) (fun r33 P34 g35 => mpp 72 rfl ?_)
          obtain ⟨⟨x36, rfl, g37⟩, e38⟩ := g35
          have e38 := e38.symm
          subst e38
          have wx36 := ti_full x36
          show MEvP _ none q_41 72 [(3, .int x24), (2, .ref b5), (0, .ref 0), (1, .int t1)] [.int x36] _ _ _ _
          refine mp_a (a_istore (L' := [(4, .int x36), (3, .int x24), (2, .ref b5), (0, .ref 0), (1, .int t1)]) dX6_fold_72 (by decide) rfl) (mpp 74 rfl ?_)
          refine mp_a (a_aload_n dX6_fold_74 rfl) (mpp 75 rfl ?_)
          refine mt_getU (i := 10) (k := 0) (A := 1) hT26 dX6_fold_75 rfl rl_0 (by decide) rfl (by decide) rfl un_31 (mpp 78 rfl ?_)
          refine mt_callv (i := 64) (q' := q_8) (As := []) (rest := []) hT26 dX6_fold_78 rfl qm_8 (by decide) rfl rl_1 (by decide) rfl (Nat.le_of_ble_eq_true rfl) rfl ⟨rfl, rfl⟩ ⟨Nat.le_of_ble_eq_true rfl, Nat.le_of_ble_eq_true rfl⟩ (EvP.mono (by decide) (c_CS_occupied_NState hT26 (KW.xr k29 hX) )) (fun r39 P40 g41 => mpp 81 rfl ?_)
          obtain ⟨⟨x42, rfl, g43⟩, e44⟩ := g41
          have e44 := e44.symm
          subst e44
          have wx42 := ti_full x42
          show MEvP _ none q_41 81 [(4, .int x36), (3, .int x24), (2, .ref b5), (0, .ref 0), (1, .int t1)] [.int x42] _ _ _ _
          refine mp_a (a_iload dX6_fold_81 rfl) (mpp 83 rfl ?_)
          obtain ⟨z45, h46⟩ := ti_ex (x42 + x36 : Int32)
          have wz45 := ti_full z45
          refine mp_t (s_iadd (v := z45) dX6_fold_83 h46) (mpp 84 rfl ?_)
          try have e47 : z45.toInt = x42.toInt + x36.toInt := ti_addz h46 rfl rfl (by omega) (by omega)
          refine mp_a (a_aload_n dX6_fold_84 rfl) (mpp 85 rfl ?_)
          refine mt_getU (i := 10) (k := 0) (A := 1) hT26 dX6_fold_85 rfl rl_0 (by decide) rfl (by decide) rfl un_31 (mpp 88 rfl ?_)
          have g48 := ti_full (fv P22 1 2)
          refine mt_getI (i := 76) (k := 2) hT26 dX6_fold_88 rfl rl_1 (by decide) rfl (by decide) rfl (fun g49 g50 => mpp 91 rfl ?_)
          obtain ⟨z51, h52⟩ := ti_ex (z45 - (fv P22 1 2) : Int32)
          have wz51 := ti_full z51
          refine mp_t (s_isub (v := z51) dX6_fold_91 h52) (mpp 92 rfl ?_)
          try have e53 : z51.toInt = z45.toInt - (fv P22 1 2).toInt := ti_subz h52 rfl rfl (by omega) (by omega)
          refine mp_a (a_istore (L' := [(5, .int z51), (4, .int x36), (3, .int x24), (2, .ref b5), (0, .ref 0), (1, .int t1)]) dX6_fold_92 (by decide) rfl) (mpp 94 rfl ?_)
          refine mp_a (a_iload dX6_fold_94 rfl) (mpp 96 rfl ?_)
          refine mp_Tb (t := 108) (j_if_le dX6_fold_96) (by decide) (fun c54 => ?_) (fun c54 => mpp 99 rfl ?_)
          · have c54 : z51.toInt ≤ 0 := ti_le c54
            refine mp_a (a_aload_n dX6_fold_108 rfl) (mpp 109 rfl ?_)
            refine mt_getU (i := 25) (k := 3) (A := 79) hT26 dX6_fold_109 rfl rl_0 (by decide) rfl (by decide) rfl un_6 (mpp 112 rfl ?_)
            refine mp_a (a_aload_n dX6_fold_112 rfl) (mpp 113 rfl ?_)
            refine mt_getU (i := 10) (k := 0) (A := 1) hT26 dX6_fold_113 rfl rl_0 (by decide) rfl (by decide) rfl un_31 (mpp 116 rfl ?_)
            refine mt_callv (i := 72) (q' := q_15) (As := [.ref 1]) (rest := []) hT26 dX6_fold_116 rfl qm_15 (by decide) rfl rl_79 (by decide) rfl (Nat.le_of_ble_eq_true rfl) rfl ⟨rfl, rfl⟩ ⟨Nat.le_of_ble_eq_true rfl, Nat.le_of_ble_eq_true rfl⟩ (EvP.mono (by decide) (c_CH_push_History_NState hT26 (KW.xr k29 hX) J31 )) (fun r55 P56 g57 => mpp 119 rfl ?_)
            obtain ⟨⟨rfl, g59⟩, hT60, k61, J64, R62⟩ := g57
            have k63 : KW [10, 11, 12, 65, 66, 67, 192, 193, 194, 256, 320, 385, 386, 640, 641, 704, 768, 1987, 2114] Po P56 := KW.trans k29 k61 rfl
            show MEvP _ none q_41 119 [(5, .int z51), (4, .int x36), (3, .int x24), (2, .ref b5), (0, .ref 0), (1, .int t1)] [] _ _ _ _
            refine mp_a (a_aload_n dX6_fold_119 rfl) (mpp 120 rfl ?_)
            refine mp_a (a_iconst (v := 1) dX6_fold_120 rfl) (mpp 121 rfl ?_)
            refine mt_putI (i := 104) (k := 2) (x := 1) hT60 dX6_fold_121 rfl q6 (by decide) rfl (by decide) rfl (by decide) rfl rfl (fun P65 hT66 f67 f68 f69 => mpp 124 rfl ?_)
            have k70 : KW [10, 11, 12, 65, 66, 67, 192, 193, 194, 256, 320, 385, 386, 640, 641, 704, 768, 1987, 2114] Po P65 := KW.step k63 q6 rfl f68 f69
            have J71 := Inj.st J64 f69
            have e72 : (fv P65 b5 2).toInt = 1 := congrArg Int32.toInt f67
            refine mp_a (a_aload_n dX6_fold_124 rfl) (mpp 125 rfl ?_)
            refine mt_getU (i := 10) (k := 0) (A := 1) hT66 dX6_fold_125 rfl rl_0 (by decide) rfl (by decide) rfl un_31 (mpp 128 rfl ?_)
            refine mp_t (s_dup dX6_fold_128 rfl) (mpp 129 rfl ?_)
            have g73 := ti_full (fv P65 1 3)
            refine mt_getI (i := 172) (k := 3) hT66 dX6_fold_129 rfl rl_1 (by decide) rfl (by decide) rfl (fun g74 g75 => mpp 132 rfl ?_)
            refine mp_a (a_iconst (v := 1) dX6_fold_132 rfl) (mpp 133 rfl ?_)
            obtain ⟨z76, h77⟩ := ti_ex ((fv P65 1 3) + 1 : Int32)
            have wz76 := ti_full z76
            refine mp_t (s_iadd (v := z76) dX6_fold_133 h77) (mpp 134 rfl ?_)
            try have e78 : z76.toInt = (fv P65 1 3).toInt + 1 := ti_addz h77 rfl rfl (by omega) (by omega)
            refine mt_putI (i := 172) (k := 3) (x := z76) hT66 dX6_fold_134 rfl rl_1 (by decide) rfl (by decide) rfl (ti_full z76) rfl rfl (fun P79 hT80 f81 f82 f83 => mpp 137 rfl ?_)
            have k84 : KW [10, 11, 12, 65, 66, 67, 192, 193, 194, 256, 320, 385, 386, 640, 641, 704, 768, 1987, 2114] Po P79 := KW.step k70 rl_1 rfl f82 f83
            have J85 := Inj.st J71 f83
            have e86 : (fv P79 1 3).toInt = z76.toInt := congrArg Int32.toInt f81
            refine mp_a (a_iload dX6_fold_137 rfl) (mpp 139 rfl ?_)
            exact mp_iret ⟨⟨_, rfl, trivial⟩, hT80, k84, J85, trivial⟩ dX6_fold_139 (Or.inl rfl)
          · have c54 : z51.toInt > 0 := ti_le_n c54
            refine mp_a (a_aload_n dX6_fold_99 rfl) (mpp 100 rfl ?_)
            refine mp_a (a_bipush (v := 7) dX6_fold_100 rfl) (mpp 102 rfl ?_)
            refine mp_a (a_iload dX6_fold_102 rfl) (mpp 104 rfl ?_)
            refine mt_callv (i := 68) (q' := q_14) (As := [.int 7, .int z51]) (rest := []) hT26 dX6_fold_104 rfl qm_14 (by decide) rfl rl_0 (by decide) rfl (Nat.le_of_ble_eq_true rfl) rfl ⟨rfl, rfl⟩ ⟨Nat.le_of_ble_eq_true rfl, Nat.le_of_ble_eq_true rfl⟩ (EvP.mono (by decide) (c_F_refuse hT26 (KW.xr k29 hX) )) (fun r87 P88 g89 => mpp 107 rfl ?_)
            obtain ⟨⟨x90, rfl, g91⟩, hT92, k93, R94⟩ := g89
            have k95 : KW [10, 11, 12, 65, 66, 67, 192, 193, 194, 256, 320, 385, 386, 640, 641, 704, 768, 1987, 2114] Po P88 := KW.trans k29 k93 rfl
            have J97 := Inj.kw J31 k93 rfl
            have wx90 := ti_full x90
            show MEvP _ none q_41 107 [(5, .int z51), (4, .int x36), (3, .int x24), (2, .ref b5), (0, .ref 0), (1, .int t1)] [.int x90] _ _ _ _
            exact mp_iret ⟨⟨_, rfl, trivial⟩, hT92, k95, J97, trivial⟩ dX6_fold_107 (Or.inl rfl)
        · have c32 : x24.toInt ≠ 0 := ti_eq_n c32
          refine mp_a (a_aload_n dX6_fold_61 rfl) (mpp 62 rfl ?_)
          refine mp_a (a_iconst (v := 5) dX6_fold_62 rfl) (mpp 63 rfl ?_)
          refine mp_a (a_iload_n dX6_fold_63 rfl) (mpp 64 rfl ?_)
          refine mt_callv (i := 68) (q' := q_14) (As := [.int 5, .int x24]) (rest := []) hT26 dX6_fold_64 rfl qm_14 (by decide) rfl rl_0 (by decide) rfl (Nat.le_of_ble_eq_true rfl) rfl ⟨rfl, rfl⟩ ⟨Nat.le_of_ble_eq_true rfl, Nat.le_of_ble_eq_true rfl⟩ (EvP.mono (by decide) (c_F_refuse hT26 (KW.xr k29 hX) )) (fun r98 P99 g100 => mpp 67 rfl ?_)
          obtain ⟨⟨x101, rfl, g102⟩, hT103, k104, R105⟩ := g100
          have k106 : KW [10, 11, 12, 65, 66, 67, 192, 193, 194, 256, 320, 385, 386, 640, 641, 704, 768, 1987, 2114] Po P99 := KW.trans k29 k104 rfl
          have J108 := Inj.kw J31 k104 rfl
          have wx101 := ti_full x101
          show MEvP _ none q_41 67 [(3, .int x24), (2, .ref b5), (0, .ref 0), (1, .int t1)] [.int x101] _ _ _ _
          exact mp_iret ⟨⟨_, rfl, trivial⟩, hT103, k106, J108, trivial⟩ dX6_fold_67 (Or.inl rfl)
      · have c20 : x17.toInt ≠ 0 := ti_eq_n c20
        refine mp_a (a_aload_n dX6_fold_38 rfl) (mpp 39 rfl ?_)
        refine mp_a (a_iconst (v := 4) dX6_fold_39 rfl) (mpp 40 rfl ?_)
        refine mp_a (a_aload_n dX6_fold_40 rfl) (mpp 41 rfl ?_)
        refine mt_callv (i := 163) (q' := q_43) (As := []) (rest := [.int 4, .ref 0]) hT dX6_fold_41 rfl qm_43 (by decide) rfl q6 (by decide) rfl (Nat.le_of_ble_eq_true rfl) rfl ⟨rfl, rfl⟩ ⟨Nat.le_of_ble_eq_true rfl, Nat.le_of_ble_eq_true rfl⟩ (EvP.mono (by decide) (c_CP_lowestUndecided_NPiece hT hX q6)) (fun r109 P110 g111 => mpp 44 rfl ?_)
        obtain ⟨⟨x112, rfl, g113⟩, e114⟩ := g111
        have e114 := e114.symm
        subst e114
        have wx112 := ti_full x112
        show MEvP _ none q_41 44 [(2, .ref b5), (0, .ref 0), (1, .int t1)] [.int x112, .int 4, .ref 0] _ _ _ _
        refine mt_callv (i := 68) (q' := q_14) (As := [.int 4, .int x112]) (rest := []) hT dX6_fold_44 rfl qm_14 (by decide) rfl rl_0 (by decide) rfl (Nat.le_of_ble_eq_true rfl) rfl ⟨rfl, rfl⟩ ⟨Nat.le_of_ble_eq_true rfl, Nat.le_of_ble_eq_true rfl⟩ (EvP.mono (by decide) (c_F_refuse hT hX )) (fun r115 P116 g117 => mpp 47 rfl ?_)
        obtain ⟨⟨x118, rfl, g119⟩, hT120, k121, R122⟩ := g117
        have k123 : KW [10, 11, 12, 65, 66, 67, 192, 193, 194, 256, 320, 385, 386, 640, 641, 704, 768, 1987, 2114] Po P116 := KW.trans KW.refl k121 rfl
        have J125 := Inj.kw hJ k121 rfl
        have wx118 := ti_full x118
        show MEvP _ none q_41 47 [(2, .ref b5), (0, .ref 0), (1, .int t1)] [.int x118] _ _ _ _
        exact mp_iret ⟨⟨_, rfl, trivial⟩, hT120, k123, J125, trivial⟩ dX6_fold_47 (Or.inl rfl)
    · have c13 : (fv Po b5 2).toInt ≠ 0 := ti_eq_n c13
      refine mp_a (a_aload_n dX6_fold_24 rfl) (mpp 25 rfl ?_)
      refine mp_a (a_iconst (v := 2) dX6_fold_25 rfl) (mpp 26 rfl ?_)
      refine mp_a (a_iload_n dX6_fold_26 rfl) (mpp 27 rfl ?_)
      refine mt_callv (i := 68) (q' := q_14) (As := [.int 2, .int t1]) (rest := []) hT dX6_fold_27 rfl qm_14 (by decide) rfl rl_0 (by decide) rfl (Nat.le_of_ble_eq_true rfl) rfl ⟨rfl, rfl⟩ ⟨Nat.le_of_ble_eq_true rfl, Nat.le_of_ble_eq_true rfl⟩ (EvP.mono (by decide) (c_F_refuse hT hX )) (fun r126 P127 g128 => mpp 30 rfl ?_)
      obtain ⟨⟨x129, rfl, g130⟩, hT131, k132, R133⟩ := g128
      have k134 : KW [10, 11, 12, 65, 66, 67, 192, 193, 194, 256, 320, 385, 386, 640, 641, 704, 768, 1987, 2114] Po P127 := KW.trans KW.refl k132 rfl
      have J136 := Inj.kw hJ k132 rfl
      have wx129 := ti_full x129
      show MEvP _ none q_41 30 [(2, .ref b5), (0, .ref 0), (1, .int t1)] [.int x129] _ _ _ _
      exact mp_iret ⟨⟨_, rfl, trivial⟩, hT131, k134, J136, trivial⟩ dX6_fold_30 (Or.inl rfl)

set_option maxHeartbeats 4000000 in
theorem c_F_unfold {Po : mP} {t1 : Int32} (hT : Typ Po) (hX : XR Po)  (hJ : Inj Po)  : EvP 5 56 [.ref 0, .int t1] Po (fun r P' => (∃ x : Int32, r = some (.int x) ∧ (True)) ∧ Typ P' ∧ KW [10, 11, 12, 65, 66, 67, 192, 193, 194, 256, 320, 385, 386, 2114] Po P' ∧ Inj P' ∧ True) := by
  refine EvP.of qm_56 (Nat.le_of_ble_eq_true rfl) rfl ?_
  show MEvP _ none q_56 0 [(0, .ref 0), (1, .int t1)] [] _ 0 0 _
  refine mp_a (a_aload_n dX6_unfold_0 rfl) (mpp 1 rfl ?_)
  refine mt_getU (i := 10) (k := 0) (A := 1) hT dX6_unfold_1 rfl rl_0 (by decide) rfl (by decide) rfl un_31 (mpp 4 rfl ?_)
  refine mp_a (a_iload_n dX6_unfold_4 rfl) (mpp 5 rfl ?_)
  refine mt_callv (i := 94) (q' := q_9) (As := [.int t1]) (rest := []) hT dX6_unfold_5 rfl qm_9 (by decide) rfl rl_1 (by decide) rfl (Nat.le_of_ble_eq_true rfl) rfl ⟨rfl, rfl⟩ ⟨Nat.le_of_ble_eq_true rfl, Nat.le_of_ble_eq_true rfl⟩ (EvP.mono (by decide) (c_CS_pieceAt_NState hT hX )) (fun r1 P2 g3 => mpp 8 rfl ?_)
  obtain ⟨g3, e4⟩ := g3
  have e4 := e4.symm
  subst e4
  rcases g3 with ⟨rfl, q6n⟩ | ⟨b5, rfl, q6, q6r⟩
  · show MEvP _ none q_56 8 [(0, .ref 0), (1, .int t1)] [.null] _ _ _ _
    have q6n : t1.toInt < 0 ∨ (fv Po 1 1).toInt ≤ t1.toInt ∨ 8 ≤ t1.toInt := q6n
    have g7 : (0 : Int) ≤ (fv Po 1 1).toInt ∧ (fv Po 1 1).toInt ≤ 8 := Typ.rng hT rl_1 (by decide) (by decide) rfl
    refine mp_a (a_astore_nN (L' := [(2, .null), (0, .ref 0), (1, .int t1)]) dX6_unfold_8 (by decide) rfl) (mpp 9 rfl ?_)
    refine mp_a (a_aload_nN dX6_unfold_9 rfl) (mpp 10 rfl ?_)
    refine mp_t (s_ifnonnullN dX6_unfold_10) (mpp 13 rfl ?_)
    refine mp_a (a_sipush (v := -1001) dX6_unfold_13 rfl) (mpp 16 rfl ?_)
    exact mp_iret ⟨⟨_, rfl, trivial⟩, hT, KW.refl, hJ, trivial⟩ dX6_unfold_16 (Or.inl rfl)
  · show MEvP _ none q_56 8 [(0, .ref 0), (1, .int t1)] [.ref b5] _ _ _ _
    have q6r : 0 ≤ t1.toInt ∧ t1.toInt ≤ 7 ∧ t1.toInt + 1 ≤ (fv Po 1 1).toInt ∧ rv Po 2 t1.toInt.toNat = b5 := q6r
    have g8 : (0 : Int) ≤ (fv Po 1 1).toInt ∧ (fv Po 1 1).toInt ≤ 8 := Typ.rng hT rl_1 (by decide) (by decide) rfl
    have w9 := np_ar q6
    refine mp_a (a_astore_n (L' := [(2, .ref b5), (0, .ref 0), (1, .int t1)]) dX6_unfold_8 (by decide) rfl) (mpp 9 rfl ?_)
    refine mp_a (a_aload_n dX6_unfold_9 rfl) (mpp 10 rfl ?_)
    refine mp_t (s_ifnonnullR (t := 17) dX6_unfold_10 (by decide)) ?_
    refine mp_a (a_aload_n dX6_unfold_17 rfl) (mpp 18 rfl ?_)
    have g10 : (0 : Int) ≤ (fv Po b5 2).toInt ∧ (fv Po b5 2).toInt ≤ 1 := Typ.rng hT q6 (by decide) (by decide) rfl
    refine mt_getI (i := 104) (k := 2) hT dX6_unfold_18 rfl q6 (by decide) rfl (by decide) rfl (fun g11 g12 => mpp 21 rfl ?_)
    refine mp_Tb (t := 31) (j_if_ne dX6_unfold_21) (by decide) (fun c13 => ?_) (fun c13 => mpp 24 rfl ?_)
    · have c13 : (fv Po b5 2).toInt ≠ 0 := ti_ne c13
      refine mp_a (a_aload_n dX6_unfold_31 rfl) (mpp 32 rfl ?_)
      refine mt_getU (i := 25) (k := 3) (A := 79) hT dX6_unfold_32 rfl rl_0 (by decide) rfl (by decide) rfl un_6 (mpp 35 rfl ?_)
      refine mp_a (a_aload_n dX6_unfold_35 rfl) (mpp 36 rfl ?_)
      refine mt_getU (i := 10) (k := 0) (A := 1) hT dX6_unfold_36 rfl rl_0 (by decide) rfl (by decide) rfl un_31 (mpp 39 rfl ?_)
      refine mt_callv (i := 72) (q' := q_15) (As := [.ref 1]) (rest := []) hT dX6_unfold_39 rfl qm_15 (by decide) rfl rl_79 (by decide) rfl (Nat.le_of_ble_eq_true rfl) rfl ⟨rfl, rfl⟩ ⟨Nat.le_of_ble_eq_true rfl, Nat.le_of_ble_eq_true rfl⟩ (EvP.mono (by decide) (c_CH_push_History_NState hT hX hJ )) (fun r14 P15 g16 => mpp 42 rfl ?_)
      obtain ⟨⟨rfl, g18⟩, hT19, k20, J23, R21⟩ := g16
      have k22 : KW [10, 11, 12, 65, 66, 67, 192, 193, 194, 256, 320, 385, 386, 2114] Po P15 := KW.trans KW.refl k20 rfl
      show MEvP _ none q_56 42 [(2, .ref b5), (0, .ref 0), (1, .int t1)] [] _ _ _ _
      refine mp_a (a_aload_n dX6_unfold_42 rfl) (mpp 43 rfl ?_)
      refine mp_a (a_iconst (v := 0) dX6_unfold_43 rfl) (mpp 44 rfl ?_)
      refine mt_putI (i := 104) (k := 2) (x := 0) hT19 dX6_unfold_44 rfl q6 (by decide) rfl (by decide) rfl (by decide) rfl rfl (fun P24 hT25 f26 f27 f28 => mpp 47 rfl ?_)
      have k29 : KW [10, 11, 12, 65, 66, 67, 192, 193, 194, 256, 320, 385, 386, 2114] Po P24 := KW.step k22 q6 rfl f27 f28
      have J30 := Inj.st J23 f28
      have e31 : (fv P24 b5 2).toInt = 0 := congrArg Int32.toInt f26
      refine mp_a (a_aload_n dX6_unfold_47 rfl) (mpp 48 rfl ?_)
      refine mt_getU (i := 10) (k := 0) (A := 1) hT25 dX6_unfold_48 rfl rl_0 (by decide) rfl (by decide) rfl un_31 (mpp 51 rfl ?_)
      have g32 := ti_full (fv P24 1 2)
      refine mt_getI (i := 76) (k := 2) hT25 dX6_unfold_51 rfl rl_1 (by decide) rfl (by decide) rfl (fun g33 g34 => mpp 54 rfl ?_)
      refine mp_a (a_aload_n dX6_unfold_54 rfl) (mpp 55 rfl ?_)
      refine mt_getU (i := 10) (k := 0) (A := 1) hT25 dX6_unfold_55 rfl rl_0 (by decide) rfl (by decide) rfl un_31 (mpp 58 rfl ?_)
      refine mt_callv (i := 64) (q' := q_8) (As := []) (rest := [.int (fv P24 1 2)]) hT25 dX6_unfold_58 rfl qm_8 (by decide) rfl rl_1 (by decide) rfl (Nat.le_of_ble_eq_true rfl) rfl ⟨rfl, rfl⟩ ⟨Nat.le_of_ble_eq_true rfl, Nat.le_of_ble_eq_true rfl⟩ (EvP.mono (by decide) (c_CS_occupied_NState hT25 (KW.xr k29 hX) )) (fun r35 P36 g37 => mpp 61 rfl ?_)
      obtain ⟨⟨x38, rfl, g39⟩, e40⟩ := g37
      have e40 := e40.symm
      subst e40
      have wx38 := ti_full x38
      show MEvP _ none q_56 61 [(2, .ref b5), (0, .ref 0), (1, .int t1)] [.int x38, .int (fv P24 1 2)] _ _ _ _
      obtain ⟨z41, h42⟩ := ti_ex ((fv P24 1 2) - x38 : Int32)
      have wz41 := ti_full z41
      refine mp_t (s_isub (v := z41) dX6_unfold_61 h42) (mpp 62 rfl ?_)
      try have e43 : z41.toInt = (fv P24 1 2).toInt - x38.toInt := ti_subz h42 rfl rfl (by omega) (by omega)
      exact mp_iret ⟨⟨_, rfl, trivial⟩, hT25, k29, J30, trivial⟩ dX6_unfold_62 (Or.inl rfl)
    · have c13 : (fv Po b5 2).toInt = 0 := ti_ne_n c13
      refine mp_a (a_aload_n dX6_unfold_24 rfl) (mpp 25 rfl ?_)
      refine mp_a (a_iconst (v := 2) dX6_unfold_25 rfl) (mpp 26 rfl ?_)
      refine mp_a (a_iload_n dX6_unfold_26 rfl) (mpp 27 rfl ?_)
      refine mt_callv (i := 68) (q' := q_14) (As := [.int 2, .int t1]) (rest := []) hT dX6_unfold_27 rfl qm_14 (by decide) rfl rl_0 (by decide) rfl (Nat.le_of_ble_eq_true rfl) rfl ⟨rfl, rfl⟩ ⟨Nat.le_of_ble_eq_true rfl, Nat.le_of_ble_eq_true rfl⟩ (EvP.mono (by decide) (c_F_refuse hT hX )) (fun r44 P45 g46 => mpp 30 rfl ?_)
      obtain ⟨⟨x47, rfl, g48⟩, hT49, k50, R51⟩ := g46
      have k52 : KW [10, 11, 12, 65, 66, 67, 192, 193, 194, 256, 320, 385, 386, 2114] Po P45 := KW.trans KW.refl k50 rfl
      have J54 := Inj.kw hJ k50 rfl
      have wx47 := ti_full x47
      show MEvP _ none q_56 30 [(2, .ref b5), (0, .ref 0), (1, .int t1)] [.int x47] _ _ _ _
      exact mp_iret ⟨⟨_, rfl, trivial⟩, hT49, k52, J54, trivial⟩ dX6_unfold_30 (Or.inl rfl)

set_option maxHeartbeats 4000000 in
theorem c_F_drop {Po : mP} {t1 : Int32} (hT : Typ Po) (hX : XR Po)  (hJ : Inj Po)  : EvP 5 57 [.ref 0, .int t1] Po (fun r P' => (∃ x : Int32, r = some (.int x) ∧ (True)) ∧ Typ P' ∧ KW [65, 66, 67, 192, 193, 194, 256, 320, 385, 386, 1985, 2048] Po P' ∧ Inj P' ∧ True) := by
  refine EvP.of qm_57 (Nat.le_of_ble_eq_true rfl) rfl ?_
  show MEvP _ none q_57 0 [(0, .ref 0), (1, .int t1)] [] _ 0 0 _
  refine mp_a (a_aload_n dX6_drop_0 rfl) (mpp 1 rfl ?_)
  refine mt_getU (i := 10) (k := 0) (A := 1) hT dX6_drop_1 rfl rl_0 (by decide) rfl (by decide) rfl un_31 (mpp 4 rfl ?_)
  refine mp_a (a_iload_n dX6_drop_4 rfl) (mpp 5 rfl ?_)
  refine mt_callv (i := 94) (q' := q_9) (As := [.int t1]) (rest := []) hT dX6_drop_5 rfl qm_9 (by decide) rfl rl_1 (by decide) rfl (Nat.le_of_ble_eq_true rfl) rfl ⟨rfl, rfl⟩ ⟨Nat.le_of_ble_eq_true rfl, Nat.le_of_ble_eq_true rfl⟩ (EvP.mono (by decide) (c_CS_pieceAt_NState hT hX )) (fun r1 P2 g3 => mpp 8 rfl ?_)
  obtain ⟨g3, e4⟩ := g3
  have e4 := e4.symm
  subst e4
  rcases g3 with ⟨rfl, q6n⟩ | ⟨b5, rfl, q6, q6r⟩
  · show MEvP _ none q_57 8 [(0, .ref 0), (1, .int t1)] [.null] _ _ _ _
    have q6n : t1.toInt < 0 ∨ (fv Po 1 1).toInt ≤ t1.toInt ∨ 8 ≤ t1.toInt := q6n
    have g7 : (0 : Int) ≤ (fv Po 1 1).toInt ∧ (fv Po 1 1).toInt ≤ 8 := Typ.rng hT rl_1 (by decide) (by decide) rfl
    refine mp_t (s_ifnonnullN dX6_drop_8) (mpp 11 rfl ?_)
    refine mp_a (a_sipush (v := -1001) dX6_drop_11 rfl) (mpp 14 rfl ?_)
    exact mp_iret ⟨⟨_, rfl, trivial⟩, hT, KW.refl, hJ, trivial⟩ dX6_drop_14 (Or.inl rfl)
  · show MEvP _ none q_57 8 [(0, .ref 0), (1, .int t1)] [.ref b5] _ _ _ _
    have q6r : 0 ≤ t1.toInt ∧ t1.toInt ≤ 7 ∧ t1.toInt + 1 ≤ (fv Po 1 1).toInt ∧ rv Po 2 t1.toInt.toNat = b5 := q6r
    have g8 : (0 : Int) ≤ (fv Po 1 1).toInt ∧ (fv Po 1 1).toInt ≤ 8 := Typ.rng hT rl_1 (by decide) (by decide) rfl
    have w9 := np_ar q6
    refine mp_t (s_ifnonnullR (t := 15) dX6_drop_8 (by decide)) ?_
    refine mp_a (a_aload_n dX6_drop_15 rfl) (mpp 16 rfl ?_)
    refine mt_getU (i := 25) (k := 3) (A := 79) hT dX6_drop_16 rfl rl_0 (by decide) rfl (by decide) rfl un_6 (mpp 19 rfl ?_)
    refine mp_a (a_aload_n dX6_drop_19 rfl) (mpp 20 rfl ?_)
    refine mt_getU (i := 10) (k := 0) (A := 1) hT dX6_drop_20 rfl rl_0 (by decide) rfl (by decide) rfl un_31 (mpp 23 rfl ?_)
    refine mt_callv (i := 72) (q' := q_15) (As := [.ref 1]) (rest := []) hT dX6_drop_23 rfl qm_15 (by decide) rfl rl_79 (by decide) rfl (Nat.le_of_ble_eq_true rfl) rfl ⟨rfl, rfl⟩ ⟨Nat.le_of_ble_eq_true rfl, Nat.le_of_ble_eq_true rfl⟩ (EvP.mono (by decide) (c_CH_push_History_NState hT hX hJ )) (fun r10 P11 g12 => mpp 26 rfl ?_)
    obtain ⟨⟨rfl, g14⟩, hT15, k16, J19, R17⟩ := g12
    have k18 : KW [65, 66, 67, 192, 193, 194, 256, 320, 385, 386, 1985, 2048] Po P11 := KW.trans KW.refl k16 rfl
    show MEvP _ none q_57 26 [(0, .ref 0), (1, .int t1)] [] _ _ _ _
    refine mp_a (a_aload_n dX6_drop_26 rfl) (mpp 27 rfl ?_)
    refine mt_getU (i := 10) (k := 0) (A := 1) hT15 dX6_drop_27 rfl rl_0 (by decide) rfl (by decide) rfl un_31 (mpp 30 rfl ?_)
    refine mp_a (a_iload_n dX6_drop_30 rfl) (mpp 31 rfl ?_)
    refine mt_callv (i := 147) (q' := q_38) (As := [.int t1]) (rest := []) hT15 dX6_drop_31 rfl qm_38 (by decide) rfl rl_1 (by decide) rfl (Nat.le_of_ble_eq_true rfl) rfl ⟨rfl, rfl⟩ ⟨Nat.le_of_ble_eq_true rfl, Nat.le_of_ble_eq_true rfl⟩ (EvP.mono (by decide) (c_CS_removeAt_NState hT15 (KW.xr k18 hX) J19 )) (fun r20 P21 g22 => mpp 34 rfl ?_)
    obtain ⟨⟨rfl, g24⟩, hT25, k26, J29, R27⟩ := g22
    have k28 : KW [65, 66, 67, 192, 193, 194, 256, 320, 385, 386, 1985, 2048] Po P21 := KW.trans k18 k26 rfl
    show MEvP _ none q_57 34 [(0, .ref 0), (1, .int t1)] [] _ _ _ _
    refine mp_a (a_aload_n dX6_drop_34 rfl) (mpp 35 rfl ?_)
    refine mt_getU (i := 10) (k := 0) (A := 1) hT25 dX6_drop_35 rfl rl_0 (by decide) rfl (by decide) rfl un_31 (mpp 38 rfl ?_)
    have g30 : (0 : Int) ≤ (fv P21 1 1).toInt ∧ (fv P21 1 1).toInt ≤ 8 := Typ.rng hT25 rl_1 (by decide) (by decide) rfl
    refine mt_getI (i := 87) (k := 1) hT25 dX6_drop_38 rfl rl_1 (by decide) rfl (by decide) rfl (fun g31 g32 => mpp 41 rfl ?_)
    exact mp_iret ⟨⟨_, rfl, trivial⟩, hT25, k28, J29, trivial⟩ dX6_drop_41 (Or.inl rfl)

set_option maxHeartbeats 4000000 in
theorem c_CP_sum_NPiece_l4 {Po : mP} {a0_ : Nat} (hT : Typ Po) (hX : XR Po)  (ha0 : rl a0_ = 33) : ∀ (n : Nat) (v1 : Int32) (v2 : Int32), (0 ≤ v2.toInt) → (2147483647 - v2.toInt).toNat = n → MEvP 1 none q_23 4 [(0, .ref a0_), (1, .int v1), (2, .int v2)] [] Po 0 0 (fun r P' => (∃ x : Int32, r = some (.int x) ∧ (True)) ∧ P' = Po) := by
  intro n
  induction n using Nat.strongRecOn with | _ n ih => ?_
  intro v1 v2 i_0 hm
  have w1 := np_ar ha0
  have w_v1 := ti_full v1
  have w_v2 := ti_full v2
  refine mp_a (a_iload_n dX2_sum_4 rfl) (mpp 5 rfl ?_)
  refine mp_a (a_aload_n dX2_sum_5 rfl) (mpp 6 rfl ?_)
  have g2 : (0 : Int) ≤ (fv Po a0_ 1).toInt ∧ (fv Po a0_ 1).toInt ≤ 8 := Typ.rng hT ha0 (by decide) (by decide) rfl
  refine mt_getI (i := 26) (k := 1) hT dX2_sum_6 rfl ha0 (by decide) rfl (by decide) rfl (fun g3 g4 => mpp 9 rfl ?_)
  refine mp_Tb (t := 29) (j_icmp_ge dX2_sum_9) (by decide) (fun c5 => ?_) (fun c5 => mpp 12 rfl ?_)
  · have c5 : v2.toInt ≥ (fv Po a0_ 1).toInt := ti_ge c5
    refine mp_a (a_iload_n dX2_sum_29 rfl) (mpp 30 rfl ?_)
    exact mp_iret ⟨⟨_, rfl, trivial⟩, rfl⟩ dX2_sum_30 (Or.inl rfl)
  · have c5 : v2.toInt < (fv Po a0_ 1).toInt := ti_ge_n c5
    refine mp_a (a_iload_n dX2_sum_12 rfl) (mpp 13 rfl ?_)
    refine mp_a (a_aload_n dX2_sum_13 rfl) (mpp 14 rfl ?_)
    refine mt_getE (i := 9) (k := 3) hT dX2_sum_14 rfl ha0 (by decide) rfl (by decide) rfl (hX.1 a0_ (Or.inr ha0)).1 (fun q6 => mpp 17 rfl ?_)
    refine mp_a (a_iload_n dX2_sum_17 rfl) (mpp 18 rfl ?_)
    refine mp_calls (i := 48) (q' := q_12) (As := [.ref (a0_ + 1), .int v2]) (rest := [.int v1]) dX2_sum_18 rfl qm_12 (by decide) rfl (Nat.le_of_ble_eq_true rfl) rfl ⟨rfl, rfl⟩ ⟨Nat.le_of_ble_eq_true rfl, Nat.le_of_ble_eq_true rfl⟩ (EvP.mono (by decide) (c_F_at_sizes hT hX q6)) (fun r7 P8 g9 => mpp 21 rfl ?_)
    obtain ⟨⟨x10, rfl, g11⟩, e12⟩ := g9
    have e12 := e12.symm
    subst e12
    have wx10 := ti_full x10
    show MEvP _ none q_23 21 [(0, .ref a0_), (1, .int v1), (2, .int v2)] [.int x10, .int v1] _ _ _ _
    obtain ⟨z13, h14⟩ := ti_ex (v1 + x10 : Int32)
    have wz13 := ti_full z13
    refine mp_t (s_iadd (v := z13) dX2_sum_21 h14) (mpp 22 rfl ?_)
    try have e15 : z13.toInt = v1.toInt + x10.toInt := ti_addz h14 rfl rfl (by omega) (by omega)
    refine mp_a (a_istore_n (L' := [(1, .int z13), (0, .ref a0_), (2, .int v2)]) dX2_sum_22 (by decide) rfl) (mpp 23 rfl ?_)
    obtain ⟨z16, h17⟩ := ti_ex (v2 + 1 : Int32)
    have wz16 := ti_full z16
    refine mp_a (a_iinc (v := z16) (L' := [(2, .int z16), (1, .int z13), (0, .ref a0_)]) dX2_sum_23 (by decide) rfl h17 rfl) (mpp 26 rfl ?_)
    try have e18 : z16.toInt = v2.toInt + 1 := ti_addz h17 rfl rfl (by omega) (by omega)
    refine mp_a (a_goto (t := 4) dX2_sum_26 (by decide)) ?_
    refine MEvP.less (L := [(0, .ref a0_), (1, .int z13), (2, .int z16)]) rfl rfl ⟨rfl, rfl, rfl, trivial⟩ ?_
    have i19 : 0 ≤ z16.toInt := by omega
    exact ih _ (by omega) _ _ i19 rfl

set_option maxHeartbeats 4000000 in
theorem c_CP_sum_NPiece {Po : mP} {a0_ : Nat} (hT : Typ Po) (hX : XR Po)  (ha0 : rl a0_ = 33) : EvP 2 23 [.ref a0_] Po (fun r P' => (∃ x : Int32, r = some (.int x) ∧ (True)) ∧ P' = Po) := by
  refine EvP.of qm_23 (Nat.le_of_ble_eq_true rfl) rfl ?_
  show MEvP _ none q_23 0 [(0, .ref a0_)] [] _ 0 0 _
  have w1 := np_ar ha0
  refine mp_a (a_iconst (v := 0) dX2_sum_0 rfl) (mpp 1 rfl ?_)
  refine mp_a (a_istore_n (L' := [(1, .int 0), (0, .ref a0_)]) dX2_sum_1 (by decide) rfl) (mpp 2 rfl ?_)
  refine mp_a (a_iconst (v := 0) dX2_sum_2 rfl) (mpp 3 rfl ?_)
  refine mp_a (a_istore_n (L' := [(2, .int 0), (1, .int 0), (0, .ref a0_)]) dX2_sum_3 (by decide) rfl) (mpp 4 rfl ?_)
  refine MEvP.less (L := [(0, .ref a0_), (1, .int 0), (2, .int 0)]) rfl rfl ⟨rfl, rfl, rfl, trivial⟩ ?_
  have i2 : 0 ≤ (0 : Int) := by omega
  exact c_CP_sum_NPiece_l4 hT hX  ha0 _ _ _ i2 rfl

set_option maxHeartbeats 4000000 in
theorem c_F_piece {Po : mP} {t1 : Int32} {t2 : Int32} (hT : Typ Po) (hX : XR Po)   : EvP 4 58 [.ref 0, .int t1, .int t2] Po (fun r P' => (∃ x : Int32, r = some (.int x) ∧ (True)) ∧ P' = Po) := by
  refine EvP.of qm_58 (Nat.le_of_ble_eq_true rfl) rfl ?_
  show MEvP _ none q_58 0 [(0, .ref 0), (1, .int t1), (2, .int t2)] [] _ 0 0 _
  refine mp_a (a_aload_n dX6_piece_0 rfl) (mpp 1 rfl ?_)
  refine mt_getU (i := 10) (k := 0) (A := 1) hT dX6_piece_1 rfl rl_0 (by decide) rfl (by decide) rfl un_31 (mpp 4 rfl ?_)
  refine mp_a (a_iload_n dX6_piece_4 rfl) (mpp 5 rfl ?_)
  refine mt_callv (i := 94) (q' := q_9) (As := [.int t1]) (rest := []) hT dX6_piece_5 rfl qm_9 (by decide) rfl rl_1 (by decide) rfl (Nat.le_of_ble_eq_true rfl) rfl ⟨rfl, rfl⟩ ⟨Nat.le_of_ble_eq_true rfl, Nat.le_of_ble_eq_true rfl⟩ (EvP.mono (by decide) (c_CS_pieceAt_NState hT hX )) (fun r1 P2 g3 => mpp 8 rfl ?_)
  obtain ⟨g3, e4⟩ := g3
  have e4 := e4.symm
  subst e4
  rcases g3 with ⟨rfl, q6n⟩ | ⟨b5, rfl, q6, q6r⟩
  · show MEvP _ none q_58 8 [(0, .ref 0), (1, .int t1), (2, .int t2)] [.null] _ _ _ _
    have q6n : t1.toInt < 0 ∨ (fv Po 1 1).toInt ≤ t1.toInt ∨ 8 ≤ t1.toInt := q6n
    have g7 : (0 : Int) ≤ (fv Po 1 1).toInt ∧ (fv Po 1 1).toInt ≤ 8 := Typ.rng hT rl_1 (by decide) (by decide) rfl
    refine mp_a (a_astore_nN (L' := [(3, .null), (0, .ref 0), (1, .int t1), (2, .int t2)]) dX6_piece_8 (by decide) rfl) (mpp 9 rfl ?_)
    refine mp_a (a_aload_nN dX6_piece_9 rfl) (mpp 10 rfl ?_)
    refine mp_t (s_ifnonnullN dX6_piece_10) (mpp 13 rfl ?_)
    refine mp_a (a_sipush (v := -1001) dX6_piece_13 rfl) (mpp 16 rfl ?_)
    exact mp_iret ⟨⟨_, rfl, trivial⟩, rfl⟩ dX6_piece_16 (Or.inl rfl)
  · show MEvP _ none q_58 8 [(0, .ref 0), (1, .int t1), (2, .int t2)] [.ref b5] _ _ _ _
    have q6r : 0 ≤ t1.toInt ∧ t1.toInt ≤ 7 ∧ t1.toInt + 1 ≤ (fv Po 1 1).toInt ∧ rv Po 2 t1.toInt.toNat = b5 := q6r
    have g8 : (0 : Int) ≤ (fv Po 1 1).toInt ∧ (fv Po 1 1).toInt ≤ 8 := Typ.rng hT rl_1 (by decide) (by decide) rfl
    have w9 := np_ar q6
    refine mp_a (a_astore_n (L' := [(3, .ref b5), (0, .ref 0), (1, .int t1), (2, .int t2)]) dX6_piece_8 (by decide) rfl) (mpp 9 rfl ?_)
    refine mp_a (a_aload_n dX6_piece_9 rfl) (mpp 10 rfl ?_)
    refine mp_t (s_ifnonnullR (t := 17) dX6_piece_10 (by decide)) ?_
    refine mp_a (a_iload_n dX6_piece_17 rfl) (mpp 18 rfl ?_)
    have c10 : (t2.toInt < 0 ∨ 8 < t2.toInt) ∨ t2.toInt = 0 ∨ t2.toInt = 1 ∨ t2.toInt = 2 ∨ t2.toInt = 3 ∨ t2.toInt = 4 ∨ t2.toInt = 5 ∨ t2.toInt = 6 ∨ t2.toInt = 7 ∨ t2.toInt = 8 := by omega
    rcases c10 with c10 | c10 | c10 | c10 | c10 | c10 | c10 | c10 | c10 | c10
    · refine mp_t (s_tabOut (t := 124) dX6_piece_18 c10 (by decide)) ?_
      refine mp_a (a_sipush (v := -1002) dX6_piece_124 rfl) (mpp 127 rfl ?_)
      exact mp_iret ⟨⟨_, rfl, trivial⟩, rfl⟩ dX6_piece_127 (Or.inl rfl)
    · refine mp_t (s_tabIn (t := 68) (off := 50) dX6_piece_18 (by omega) (by rw [c10]; rfl) (by decide)) ?_
      refine mp_a (a_aload_n dX6_piece_68 rfl) (mpp 69 rfl ?_)
      have g11 := ti_full (fv Po b5 0)
      refine mt_getI (i := 130) (k := 0) hT dX6_piece_69 rfl q6 (by decide) rfl (by decide) rfl (fun g12 g13 => mpp 72 rfl ?_)
      exact mp_iret ⟨⟨_, rfl, trivial⟩, rfl⟩ dX6_piece_72 (Or.inl rfl)
    · refine mp_t (s_tabIn (t := 73) (off := 55) dX6_piece_18 (by omega) (by rw [c10]; rfl) (by decide)) ?_
      refine mp_a (a_aload_n dX6_piece_73 rfl) (mpp 74 rfl ?_)
      have g14 : (0 : Int) ≤ (fv Po b5 1).toInt ∧ (fv Po b5 1).toInt ≤ 8 := Typ.rng hT q6 (by decide) (by decide) rfl
      refine mt_getI (i := 143) (k := 1) hT dX6_piece_74 rfl q6 (by decide) rfl (by decide) rfl (fun g15 g16 => mpp 77 rfl ?_)
      exact mp_iret ⟨⟨_, rfl, trivial⟩, rfl⟩ dX6_piece_77 (Or.inl rfl)
    · refine mp_t (s_tabIn (t := 78) (off := 60) dX6_piece_18 (by omega) (by rw [c10]; rfl) (by decide)) ?_
      refine mp_a (a_aload_n dX6_piece_78 rfl) (mpp 79 rfl ?_)
      refine mt_callv (i := 123) (q' := q_25) (As := []) (rest := []) hT dX6_piece_79 rfl qm_25 (by decide) rfl q6 (by decide) rfl (Nat.le_of_ble_eq_true rfl) rfl ⟨rfl, rfl⟩ ⟨Nat.le_of_ble_eq_true rfl, Nat.le_of_ble_eq_true rfl⟩ (EvP.mono (by decide) (c_CP_creaseCount_NPiece hT hX q6)) (fun r17 P18 g19 => mpp 82 rfl ?_)
      obtain ⟨⟨x20, rfl, g21⟩, e22⟩ := g19
      have e22 := e22.symm
      subst e22
      have wx20 := ti_full x20
      have g21 : -1 ≤ x20.toInt ∧ x20.toInt ≤ (fv Po b5 1).toInt ∧ (((fv Po b5 0).toInt = 0 ∧ x20.toInt = (fv Po b5 1).toInt - 1) ∨ ((fv Po b5 0).toInt ≠ 0 ∧ x20.toInt = (fv Po b5 1).toInt)) := g21
      have g23 : (0 : Int) ≤ (fv Po b5 1).toInt ∧ (fv Po b5 1).toInt ≤ 8 := Typ.rng hT q6 (by decide) (by decide) rfl
      have g24 := ti_full (fv Po b5 0)
      show MEvP _ none q_58 82 [(3, .ref b5), (0, .ref 0), (1, .int t1), (2, .int t2)] [.int x20] _ _ _ _
      exact mp_iret ⟨⟨_, rfl, trivial⟩, rfl⟩ dX6_piece_82 (Or.inl rfl)
    · refine mp_t (s_tabIn (t := 83) (off := 65) dX6_piece_18 (by omega) (by rw [c10]; rfl) (by decide)) ?_
      refine mp_a (a_aload_n dX6_piece_83 rfl) (mpp 84 rfl ?_)
      refine mp_a (a_iconst (v := 1) dX6_piece_84 rfl) (mpp 85 rfl ?_)
      refine mt_callv (i := 126) (q' := q_32) (As := [.int 1]) (rest := []) hT dX6_piece_85 rfl qm_32 (by decide) rfl q6 (by decide) rfl (Nat.le_of_ble_eq_true rfl) rfl ⟨rfl, rfl⟩ ⟨Nat.le_of_ble_eq_true rfl, Nat.le_of_ble_eq_true rfl⟩ (EvP.mono (by decide) (c_CP_countOf_NPiece hT hX q6)) (fun r25 P26 g27 => mpp 88 rfl ?_)
      obtain ⟨⟨x28, rfl, g29⟩, e30⟩ := g27
      have e30 := e30.symm
      subst e30
      have wx28 := ti_full x28
      have g29 : 0 ≤ x28.toInt ∧ x28.toInt ≤ 8 := g29
      show MEvP _ none q_58 88 [(3, .ref b5), (0, .ref 0), (1, .int t1), (2, .int t2)] [.int x28] _ _ _ _
      exact mp_iret ⟨⟨_, rfl, trivial⟩, rfl⟩ dX6_piece_88 (Or.inl rfl)
    · refine mp_t (s_tabIn (t := 89) (off := 71) dX6_piece_18 (by omega) (by rw [c10]; rfl) (by decide)) ?_
      refine mp_a (a_aload_n dX6_piece_89 rfl) (mpp 90 rfl ?_)
      refine mp_a (a_iconst (v := 2) dX6_piece_90 rfl) (mpp 91 rfl ?_)
      refine mt_callv (i := 126) (q' := q_32) (As := [.int 2]) (rest := []) hT dX6_piece_91 rfl qm_32 (by decide) rfl q6 (by decide) rfl (Nat.le_of_ble_eq_true rfl) rfl ⟨rfl, rfl⟩ ⟨Nat.le_of_ble_eq_true rfl, Nat.le_of_ble_eq_true rfl⟩ (EvP.mono (by decide) (c_CP_countOf_NPiece hT hX q6)) (fun r31 P32 g33 => mpp 94 rfl ?_)
      obtain ⟨⟨x34, rfl, g35⟩, e36⟩ := g33
      have e36 := e36.symm
      subst e36
      have wx34 := ti_full x34
      have g35 : 0 ≤ x34.toInt ∧ x34.toInt ≤ 8 := g35
      show MEvP _ none q_58 94 [(3, .ref b5), (0, .ref 0), (1, .int t1), (2, .int t2)] [.int x34] _ _ _ _
      exact mp_iret ⟨⟨_, rfl, trivial⟩, rfl⟩ dX6_piece_94 (Or.inl rfl)
    · refine mp_t (s_tabIn (t := 95) (off := 77) dX6_piece_18 (by omega) (by rw [c10]; rfl) (by decide)) ?_
      refine mp_a (a_aload_n dX6_piece_95 rfl) (mpp 96 rfl ?_)
      refine mp_a (a_iconst (v := 0) dX6_piece_96 rfl) (mpp 97 rfl ?_)
      refine mt_callv (i := 126) (q' := q_32) (As := [.int 0]) (rest := []) hT dX6_piece_97 rfl qm_32 (by decide) rfl q6 (by decide) rfl (Nat.le_of_ble_eq_true rfl) rfl ⟨rfl, rfl⟩ ⟨Nat.le_of_ble_eq_true rfl, Nat.le_of_ble_eq_true rfl⟩ (EvP.mono (by decide) (c_CP_countOf_NPiece hT hX q6)) (fun r37 P38 g39 => mpp 100 rfl ?_)
      obtain ⟨⟨x40, rfl, g41⟩, e42⟩ := g39
      have e42 := e42.symm
      subst e42
      have wx40 := ti_full x40
      have g41 : 0 ≤ x40.toInt ∧ x40.toInt ≤ 8 := g41
      show MEvP _ none q_58 100 [(3, .ref b5), (0, .ref 0), (1, .int t1), (2, .int t2)] [.int x40] _ _ _ _
      exact mp_iret ⟨⟨_, rfl, trivial⟩, rfl⟩ dX6_piece_100 (Or.inl rfl)
    · refine mp_t (s_tabIn (t := 101) (off := 83) dX6_piece_18 (by omega) (by rw [c10]; rfl) (by decide)) ?_
      refine mp_a (a_aload_n dX6_piece_101 rfl) (mpp 102 rfl ?_)
      refine mt_callv (i := 175) (q' := q_23) (As := []) (rest := []) hT dX6_piece_102 rfl qm_23 (by decide) rfl q6 (by decide) rfl (Nat.le_of_ble_eq_true rfl) rfl ⟨rfl, rfl⟩ ⟨Nat.le_of_ble_eq_true rfl, Nat.le_of_ble_eq_true rfl⟩ (EvP.mono (by decide) (c_CP_sum_NPiece hT hX q6)) (fun r43 P44 g45 => mpp 105 rfl ?_)
      obtain ⟨⟨x46, rfl, g47⟩, e48⟩ := g45
      have e48 := e48.symm
      subst e48
      have wx46 := ti_full x46
      show MEvP _ none q_58 105 [(3, .ref b5), (0, .ref 0), (1, .int t1), (2, .int t2)] [.int x46] _ _ _ _
      exact mp_iret ⟨⟨_, rfl, trivial⟩, rfl⟩ dX6_piece_105 (Or.inl rfl)
    · refine mp_t (s_tabIn (t := 106) (off := 88) dX6_piece_18 (by omega) (by rw [c10]; rfl) (by decide)) ?_
      refine mp_a (a_aload_n dX6_piece_106 rfl) (mpp 107 rfl ?_)
      have g49 : (0 : Int) ≤ (fv Po b5 2).toInt ∧ (fv Po b5 2).toInt ≤ 1 := Typ.rng hT q6 (by decide) (by decide) rfl
      refine mt_getI (i := 104) (k := 2) hT dX6_piece_107 rfl q6 (by decide) rfl (by decide) rfl (fun g50 g51 => mpp 110 rfl ?_)
      refine mp_Tb (t := 117) (j_if_eq dX6_piece_110) (by decide) (fun c52 => ?_) (fun c52 => mpp 113 rfl ?_)
      · have c52 : (fv Po b5 2).toInt = 0 := ti_eq c52
        refine mp_a (a_iconst (v := 0) dX6_piece_117 rfl) (mpp 118 rfl ?_)
        exact mp_iret ⟨⟨_, rfl, trivial⟩, rfl⟩ dX6_piece_118 (Or.inl rfl)
      · have c52 : (fv Po b5 2).toInt ≠ 0 := ti_eq_n c52
        refine mp_a (a_iconst (v := 1) dX6_piece_113 rfl) (mpp 114 rfl ?_)
        refine mp_a (a_goto (t := 118) dX6_piece_114 (by decide)) ?_
        exact mp_iret ⟨⟨_, rfl, trivial⟩, rfl⟩ dX6_piece_118 (Or.inl rfl)
    · refine mp_t (s_tabIn (t := 119) (off := 101) dX6_piece_18 (by omega) (by rw [c10]; rfl) (by decide)) ?_
      refine mp_a (a_aload_n dX6_piece_119 rfl) (mpp 120 rfl ?_)
      refine mt_callv (i := 170) (q' := q_10) (As := []) (rest := []) hT dX6_piece_120 rfl qm_10 (by decide) rfl q6 (by decide) rfl (Nat.le_of_ble_eq_true rfl) rfl ⟨rfl, rfl⟩ ⟨Nat.le_of_ble_eq_true rfl, Nat.le_of_ble_eq_true rfl⟩ (EvP.mono (by decide) (c_CP_width_NPiece hT hX q6)) (fun r53 P54 g55 => mpp 123 rfl ?_)
      obtain ⟨⟨x56, rfl, g57⟩, e58⟩ := g55
      have e58 := e58.symm
      subst e58
      have wx56 := ti_full x56
      show MEvP _ none q_58 123 [(3, .ref b5), (0, .ref 0), (1, .int t1), (2, .int t2)] [.int x56] _ _ _ _
      exact mp_iret ⟨⟨_, rfl, trivial⟩, rfl⟩ dX6_piece_123 (Or.inl rfl)

set_option maxHeartbeats 4000000 in
theorem c_F_size {Po : mP} {t1 : Int32} {t2 : Int32} (hT : Typ Po) (hX : XR Po)   : EvP 2 59 [.ref 0, .int t1, .int t2] Po (fun r P' => (∃ x : Int32, r = some (.int x) ∧ (True)) ∧ P' = Po) := by
  refine EvP.of qm_59 (Nat.le_of_ble_eq_true rfl) rfl ?_
  show MEvP _ none q_59 0 [(0, .ref 0), (1, .int t1), (2, .int t2)] [] _ 0 0 _
  refine mp_a (a_aload_n dX6_size_0 rfl) (mpp 1 rfl ?_)
  refine mt_getU (i := 10) (k := 0) (A := 1) hT dX6_size_1 rfl rl_0 (by decide) rfl (by decide) rfl un_31 (mpp 4 rfl ?_)
  refine mp_a (a_iload_n dX6_size_4 rfl) (mpp 5 rfl ?_)
  refine mt_callv (i := 94) (q' := q_9) (As := [.int t1]) (rest := []) hT dX6_size_5 rfl qm_9 (by decide) rfl rl_1 (by decide) rfl (Nat.le_of_ble_eq_true rfl) rfl ⟨rfl, rfl⟩ ⟨Nat.le_of_ble_eq_true rfl, Nat.le_of_ble_eq_true rfl⟩ (EvP.mono (by decide) (c_CS_pieceAt_NState hT hX )) (fun r1 P2 g3 => mpp 8 rfl ?_)
  obtain ⟨g3, e4⟩ := g3
  have e4 := e4.symm
  subst e4
  rcases g3 with ⟨rfl, q6n⟩ | ⟨b5, rfl, q6, q6r⟩
  · show MEvP _ none q_59 8 [(0, .ref 0), (1, .int t1), (2, .int t2)] [.null] _ _ _ _
    have q6n : t1.toInt < 0 ∨ (fv Po 1 1).toInt ≤ t1.toInt ∨ 8 ≤ t1.toInt := q6n
    have g7 : (0 : Int) ≤ (fv Po 1 1).toInt ∧ (fv Po 1 1).toInt ≤ 8 := Typ.rng hT rl_1 (by decide) (by decide) rfl
    refine mp_a (a_astore_nN (L' := [(3, .null), (0, .ref 0), (1, .int t1), (2, .int t2)]) dX6_size_8 (by decide) rfl) (mpp 9 rfl ?_)
    refine mp_a (a_aload_nN dX6_size_9 rfl) (mpp 10 rfl ?_)
    refine mp_t (s_ifnullN (t := 25) dX6_size_10 (by decide)) ?_
    refine mp_a (a_sipush (v := -1001) dX6_size_25 rfl) (mpp 28 rfl ?_)
    exact mp_iret ⟨⟨_, rfl, trivial⟩, rfl⟩ dX6_size_28 (Or.inl rfl)
  · show MEvP _ none q_59 8 [(0, .ref 0), (1, .int t1), (2, .int t2)] [.ref b5] _ _ _ _
    have q6r : 0 ≤ t1.toInt ∧ t1.toInt ≤ 7 ∧ t1.toInt + 1 ≤ (fv Po 1 1).toInt ∧ rv Po 2 t1.toInt.toNat = b5 := q6r
    have g8 : (0 : Int) ≤ (fv Po 1 1).toInt ∧ (fv Po 1 1).toInt ≤ 8 := Typ.rng hT rl_1 (by decide) (by decide) rfl
    have w9 := np_ar q6
    refine mp_a (a_astore_n (L' := [(3, .ref b5), (0, .ref 0), (1, .int t1), (2, .int t2)]) dX6_size_8 (by decide) rfl) (mpp 9 rfl ?_)
    refine mp_a (a_aload_n dX6_size_9 rfl) (mpp 10 rfl ?_)
    refine mp_t (s_ifnullR dX6_size_10) (mpp 13 rfl ?_)
    refine mp_a (a_iload_n dX6_size_13 rfl) (mpp 14 rfl ?_)
    refine mp_Tb (t := 25) (j_if_lt dX6_size_14) (by decide) (fun c10 => ?_) (fun c10 => mpp 17 rfl ?_)
    · have c10 : t2.toInt < 0 := ti_lt c10
      refine mp_a (a_sipush (v := -1001) dX6_size_25 rfl) (mpp 28 rfl ?_)
      exact mp_iret ⟨⟨_, rfl, trivial⟩, rfl⟩ dX6_size_28 (Or.inl rfl)
    · have c10 : t2.toInt ≥ 0 := ti_lt_n c10
      refine mp_a (a_iload_n dX6_size_17 rfl) (mpp 18 rfl ?_)
      refine mp_a (a_aload_n dX6_size_18 rfl) (mpp 19 rfl ?_)
      have g11 : (0 : Int) ≤ (fv Po b5 1).toInt ∧ (fv Po b5 1).toInt ≤ 8 := Typ.rng hT q6 (by decide) (by decide) rfl
      refine mt_getI (i := 143) (k := 1) hT dX6_size_19 rfl q6 (by decide) rfl (by decide) rfl (fun g12 g13 => mpp 22 rfl ?_)
      refine mp_Tb (t := 29) (j_icmp_lt dX6_size_22) (by decide) (fun c14 => ?_) (fun c14 => mpp 25 rfl ?_)
      · have c14 : t2.toInt < (fv Po b5 1).toInt := ti_lt c14
        refine mp_a (a_aload_n dX6_size_29 rfl) (mpp 30 rfl ?_)
        refine mt_getE (i := 178) (k := 3) hT dX6_size_30 rfl q6 (by decide) rfl (by decide) rfl (hX.1 b5 (Or.inr q6)).1 (fun q15 => mpp 33 rfl ?_)
        refine mp_a (a_iload_n dX6_size_33 rfl) (mpp 34 rfl ?_)
        refine mp_calls (i := 112) (q' := q_12) (As := [.ref (b5 + 1), .int t2]) (rest := []) dX6_size_34 rfl qm_12 (by decide) rfl (Nat.le_of_ble_eq_true rfl) rfl ⟨rfl, rfl⟩ ⟨Nat.le_of_ble_eq_true rfl, Nat.le_of_ble_eq_true rfl⟩ (EvP.mono (by decide) (c_F_at_sizes hT hX q15)) (fun r16 P17 g18 => mpp 37 rfl ?_)
        obtain ⟨⟨x19, rfl, g20⟩, e21⟩ := g18
        have e21 := e21.symm
        subst e21
        have wx19 := ti_full x19
        show MEvP _ none q_59 37 [(3, .ref b5), (0, .ref 0), (1, .int t1), (2, .int t2)] [.int x19] _ _ _ _
        exact mp_iret ⟨⟨_, rfl, trivial⟩, rfl⟩ dX6_size_37 (Or.inl rfl)
      · have c14 : t2.toInt ≥ (fv Po b5 1).toInt := ti_lt_n c14
        refine mp_a (a_sipush (v := -1001) dX6_size_25 rfl) (mpp 28 rfl ?_)
        exact mp_iret ⟨⟨_, rfl, trivial⟩, rfl⟩ dX6_size_28 (Or.inl rfl)

set_option maxHeartbeats 4000000 in
theorem c_F_crease {Po : mP} {t1 : Int32} {t2 : Int32} (hT : Typ Po) (hX : XR Po)   : EvP 3 60 [.ref 0, .int t1, .int t2] Po (fun r P' => (∃ x : Int32, r = some (.int x) ∧ (True)) ∧ P' = Po) := by
  refine EvP.of qm_60 (Nat.le_of_ble_eq_true rfl) rfl ?_
  show MEvP _ none q_60 0 [(0, .ref 0), (1, .int t1), (2, .int t2)] [] _ 0 0 _
  refine mp_a (a_aload_n dX6_crease_0 rfl) (mpp 1 rfl ?_)
  refine mt_getU (i := 10) (k := 0) (A := 1) hT dX6_crease_1 rfl rl_0 (by decide) rfl (by decide) rfl un_31 (mpp 4 rfl ?_)
  refine mp_a (a_iload_n dX6_crease_4 rfl) (mpp 5 rfl ?_)
  refine mt_callv (i := 94) (q' := q_9) (As := [.int t1]) (rest := []) hT dX6_crease_5 rfl qm_9 (by decide) rfl rl_1 (by decide) rfl (Nat.le_of_ble_eq_true rfl) rfl ⟨rfl, rfl⟩ ⟨Nat.le_of_ble_eq_true rfl, Nat.le_of_ble_eq_true rfl⟩ (EvP.mono (by decide) (c_CS_pieceAt_NState hT hX )) (fun r1 P2 g3 => mpp 8 rfl ?_)
  obtain ⟨g3, e4⟩ := g3
  have e4 := e4.symm
  subst e4
  rcases g3 with ⟨rfl, q6n⟩ | ⟨b5, rfl, q6, q6r⟩
  · show MEvP _ none q_60 8 [(0, .ref 0), (1, .int t1), (2, .int t2)] [.null] _ _ _ _
    have q6n : t1.toInt < 0 ∨ (fv Po 1 1).toInt ≤ t1.toInt ∨ 8 ≤ t1.toInt := q6n
    have g7 : (0 : Int) ≤ (fv Po 1 1).toInt ∧ (fv Po 1 1).toInt ≤ 8 := Typ.rng hT rl_1 (by decide) (by decide) rfl
    refine mp_a (a_astore_nN (L' := [(3, .null), (0, .ref 0), (1, .int t1), (2, .int t2)]) dX6_crease_8 (by decide) rfl) (mpp 9 rfl ?_)
    refine mp_a (a_aload_nN dX6_crease_9 rfl) (mpp 10 rfl ?_)
    refine mp_t (s_ifnullN (t := 21) dX6_crease_10 (by decide)) ?_
    refine mp_a (a_sipush (v := -1001) dX6_crease_21 rfl) (mpp 24 rfl ?_)
    exact mp_iret ⟨⟨_, rfl, trivial⟩, rfl⟩ dX6_crease_24 (Or.inl rfl)
  · show MEvP _ none q_60 8 [(0, .ref 0), (1, .int t1), (2, .int t2)] [.ref b5] _ _ _ _
    have q6r : 0 ≤ t1.toInt ∧ t1.toInt ≤ 7 ∧ t1.toInt + 1 ≤ (fv Po 1 1).toInt ∧ rv Po 2 t1.toInt.toNat = b5 := q6r
    have g8 : (0 : Int) ≤ (fv Po 1 1).toInt ∧ (fv Po 1 1).toInt ≤ 8 := Typ.rng hT rl_1 (by decide) (by decide) rfl
    have w9 := np_ar q6
    refine mp_a (a_astore_n (L' := [(3, .ref b5), (0, .ref 0), (1, .int t1), (2, .int t2)]) dX6_crease_8 (by decide) rfl) (mpp 9 rfl ?_)
    refine mp_a (a_aload_n dX6_crease_9 rfl) (mpp 10 rfl ?_)
    refine mp_t (s_ifnullR dX6_crease_10) (mpp 13 rfl ?_)
    refine mp_a (a_aload_n dX6_crease_13 rfl) (mpp 14 rfl ?_)
    refine mp_a (a_iload_n dX6_crease_14 rfl) (mpp 15 rfl ?_)
    refine mt_callv (i := 98) (q' := q_29) (As := [.int t2]) (rest := []) hT dX6_crease_15 rfl qm_29 (by decide) rfl q6 (by decide) rfl (Nat.le_of_ble_eq_true rfl) rfl ⟨rfl, rfl⟩ ⟨Nat.le_of_ble_eq_true rfl, Nat.le_of_ble_eq_true rfl⟩ (EvP.mono (by decide) (c_CP_hasCrease_NPiece hT hX q6)) (fun r10 P11 g12 => mpp 18 rfl ?_)
    obtain ⟨⟨x13, rfl, g14⟩, e15⟩ := g12
    have e15 := e15.symm
    subst e15
    have wx13 := ti_full x13
    have g14 : 0 ≤ x13.toInt ∧ x13.toInt ≤ 1 ∧ ((x13.toInt = 0 ∧ (t2.toInt < 0 ∨ ((fv Po b5 0).toInt = 0 ∧ (fv Po b5 1).toInt - 1 ≤ t2.toInt) ∨ ((fv Po b5 0).toInt ≠ 0 ∧ (fv Po b5 1).toInt ≤ t2.toInt))) ∨ (x13.toInt = 1 ∧ 0 ≤ t2.toInt ∧ t2.toInt + 1 ≤ (fv Po b5 1).toInt ∧ (((fv Po b5 0).toInt = 0 ∧ t2.toInt < (fv Po b5 1).toInt - 1) ∨ ((fv Po b5 0).toInt ≠ 0 ∧ t2.toInt < (fv Po b5 1).toInt)))) := g14
    have g16 := ti_full (fv Po b5 0)
    have g17 : (0 : Int) ≤ (fv Po b5 1).toInt ∧ (fv Po b5 1).toInt ≤ 8 := Typ.rng hT q6 (by decide) (by decide) rfl
    show MEvP _ none q_60 18 [(3, .ref b5), (0, .ref 0), (1, .int t1), (2, .int t2)] [.int x13] _ _ _ _
    refine mp_Tb (t := 25) (j_if_ne dX6_crease_18) (by decide) (fun c18 => ?_) (fun c18 => mpp 21 rfl ?_)
    · have c18 : x13.toInt ≠ 0 := ti_ne c18
      refine mp_a (a_aload_n dX6_crease_25 rfl) (mpp 26 rfl ?_)
      refine mt_getE (i := 108) (k := 4) hT dX6_crease_26 rfl q6 (by decide) rfl (by decide) rfl (hX.1 b5 (Or.inr q6)).2 (fun q19 => mpp 29 rfl ?_)
      refine mp_a (a_iload_n dX6_crease_29 rfl) (mpp 30 rfl ?_)
      refine mp_calls (i := 112) (q' := q_12) (As := [.ref (b5 + 2), .int t2]) (rest := []) dX6_crease_30 rfl qm_12 (by decide) rfl (Nat.le_of_ble_eq_true rfl) rfl ⟨rfl, rfl⟩ ⟨Nat.le_of_ble_eq_true rfl, Nat.le_of_ble_eq_true rfl⟩ (EvP.mono (by decide) (c_F_at_creases hT hX q19)) (fun r20 P21 g22 => mpp 33 rfl ?_)
      obtain ⟨⟨x23, rfl, g24⟩, e25⟩ := g22
      have e25 := e25.symm
      subst e25
      have wx23 := ti_full x23
      show MEvP _ none q_60 33 [(3, .ref b5), (0, .ref 0), (1, .int t1), (2, .int t2)] [.int x23] _ _ _ _
      exact mp_iret ⟨⟨_, rfl, trivial⟩, rfl⟩ dX6_crease_33 (Or.inl rfl)
    · have c18 : x13.toInt = 0 := ti_ne_n c18
      refine mp_a (a_sipush (v := -1001) dX6_crease_21 rfl) (mpp 24 rfl ?_)
      exact mp_iret ⟨⟨_, rfl, trivial⟩, rfl⟩ dX6_crease_24 (Or.inl rfl)

set_option maxHeartbeats 4000000 in
theorem c_F_why {Po : mP} {t1 : Int32} (hT : Typ Po) (hX : XR Po)   : EvP 5 61 [.ref 0, .int t1] Po (fun r P' => (∃ x : Int32, r = some (.int x) ∧ (True)) ∧ Typ P' ∧ KW [640, 641, 704, 768] Po P' ∧ True) := by
  refine EvP.of qm_61 (Nat.le_of_ble_eq_true rfl) rfl ?_
  show MEvP _ none q_61 0 [(0, .ref 0), (1, .int t1)] [] _ 0 0 _
  refine mp_a (a_aload_n dX6_why_0 rfl) (mpp 1 rfl ?_)
  refine mt_getU (i := 10) (k := 0) (A := 1) hT dX6_why_1 rfl rl_0 (by decide) rfl (by decide) rfl un_31 (mpp 4 rfl ?_)
  refine mp_a (a_iload_n dX6_why_4 rfl) (mpp 5 rfl ?_)
  refine mt_callv (i := 94) (q' := q_9) (As := [.int t1]) (rest := []) hT dX6_why_5 rfl qm_9 (by decide) rfl rl_1 (by decide) rfl (Nat.le_of_ble_eq_true rfl) rfl ⟨rfl, rfl⟩ ⟨Nat.le_of_ble_eq_true rfl, Nat.le_of_ble_eq_true rfl⟩ (EvP.mono (by decide) (c_CS_pieceAt_NState hT hX )) (fun r1 P2 g3 => mpp 8 rfl ?_)
  obtain ⟨g3, e4⟩ := g3
  have e4 := e4.symm
  subst e4
  rcases g3 with ⟨rfl, q6n⟩ | ⟨b5, rfl, q6, q6r⟩
  · show MEvP _ none q_61 8 [(0, .ref 0), (1, .int t1)] [.null] _ _ _ _
    have q6n : t1.toInt < 0 ∨ (fv Po 1 1).toInt ≤ t1.toInt ∨ 8 ≤ t1.toInt := q6n
    have g7 : (0 : Int) ≤ (fv Po 1 1).toInt ∧ (fv Po 1 1).toInt ≤ 8 := Typ.rng hT rl_1 (by decide) (by decide) rfl
    refine mp_a (a_astore_nN (L' := [(2, .null), (0, .ref 0), (1, .int t1)]) dX6_why_8 (by decide) rfl) (mpp 9 rfl ?_)
    refine mp_a (a_aload_nN dX6_why_9 rfl) (mpp 10 rfl ?_)
    refine mp_t (s_ifnonnullN dX6_why_10) (mpp 13 rfl ?_)
    refine mp_a (a_sipush (v := -1001) dX6_why_13 rfl) (mpp 16 rfl ?_)
    refine mp_a (a_goto (t := 27) dX6_why_16 (by decide)) ?_
    exact mp_iret ⟨⟨_, rfl, trivial⟩, hT, KW.refl, trivial⟩ dX6_why_27 (Or.inl rfl)
  · show MEvP _ none q_61 8 [(0, .ref 0), (1, .int t1)] [.ref b5] _ _ _ _
    have q6r : 0 ≤ t1.toInt ∧ t1.toInt ≤ 7 ∧ t1.toInt + 1 ≤ (fv Po 1 1).toInt ∧ rv Po 2 t1.toInt.toNat = b5 := q6r
    have g8 : (0 : Int) ≤ (fv Po 1 1).toInt ∧ (fv Po 1 1).toInt ≤ 8 := Typ.rng hT rl_1 (by decide) (by decide) rfl
    have w9 := np_ar q6
    refine mp_a (a_astore_n (L' := [(2, .ref b5), (0, .ref 0), (1, .int t1)]) dX6_why_8 (by decide) rfl) (mpp 9 rfl ?_)
    refine mp_a (a_aload_n dX6_why_9 rfl) (mpp 10 rfl ?_)
    refine mp_t (s_ifnonnullR (t := 19) dX6_why_10 (by decide)) ?_
    refine mp_a (a_aload_n dX6_why_19 rfl) (mpp 20 rfl ?_)
    refine mt_getU (i := 39) (k := 5) (A := 291) hT dX6_why_20 rfl rl_0 (by decide) rfl (by decide) rfl un_10 (mpp 23 rfl ?_)
    refine mp_a (a_aload_n dX6_why_23 rfl) (mpp 24 rfl ?_)
    refine mt_callv (i := 166) (q' := q_44) (As := [.ref b5]) (rest := []) hT dX6_why_24 rfl qm_44 (by decide) rfl rl_291 (by decide) rfl (Nat.le_of_ble_eq_true rfl) rfl ⟨rfl, rfl⟩ ⟨Nat.le_of_ble_eq_true rfl, Nat.le_of_ble_eq_true rfl⟩ (EvP.mono (by decide) (c_CR_whatStandsInTheWay_Reducer_NPiece hT hX q6)) (fun r10 P11 g12 => mpp 27 rfl ?_)
    obtain ⟨⟨x13, rfl, g14⟩, hT15, k16, R17⟩ := g12
    have k18 : KW [640, 641, 704, 768] Po P11 := KW.trans KW.refl k16 rfl
    have wx13 := ti_full x13
    show MEvP _ none q_61 27 [(2, .ref b5), (0, .ref 0), (1, .int t1)] [.int x13] _ _ _ _
    exact mp_iret ⟨⟨_, rfl, trivial⟩, hT15, k18, trivial⟩ dX6_why_27 (Or.inl rfl)

set_option maxHeartbeats 4000000 in
theorem c_F_errorOfDecidedStrip_null {Po : mP}  (hT : Typ Po) (hX : XR Po)   : EvP 1 63 [.null] Po (fun r P' => (∃ x : Int32, r = some (.int x) ∧ (True)) ∧ P' = Po) := by
  refine EvP.of qm_63 (Nat.le_of_ble_eq_true rfl) rfl ?_
  show MEvP _ none q_63 0 [(0, .null)] [] _ 0 0 _
  refine mp_a (a_aload_nN dX6_errorOfDecidedStrip_0 rfl) (mpp 1 rfl ?_)
  refine mp_t (s_ifnonnullN dX6_errorOfDecidedStrip_1) (mpp 4 rfl ?_)
  refine mp_a (a_sipush (v := -1001) dX6_errorOfDecidedStrip_4 rfl) (mpp 7 rfl ?_)
  exact mp_iret ⟨⟨_, rfl, trivial⟩, rfl⟩ dX6_errorOfDecidedStrip_7 (Or.inl rfl)

