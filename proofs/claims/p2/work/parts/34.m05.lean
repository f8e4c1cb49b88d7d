/-! methods on typed pools, 5 (written by a program) -/
set_option maxHeartbeats 4000000 in
theorem c_F_join {Po : mP} {t1 : Int32} {t2 : Int32} {t3 : Int32} (hT : Typ Po) (hX : XR Po)  (hJ : Inj Po)  : EvP 5 36 [.ref 0, .int t1, .int t2, .int t3] Po (fun r P' => (∃ x : Int32, r = some (.int x) ∧ (True)) ∧ Typ P' ∧ KW [10, 11, 12, 65, 66, 67, 192, 193, 194, 256, 320, 385, 386, 1985, 2048, 2113] Po P' ∧ Inj P' ∧ True) := by
  refine EvP.of qm_36 (Nat.le_of_ble_eq_true rfl) rfl ?_
  show MEvP _ none q_36 0 [(0, .ref 0), (1, .int t1), (2, .int t2), (3, .int t3)] [] _ 0 0 _
  refine mp_a (a_aload_n dX6_join_0 rfl) (mpp 1 rfl ?_)
  refine mt_getU (i := 10) (k := 0) (A := 1) hT dX6_join_1 rfl rl_0 (by decide) rfl (by decide) rfl un_31 (mpp 4 rfl ?_)
  refine mp_a (a_iload_n dX6_join_4 rfl) (mpp 5 rfl ?_)
  refine mt_callv (i := 94) (q' := q_9) (As := [.int t1]) (rest := []) hT dX6_join_5 rfl qm_9 (by decide) rfl rl_1 (by decide) rfl (Nat.le_of_ble_eq_true rfl) rfl ⟨rfl, rfl⟩ ⟨Nat.le_of_ble_eq_true rfl, Nat.le_of_ble_eq_true rfl⟩ (EvP.mono (by decide) (c_CS_pieceAt_NState hT hX )) (fun r1 P2 g3 => mpp 8 rfl ?_)
  obtain ⟨g3, e4⟩ := g3
  have e4 := e4.symm
  subst e4
  rcases g3 with ⟨rfl, q6n⟩ | ⟨b5, rfl, q6, q6r⟩
  · show MEvP _ none q_36 8 [(0, .ref 0), (1, .int t1), (2, .int t2), (3, .int t3)] [.null] _ _ _ _
    have q6n : t1.toInt < 0 ∨ (fv Po 1 1).toInt ≤ t1.toInt ∨ 8 ≤ t1.toInt := q6n
    have g7 : (0 : Int) ≤ (fv Po 1 1).toInt ∧ (fv Po 1 1).toInt ≤ 8 := Typ.rng hT rl_1 (by decide) (by decide) rfl
    refine mp_a (a_astoreN (L' := [(4, .null), (0, .ref 0), (1, .int t1), (2, .int t2), (3, .int t3)]) dX6_join_8 (by decide) rfl) (mpp 10 rfl ?_)
    refine mp_a (a_aload_n dX6_join_10 rfl) (mpp 11 rfl ?_)
    refine mt_getU (i := 10) (k := 0) (A := 1) hT dX6_join_11 rfl rl_0 (by decide) rfl (by decide) rfl un_31 (mpp 14 rfl ?_)
    refine mp_a (a_iload_n dX6_join_14 rfl) (mpp 15 rfl ?_)
    refine mt_callv (i := 94) (q' := q_9) (As := [.int t2]) (rest := []) hT dX6_join_15 rfl qm_9 (by decide) rfl rl_1 (by decide) rfl (Nat.le_of_ble_eq_true rfl) rfl ⟨rfl, rfl⟩ ⟨Nat.le_of_ble_eq_true rfl, Nat.le_of_ble_eq_true rfl⟩ (EvP.mono (by decide) (c_CS_pieceAt_NState hT hX )) (fun r8 P9 g10 => mpp 18 rfl ?_)
    obtain ⟨g10, e11⟩ := g10
    have e11 := e11.symm
    subst e11
    rcases g10 with ⟨rfl, q13n⟩ | ⟨b12, rfl, q13, q13r⟩
    · show MEvP _ none q_36 18 [(4, .null), (0, .ref 0), (1, .int t1), (2, .int t2), (3, .int t3)] [.null] _ _ _ _
      have q13n : t2.toInt < 0 ∨ (fv Po 1 1).toInt ≤ t2.toInt ∨ 8 ≤ t2.toInt := q13n
      refine mp_a (a_astoreN (L' := [(5, .null), (4, .null), (0, .ref 0), (1, .int t1), (2, .int t2), (3, .int t3)]) dX6_join_18 (by decide) rfl) (mpp 20 rfl ?_)
      refine mp_a (a_aloadN dX6_join_20 rfl) (mpp 22 rfl ?_)
      refine mp_t (s_ifnullN (t := 35) dX6_join_22 (by decide)) ?_
      refine mp_a (a_sipush (v := -1001) dX6_join_35 rfl) (mpp 38 rfl ?_)
      exact mp_iret ⟨⟨_, rfl, trivial⟩, hT, KW.refl, hJ, trivial⟩ dX6_join_38 (Or.inl rfl)
    · show MEvP _ none q_36 18 [(4, .null), (0, .ref 0), (1, .int t1), (2, .int t2), (3, .int t3)] [.ref b12] _ _ _ _
      have q13r : 0 ≤ t2.toInt ∧ t2.toInt ≤ 7 ∧ t2.toInt + 1 ≤ (fv Po 1 1).toInt ∧ rv Po 2 t2.toInt.toNat = b12 := q13r
      have w14 := np_ar q13
      refine mp_a (a_astore (L' := [(5, .ref b12), (4, .null), (0, .ref 0), (1, .int t1), (2, .int t2), (3, .int t3)]) dX6_join_18 (by decide) rfl) (mpp 20 rfl ?_)
      refine mp_a (a_aloadN dX6_join_20 rfl) (mpp 22 rfl ?_)
      refine mp_t (s_ifnullN (t := 35) dX6_join_22 (by decide)) ?_
      refine mp_a (a_sipush (v := -1001) dX6_join_35 rfl) (mpp 38 rfl ?_)
      exact mp_iret ⟨⟨_, rfl, trivial⟩, hT, KW.refl, hJ, trivial⟩ dX6_join_38 (Or.inl rfl)
  · show MEvP _ none q_36 8 [(0, .ref 0), (1, .int t1), (2, .int t2), (3, .int t3)] [.ref b5] _ _ _ _
    have q6r : 0 ≤ t1.toInt ∧ t1.toInt ≤ 7 ∧ t1.toInt + 1 ≤ (fv Po 1 1).toInt ∧ rv Po 2 t1.toInt.toNat = b5 := q6r
    have g15 : (0 : Int) ≤ (fv Po 1 1).toInt ∧ (fv Po 1 1).toInt ≤ 8 := Typ.rng hT rl_1 (by decide) (by decide) rfl
    have w16 := np_ar q6
    refine mp_a (a_astore (L' := [(4, .ref b5), (0, .ref 0), (1, .int t1), (2, .int t2), (3, .int t3)]) dX6_join_8 (by decide) rfl) (mpp 10 rfl ?_)
    refine mp_a (a_aload_n dX6_join_10 rfl) (mpp 11 rfl ?_)
    refine mt_getU (i := 10) (k := 0) (A := 1) hT dX6_join_11 rfl rl_0 (by decide) rfl (by decide) rfl un_31 (mpp 14 rfl ?_)
    refine mp_a (a_iload_n dX6_join_14 rfl) (mpp 15 rfl ?_)
    refine mt_callv (i := 94) (q' := q_9) (As := [.int t2]) (rest := []) hT dX6_join_15 rfl qm_9 (by decide) rfl rl_1 (by decide) rfl (Nat.le_of_ble_eq_true rfl) rfl ⟨rfl, rfl⟩ ⟨Nat.le_of_ble_eq_true rfl, Nat.le_of_ble_eq_true rfl⟩ (EvP.mono (by decide) (c_CS_pieceAt_NState hT hX )) (fun r17 P18 g19 => mpp 18 rfl ?_)
    obtain ⟨g19, e20⟩ := g19
    have e20 := e20.symm
    subst e20
    rcases g19 with ⟨rfl, q22n⟩ | ⟨b21, rfl, q22, q22r⟩
    · show MEvP _ none q_36 18 [(4, .ref b5), (0, .ref 0), (1, .int t1), (2, .int t2), (3, .int t3)] [.null] _ _ _ _
      have q22n : t2.toInt < 0 ∨ (fv Po 1 1).toInt ≤ t2.toInt ∨ 8 ≤ t2.toInt := q22n
      refine mp_a (a_astoreN (L' := [(5, .null), (4, .ref b5), (0, .ref 0), (1, .int t1), (2, .int t2), (3, .int t3)]) dX6_join_18 (by decide) rfl) (mpp 20 rfl ?_)
      refine mp_a (a_aload dX6_join_20 rfl) (mpp 22 rfl ?_)
      refine mp_t (s_ifnullR dX6_join_22) (mpp 25 rfl ?_)
      refine mp_a (a_aloadN dX6_join_25 rfl) (mpp 27 rfl ?_)
      refine mp_t (s_ifnullN (t := 35) dX6_join_27 (by decide)) ?_
      refine mp_a (a_sipush (v := -1001) dX6_join_35 rfl) (mpp 38 rfl ?_)
      exact mp_iret ⟨⟨_, rfl, trivial⟩, hT, KW.refl, hJ, trivial⟩ dX6_join_38 (Or.inl rfl)
    · show MEvP _ none q_36 18 [(4, .ref b5), (0, .ref 0), (1, .int t1), (2, .int t2), (3, .int t3)] [.ref b21] _ _ _ _
      have q22r : 0 ≤ t2.toInt ∧ t2.toInt ≤ 7 ∧ t2.toInt + 1 ≤ (fv Po 1 1).toInt ∧ rv Po 2 t2.toInt.toNat = b21 := q22r
      have w23 := np_ar q22
      refine mp_a (a_astore (L' := [(5, .ref b21), (4, .ref b5), (0, .ref 0), (1, .int t1), (2, .int t2), (3, .int t3)]) dX6_join_18 (by decide) rfl) (mpp 20 rfl ?_)
      refine mp_a (a_aload dX6_join_20 rfl) (mpp 22 rfl ?_)
      refine mp_t (s_ifnullR dX6_join_22) (mpp 25 rfl ?_)
      refine mp_a (a_aload dX6_join_25 rfl) (mpp 27 rfl ?_)
      refine mp_t (s_ifnullR dX6_join_27) (mpp 30 rfl ?_)
      refine mp_a (a_iload_n dX6_join_30 rfl) (mpp 31 rfl ?_)
      refine mp_a (a_iload_n dX6_join_31 rfl) (mpp 32 rfl ?_)
      refine mp_Tb (t := 39) (j_icmp_ne dX6_join_32) (by decide) (fun c24 => ?_) (fun c24 => mpp 35 rfl ?_)
      · have c24 : t1.toInt ≠ t2.toInt := ti_ne c24
        refine mp_a (a_iload_n dX6_join_39 rfl) (mpp 40 rfl ?_)
        refine mp_calls (i := 101) (q' := q_26) (As := [.int t3]) (rest := []) dX6_join_40 rfl qm_26 (by decide) rfl (Nat.le_of_ble_eq_true rfl) rfl ⟨rfl, rfl⟩ ⟨Nat.le_of_ble_eq_true rfl, Nat.le_of_ble_eq_true rfl⟩ (EvP.mono (by decide) (c_F_isCreaseKind hT hX )) (fun r25 P26 g27 => mpp 43 rfl ?_)
        obtain ⟨⟨x28, rfl, g29⟩, e30⟩ := g27
        have e30 := e30.symm
        subst e30
        have wx28 := ti_full x28
        have g29 : 0 ≤ x28.toInt ∧ x28.toInt ≤ 1 := g29
        show MEvP _ none q_36 43 [(5, .ref b21), (4, .ref b5), (0, .ref 0), (1, .int t1), (2, .int t2), (3, .int t3)] [.int x28] _ _ _ _
        refine mp_Tb (t := 50) (j_if_ne dX6_join_43) (by decide) (fun c31 => ?_) (fun c31 => mpp 46 rfl ?_)
        · have c31 : x28.toInt ≠ 0 := ti_ne c31
          refine mp_a (a_aload dX6_join_50 rfl) (mpp 52 rfl ?_)
          have g32 : (0 : Int) ≤ (fv Po b5 2).toInt ∧ (fv Po b5 2).toInt ≤ 1 := Typ.rng hT q6 (by decide) (by decide) rfl
          refine mt_getI (i := 104) (k := 2) hT dX6_join_52 rfl q6 (by decide) rfl (by decide) rfl (fun g33 g34 => mpp 55 rfl ?_)
          refine mp_Tb (t := 66) (j_if_ne dX6_join_55) (by decide) (fun c35 => ?_) (fun c35 => mpp 58 rfl ?_)
          · have c35 : (fv Po b5 2).toInt ≠ 0 := ti_ne c35
            refine mp_a (a_aload_n dX6_join_66 rfl) (mpp 67 rfl ?_)
            refine mp_a (a_iconst (v := 2) dX6_join_67 rfl) (mpp 68 rfl ?_)
            refine mp_a (a_aload dX6_join_68 rfl) (mpp 70 rfl ?_)
            refine mt_getI (i := 104) (k := 2) hT dX6_join_70 rfl q6 (by decide) rfl (by decide) rfl (fun g36 g37 => mpp 73 rfl ?_)
            refine mp_Tb (t := 80) (j_if_eq dX6_join_73) (by decide) (fun c38 => ?_) (fun c38 => mpp 76 rfl ?_)
            · have c38 : (fv Po b5 2).toInt = 0 := ti_eq c38
              refine mp_a (a_iload_n dX6_join_80 rfl) (mpp 81 rfl ?_)
              refine mt_callv (i := 68) (q' := q_14) (As := [.int 2, .int t2]) (rest := []) hT dX6_join_81 rfl qm_14 (by decide) rfl rl_0 (by decide) rfl (Nat.le_of_ble_eq_true rfl) rfl ⟨rfl, rfl⟩ ⟨Nat.le_of_ble_eq_true rfl, Nat.le_of_ble_eq_true rfl⟩ (EvP.mono (by decide) (c_F_refuse hT hX )) (fun r39 P40 g41 => mpp 84 rfl ?_)
              obtain ⟨⟨x42, rfl, g43⟩, hT44, k45, R46⟩ := g41
              have k47 : KW [10, 11, 12, 65, 66, 67, 192, 193, 194, 256, 320, 385, 386, 1985, 2048, 2113] Po P40 := KW.trans KW.refl k45 rfl
              have J49 := Inj.kw hJ k45 rfl
              have wx42 := ti_full x42
              show MEvP _ none q_36 84 [(5, .ref b21), (4, .ref b5), (0, .ref 0), (1, .int t1), (2, .int t2), (3, .int t3)] [.int x42] _ _ _ _
              exact mp_iret ⟨⟨_, rfl, trivial⟩, hT44, k47, J49, trivial⟩ dX6_join_84 (Or.inl rfl)
            · have c38 : (fv Po b5 2).toInt ≠ 0 := ti_eq_n c38
              refine mp_a (a_iload_n dX6_join_76 rfl) (mpp 77 rfl ?_)
              refine mp_a (a_goto (t := 81) dX6_join_77 (by decide)) ?_
              refine mt_callv (i := 68) (q' := q_14) (As := [.int 2, .int t1]) (rest := []) hT dX6_join_81 rfl qm_14 (by decide) rfl rl_0 (by decide) rfl (Nat.le_of_ble_eq_true rfl) rfl ⟨rfl, rfl⟩ ⟨Nat.le_of_ble_eq_true rfl, Nat.le_of_ble_eq_true rfl⟩ (EvP.mono (by decide) (c_F_refuse hT hX )) (fun r50 P51 g52 => mpp 84 rfl ?_)
              obtain ⟨⟨x53, rfl, g54⟩, hT55, k56, R57⟩ := g52
              have k58 : KW [10, 11, 12, 65, 66, 67, 192, 193, 194, 256, 320, 385, 386, 1985, 2048, 2113] Po P51 := KW.trans KW.refl k56 rfl
              have J60 := Inj.kw hJ k56 rfl
              have wx53 := ti_full x53
              show MEvP _ none q_36 84 [(5, .ref b21), (4, .ref b5), (0, .ref 0), (1, .int t1), (2, .int t2), (3, .int t3)] [.int x53] _ _ _ _
              exact mp_iret ⟨⟨_, rfl, trivial⟩, hT55, k58, J60, trivial⟩ dX6_join_84 (Or.inl rfl)
          · have c35 : (fv Po b5 2).toInt = 0 := ti_ne_n c35
            refine mp_a (a_aload dX6_join_58 rfl) (mpp 60 rfl ?_)
            have g61 : (0 : Int) ≤ (fv Po b21 2).toInt ∧ (fv Po b21 2).toInt ≤ 1 := Typ.rng hT q22 (by decide) (by decide) rfl
            refine mt_getI (i := 104) (k := 2) hT dX6_join_60 rfl q22 (by decide) rfl (by decide) rfl (fun g62 g63 => mpp 63 rfl ?_)
            refine mp_Tb (t := 85) (j_if_eq dX6_join_63) (by decide) (fun c64 => ?_) (fun c64 => mpp 66 rfl ?_)
            · have c64 : (fv Po b21 2).toInt = 0 := ti_eq c64
              refine mp_a (a_aload dX6_join_85 rfl) (mpp 87 rfl ?_)
              have g65 := ti_full (fv Po b5 0)
              refine mt_getI (i := 130) (k := 0) hT dX6_join_87 rfl q6 (by decide) rfl (by decide) rfl (fun g66 g67 => mpp 90 rfl ?_)
              refine mp_Tb (t := 101) (j_if_ne dX6_join_90) (by decide) (fun c68 => ?_) (fun c68 => mpp 93 rfl ?_)
              · have c68 : (fv Po b5 0).toInt ≠ 0 := ti_ne c68
                refine mp_a (a_aload_n dX6_join_101 rfl) (mpp 102 rfl ?_)
                refine mp_a (a_iconst (v := 3) dX6_join_102 rfl) (mpp 103 rfl ?_)
                refine mp_a (a_aload dX6_join_103 rfl) (mpp 105 rfl ?_)
                refine mt_getI (i := 130) (k := 0) hT dX6_join_105 rfl q6 (by decide) rfl (by decide) rfl (fun g69 g70 => mpp 108 rfl ?_)
                refine mp_Tb (t := 115) (j_if_eq dX6_join_108) (by decide) (fun c71 => ?_) (fun c71 => mpp 111 rfl ?_)
                · have c71 : (fv Po b5 0).toInt = 0 := ti_eq c71
                  refine mp_a (a_iload_n dX6_join_115 rfl) (mpp 116 rfl ?_)
                  refine mt_callv (i := 68) (q' := q_14) (As := [.int 3, .int t2]) (rest := []) hT dX6_join_116 rfl qm_14 (by decide) rfl rl_0 (by decide) rfl (Nat.le_of_ble_eq_true rfl) rfl ⟨rfl, rfl⟩ ⟨Nat.le_of_ble_eq_true rfl, Nat.le_of_ble_eq_true rfl⟩ (EvP.mono (by decide) (c_F_refuse hT hX )) (fun r72 P73 g74 => mpp 119 rfl ?_)
                  obtain ⟨⟨x75, rfl, g76⟩, hT77, k78, R79⟩ := g74
                  have k80 : KW [10, 11, 12, 65, 66, 67, 192, 193, 194, 256, 320, 385, 386, 1985, 2048, 2113] Po P73 := KW.trans KW.refl k78 rfl
                  have J82 := Inj.kw hJ k78 rfl
                  have wx75 := ti_full x75
                  show MEvP _ none q_36 119 [(5, .ref b21), (4, .ref b5), (0, .ref 0), (1, .int t1), (2, .int t2), (3, .int t3)] [.int x75] _ _ _ _
                  exact mp_iret ⟨⟨_, rfl, trivial⟩, hT77, k80, J82, trivial⟩ dX6_join_119 (Or.inl rfl)
                · have c71 : (fv Po b5 0).toInt ≠ 0 := ti_eq_n c71
                  refine mp_a (a_iload_n dX6_join_111 rfl) (mpp 112 rfl ?_)
                  refine mp_a (a_goto (t := 116) dX6_join_112 (by decide)) ?_
                  refine mt_callv (i := 68) (q' := q_14) (As := [.int 3, .int t1]) (rest := []) hT dX6_join_116 rfl qm_14 (by decide) rfl rl_0 (by decide) rfl (Nat.le_of_ble_eq_true rfl) rfl ⟨rfl, rfl⟩ ⟨Nat.le_of_ble_eq_true rfl, Nat.le_of_ble_eq_true rfl⟩ (EvP.mono (by decide) (c_F_refuse hT hX )) (fun r83 P84 g85 => mpp 119 rfl ?_)
                  obtain ⟨⟨x86, rfl, g87⟩, hT88, k89, R90⟩ := g85
                  have k91 : KW [10, 11, 12, 65, 66, 67, 192, 193, 194, 256, 320, 385, 386, 1985, 2048, 2113] Po P84 := KW.trans KW.refl k89 rfl
                  have J93 := Inj.kw hJ k89 rfl
                  have wx86 := ti_full x86
                  show MEvP _ none q_36 119 [(5, .ref b21), (4, .ref b5), (0, .ref 0), (1, .int t1), (2, .int t2), (3, .int t3)] [.int x86] _ _ _ _
                  exact mp_iret ⟨⟨_, rfl, trivial⟩, hT88, k91, J93, trivial⟩ dX6_join_119 (Or.inl rfl)
              · have c68 : (fv Po b5 0).toInt = 0 := ti_ne_n c68
                refine mp_a (a_aload dX6_join_93 rfl) (mpp 95 rfl ?_)
                have g94 := ti_full (fv Po b21 0)
                refine mt_getI (i := 130) (k := 0) hT dX6_join_95 rfl q22 (by decide) rfl (by decide) rfl (fun g95 g96 => mpp 98 rfl ?_)
                refine mp_Tb (t := 120) (j_if_eq dX6_join_98) (by decide) (fun c97 => ?_) (fun c97 => mpp 101 rfl ?_)
                · have c97 : (fv Po b21 0).toInt = 0 := ti_eq c97
                  refine mp_a (a_aload dX6_join_120 rfl) (mpp 122 rfl ?_)
                  have g98 : (0 : Int) ≤ (fv Po b5 1).toInt ∧ (fv Po b5 1).toInt ≤ 8 := Typ.rng hT q6 (by decide) (by decide) rfl
                  refine mt_getI (i := 143) (k := 1) hT dX6_join_122 rfl q6 (by decide) rfl (by decide) rfl (fun g99 g100 => mpp 125 rfl ?_)
                  refine mp_a (a_aload dX6_join_125 rfl) (mpp 127 rfl ?_)
                  have g101 : (0 : Int) ≤ (fv Po b21 1).toInt ∧ (fv Po b21 1).toInt ≤ 8 := Typ.rng hT q22 (by decide) (by decide) rfl
                  refine mt_getI (i := 143) (k := 1) hT dX6_join_127 rfl q22 (by decide) rfl (by decide) rfl (fun g102 g103 => mpp 130 rfl ?_)
                  obtain ⟨z104, h105⟩ := ti_ex ((fv Po b5 1) + (fv Po b21 1) : Int32)
                  have wz104 := ti_full z104
                  refine mp_t (s_iadd (v := z104) dX6_join_130 h105) (mpp 131 rfl ?_)
                  try have e106 : z104.toInt = (fv Po b5 1).toInt + (fv Po b21 1).toInt := ti_addz h105 rfl rfl (by omega) (by omega)
                  refine mp_a (a_istore (L' := [(6, .int z104), (5, .ref b21), (4, .ref b5), (0, .ref 0), (1, .int t1), (2, .int t2), (3, .int t3)]) dX6_join_131 (by decide) rfl) (mpp 133 rfl ?_)
                  refine mp_a (a_iload dX6_join_133 rfl) (mpp 135 rfl ?_)
                  refine mp_a (a_bipush (v := 7) dX6_join_135 rfl) (mpp 137 rfl ?_)
                  refine mp_Tb (t := 149) (j_icmp_le dX6_join_137) (by decide) (fun c107 => ?_) (fun c107 => mpp 140 rfl ?_)
                  · have c107 : z104.toInt ≤ 7 := ti_le c107
                    refine mp_a (a_aload_n dX6_join_149 rfl) (mpp 150 rfl ?_)
                    refine mt_getU (i := 25) (k := 3) (A := 79) hT dX6_join_150 rfl rl_0 (by decide) rfl (by decide) rfl un_6 (mpp 153 rfl ?_)
                    refine mp_a (a_aload_n dX6_join_153 rfl) (mpp 154 rfl ?_)
                    refine mt_getU (i := 10) (k := 0) (A := 1) hT dX6_join_154 rfl rl_0 (by decide) rfl (by decide) rfl un_31 (mpp 157 rfl ?_)
                    refine mt_callv (i := 72) (q' := q_15) (As := [.ref 1]) (rest := []) hT dX6_join_157 rfl qm_15 (by decide) rfl rl_79 (by decide) rfl (Nat.le_of_ble_eq_true rfl) rfl ⟨rfl, rfl⟩ ⟨Nat.le_of_ble_eq_true rfl, Nat.le_of_ble_eq_true rfl⟩ (EvP.mono (by decide) (c_CH_push_History_NState hT hX hJ )) (fun r108 P109 g110 => mpp 160 rfl ?_)
                    obtain ⟨⟨rfl, g112⟩, hT113, k114, J117, R115⟩ := g110
                    have k116 : KW [10, 11, 12, 65, 66, 67, 192, 193, 194, 256, 320, 385, 386, 1985, 2048, 2113] Po P109 := KW.trans KW.refl k114 rfl
                    show MEvP _ none q_36 160 [(6, .int z104), (5, .ref b21), (4, .ref b5), (0, .ref 0), (1, .int t1), (2, .int t2), (3, .int t3)] [] _ _ _ _
                    refine mp_a (a_aload dX6_join_160 rfl) (mpp 162 rfl ?_)
                    refine mp_a (a_aload dX6_join_162 rfl) (mpp 164 rfl ?_)
                    refine mp_a (a_iload_n dX6_join_164 rfl) (mpp 165 rfl ?_)
                    have e118 : (fv P109 b5 1).toInt = (fv Po b5 1).toInt := congrArg Int32.toInt (KW.at k114 1 q6 rfl)
                    have e119 : (fv P109 b21 1).toInt = (fv Po b21 1).toInt := congrArg Int32.toInt (KW.at k114 1 q22 rfl)
                    have p120 : (fv P109 b5 1).toInt + (fv P109 b21 1).toInt ≤ 8 := by omega
                    refine mt_callv (i := 144) (q' := q_37) (As := [.ref b21, .int t3]) (rest := []) hT113 dX6_join_165 rfl qm_37 (by decide) rfl q6 (by decide) rfl (Nat.le_of_ble_eq_true rfl) rfl ⟨rfl, rfl⟩ ⟨Nat.le_of_ble_eq_true rfl, Nat.le_of_ble_eq_true rfl⟩ (EvP.mono (by decide) (c_CP_lengthenBy_NPiece_NPiece hT113 (KW.xr k116 hX) p120 q6 q22)) (fun r121 P122 g123 => mpp 168 rfl ?_)
                    obtain ⟨⟨rfl, g125⟩, hT126, k127, R128⟩ := g123
                    have k129 : KW [10, 11, 12, 65, 66, 67, 192, 193, 194, 256, 320, 385, 386, 1985, 2048, 2113] Po P122 := KW.trans k116 k127 rfl
                    have J131 := Inj.kw J117 k127 rfl
                    show MEvP _ none q_36 168 [(6, .int z104), (5, .ref b21), (4, .ref b5), (0, .ref 0), (1, .int t1), (2, .int t2), (3, .int t3)] [] _ _ _ _
                    refine mp_a (a_aload_n dX6_join_168 rfl) (mpp 169 rfl ?_)
                    refine mt_getU (i := 10) (k := 0) (A := 1) hT126 dX6_join_169 rfl rl_0 (by decide) rfl (by decide) rfl un_31 (mpp 172 rfl ?_)
                    refine mp_a (a_iload_n dX6_join_172 rfl) (mpp 173 rfl ?_)
                    refine mt_callv (i := 147) (q' := q_38) (As := [.int t2]) (rest := []) hT126 dX6_join_173 rfl qm_38 (by decide) rfl rl_1 (by decide) rfl (Nat.le_of_ble_eq_true rfl) rfl ⟨rfl, rfl⟩ ⟨Nat.le_of_ble_eq_true rfl, Nat.le_of_ble_eq_true rfl⟩ (EvP.mono (by decide) (c_CS_removeAt_NState hT126 (KW.xr k129 hX) J131 )) (fun r132 P133 g134 => mpp 176 rfl ?_)
                    obtain ⟨⟨rfl, g136⟩, hT137, k138, J141, R139⟩ := g134
                    have k140 : KW [10, 11, 12, 65, 66, 67, 192, 193, 194, 256, 320, 385, 386, 1985, 2048, 2113] Po P133 := KW.trans k129 k138 rfl
                    show MEvP _ none q_36 176 [(6, .int z104), (5, .ref b21), (4, .ref b5), (0, .ref 0), (1, .int t1), (2, .int t2), (3, .int t3)] [] _ _ _ _
                    refine mp_a (a_iload dX6_join_176 rfl) (mpp 178 rfl ?_)
                    exact mp_iret ⟨⟨_, rfl, trivial⟩, hT137, k140, J141, trivial⟩ dX6_join_178 (Or.inl rfl)
                  · have c107 : z104.toInt > 7 := ti_le_n c107
                    refine mp_a (a_aload_n dX6_join_140 rfl) (mpp 141 rfl ?_)
                    refine mp_a (a_bipush (v := 6) dX6_join_141 rfl) (mpp 143 rfl ?_)
                    refine mp_a (a_iload dX6_join_143 rfl) (mpp 145 rfl ?_)
                    refine mt_callv (i := 68) (q' := q_14) (As := [.int 6, .int z104]) (rest := []) hT dX6_join_145 rfl qm_14 (by decide) rfl rl_0 (by decide) rfl (Nat.le_of_ble_eq_true rfl) rfl ⟨rfl, rfl⟩ ⟨Nat.le_of_ble_eq_true rfl, Nat.le_of_ble_eq_true rfl⟩ (EvP.mono (by decide) (c_F_refuse hT hX )) (fun r142 P143 g144 => mpp 148 rfl ?_)
                    obtain ⟨⟨x145, rfl, g146⟩, hT147, k148, R149⟩ := g144
                    have k150 : KW [10, 11, 12, 65, 66, 67, 192, 193, 194, 256, 320, 385, 386, 1985, 2048, 2113] Po P143 := KW.trans KW.refl k148 rfl
                    have J152 := Inj.kw hJ k148 rfl
                    have wx145 := ti_full x145
                    show MEvP _ none q_36 148 [(6, .int z104), (5, .ref b21), (4, .ref b5), (0, .ref 0), (1, .int t1), (2, .int t2), (3, .int t3)] [.int x145] _ _ _ _
                    exact mp_iret ⟨⟨_, rfl, trivial⟩, hT147, k150, J152, trivial⟩ dX6_join_148 (Or.inl rfl)
                · have c97 : (fv Po b21 0).toInt ≠ 0 := ti_eq_n c97
                  refine mp_a (a_aload_n dX6_join_101 rfl) (mpp 102 rfl ?_)
                  refine mp_a (a_iconst (v := 3) dX6_join_102 rfl) (mpp 103 rfl ?_)
                  refine mp_a (a_aload dX6_join_103 rfl) (mpp 105 rfl ?_)
                  refine mt_getI (i := 130) (k := 0) hT dX6_join_105 rfl q6 (by decide) rfl (by decide) rfl (fun g153 g154 => mpp 108 rfl ?_)
                  refine mp_Tb (t := 115) (j_if_eq dX6_join_108) (by decide) (fun c155 => ?_) (fun c155 => mpp 111 rfl ?_)
                  · have c155 : (fv Po b5 0).toInt = 0 := ti_eq c155
                    refine mp_a (a_iload_n dX6_join_115 rfl) (mpp 116 rfl ?_)
                    refine mt_callv (i := 68) (q' := q_14) (As := [.int 3, .int t2]) (rest := []) hT dX6_join_116 rfl qm_14 (by decide) rfl rl_0 (by decide) rfl (Nat.le_of_ble_eq_true rfl) rfl ⟨rfl, rfl⟩ ⟨Nat.le_of_ble_eq_true rfl, Nat.le_of_ble_eq_true rfl⟩ (EvP.mono (by decide) (c_F_refuse hT hX )) (fun r156 P157 g158 => mpp 119 rfl ?_)
                    obtain ⟨⟨x159, rfl, g160⟩, hT161, k162, R163⟩ := g158
                    have k164 : KW [10, 11, 12, 65, 66, 67, 192, 193, 194, 256, 320, 385, 386, 1985, 2048, 2113] Po P157 := KW.trans KW.refl k162 rfl
                    have J166 := Inj.kw hJ k162 rfl
                    have wx159 := ti_full x159
                    show MEvP _ none q_36 119 [(5, .ref b21), (4, .ref b5), (0, .ref 0), (1, .int t1), (2, .int t2), (3, .int t3)] [.int x159] _ _ _ _
                    exact mp_iret ⟨⟨_, rfl, trivial⟩, hT161, k164, J166, trivial⟩ dX6_join_119 (Or.inl rfl)
                  · have c155 : (fv Po b5 0).toInt ≠ 0 := ti_eq_n c155
                    refine mp_a (a_iload_n dX6_join_111 rfl) (mpp 112 rfl ?_)
                    refine mp_a (a_goto (t := 116) dX6_join_112 (by decide)) ?_
                    refine mt_callv (i := 68) (q' := q_14) (As := [.int 3, .int t1]) (rest := []) hT dX6_join_116 rfl qm_14 (by decide) rfl rl_0 (by decide) rfl (Nat.le_of_ble_eq_true rfl) rfl ⟨rfl, rfl⟩ ⟨Nat.le_of_ble_eq_true rfl, Nat.le_of_ble_eq_true rfl⟩ (EvP.mono (by decide) (c_F_refuse hT hX )) (fun r167 P168 g169 => mpp 119 rfl ?_)
                    obtain ⟨⟨x170, rfl, g171⟩, hT172, k173, R174⟩ := g169
                    have k175 : KW [10, 11, 12, 65, 66, 67, 192, 193, 194, 256, 320, 385, 386, 1985, 2048, 2113] Po P168 := KW.trans KW.refl k173 rfl
                    have J177 := Inj.kw hJ k173 rfl
                    have wx170 := ti_full x170
                    show MEvP _ none q_36 119 [(5, .ref b21), (4, .ref b5), (0, .ref 0), (1, .int t1), (2, .int t2), (3, .int t3)] [.int x170] _ _ _ _
                    exact mp_iret ⟨⟨_, rfl, trivial⟩, hT172, k175, J177, trivial⟩ dX6_join_119 (Or.inl rfl)
            · have c64 : (fv Po b21 2).toInt ≠ 0 := ti_eq_n c64
              refine mp_a (a_aload_n dX6_join_66 rfl) (mpp 67 rfl ?_)
              refine mp_a (a_iconst (v := 2) dX6_join_67 rfl) (mpp 68 rfl ?_)
              refine mp_a (a_aload dX6_join_68 rfl) (mpp 70 rfl ?_)
              refine mt_getI (i := 104) (k := 2) hT dX6_join_70 rfl q6 (by decide) rfl (by decide) rfl (fun g178 g179 => mpp 73 rfl ?_)
              refine mp_Tb (t := 80) (j_if_eq dX6_join_73) (by decide) (fun c180 => ?_) (fun c180 => mpp 76 rfl ?_)
              · have c180 : (fv Po b5 2).toInt = 0 := ti_eq c180
                refine mp_a (a_iload_n dX6_join_80 rfl) (mpp 81 rfl ?_)
                refine mt_callv (i := 68) (q' := q_14) (As := [.int 2, .int t2]) (rest := []) hT dX6_join_81 rfl qm_14 (by decide) rfl rl_0 (by decide) rfl (Nat.le_of_ble_eq_true rfl) rfl ⟨rfl, rfl⟩ ⟨Nat.le_of_ble_eq_true rfl, Nat.le_of_ble_eq_true rfl⟩ (EvP.mono (by decide) (c_F_refuse hT hX )) (fun r181 P182 g183 => mpp 84 rfl ?_)
                obtain ⟨⟨x184, rfl, g185⟩, hT186, k187, R188⟩ := g183
                have k189 : KW [10, 11, 12, 65, 66, 67, 192, 193, 194, 256, 320, 385, 386, 1985, 2048, 2113] Po P182 := KW.trans KW.refl k187 rfl
                have J191 := Inj.kw hJ k187 rfl
                have wx184 := ti_full x184
                show MEvP _ none q_36 84 [(5, .ref b21), (4, .ref b5), (0, .ref 0), (1, .int t1), (2, .int t2), (3, .int t3)] [.int x184] _ _ _ _
                exact mp_iret ⟨⟨_, rfl, trivial⟩, hT186, k189, J191, trivial⟩ dX6_join_84 (Or.inl rfl)
              · have c180 : (fv Po b5 2).toInt ≠ 0 := ti_eq_n c180
                refine mp_a (a_iload_n dX6_join_76 rfl) (mpp 77 rfl ?_)
                refine mp_a (a_goto (t := 81) dX6_join_77 (by decide)) ?_
                refine mt_callv (i := 68) (q' := q_14) (As := [.int 2, .int t1]) (rest := []) hT dX6_join_81 rfl qm_14 (by decide) rfl rl_0 (by decide) rfl (Nat.le_of_ble_eq_true rfl) rfl ⟨rfl, rfl⟩ ⟨Nat.le_of_ble_eq_true rfl, Nat.le_of_ble_eq_true rfl⟩ (EvP.mono (by decide) (c_F_refuse hT hX )) (fun r192 P193 g194 => mpp 84 rfl ?_)
                obtain ⟨⟨x195, rfl, g196⟩, hT197, k198, R199⟩ := g194
                have k200 : KW [10, 11, 12, 65, 66, 67, 192, 193, 194, 256, 320, 385, 386, 1985, 2048, 2113] Po P193 := KW.trans KW.refl k198 rfl
                have J202 := Inj.kw hJ k198 rfl
                have wx195 := ti_full x195
                show MEvP _ none q_36 84 [(5, .ref b21), (4, .ref b5), (0, .ref 0), (1, .int t1), (2, .int t2), (3, .int t3)] [.int x195] _ _ _ _
                exact mp_iret ⟨⟨_, rfl, trivial⟩, hT197, k200, J202, trivial⟩ dX6_join_84 (Or.inl rfl)
        · have c31 : x28.toInt = 0 := ti_ne_n c31
          refine mp_a (a_sipush (v := -1002) dX6_join_46 rfl) (mpp 49 rfl ?_)
          exact mp_iret ⟨⟨_, rfl, trivial⟩, hT, KW.refl, hJ, trivial⟩ dX6_join_49 (Or.inl rfl)
      · have c24 : t1.toInt = t2.toInt := ti_ne_n c24
        refine mp_a (a_sipush (v := -1001) dX6_join_35 rfl) (mpp 38 rfl ?_)
        exact mp_iret ⟨⟨_, rfl, trivial⟩, hT, KW.refl, hJ, trivial⟩ dX6_join_38 (Or.inl rfl)

set_option maxHeartbeats 4000000 in
theorem c_CP_becomeEndOf_Piece_NPiece_l22 {Po : mP} {a0_ : Nat} {a1_ : Nat} {t2 : Int32} (hTo : Typ Po) (hX : XR Po) (hp0 : 0 ≤ t2.toInt) (hp1 : t2.toInt ≤ (fv Po a1_ 1).toInt) (ha0 : rl a0_ = 3) (ha1 : rl a1_ = 33) : ∀ (n : Nat) (v3 : Int32), ∀ (P : mP), Typ P → KW [192, 193, 194, 256, 320] Po P → (0 ≤ v3.toInt) → (2147483647 - v3.toInt).toNat = n → MEvP 1 none q_40 22 [(0, .ref a0_), (1, .ref a1_), (2, .int t2), (3, .int v3)] [] P 0 0 (fun r P' => (r = none ∧ (True)) ∧ Typ P' ∧ KW [192, 193, 194, 256, 320] Po P' ∧ True) := by
  intro n
  induction n using Nat.strongRecOn with | _ n ih => ?_
  intro v3 P hT hK i_0 hm
  have w1 := pc_ar ha0
  have w2 := np_ar ha1
  have w_t2 := ti_full t2
  have w_v3 := ti_full v3
  refine mp_a (a_iload_n dX2_becomeEndOf_22 rfl) (mpp 23 rfl ?_)
  refine mp_a (a_aload_n dX2_becomeEndOf_23 rfl) (mpp 24 rfl ?_)
  have g3 : (0 : Int) ≤ (fv P a0_ 1).toInt ∧ (fv P a0_ 1).toInt ≤ 8 := Typ.rng hT ha0 (by decide) (by decide) rfl
  refine mt_getI (i := 26) (k := 1) hT dX2_becomeEndOf_24 rfl ha0 (by decide) rfl (by decide) rfl (fun g4 g5 => mpp 27 rfl ?_)
  refine mp_Tb (t := 72) (j_icmp_ge dX2_becomeEndOf_27) (by decide) (fun c6 => ?_) (fun c6 => mpp 30 rfl ?_)
  · have c6 : v3.toInt ≥ (fv P a0_ 1).toInt := ti_ge c6
    exact mp_ret ⟨⟨rfl, trivial⟩, hT, hK, trivial⟩ dX2_becomeEndOf_72 rfl
  · have c6 : v3.toInt < (fv P a0_ 1).toInt := ti_ge_n c6
    refine mp_a (a_aload_n dX2_becomeEndOf_30 rfl) (mpp 31 rfl ?_)
    refine mt_getE (i := 9) (k := 3) hT dX2_becomeEndOf_31 rfl ha0 (by decide) rfl (by decide) rfl ((KW.xr hK hX).1 a0_ (Or.inl ha0)).1 (fun q7 => mpp 34 rfl ?_)
    refine mp_a (a_iload_n dX2_becomeEndOf_34 rfl) (mpp 35 rfl ?_)
    refine mp_a (a_aload_n dX2_becomeEndOf_35 rfl) (mpp 36 rfl ?_)
    refine mt_getE (i := 9) (k := 3) hT dX2_becomeEndOf_36 rfl ha1 (by decide) rfl (by decide) rfl ((KW.xr hK hX).1 a1_ (Or.inr ha1)).1 (fun q8 => mpp 39 rfl ?_)
    refine mp_a (a_iload_n dX2_becomeEndOf_39 rfl) (mpp 40 rfl ?_)
    refine mp_a (a_iload_n dX2_becomeEndOf_40 rfl) (mpp 41 rfl ?_)
    obtain ⟨z9, h10⟩ := ti_ex (t2 + v3 : Int32)
    have wz9 := ti_full z9
    refine mp_t (s_iadd (v := z9) dX2_becomeEndOf_41 h10) (mpp 42 rfl ?_)
    try have e11 : z9.toInt = t2.toInt + v3.toInt := ti_addz h10 rfl rfl (by omega) (by omega)
    refine mp_calls (i := 48) (q' := q_12) (As := [.ref (a1_ + 1), .int z9]) (rest := [.int v3, .ref (a0_ + 1)]) dX2_becomeEndOf_42 rfl qm_12 (by decide) rfl (Nat.le_of_ble_eq_true rfl) rfl ⟨rfl, rfl⟩ ⟨Nat.le_of_ble_eq_true rfl, Nat.le_of_ble_eq_true rfl⟩ (EvP.mono (by decide) (c_F_at_sizes hT (KW.xr hK hX) q8)) (fun r12 P13 g14 => mpp 45 rfl ?_)
    obtain ⟨⟨x15, rfl, g16⟩, e17⟩ := g14
    have e17 := e17.symm
    subst e17
    have wx15 := ti_full x15
    show MEvP _ none q_40 45 [(0, .ref a0_), (1, .ref a1_), (2, .int t2), (3, .int v3)] [.int x15, .int v3, .ref (a0_ + 1)] _ _ _ _
    refine mp_calls (i := 29) (q' := q_22) (As := [.ref (a0_ + 1), .int v3, .int x15]) (rest := []) dX2_becomeEndOf_45 rfl qm_22 (by decide) rfl (Nat.le_of_ble_eq_true rfl) rfl ⟨rfl, rfl⟩ ⟨Nat.le_of_ble_eq_true rfl, Nat.le_of_ble_eq_true rfl⟩ (EvP.mono (by decide) (c_F_put_sizes hT (KW.xr hK hX) q7)) (fun r18 P19 g20 => mpp 48 rfl ?_)
    obtain ⟨⟨rfl, g22⟩, hT23, k24, R25⟩ := g20
    have k26 : KW [192, 193, 194, 256, 320] Po P19 := KW.trans hK k24 rfl
    show MEvP _ none q_40 48 [(0, .ref a0_), (1, .ref a1_), (2, .int t2), (3, .int v3)] [] _ _ _ _
    refine mp_a (a_aload_n dX2_becomeEndOf_48 rfl) (mpp 49 rfl ?_)
    refine mt_getE (i := 15) (k := 4) hT23 dX2_becomeEndOf_49 rfl ha0 (by decide) rfl (by decide) rfl ((KW.xr k26 hX).1 a0_ (Or.inl ha0)).2 (fun q28 => mpp 52 rfl ?_)
    refine mp_a (a_iload_n dX2_becomeEndOf_52 rfl) (mpp 53 rfl ?_)
    refine mp_a (a_aload_n dX2_becomeEndOf_53 rfl) (mpp 54 rfl ?_)
    refine mt_getE (i := 15) (k := 4) hT23 dX2_becomeEndOf_54 rfl ha1 (by decide) rfl (by decide) rfl ((KW.xr k26 hX).1 a1_ (Or.inr ha1)).2 (fun q29 => mpp 57 rfl ?_)
    refine mp_a (a_iload_n dX2_becomeEndOf_57 rfl) (mpp 58 rfl ?_)
    refine mp_a (a_iload_n dX2_becomeEndOf_58 rfl) (mpp 59 rfl ?_)
    obtain ⟨z30, h31⟩ := ti_ex (t2 + v3 : Int32)
    have wz30 := ti_full z30
    refine mp_t (s_iadd (v := z30) dX2_becomeEndOf_59 h31) (mpp 60 rfl ?_)
    try have e32 : z30.toInt = t2.toInt + v3.toInt := ti_addz h31 rfl rfl (by omega) (by omega)
    refine mp_calls (i := 48) (q' := q_12) (As := [.ref (a1_ + 2), .int z30]) (rest := [.int v3, .ref (a0_ + 2)]) dX2_becomeEndOf_60 rfl qm_12 (by decide) rfl (Nat.le_of_ble_eq_true rfl) rfl ⟨rfl, rfl⟩ ⟨Nat.le_of_ble_eq_true rfl, Nat.le_of_ble_eq_true rfl⟩ (EvP.mono (by decide) (c_F_at_creases hT23 (KW.xr k26 hX) q29)) (fun r33 P34 g35 => mpp 63 rfl ?_)
    obtain ⟨⟨x36, rfl, g37⟩, e38⟩ := g35
    have e38 := e38.symm
    subst e38
    have wx36 := ti_full x36
    show MEvP _ none q_40 63 [(0, .ref a0_), (1, .ref a1_), (2, .int t2), (3, .int v3)] [.int x36, .int v3, .ref (a0_ + 2)] _ _ _ _
    refine mp_calls (i := 29) (q' := q_22) (As := [.ref (a0_ + 2), .int v3, .int x36]) (rest := []) dX2_becomeEndOf_63 rfl qm_22 (by decide) rfl (Nat.le_of_ble_eq_true rfl) rfl ⟨rfl, rfl⟩ ⟨Nat.le_of_ble_eq_true rfl, Nat.le_of_ble_eq_true rfl⟩ (EvP.mono (by decide) (c_F_put_creases hT23 (KW.xr k26 hX) q28)) (fun r39 P40 g41 => mpp 66 rfl ?_)
    obtain ⟨⟨rfl, g43⟩, hT44, k45, R46⟩ := g41
    have k47 : KW [192, 193, 194, 256, 320] Po P40 := KW.trans k26 k45 rfl
    show MEvP _ none q_40 66 [(0, .ref a0_), (1, .ref a1_), (2, .int t2), (3, .int v3)] [] _ _ _ _
    obtain ⟨z49, h50⟩ := ti_ex (v3 + 1 : Int32)
    have wz49 := ti_full z49
    refine mp_a (a_iinc (v := z49) (L' := [(3, .int z49), (0, .ref a0_), (1, .ref a1_), (2, .int t2)]) dX2_becomeEndOf_66 (by decide) rfl h50 rfl) (mpp 69 rfl ?_)
    try have e51 : z49.toInt = v3.toInt + 1 := ti_addz h50 rfl rfl (by omega) (by omega)
    refine mp_a (a_goto (t := 22) dX2_becomeEndOf_69 (by decide)) ?_
    refine MEvP.less (L := [(0, .ref a0_), (1, .ref a1_), (2, .int t2), (3, .int z49)]) rfl rfl ⟨rfl, rfl, rfl, rfl, trivial⟩ ?_
    have i52 : 0 ≤ z49.toInt := by omega
    exact ih _ (by omega) _ P40 hT44 k47 i52 rfl

set_option maxHeartbeats 4000000 in
theorem c_CP_becomeEndOf_Piece_NPiece {Po : mP} {a0_ : Nat} {a1_ : Nat} {t2 : Int32} (hT : Typ Po) (hX : XR Po)  (hp0 : 0 ≤ t2.toInt) (hp1 : t2.toInt ≤ (fv Po a1_ 1).toInt) (ha0 : rl a0_ = 3) (ha1 : rl a1_ = 33) : EvP 2 40 [.ref a0_, .ref a1_, .int t2] Po (fun r P' => (r = none ∧ (True)) ∧ Typ P' ∧ KW [192, 193, 194, 256, 320] Po P' ∧ True) := by
  refine EvP.of qm_40 (Nat.le_of_ble_eq_true rfl) rfl ?_
  show MEvP _ none q_40 0 [(0, .ref a0_), (1, .ref a1_), (2, .int t2)] [] _ 0 0 _
  have w1 := pc_ar ha0
  have w2 := np_ar ha1
  have g3 : (0 : Int) ≤ (fv Po a1_ 1).toInt ∧ (fv Po a1_ 1).toInt ≤ 8 := Typ.rng hT ha1 (by decide) (by decide) rfl
  refine mp_a (a_aload_n dX2_becomeEndOf_0 rfl) (mpp 1 rfl ?_)
  refine mp_a (a_iconst (v := 0) dX2_becomeEndOf_1 rfl) (mpp 2 rfl ?_)
  refine mt_putI (i := 18) (k := 0) (x := 0) hT dX2_becomeEndOf_2 rfl ha0 (by decide) rfl (by decide) rfl (by decide) rfl rfl (fun P4 hT5 f6 f7 f8 => mpp 5 rfl ?_)
  have k9 : KW [192, 193, 194, 256, 320] Po P4 := KW.step KW.refl ha0 rfl f7 f8
  have e10 : (fv P4 a0_ 0).toInt = 0 := congrArg Int32.toInt f6
  refine mp_a (a_aload_n dX2_becomeEndOf_5 rfl) (mpp 6 rfl ?_)
  refine mp_a (a_iconst (v := 0) dX2_becomeEndOf_6 rfl) (mpp 7 rfl ?_)
  refine mt_putI (i := 22) (k := 2) (x := 0) hT5 dX2_becomeEndOf_7 rfl ha0 (by decide) rfl (by decide) rfl (by decide) rfl rfl (fun P11 hT12 f13 f14 f15 => mpp 10 rfl ?_)
  have k16 : KW [192, 193, 194, 256, 320] Po P11 := KW.step k9 ha0 rfl f14 f15
  have e17 : (fv P11 a0_ 2).toInt = 0 := congrArg Int32.toInt f13
  refine mp_a (a_aload_n dX2_becomeEndOf_10 rfl) (mpp 11 rfl ?_)
  refine mp_a (a_aload_n dX2_becomeEndOf_11 rfl) (mpp 12 rfl ?_)
  have e18 : (fv P11 a1_ 1).toInt = (fv Po a1_ 1).toInt := congrArg Int32.toInt ((f14 a1_ 1 (ne_r ha1 ha0 rfl)).trans (f7 a1_ 1 (ne_r ha1 ha0 rfl)))
  refine mt_getI (i := 26) (k := 1) hT12 dX2_becomeEndOf_12 rfl ha1 (by decide) rfl (by decide) rfl (fun g19 g20 => mpp 15 rfl ?_)
  refine mp_a (a_iload_n dX2_becomeEndOf_15 rfl) (mpp 16 rfl ?_)
  obtain ⟨z21, h22⟩ := ti_ex ((fv P11 a1_ 1) - t2 : Int32)
  have wz21 := ti_full z21
  refine mp_t (s_isub (v := z21) dX2_becomeEndOf_16 h22) (mpp 17 rfl ?_)
  try have e23 : z21.toInt = (fv P11 a1_ 1).toInt - t2.toInt := ti_subz h22 rfl rfl (by omega) (by omega)
  refine mt_putI (i := 26) (k := 1) (x := z21) hT12 dX2_becomeEndOf_17 rfl ha0 (by decide) rfl (by decide) rfl ⟨by omega, by omega⟩ rfl rfl (fun P24 hT25 f26 f27 f28 => mpp 20 rfl ?_)
  have k29 : KW [192, 193, 194, 256, 320] Po P24 := KW.step k16 ha0 rfl f27 f28
  have e30 : (fv P24 a0_ 1).toInt = z21.toInt := congrArg Int32.toInt f26
  refine mp_a (a_iconst (v := 0) dX2_becomeEndOf_20 rfl) (mpp 21 rfl ?_)
  refine mp_a (a_istore_n (L' := [(3, .int 0), (0, .ref a0_), (1, .ref a1_), (2, .int t2)]) dX2_becomeEndOf_21 (by decide) rfl) (mpp 22 rfl ?_)
  refine MEvP.less (L := [(0, .ref a0_), (1, .ref a1_), (2, .int t2), (3, .int 0)]) rfl rfl ⟨rfl, rfl, rfl, rfl, trivial⟩ ?_
  have i31 : 0 ≤ (0 : Int) := by omega
  exact c_CP_becomeEndOf_Piece_NPiece_l22 hT hX  hp0 hp1 ha0 ha1 _ _ P24 hT25 k29 i31 rfl

set_option maxHeartbeats 4000000 in
theorem c_F_cut {Po : mP} {t1 : Int32} {t2 : Int32} (hT : Typ Po) (hX : XR Po)  (hJ : Inj Po)  : EvP 5 39 [.ref 0, .int t1, .int t2] Po (fun r P' => (∃ x : Int32, r = some (.int x) ∧ (True)) ∧ Typ P' ∧ KW [10, 11, 12, 65, 66, 67, 192, 193, 194, 256, 320, 385, 386, 1985, 2112, 2113, 2114] Po P' ∧ Inj P' ∧ True) := by
  refine EvP.of qm_39 (Nat.le_of_ble_eq_true rfl) rfl ?_
  show MEvP _ none q_39 0 [(0, .ref 0), (1, .int t1), (2, .int t2)] [] _ 0 0 _
  refine mp_a (a_aload_n dX6_cut_0 rfl) (mpp 1 rfl ?_)
  refine mt_getU (i := 10) (k := 0) (A := 1) hT dX6_cut_1 rfl rl_0 (by decide) rfl (by decide) rfl un_31 (mpp 4 rfl ?_)
  refine mp_a (a_iload_n dX6_cut_4 rfl) (mpp 5 rfl ?_)
  refine mt_callv (i := 94) (q' := q_9) (As := [.int t1]) (rest := []) hT dX6_cut_5 rfl qm_9 (by decide) rfl rl_1 (by decide) rfl (Nat.le_of_ble_eq_true rfl) rfl ⟨rfl, rfl⟩ ⟨Nat.le_of_ble_eq_true rfl, Nat.le_of_ble_eq_true rfl⟩ (EvP.mono (by decide) (c_CS_pieceAt_NState hT hX )) (fun r1 P2 g3 => mpp 8 rfl ?_)
  obtain ⟨g3, e4⟩ := g3
  have e4 := e4.symm
  subst e4
  rcases g3 with ⟨rfl, q6n⟩ | ⟨b5, rfl, q6, q6r⟩
  · show MEvP _ none q_39 8 [(0, .ref 0), (1, .int t1), (2, .int t2)] [.null] _ _ _ _
    have q6n : t1.toInt < 0 ∨ (fv Po 1 1).toInt ≤ t1.toInt ∨ 8 ≤ t1.toInt := q6n
    have g7 : (0 : Int) ≤ (fv Po 1 1).toInt ∧ (fv Po 1 1).toInt ≤ 8 := Typ.rng hT rl_1 (by decide) (by decide) rfl
    refine mp_a (a_astore_nN (L' := [(3, .null), (0, .ref 0), (1, .int t1), (2, .int t2)]) dX6_cut_8 (by decide) rfl) (mpp 9 rfl ?_)
    refine mp_a (a_aload_nN dX6_cut_9 rfl) (mpp 10 rfl ?_)
    refine mp_t (s_ifnullN (t := 21) dX6_cut_10 (by decide)) ?_
    refine mp_a (a_sipush (v := -1001) dX6_cut_21 rfl) (mpp 24 rfl ?_)
    exact mp_iret ⟨⟨_, rfl, trivial⟩, hT, KW.refl, hJ, trivial⟩ dX6_cut_24 (Or.inl rfl)
  · show MEvP _ none q_39 8 [(0, .ref 0), (1, .int t1), (2, .int t2)] [.ref b5] _ _ _ _
    have q6r : 0 ≤ t1.toInt ∧ t1.toInt ≤ 7 ∧ t1.toInt + 1 ≤ (fv Po 1 1).toInt ∧ rv Po 2 t1.toInt.toNat = b5 := q6r
    have g8 : (0 : Int) ≤ (fv Po 1 1).toInt ∧ (fv Po 1 1).toInt ≤ 8 := Typ.rng hT rl_1 (by decide) (by decide) rfl
    have w9 := np_ar q6
    refine mp_a (a_astore_n (L' := [(3, .ref b5), (0, .ref 0), (1, .int t1), (2, .int t2)]) dX6_cut_8 (by decide) rfl) (mpp 9 rfl ?_)
    refine mp_a (a_aload_n dX6_cut_9 rfl) (mpp 10 rfl ?_)
    refine mp_t (s_ifnullR dX6_cut_10) (mpp 13 rfl ?_)
    refine mp_a (a_aload_n dX6_cut_13 rfl) (mpp 14 rfl ?_)
    refine mp_a (a_iload_n dX6_cut_14 rfl) (mpp 15 rfl ?_)
    refine mt_callv (i := 98) (q' := q_29) (As := [.int t2]) (rest := []) hT dX6_cut_15 rfl qm_29 (by decide) rfl q6 (by decide) rfl (Nat.le_of_ble_eq_true rfl) rfl ⟨rfl, rfl⟩ ⟨Nat.le_of_ble_eq_true rfl, Nat.le_of_ble_eq_true rfl⟩ (EvP.mono (by decide) (c_CP_hasCrease_NPiece hT hX q6)) (fun r10 P11 g12 => mpp 18 rfl ?_)
    obtain ⟨⟨x13, rfl, g14⟩, e15⟩ := g12
    have e15 := e15.symm
    subst e15
    have wx13 := ti_full x13
    have g14 : 0 ≤ x13.toInt ∧ x13.toInt ≤ 1 ∧ ((x13.toInt = 0 ∧ (t2.toInt < 0 ∨ ((fv Po b5 0).toInt = 0 ∧ (fv Po b5 1).toInt - 1 ≤ t2.toInt) ∨ ((fv Po b5 0).toInt ≠ 0 ∧ (fv Po b5 1).toInt ≤ t2.toInt))) ∨ (x13.toInt = 1 ∧ 0 ≤ t2.toInt ∧ t2.toInt + 1 ≤ (fv Po b5 1).toInt ∧ (((fv Po b5 0).toInt = 0 ∧ t2.toInt < (fv Po b5 1).toInt - 1) ∨ ((fv Po b5 0).toInt ≠ 0 ∧ t2.toInt < (fv Po b5 1).toInt)))) := g14
    have g16 := ti_full (fv Po b5 0)
    have g17 : (0 : Int) ≤ (fv Po b5 1).toInt ∧ (fv Po b5 1).toInt ≤ 8 := Typ.rng hT q6 (by decide) (by decide) rfl
    show MEvP _ none q_39 18 [(3, .ref b5), (0, .ref 0), (1, .int t1), (2, .int t2)] [.int x13] _ _ _ _
    refine mp_Tb (t := 25) (j_if_ne dX6_cut_18) (by decide) (fun c18 => ?_) (fun c18 => mpp 21 rfl ?_)
    · have c18 : x13.toInt ≠ 0 := ti_ne c18
      refine mp_a (a_aload_n dX6_cut_25 rfl) (mpp 26 rfl ?_)
      refine mt_getU (i := 10) (k := 0) (A := 1) hT dX6_cut_26 rfl rl_0 (by decide) rfl (by decide) rfl un_31 (mpp 29 rfl ?_)
      refine mt_getI (i := 87) (k := 1) hT dX6_cut_29 rfl rl_1 (by decide) rfl (by decide) rfl (fun g19 g20 => mpp 32 rfl ?_)
      refine mp_a (a_bipush (v := 8) dX6_cut_32 rfl) (mpp 34 rfl ?_)
      refine mp_Tb (t := 45) (j_icmp_lt dX6_cut_34) (by decide) (fun c21 => ?_) (fun c21 => mpp 37 rfl ?_)
      · have c21 : (fv Po 1 1).toInt < 8 := ti_lt c21
        refine mp_a (a_aload_n dX6_cut_45 rfl) (mpp 46 rfl ?_)
        have g22 : (0 : Int) ≤ (fv Po b5 2).toInt ∧ (fv Po b5 2).toInt ≤ 1 := Typ.rng hT q6 (by decide) (by decide) rfl
        refine mt_getI (i := 104) (k := 2) hT dX6_cut_46 rfl q6 (by decide) rfl (by decide) rfl (fun g23 g24 => mpp 49 rfl ?_)
        refine mp_Tb (t := 59) (j_if_eq dX6_cut_49) (by decide) (fun c25 => ?_) (fun c25 => mpp 52 rfl ?_)
        · have c25 : (fv Po b5 2).toInt = 0 := ti_eq c25
          refine mp_a (a_aload_n dX6_cut_59 rfl) (mpp 60 rfl ?_)
          refine mt_getI (i := 130) (k := 0) hT dX6_cut_60 rfl q6 (by decide) rfl (by decide) rfl (fun g26 g27 => mpp 63 rfl ?_)
          refine mp_Tb (t := 73) (j_if_eq dX6_cut_63) (by decide) (fun c28 => ?_) (fun c28 => mpp 66 rfl ?_)
          · have c28 : (fv Po b5 0).toInt = 0 := ti_eq c28
            refine mp_a (a_iload_n dX6_cut_73 rfl) (mpp 74 rfl ?_)
            refine mp_a (a_iconst (v := 1) dX6_cut_74 rfl) (mpp 75 rfl ?_)
            obtain ⟨z29, h30⟩ := ti_ex (t2 + 1 : Int32)
            have wz29 := ti_full z29
            refine mp_t (s_iadd (v := z29) dX6_cut_75 h30) (mpp 76 rfl ?_)
            try have e31 : z29.toInt = t2.toInt + 1 := ti_addz h30 rfl rfl (by omega) (by omega)
            refine mp_a (a_istore (L' := [(4, .int z29), (3, .ref b5), (0, .ref 0), (1, .int t1), (2, .int t2)]) dX6_cut_76 (by decide) rfl) (mpp 78 rfl ?_)
            refine mp_a (a_iload dX6_cut_78 rfl) (mpp 80 rfl ?_)
            refine mp_a (a_aload_n dX6_cut_80 rfl) (mpp 81 rfl ?_)
            refine mt_getI (i := 143) (k := 1) hT dX6_cut_81 rfl q6 (by decide) rfl (by decide) rfl (fun g32 g33 => mpp 84 rfl ?_)
            refine mp_a (a_iload dX6_cut_84 rfl) (mpp 86 rfl ?_)
            obtain ⟨z34, h35⟩ := ti_ex ((fv Po b5 1) - z29 : Int32)
            have wz34 := ti_full z34
            refine mp_t (s_isub (v := z34) dX6_cut_86 h35) (mpp 87 rfl ?_)
            try have e36 : z34.toInt = (fv Po b5 1).toInt - z29.toInt := ti_subz h35 rfl rfl (by omega) (by omega)
            obtain ⟨z37, h38⟩ := ti_ex (if (8 : Nat) = 7 then (if z29 < z34 then z34 else z29) else (if z34 < z29 then z34 else z29) : Int32)
            have e39 : z37.toInt = min z29.toInt z34.toInt := ti_mm8 h38
            refine mp_math (i := 151) (k := 0) (v := z37) dX6_cut_87 rfl (by decide) (Nat.le_of_ble_eq_true rfl) h38 ⟨Nat.le_of_ble_eq_true rfl, Nat.le_of_ble_eq_true rfl⟩ (mpp 90 rfl ?_)
            refine mp_a (a_istore (L' := [(5, .int z37), (4, .int z29), (3, .ref b5), (0, .ref 0), (1, .int t1), (2, .int t2)]) dX6_cut_90 (by decide) rfl) (mpp 92 rfl ?_)
            refine mp_a (a_iload dX6_cut_92 rfl) (mpp 94 rfl ?_)
            refine mp_a (a_iconst (v := 2) dX6_cut_94 rfl) (mpp 95 rfl ?_)
            refine mp_Tb (t := 107) (j_icmp_ge dX6_cut_95) (by decide) (fun c40 => ?_) (fun c40 => mpp 98 rfl ?_)
            · have c40 : z37.toInt ≥ 2 := ti_ge c40
              refine mp_a (a_aload_n dX6_cut_107 rfl) (mpp 108 rfl ?_)
              refine mt_getU (i := 25) (k := 3) (A := 79) hT dX6_cut_108 rfl rl_0 (by decide) rfl (by decide) rfl un_6 (mpp 111 rfl ?_)
              refine mp_a (a_aload_n dX6_cut_111 rfl) (mpp 112 rfl ?_)
              refine mt_getU (i := 10) (k := 0) (A := 1) hT dX6_cut_112 rfl rl_0 (by decide) rfl (by decide) rfl un_31 (mpp 115 rfl ?_)
              refine mt_callv (i := 72) (q' := q_15) (As := [.ref 1]) (rest := []) hT dX6_cut_115 rfl qm_15 (by decide) rfl rl_79 (by decide) rfl (Nat.le_of_ble_eq_true rfl) rfl ⟨rfl, rfl⟩ ⟨Nat.le_of_ble_eq_true rfl, Nat.le_of_ble_eq_true rfl⟩ (EvP.mono (by decide) (c_CH_push_History_NState hT hX hJ )) (fun r41 P42 g43 => mpp 118 rfl ?_)
              obtain ⟨⟨rfl, g45⟩, hT46, k47, J50, R48⟩ := g43
              have k49 : KW [10, 11, 12, 65, 66, 67, 192, 193, 194, 256, 320, 385, 386, 1985, 2112, 2113, 2114] Po P42 := KW.trans KW.refl k47 rfl
              show MEvP _ none q_39 118 [(5, .int z37), (4, .int z29), (3, .ref b5), (0, .ref 0), (1, .int t1), (2, .int t2)] [] _ _ _ _
              refine mp_a (a_aload_n dX6_cut_118 rfl) (mpp 119 rfl ?_)
              refine mt_getE (i := 53) (k := 7) hT46 dX6_cut_119 rfl rl_0 (by decide) rfl (by decide) rfl (KW.xr k49 hX).2.2.2.2.2 (fun q51 => mpp 122 rfl ?_)
              refine mp_a (a_aload_n dX6_cut_122 rfl) (mpp 123 rfl ?_)
              refine mp_a (a_iload dX6_cut_123 rfl) (mpp 125 rfl ?_)
              have e52 : (fv P42 b5 1).toInt = (fv Po b5 1).toInt := congrArg Int32.toInt (KW.at k47 1 q6 rfl)
              have p53 : 0 ≤ z29.toInt := by omega
              have p54 : z29.toInt ≤ (fv P42 b5 1).toInt := by omega
              refine mt_callv (i := 156) (q' := q_40) (As := [.ref b5, .int z29]) (rest := []) hT46 dX6_cut_125 rfl qm_40 (by decide) rfl q51 (by decide) rfl (Nat.le_of_ble_eq_true rfl) rfl ⟨rfl, rfl⟩ ⟨Nat.le_of_ble_eq_true rfl, Nat.le_of_ble_eq_true rfl⟩ (EvP.mono (by decide) (c_CP_becomeEndOf_Piece_NPiece hT46 (KW.xr k49 hX) p53 p54 q51 q6)) (fun r55 P56 g57 => mpp 128 rfl ?_)
              obtain ⟨⟨rfl, g59⟩, hT60, k61, R62⟩ := g57
              have k63 : KW [10, 11, 12, 65, 66, 67, 192, 193, 194, 256, 320, 385, 386, 1985, 2112, 2113, 2114] Po P56 := KW.trans k49 k61 rfl
              have J65 := Inj.kw J50 k61 rfl
              show MEvP _ none q_39 128 [(5, .int z37), (4, .int z29), (3, .ref b5), (0, .ref 0), (1, .int t1), (2, .int t2)] [] _ _ _ _
              refine mp_a (a_aload_n dX6_cut_128 rfl) (mpp 129 rfl ?_)
              refine mp_a (a_iload dX6_cut_129 rfl) (mpp 131 rfl ?_)
              refine mt_putI (i := 143) (k := 1) (x := z29) hT60 dX6_cut_131 rfl q6 (by decide) rfl (by decide) rfl ⟨by omega, by omega⟩ rfl rfl (fun P66 hT67 f68 f69 f70 => mpp 134 rfl ?_)
              have k71 : KW [10, 11, 12, 65, 66, 67, 192, 193, 194, 256, 320, 385, 386, 1985, 2112, 2113, 2114] Po P66 := KW.step k63 q6 rfl f69 f70
              have J72 := Inj.st J65 f70
              have e73 : (fv P66 b5 1).toInt = z29.toInt := congrArg Int32.toInt f68
              refine mp_a (a_aload_n dX6_cut_134 rfl) (mpp 135 rfl ?_)
              refine mt_getU (i := 10) (k := 0) (A := 1) hT67 dX6_cut_135 rfl rl_0 (by decide) rfl (by decide) rfl un_31 (mpp 138 rfl ?_)
              refine mp_a (a_aload_n dX6_cut_138 rfl) (mpp 139 rfl ?_)
              refine mt_getE (i := 53) (k := 7) hT67 dX6_cut_139 rfl rl_0 (by decide) rfl (by decide) rfl (KW.xr k71 hX).2.2.2.2.2 (fun q74 => mpp 142 rfl ?_)
              have e75 : (fv P66 1 1).toInt = (fv Po 1 1).toInt := congrArg Int32.toInt ((f69 1 1 (ne_r rl_1 q6 rfl)).trans ((KW.at k61 1 rl_1 rfl).trans (KW.at k47 1 rl_1 rfl)))
              have p76 : (fv P66 1 1).toInt ≤ 7 := by omega
              refine mt_callv (i := 90) (q' := q_27) (As := [.ref 298]) (rest := []) hT67 dX6_cut_142 rfl qm_27 (by decide) rfl rl_1 (by decide) rfl (Nat.le_of_ble_eq_true rfl) rfl ⟨rfl, rfl⟩ ⟨Nat.le_of_ble_eq_true rfl, Nat.le_of_ble_eq_true rfl⟩ (EvP.mono (by decide) (c_CS_addCopyOf_NState_Piece hT67 (KW.xr k71 hX) J72 p76 q74)) (fun r77 P78 g79 => mpp 145 rfl ?_)
              obtain ⟨⟨rfl, g81⟩, hT82, k83, J86, R84⟩ := g79
              have k85 : KW [10, 11, 12, 65, 66, 67, 192, 193, 194, 256, 320, 385, 386, 1985, 2112, 2113, 2114] Po P78 := KW.trans k71 k83 rfl
              show MEvP _ none q_39 145 [(5, .int z37), (4, .int z29), (3, .ref b5), (0, .ref 0), (1, .int t1), (2, .int t2)] [] _ _ _ _
              refine mp_a (a_aload_n dX6_cut_145 rfl) (mpp 146 rfl ?_)
              refine mt_getU (i := 10) (k := 0) (A := 1) hT82 dX6_cut_146 rfl rl_0 (by decide) rfl (by decide) rfl un_31 (mpp 149 rfl ?_)
              have g87 : (0 : Int) ≤ (fv P78 1 1).toInt ∧ (fv P78 1 1).toInt ≤ 8 := Typ.rng hT82 rl_1 (by decide) (by decide) rfl
              refine mt_getI (i := 87) (k := 1) hT82 dX6_cut_149 rfl rl_1 (by decide) rfl (by decide) rfl (fun g88 g89 => mpp 152 rfl ?_)
              refine mp_a (a_iconst (v := 1) dX6_cut_152 rfl) (mpp 153 rfl ?_)
              obtain ⟨z90, h91⟩ := ti_ex ((fv P78 1 1) - 1 : Int32)
              have wz90 := ti_full z90
              refine mp_t (s_isub (v := z90) dX6_cut_153 h91) (mpp 154 rfl ?_)
              try have e92 : z90.toInt = (fv P78 1 1).toInt - 1 := ti_subz h91 rfl rfl (by omega) (by omega)
              exact mp_iret ⟨⟨_, rfl, trivial⟩, hT82, k85, J86, trivial⟩ dX6_cut_154 (Or.inl rfl)
            · have c40 : z37.toInt < 2 := ti_ge_n c40
              refine mp_a (a_aload_n dX6_cut_98 rfl) (mpp 99 rfl ?_)
              refine mp_a (a_bipush (v := 6) dX6_cut_99 rfl) (mpp 101 rfl ?_)
              refine mp_a (a_iload dX6_cut_101 rfl) (mpp 103 rfl ?_)
              refine mt_callv (i := 68) (q' := q_14) (As := [.int 6, .int z37]) (rest := []) hT dX6_cut_103 rfl qm_14 (by decide) rfl rl_0 (by decide) rfl (Nat.le_of_ble_eq_true rfl) rfl ⟨rfl, rfl⟩ ⟨Nat.le_of_ble_eq_true rfl, Nat.le_of_ble_eq_true rfl⟩ (EvP.mono (by decide) (c_F_refuse hT hX )) (fun r93 P94 g95 => mpp 106 rfl ?_)
              obtain ⟨⟨x96, rfl, g97⟩, hT98, k99, R100⟩ := g95
              have k101 : KW [10, 11, 12, 65, 66, 67, 192, 193, 194, 256, 320, 385, 386, 1985, 2112, 2113, 2114] Po P94 := KW.trans KW.refl k99 rfl
              have J103 := Inj.kw hJ k99 rfl
              have wx96 := ti_full x96
              show MEvP _ none q_39 106 [(5, .int z37), (4, .int z29), (3, .ref b5), (0, .ref 0), (1, .int t1), (2, .int t2)] [.int x96] _ _ _ _
              exact mp_iret ⟨⟨_, rfl, trivial⟩, hT98, k101, J103, trivial⟩ dX6_cut_106 (Or.inl rfl)
          · have c28 : (fv Po b5 0).toInt ≠ 0 := ti_eq_n c28
            refine mp_a (a_aload_n dX6_cut_66 rfl) (mpp 67 rfl ?_)
            refine mp_a (a_iconst (v := 3) dX6_cut_67 rfl) (mpp 68 rfl ?_)
            refine mp_a (a_iload_n dX6_cut_68 rfl) (mpp 69 rfl ?_)
            refine mt_callv (i := 68) (q' := q_14) (As := [.int 3, .int t1]) (rest := []) hT dX6_cut_69 rfl qm_14 (by decide) rfl rl_0 (by decide) rfl (Nat.le_of_ble_eq_true rfl) rfl ⟨rfl, rfl⟩ ⟨Nat.le_of_ble_eq_true rfl, Nat.le_of_ble_eq_true rfl⟩ (EvP.mono (by decide) (c_F_refuse hT hX )) (fun r104 P105 g106 => mpp 72 rfl ?_)
            obtain ⟨⟨x107, rfl, g108⟩, hT109, k110, R111⟩ := g106
            have k112 : KW [10, 11, 12, 65, 66, 67, 192, 193, 194, 256, 320, 385, 386, 1985, 2112, 2113, 2114] Po P105 := KW.trans KW.refl k110 rfl
            have J114 := Inj.kw hJ k110 rfl
            have wx107 := ti_full x107
            show MEvP _ none q_39 72 [(3, .ref b5), (0, .ref 0), (1, .int t1), (2, .int t2)] [.int x107] _ _ _ _
            exact mp_iret ⟨⟨_, rfl, trivial⟩, hT109, k112, J114, trivial⟩ dX6_cut_72 (Or.inl rfl)
        · have c25 : (fv Po b5 2).toInt ≠ 0 := ti_eq_n c25
          refine mp_a (a_aload_n dX6_cut_52 rfl) (mpp 53 rfl ?_)
          refine mp_a (a_iconst (v := 2) dX6_cut_53 rfl) (mpp 54 rfl ?_)
          refine mp_a (a_iload_n dX6_cut_54 rfl) (mpp 55 rfl ?_)
          refine mt_callv (i := 68) (q' := q_14) (As := [.int 2, .int t1]) (rest := []) hT dX6_cut_55 rfl qm_14 (by decide) rfl rl_0 (by decide) rfl (Nat.le_of_ble_eq_true rfl) rfl ⟨rfl, rfl⟩ ⟨Nat.le_of_ble_eq_true rfl, Nat.le_of_ble_eq_true rfl⟩ (EvP.mono (by decide) (c_F_refuse hT hX )) (fun r115 P116 g117 => mpp 58 rfl ?_)
          obtain ⟨⟨x118, rfl, g119⟩, hT120, k121, R122⟩ := g117
          have k123 : KW [10, 11, 12, 65, 66, 67, 192, 193, 194, 256, 320, 385, 386, 1985, 2112, 2113, 2114] Po P116 := KW.trans KW.refl k121 rfl
          have J125 := Inj.kw hJ k121 rfl
          have wx118 := ti_full x118
          show MEvP _ none q_39 58 [(3, .ref b5), (0, .ref 0), (1, .int t1), (2, .int t2)] [.int x118] _ _ _ _
          exact mp_iret ⟨⟨_, rfl, trivial⟩, hT120, k123, J125, trivial⟩ dX6_cut_58 (Or.inl rfl)
      · have c21 : (fv Po 1 1).toInt ≥ 8 := ti_lt_n c21
        refine mp_a (a_aload_n dX6_cut_37 rfl) (mpp 38 rfl ?_)
        refine mp_a (a_iconst (v := 1) dX6_cut_38 rfl) (mpp 39 rfl ?_)
        refine mp_a (a_bipush (v := 8) dX6_cut_39 rfl) (mpp 41 rfl ?_)
        refine mt_callv (i := 68) (q' := q_14) (As := [.int 1, .int 8]) (rest := []) hT dX6_cut_41 rfl qm_14 (by decide) rfl rl_0 (by decide) rfl (Nat.le_of_ble_eq_true rfl) rfl ⟨rfl, rfl⟩ ⟨Nat.le_of_ble_eq_true rfl, Nat.le_of_ble_eq_true rfl⟩ (EvP.mono (by decide) (c_F_refuse hT hX )) (fun r126 P127 g128 => mpp 44 rfl ?_)
        obtain ⟨⟨x129, rfl, g130⟩, hT131, k132, R133⟩ := g128
        have k134 : KW [10, 11, 12, 65, 66, 67, 192, 193, 194, 256, 320, 385, 386, 1985, 2112, 2113, 2114] Po P127 := KW.trans KW.refl k132 rfl
        have J136 := Inj.kw hJ k132 rfl
        have wx129 := ti_full x129
        show MEvP _ none q_39 44 [(3, .ref b5), (0, .ref 0), (1, .int t1), (2, .int t2)] [.int x129] _ _ _ _
        exact mp_iret ⟨⟨_, rfl, trivial⟩, hT131, k134, J136, trivial⟩ dX6_cut_44 (Or.inl rfl)
    · have c18 : x13.toInt = 0 := ti_ne_n c18
      refine mp_a (a_sipush (v := -1001) dX6_cut_21 rfl) (mpp 24 rfl ?_)
      exact mp_iret ⟨⟨_, rfl, trivial⟩, hT, KW.refl, hJ, trivial⟩ dX6_cut_24 (Or.inl rfl)

set_option maxHeartbeats 4000000 in
theorem c_CP_isUndecided_NPiece {Po : mP} {a0_ : Nat} (hT : Typ Po) (hX : XR Po)  (ha0 : rl a0_ = 33) : EvP 3 42 [.ref a0_] Po (fun r P' => (∃ x : Int32, r = some (.int x) ∧ (0 ≤ x.toInt ∧ x.toInt ≤ 1)) ∧ P' = Po) := by
  refine EvP.of qm_42 (Nat.le_of_ble_eq_true rfl) rfl ?_
  show MEvP _ none q_42 0 [(0, .ref a0_)] [] _ 0 0 _
  have w1 := np_ar ha0
  refine mp_a (a_aload_n dX2_isUndecided_0 rfl) (mpp 1 rfl ?_)
  refine mp_a (a_iconst (v := 0) dX2_isUndecided_1 rfl) (mpp 2 rfl ?_)
  refine mt_callv (i := 52) (q' := q_32) (As := [.int 0]) (rest := []) hT dX2_isUndecided_2 rfl qm_32 (by decide) rfl ha0 (by decide) rfl (Nat.le_of_ble_eq_true rfl) rfl ⟨rfl, rfl⟩ ⟨Nat.le_of_ble_eq_true rfl, Nat.le_of_ble_eq_true rfl⟩ (EvP.mono (by decide) (c_CP_countOf_NPiece hT hX ha0)) (fun r2 P3 g4 => mpp 5 rfl ?_)
  obtain ⟨⟨x5, rfl, g6⟩, e7⟩ := g4
  have e7 := e7.symm
  subst e7
  have wx5 := ti_full x5
  have g6 : 0 ≤ x5.toInt ∧ x5.toInt ≤ 8 := g6
  show MEvP _ none q_42 5 [(0, .ref a0_)] [.int x5] _ _ _ _
  refine mp_Tb (t := 12) (j_if_le dX2_isUndecided_5) (by decide) (fun c8 => ?_) (fun c8 => mpp 8 rfl ?_)
  · have c8 : x5.toInt ≤ 0 := ti_le c8
    refine mp_a (a_iconst (v := 0) dX2_isUndecided_12 rfl) (mpp 13 rfl ?_)
    have u9 : 0 ≤ (0 : Int) ∧ (0 : Int) ≤ 1 := by omega
    exact mp_iret ⟨⟨_, rfl, u9⟩, rfl⟩ dX2_isUndecided_13 (Or.inr ⟨rfl, by decide⟩)
  · have c8 : x5.toInt > 0 := ti_le_n c8
    refine mp_a (a_iconst (v := 1) dX2_isUndecided_8 rfl) (mpp 9 rfl ?_)
    refine mp_a (a_goto (t := 13) dX2_isUndecided_9 (by decide)) ?_
    have u10 : 0 ≤ (1 : Int) ∧ (1 : Int) ≤ 1 := by omega
    exact mp_iret ⟨⟨_, rfl, u10⟩, rfl⟩ dX2_isUndecided_13 (Or.inr ⟨rfl, by decide⟩)

set_option maxHeartbeats 4000000 in
theorem c_F_copyRow_sizes_rsizes_l2 {Po : mP} {a0_ : Nat} (hTo : Typ Po) (hX : XR Po) (hp0 : ¬ a0_ = 292) (ha0 : rl a0_ = 4) : ∀ (n : Nat) (v2 : Int32), ∀ (P : mP), Typ P → KW [704] Po P → (CPY Po P a0_ 0 292 0 v2.toInt.toNat) → (v2.toInt ≤ 8) → (0 ≤ v2.toInt) → (2147483647 - v2.toInt).toNat = n → MEvP 0 none q_19 2 [(0, .ref a0_), (1, .ref 292), (2, .int v2)] [] P 0 0 (fun r P' => (r = none ∧ (True)) ∧ Typ P' ∧ KW [704] Po P' ∧ (∀ j : Nat, j < 8 → fv P' 292 j = fv Po a0_ j) ∧ KI 292 (292 + 1) Po P') := by
  intro n
  induction n using Nat.strongRecOn with | _ n ih => ?_
  intro v2 P hT hK i_0 i_1 i_2 hm
  have w_v2 := ti_full v2
  refine mp_a (a_iload_n dX6_copyRow_2 rfl) (mpp 3 rfl ?_)
  refine mp_a (a_aload_n dX6_copyRow_3 rfl) (mpp 4 rfl ?_)
  refine mt_len (n := 8) hT dX6_copyRow_4 ha0 (by decide) (by decide) rfl (mpp 5 rfl ?_)
  refine mp_Tb (t := 26) (j_icmp_ge dX6_copyRow_5) (by decide) (fun c1 => ?_) (fun c1 => mpp 8 rfl ?_)
  · have c1 : v2.toInt ≥ 8 := ti_ge c1
    have u2 : (∀ j : Nat, j < 8 → fv P 292 j = fv Po a0_ j) ∧ KI 292 (292 + 1) Po P := ⟨fun j hj => by have q := i_0.1 j (by omega); rwa [Nat.zero_add] at q, fun x j hx => i_0.2 x j (by omega)⟩
    exact mp_ret ⟨⟨rfl, trivial⟩, hT, hK, u2⟩ dX6_copyRow_26 rfl
  · have c1 : v2.toInt < 8 := ti_ge_n c1
    refine mp_a (a_iload_n dX6_copyRow_8 rfl) (mpp 9 rfl ?_)
    refine mp_a (a_aload_n dX6_copyRow_9 rfl) (mpp 10 rfl ?_)
    refine mt_len (n := 8) hT dX6_copyRow_10 rl_292 (by decide) (by decide) rfl (mpp 11 rfl ?_)
    refine mp_Tb (t := 26) (j_icmp_ge dX6_copyRow_11) (by decide) (fun c3 => ?_) (fun c3 => mpp 14 rfl ?_)
    · have c3 : v2.toInt ≥ 8 := ti_ge c3
      have u4 : (∀ j : Nat, j < 8 → fv P 292 j = fv Po a0_ j) ∧ KI 292 (292 + 1) Po P := ⟨fun j hj => by have q := i_0.1 j (by omega); rwa [Nat.zero_add] at q, fun x j hx => i_0.2 x j (by omega)⟩
      exact mp_ret ⟨⟨rfl, trivial⟩, hT, hK, u4⟩ dX6_copyRow_26 rfl
    · have c3 : v2.toInt < 8 := ti_ge_n c3
      refine mp_a (a_aload_n dX6_copyRow_14 rfl) (mpp 15 rfl ?_)
      refine mp_a (a_iload_n dX6_copyRow_15 rfl) (mpp 16 rfl ?_)
      refine mp_a (a_aload_n dX6_copyRow_16 rfl) (mpp 17 rfl ?_)
      refine mp_a (a_iload_n dX6_copyRow_17 rfl) (mpp 18 rfl ?_)
      refine mt_ial (n := 8) hT dX6_copyRow_18 ha0 (by decide) rfl rfl (by omega) (by omega) rfl (fun g5 g6 => mpp 19 rfl ?_)
      refine mt_ias (n := 8) hT dX6_copyRow_19 rl_292 (by decide) rfl rfl (by omega) (by omega) rfl (ti_full (fv P a0_ v2.toInt.toNat)) (fun P7 hT8 f9 f10 f11 => mpp 20 rfl ?_)
      have k12 : KW [704] Po P7 := KW.step hK rl_292 rfl f10 f11
      obtain ⟨z13, h14⟩ := ti_ex (v2 + 1 : Int32)
      have wz13 := ti_full z13
      refine mp_a (a_iinc (v := z13) (L' := [(2, .int z13), (0, .ref a0_), (1, .ref 292)]) dX6_copyRow_20 (by decide) rfl h14 rfl) (mpp 23 rfl ?_)
      try have e15 : z13.toInt = v2.toInt + 1 := ti_addz h14 rfl rfl (by omega) (by omega)
      refine mp_a (a_goto (t := 2) dX6_copyRow_23 (by decide)) ?_
      refine MEvP.less (L := [(0, .ref a0_), (1, .ref 292), (2, .int z13)]) rfl rfl ⟨rfl, rfl, rfl, trivial⟩ ?_
      have i16 : CPY Po P7 a0_ 0 292 0 z13.toInt.toNat := CPY.step i_0 f9 f10 (by omega) (by omega) (by omega) (Or.inl hp0)
      have i17 : z13.toInt ≤ 8 := by omega
      have i18 : 0 ≤ z13.toInt := by omega
      exact ih _ (by omega) _ P7 hT8 k12 i16 i17 i18 rfl

set_option maxHeartbeats 4000000 in
theorem c_F_copyRow_sizes_rsizes {Po : mP} {a0_ : Nat} (hT : Typ Po) (hX : XR Po)  (hp0 : ¬ a0_ = 292) (ha0 : rl a0_ = 4) : EvP 1 19 [.ref a0_, .ref 292] Po (fun r P' => (r = none ∧ (True)) ∧ Typ P' ∧ KW [704] Po P' ∧ (∀ j : Nat, j < 8 → fv P' 292 j = fv Po a0_ j) ∧ KI 292 (292 + 1) Po P') := by
  refine EvP.of qm_19 (Nat.le_of_ble_eq_true rfl) rfl ?_
  show MEvP _ none q_19 0 [(0, .ref a0_), (1, .ref 292)] [] _ 0 0 _
  refine mp_a (a_iconst (v := 0) dX6_copyRow_0 rfl) (mpp 1 rfl ?_)
  refine mp_a (a_istore_n (L' := [(2, .int 0), (0, .ref a0_), (1, .ref 292)]) dX6_copyRow_1 (by decide) rfl) (mpp 2 rfl ?_)
  refine MEvP.less (L := [(0, .ref a0_), (1, .ref 292), (2, .int 0)]) rfl rfl ⟨rfl, rfl, rfl, trivial⟩ ?_
  have i1 : CPY Po Po a0_ 0 292 0 (0 : Int).toNat := CPY.start (by decide)
  have i2 : (0 : Int) ≤ 8 := by omega
  have i3 : 0 ≤ (0 : Int) := by omega
  exact c_F_copyRow_sizes_rsizes_l2 hT hX  hp0 ha0 _ _ Po hT KW.refl i1 i2 i3 rfl

set_option maxHeartbeats 4000000 in
theorem c_F_put_rcreases {Po : mP} {t1 : Int32} {t2 : Int32} (hT : Typ Po) (hX : XR Po)   : EvP 1 22 [.ref 293, .int t1, .int t2] Po (fun r P' => (r = none ∧ (True)) ∧ Typ P' ∧ KW [768] Po P' ∧ True) := by
  refine EvP.of qm_22 (Nat.le_of_ble_eq_true rfl) rfl ?_
  show MEvP _ none q_22 0 [(0, .ref 293), (1, .int t1), (2, .int t2)] [] _ 0 0 _
  refine mp_a (a_iload_n dX6_put_0 rfl) (mpp 1 rfl ?_)
  refine mp_Tb (t := 14) (j_if_lt dX6_put_1) (by decide) (fun c1 => ?_) (fun c1 => mpp 4 rfl ?_)
  · have c1 : t1.toInt < 0 := ti_lt c1
    exact mp_ret ⟨⟨rfl, trivial⟩, hT, KW.refl, trivial⟩ dX6_put_14 rfl
  · have c1 : t1.toInt ≥ 0 := ti_lt_n c1
    refine mp_a (a_iload_n dX6_put_4 rfl) (mpp 5 rfl ?_)
    refine mp_a (a_aload_n dX6_put_5 rfl) (mpp 6 rfl ?_)
    refine mt_len (n := 8) hT dX6_put_6 rl_293 (by decide) (by decide) rfl (mpp 7 rfl ?_)
    refine mp_Tb (t := 14) (j_icmp_ge dX6_put_7) (by decide) (fun c2 => ?_) (fun c2 => mpp 10 rfl ?_)
    · have c2 : t1.toInt ≥ 8 := ti_ge c2
      exact mp_ret ⟨⟨rfl, trivial⟩, hT, KW.refl, trivial⟩ dX6_put_14 rfl
    · have c2 : t1.toInt < 8 := ti_ge_n c2
      refine mp_a (a_aload_n dX6_put_10 rfl) (mpp 11 rfl ?_)
      refine mp_a (a_iload_n dX6_put_11 rfl) (mpp 12 rfl ?_)
      refine mp_a (a_iload_n dX6_put_12 rfl) (mpp 13 rfl ?_)
      refine mt_ias (n := 8) hT dX6_put_13 rl_293 (by decide) rfl rfl (by omega) (by omega) rfl (ti_full t2) (fun P3 hT4 f5 f6 f7 => mpp 14 rfl ?_)
      have k8 : KW [768] Po P3 := KW.step KW.refl rl_293 rfl f6 f7
      exact mp_ret ⟨⟨rfl, trivial⟩, hT4, k8, trivial⟩ dX6_put_14 rfl

set_option maxHeartbeats 4000000 in
theorem c_CR_putCrease_Reducer {Po : mP} {t1 : Int32} {t2 : Int32} (hT : Typ Po) (hX : XR Po)   : EvP 2 46 [.ref 291, .int t1, .int t2] Po (fun r P' => (r = none ∧ (True)) ∧ Typ P' ∧ KW [768] Po P' ∧ True) := by
  refine EvP.of qm_46 (Nat.le_of_ble_eq_true rfl) rfl ?_
  show MEvP _ none q_46 0 [(0, .ref 291), (1, .int t1), (2, .int t2)] [] _ 0 0 _
  refine mp_a (a_aload_n dX3_putCrease_0 rfl) (mpp 1 rfl ?_)
  refine mt_getU (i := 15) (k := 3) (A := 293) hT dX3_putCrease_1 rfl rl_291 (by decide) rfl (by decide) rfl un_12 (mpp 4 rfl ?_)
  refine mp_a (a_aload_n dX3_putCrease_4 rfl) (mpp 5 rfl ?_)
  have g1 := ti_full (fv Po 291 0)
  refine mt_getI (i := 24) (k := 0) hT dX3_putCrease_5 rfl rl_291 (by decide) rfl (by decide) rfl (fun g2 g3 => mpp 8 rfl ?_)
  refine mp_Tb (t := 17) (j_if_ne dX3_putCrease_8) (by decide) (fun c4 => ?_) (fun c4 => mpp 11 rfl ?_)
  · have c4 : (fv Po 291 0).toInt ≠ 0 := ti_ne c4
    refine mp_a (a_iload_n dX3_putCrease_17 rfl) (mpp 18 rfl ?_)
    refine mp_a (a_iload_n dX3_putCrease_18 rfl) (mpp 19 rfl ?_)
    refine mp_calls (i := 47) (q' := q_22) (As := [.ref 293, .int t1, .int t2]) (rest := []) dX3_putCrease_19 rfl qm_22 (by decide) rfl (Nat.le_of_ble_eq_true rfl) rfl ⟨rfl, rfl⟩ ⟨Nat.le_of_ble_eq_true rfl, Nat.le_of_ble_eq_true rfl⟩ (EvP.mono (by decide) (c_F_put_rcreases hT hX )) (fun r5 P6 g7 => mpp 22 rfl ?_)
    obtain ⟨⟨rfl, g9⟩, hT10, k11, R12⟩ := g7
    have k13 : KW [768] Po P6 := KW.trans KW.refl k11 rfl
    show MEvP _ none q_46 22 [(0, .ref 291), (1, .int t1), (2, .int t2)] [] _ _ _ _
    exact mp_ret ⟨⟨rfl, trivial⟩, hT10, k13, trivial⟩ dX3_putCrease_22 rfl
  · have c4 : (fv Po 291 0).toInt = 0 := ti_ne_n c4
    refine mp_a (a_iload_n dX3_putCrease_11 rfl) (mpp 12 rfl ?_)
    refine mp_a (a_iconst (v := 1) dX3_putCrease_12 rfl) (mpp 13 rfl ?_)
    obtain ⟨z15, h16⟩ := ti_ex (t1 + 1 : Int32)
    have wz15 := ti_full z15
    refine mp_t (s_iadd (v := z15) dX3_putCrease_13 h16) (mpp 14 rfl ?_)
    try have e17 : z15.toInt = t1.toInt + 1 := ti_addz h16 rfl rfl (by omega) (by omega)
    refine mp_a (a_goto (t := 18) dX3_putCrease_14 (by decide)) ?_
    refine mp_a (a_iload_n dX3_putCrease_18 rfl) (mpp 19 rfl ?_)
    refine mp_calls (i := 47) (q' := q_22) (As := [.ref 293, .int z15, .int t2]) (rest := []) dX3_putCrease_19 rfl qm_22 (by decide) rfl (Nat.le_of_ble_eq_true rfl) rfl ⟨rfl, rfl⟩ ⟨Nat.le_of_ble_eq_true rfl, Nat.le_of_ble_eq_true rfl⟩ (EvP.mono (by decide) (c_F_put_rcreases hT hX )) (fun r18 P19 g20 => mpp 22 rfl ?_)
    obtain ⟨⟨rfl, g22⟩, hT23, k24, R25⟩ := g20
    have k26 : KW [768] Po P19 := KW.trans KW.refl k24 rfl
    show MEvP _ none q_46 22 [(0, .ref 291), (1, .int t1), (2, .int t2)] [] _ _ _ _
    exact mp_ret ⟨⟨rfl, trivial⟩, hT23, k26, trivial⟩ dX3_putCrease_22 rfl

