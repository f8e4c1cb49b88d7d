/-! methods on typed pools, 5 (written by a program) -/
set_option maxHeartbeats 4000000 in
theorem c_F_cut {Po : mP} {t1 : Int32} {t2 : Int32} (hT : Typ Po)   : EvP 5 39 [.ref 0, .int t1, .int t2] Po (fun r P' => (∃ x : Int32, r = some (.int x) ∧ (True)) ∧ Typ P' ∧ KW [10, 11, 12, 65, 66, 67, 192, 193, 194, 256, 320, 385, 386, 1985, 2112, 2113, 2114] Po P' ∧ True) := by
  refine EvP.of qm_39 (Nat.le_of_ble_eq_true rfl) rfl ?_
  show MEvP _ none q_39 0 [(0, .ref 0), (1, .int t1), (2, .int t2)] [] _ 0 0 _
  refine mp_a (a_aload_n dX6_cut_0 rfl) (mpp 1 rfl ?_)
  refine mt_getU (i := 10) (k := 0) (A := 1) hT dX6_cut_1 rfl rl_0 (by decide) rfl (by decide) rfl un_31 (mpp 4 rfl ?_)
  refine mp_a (a_iload_n dX6_cut_4 rfl) (mpp 5 rfl ?_)
  refine mt_callv (i := 94) (q' := q_9) (As := [.int t1]) (rest := []) hT dX6_cut_5 rfl qm_9 (by decide) rfl rl_1 (by decide) rfl (Nat.le_of_ble_eq_true rfl) rfl ⟨rfl, rfl⟩ ⟨Nat.le_of_ble_eq_true rfl, Nat.le_of_ble_eq_true rfl⟩ (EvP.mono (by decide) (c_CS_pieceAt_NState hT )) (fun r1 P2 g3 => mpp 8 rfl ?_)
  obtain ⟨g3, e4⟩ := g3
  have e4 := e4.symm
  subst e4
  rcases g3 with rfl | ⟨b5, rfl, q6, q6r⟩
  · show MEvP _ none q_39 8 [(0, .ref 0), (1, .int t1), (2, .int t2)] [.null] _ _ _ _
    refine mp_a (a_astore_nN (L' := [(3, .null), (0, .ref 0), (1, .int t1), (2, .int t2)]) dX6_cut_8 (by decide) rfl) (mpp 9 rfl ?_)
    refine mp_a (a_aload_nN dX6_cut_9 rfl) (mpp 10 rfl ?_)
    refine mp_t (s_ifnullN (t := 21) dX6_cut_10 (by decide)) ?_
    refine mp_a (a_sipush (v := -1001) dX6_cut_21 rfl) (mpp 24 rfl ?_)
    exact mp_iret ⟨⟨_, rfl, trivial⟩, hT, KW.refl, trivial⟩ dX6_cut_24 (Or.inl rfl)
  · show MEvP _ none q_39 8 [(0, .ref 0), (1, .int t1), (2, .int t2)] [.ref b5] _ _ _ _
    refine mp_a (a_astore_n (L' := [(3, .ref b5), (0, .ref 0), (1, .int t1), (2, .int t2)]) dX6_cut_8 (by decide) rfl) (mpp 9 rfl ?_)
    refine mp_a (a_aload_n dX6_cut_9 rfl) (mpp 10 rfl ?_)
    refine mp_t (s_ifnullR dX6_cut_10) (mpp 13 rfl ?_)
    refine mp_a (a_aload_n dX6_cut_13 rfl) (mpp 14 rfl ?_)
    refine mp_a (a_iload_n dX6_cut_14 rfl) (mpp 15 rfl ?_)
    refine mt_callv (i := 98) (q' := q_29) (As := [.int t2]) (rest := []) hT dX6_cut_15 rfl qm_29 (by decide) rfl q6 (by decide) rfl (Nat.le_of_ble_eq_true rfl) rfl ⟨rfl, rfl⟩ ⟨Nat.le_of_ble_eq_true rfl, Nat.le_of_ble_eq_true rfl⟩ (EvP.mono (by decide) (c_CP_hasCrease_NPiece hT q6)) (fun r7 P8 g9 => mpp 18 rfl ?_)
    obtain ⟨⟨x10, rfl, g11⟩, e12⟩ := g9
    have e12 := e12.symm
    subst e12
    have wx10 := ti_full x10
    have g11 : 0 ≤ x10.toInt ∧ x10.toInt ≤ 1 ∧ (x10.toInt = 0 ∨ (0 ≤ t2.toInt ∧ t2.toInt + 1 ≤ (fv Po b5 1).toInt)) := g11
    have g13 : (0 : Int) ≤ (fv Po b5 1).toInt ∧ (fv Po b5 1).toInt ≤ 8 := Typ.rng hT q6 (by decide) (by decide) rfl
    show MEvP _ none q_39 18 [(3, .ref b5), (0, .ref 0), (1, .int t1), (2, .int t2)] [.int x10] _ _ _ _
    refine mp_Tb (t := 25) (j_if_ne dX6_cut_18) (by decide) (fun c14 => ?_) (fun c14 => mpp 21 rfl ?_)
    · have c14 : x10.toInt ≠ 0 := ti_ne c14
      refine mp_a (a_aload_n dX6_cut_25 rfl) (mpp 26 rfl ?_)
      refine mt_getU (i := 10) (k := 0) (A := 1) hT dX6_cut_26 rfl rl_0 (by decide) rfl (by decide) rfl un_31 (mpp 29 rfl ?_)
      have g15 := ti_full (fv Po 1 1)
      refine mt_getI (i := 87) (k := 1) hT dX6_cut_29 rfl rl_1 (by decide) rfl (by decide) rfl (fun g16 g17 => mpp 32 rfl ?_)
      refine mp_a (a_bipush (v := 8) dX6_cut_32 rfl) (mpp 34 rfl ?_)
      refine mp_Tb (t := 45) (j_icmp_lt dX6_cut_34) (by decide) (fun c18 => ?_) (fun c18 => mpp 37 rfl ?_)
      · have c18 : (fv Po 1 1).toInt < 8 := ti_lt c18
        refine mp_a (a_aload_n dX6_cut_45 rfl) (mpp 46 rfl ?_)
        have g19 : (0 : Int) ≤ (fv Po b5 2).toInt ∧ (fv Po b5 2).toInt ≤ 1 := Typ.rng hT q6 (by decide) (by decide) rfl
        refine mt_getI (i := 104) (k := 2) hT dX6_cut_46 rfl q6 (by decide) rfl (by decide) rfl (fun g20 g21 => mpp 49 rfl ?_)
        refine mp_Tb (t := 59) (j_if_eq dX6_cut_49) (by decide) (fun c22 => ?_) (fun c22 => mpp 52 rfl ?_)
        · have c22 : (fv Po b5 2).toInt = 0 := ti_eq c22
          refine mp_a (a_aload_n dX6_cut_59 rfl) (mpp 60 rfl ?_)
          have g23 := ti_full (fv Po b5 0)
          refine mt_getI (i := 130) (k := 0) hT dX6_cut_60 rfl q6 (by decide) rfl (by decide) rfl (fun g24 g25 => mpp 63 rfl ?_)
          refine mp_Tb (t := 73) (j_if_eq dX6_cut_63) (by decide) (fun c26 => ?_) (fun c26 => mpp 66 rfl ?_)
          · have c26 : (fv Po b5 0).toInt = 0 := ti_eq c26
            refine mp_a (a_iload_n dX6_cut_73 rfl) (mpp 74 rfl ?_)
            refine mp_a (a_iconst (v := 1) dX6_cut_74 rfl) (mpp 75 rfl ?_)
            obtain ⟨z27, h28⟩ := ti_ex (t2 + 1 : Int32)
            have wz27 := ti_full z27
            refine mp_t (s_iadd (v := z27) dX6_cut_75 h28) (mpp 76 rfl ?_)
            try have e29 : z27.toInt = t2.toInt + 1 := ti_addz h28 rfl rfl (by omega) (by omega)
            refine mp_a (a_istore (L' := [(4, .int z27), (3, .ref b5), (0, .ref 0), (1, .int t1), (2, .int t2)]) dX6_cut_76 (by decide) rfl) (mpp 78 rfl ?_)
            refine mp_a (a_iload dX6_cut_78 rfl) (mpp 80 rfl ?_)
            refine mp_a (a_aload_n dX6_cut_80 rfl) (mpp 81 rfl ?_)
            refine mt_getI (i := 143) (k := 1) hT dX6_cut_81 rfl q6 (by decide) rfl (by decide) rfl (fun g30 g31 => mpp 84 rfl ?_)
            refine mp_a (a_iload dX6_cut_84 rfl) (mpp 86 rfl ?_)
            obtain ⟨z32, h33⟩ := ti_ex ((fv Po b5 1) - z27 : Int32)
            have wz32 := ti_full z32
            refine mp_t (s_isub (v := z32) dX6_cut_86 h33) (mpp 87 rfl ?_)
            try have e34 : z32.toInt = (fv Po b5 1).toInt - z27.toInt := ti_subz h33 rfl rfl (by omega) (by omega)
            obtain ⟨z35, h36⟩ := ti_ex (if (8 : Nat) = 7 then (if z27 < z32 then z32 else z27) else (if z32 < z27 then z32 else z27) : Int32)
            have e37 : z35.toInt = min z27.toInt z32.toInt := ti_mm8 h36
            refine mp_math (i := 151) (k := 0) (v := z35) dX6_cut_87 rfl (by decide) (Nat.le_of_ble_eq_true rfl) h36 ⟨Nat.le_of_ble_eq_true rfl, Nat.le_of_ble_eq_true rfl⟩ (mpp 90 rfl ?_)
            refine mp_a (a_istore (L' := [(5, .int z35), (4, .int z27), (3, .ref b5), (0, .ref 0), (1, .int t1), (2, .int t2)]) dX6_cut_90 (by decide) rfl) (mpp 92 rfl ?_)
            refine mp_a (a_iload dX6_cut_92 rfl) (mpp 94 rfl ?_)
            refine mp_a (a_iconst (v := 2) dX6_cut_94 rfl) (mpp 95 rfl ?_)
            refine mp_Tb (t := 107) (j_icmp_ge dX6_cut_95) (by decide) (fun c38 => ?_) (fun c38 => mpp 98 rfl ?_)
            · have c38 : z35.toInt ≥ 2 := ti_ge c38
              refine mp_a (a_aload_n dX6_cut_107 rfl) (mpp 108 rfl ?_)
              refine mt_getU (i := 25) (k := 3) (A := 79) hT dX6_cut_108 rfl rl_0 (by decide) rfl (by decide) rfl un_6 (mpp 111 rfl ?_)
              refine mp_a (a_aload_n dX6_cut_111 rfl) (mpp 112 rfl ?_)
              refine mt_getU (i := 10) (k := 0) (A := 1) hT dX6_cut_112 rfl rl_0 (by decide) rfl (by decide) rfl un_31 (mpp 115 rfl ?_)
              refine mt_callv (i := 72) (q' := q_15) (As := [.ref 1]) (rest := []) hT dX6_cut_115 rfl qm_15 (by decide) rfl rl_79 (by decide) rfl (Nat.le_of_ble_eq_true rfl) rfl ⟨rfl, rfl⟩ ⟨Nat.le_of_ble_eq_true rfl, Nat.le_of_ble_eq_true rfl⟩ (EvP.mono (by decide) (c_CH_push_History_NState hT )) (fun r39 P40 g41 => mpp 118 rfl ?_)
              obtain ⟨⟨rfl, g43⟩, hT44, k45, R46⟩ := g41
              have k47 : KW [10, 11, 12, 65, 66, 67, 192, 193, 194, 256, 320, 385, 386, 1985, 2112, 2113, 2114] Po P40 := KW.trans KW.refl k45 rfl
              show MEvP _ none q_39 118 [(5, .int z35), (4, .int z27), (3, .ref b5), (0, .ref 0), (1, .int t1), (2, .int t2)] [] _ _ _ _
              refine mp_a (a_aload_n dX6_cut_118 rfl) (mpp 119 rfl ?_)
              refine mt_getR (i := 53) (k := 7) hT44 dX6_cut_119 rfl rl_0 (by decide) rfl (by decide) rfl (fun q48 => mpp 122 rfl ?_)
              generalize rv P40 0 7 = b49 at q48 ⊢
              refine mp_a (a_aload_n dX6_cut_122 rfl) (mpp 123 rfl ?_)
              refine mp_a (a_iload dX6_cut_123 rfl) (mpp 125 rfl ?_)
              have e50 : (fv P40 b5 1).toInt = (fv Po b5 1).toInt := congrArg Int32.toInt (KW.at k45 1 q6 rfl)
              have p51 : 0 ≤ z27.toInt := by omega
              have p52 : z27.toInt ≤ (fv P40 b5 1).toInt := by omega
              refine mt_callv (i := 156) (q' := q_40) (As := [.ref b5, .int z27]) (rest := []) hT44 dX6_cut_125 rfl qm_40 (by decide) rfl q48 (by decide) rfl (Nat.le_of_ble_eq_true rfl) rfl ⟨rfl, rfl⟩ ⟨Nat.le_of_ble_eq_true rfl, Nat.le_of_ble_eq_true rfl⟩ (EvP.mono (by decide) (c_CP_becomeEndOf_Piece_NPiece hT44 p51 p52 q48 q6)) (fun r53 P54 g55 => mpp 128 rfl ?_)
              obtain ⟨⟨rfl, g57⟩, hT58, k59, R60⟩ := g55
              have k61 : KW [10, 11, 12, 65, 66, 67, 192, 193, 194, 256, 320, 385, 386, 1985, 2112, 2113, 2114] Po P54 := KW.trans k47 k59 rfl
              show MEvP _ none q_39 128 [(5, .int z35), (4, .int z27), (3, .ref b5), (0, .ref 0), (1, .int t1), (2, .int t2)] [] _ _ _ _
              refine mp_a (a_aload_n dX6_cut_128 rfl) (mpp 129 rfl ?_)
              refine mp_a (a_iload dX6_cut_129 rfl) (mpp 131 rfl ?_)
              refine mt_putI (i := 143) (k := 1) (x := z27) hT58 dX6_cut_131 rfl q6 (by decide) rfl (by decide) rfl ⟨by omega, by omega⟩ rfl rfl (fun P62 hT63 f64 f65 => mpp 134 rfl ?_)
              have k66 : KW [10, 11, 12, 65, 66, 67, 192, 193, 194, 256, 320, 385, 386, 1985, 2112, 2113, 2114] Po P62 := KW.step k61 q6 rfl f65
              have e67 : (fv P62 b5 1).toInt = z27.toInt := congrArg Int32.toInt f64
              refine mp_a (a_aload_n dX6_cut_134 rfl) (mpp 135 rfl ?_)
              refine mt_getU (i := 10) (k := 0) (A := 1) hT63 dX6_cut_135 rfl rl_0 (by decide) rfl (by decide) rfl un_31 (mpp 138 rfl ?_)
              refine mp_a (a_aload_n dX6_cut_138 rfl) (mpp 139 rfl ?_)
              refine mt_getR (i := 53) (k := 7) hT63 dX6_cut_139 rfl rl_0 (by decide) rfl (by decide) rfl (fun q68 => mpp 142 rfl ?_)
              generalize rv P62 0 7 = b69 at q68 ⊢
              refine mt_callv (i := 90) (q' := q_27) (As := [.ref b69]) (rest := []) hT63 dX6_cut_142 rfl qm_27 (by decide) rfl rl_1 (by decide) rfl (Nat.le_of_ble_eq_true rfl) rfl ⟨rfl, rfl⟩ ⟨Nat.le_of_ble_eq_true rfl, Nat.le_of_ble_eq_true rfl⟩ (EvP.mono (by decide) (c_CS_addCopyOf_NState_Piece hT63 q68)) (fun r70 P71 g72 => mpp 145 rfl ?_)
              obtain ⟨⟨rfl, g74⟩, hT75, k76, R77⟩ := g72
              have k78 : KW [10, 11, 12, 65, 66, 67, 192, 193, 194, 256, 320, 385, 386, 1985, 2112, 2113, 2114] Po P71 := KW.trans k66 k76 rfl
              show MEvP _ none q_39 145 [(5, .int z35), (4, .int z27), (3, .ref b5), (0, .ref 0), (1, .int t1), (2, .int t2)] [] _ _ _ _
              refine mp_a (a_aload_n dX6_cut_145 rfl) (mpp 146 rfl ?_)
              refine mt_getU (i := 10) (k := 0) (A := 1) hT75 dX6_cut_146 rfl rl_0 (by decide) rfl (by decide) rfl un_31 (mpp 149 rfl ?_)
              have g79 := ti_full (fv P71 1 1)
              refine mt_getI (i := 87) (k := 1) hT75 dX6_cut_149 rfl rl_1 (by decide) rfl (by decide) rfl (fun g80 g81 => mpp 152 rfl ?_)
              refine mp_a (a_iconst (v := 1) dX6_cut_152 rfl) (mpp 153 rfl ?_)
              obtain ⟨z82, h83⟩ := ti_ex ((fv P71 1 1) - 1 : Int32)
              have wz82 := ti_full z82
              refine mp_t (s_isub (v := z82) dX6_cut_153 h83) (mpp 154 rfl ?_)
              try have e84 : z82.toInt = (fv P71 1 1).toInt - 1 := ti_subz h83 rfl rfl (by omega) (by omega)
              exact mp_iret ⟨⟨_, rfl, trivial⟩, hT75, k78, trivial⟩ dX6_cut_154 (Or.inl rfl)
            · have c38 : z35.toInt < 2 := ti_ge_n c38
              refine mp_a (a_aload_n dX6_cut_98 rfl) (mpp 99 rfl ?_)
              refine mp_a (a_bipush (v := 6) dX6_cut_99 rfl) (mpp 101 rfl ?_)
              refine mp_a (a_iload dX6_cut_101 rfl) (mpp 103 rfl ?_)
              refine mt_callv (i := 68) (q' := q_14) (As := [.int 6, .int z35]) (rest := []) hT dX6_cut_103 rfl qm_14 (by decide) rfl rl_0 (by decide) rfl (Nat.le_of_ble_eq_true rfl) rfl ⟨rfl, rfl⟩ ⟨Nat.le_of_ble_eq_true rfl, Nat.le_of_ble_eq_true rfl⟩ (EvP.mono (by decide) (c_F_refuse hT )) (fun r85 P86 g87 => mpp 106 rfl ?_)
              obtain ⟨⟨x88, rfl, g89⟩, hT90, k91, R92⟩ := g87
              have k93 : KW [10, 11, 12, 65, 66, 67, 192, 193, 194, 256, 320, 385, 386, 1985, 2112, 2113, 2114] Po P86 := KW.trans KW.refl k91 rfl
              have wx88 := ti_full x88
              show MEvP _ none q_39 106 [(5, .int z35), (4, .int z27), (3, .ref b5), (0, .ref 0), (1, .int t1), (2, .int t2)] [.int x88] _ _ _ _
              exact mp_iret ⟨⟨_, rfl, trivial⟩, hT90, k93, trivial⟩ dX6_cut_106 (Or.inl rfl)
          · have c26 : (fv Po b5 0).toInt ≠ 0 := ti_eq_n c26
            refine mp_a (a_aload_n dX6_cut_66 rfl) (mpp 67 rfl ?_)
            refine mp_a (a_iconst (v := 3) dX6_cut_67 rfl) (mpp 68 rfl ?_)
            refine mp_a (a_iload_n dX6_cut_68 rfl) (mpp 69 rfl ?_)
            refine mt_callv (i := 68) (q' := q_14) (As := [.int 3, .int t1]) (rest := []) hT dX6_cut_69 rfl qm_14 (by decide) rfl rl_0 (by decide) rfl (Nat.le_of_ble_eq_true rfl) rfl ⟨rfl, rfl⟩ ⟨Nat.le_of_ble_eq_true rfl, Nat.le_of_ble_eq_true rfl⟩ (EvP.mono (by decide) (c_F_refuse hT )) (fun r94 P95 g96 => mpp 72 rfl ?_)
            obtain ⟨⟨x97, rfl, g98⟩, hT99, k100, R101⟩ := g96
            have k102 : KW [10, 11, 12, 65, 66, 67, 192, 193, 194, 256, 320, 385, 386, 1985, 2112, 2113, 2114] Po P95 := KW.trans KW.refl k100 rfl
            have wx97 := ti_full x97
            show MEvP _ none q_39 72 [(3, .ref b5), (0, .ref 0), (1, .int t1), (2, .int t2)] [.int x97] _ _ _ _
            exact mp_iret ⟨⟨_, rfl, trivial⟩, hT99, k102, trivial⟩ dX6_cut_72 (Or.inl rfl)
        · have c22 : (fv Po b5 2).toInt ≠ 0 := ti_eq_n c22
          refine mp_a (a_aload_n dX6_cut_52 rfl) (mpp 53 rfl ?_)
          refine mp_a (a_iconst (v := 2) dX6_cut_53 rfl) (mpp 54 rfl ?_)
          refine mp_a (a_iload_n dX6_cut_54 rfl) (mpp 55 rfl ?_)
          refine mt_callv (i := 68) (q' := q_14) (As := [.int 2, .int t1]) (rest := []) hT dX6_cut_55 rfl qm_14 (by decide) rfl rl_0 (by decide) rfl (Nat.le_of_ble_eq_true rfl) rfl ⟨rfl, rfl⟩ ⟨Nat.le_of_ble_eq_true rfl, Nat.le_of_ble_eq_true rfl⟩ (EvP.mono (by decide) (c_F_refuse hT )) (fun r103 P104 g105 => mpp 58 rfl ?_)
          obtain ⟨⟨x106, rfl, g107⟩, hT108, k109, R110⟩ := g105
          have k111 : KW [10, 11, 12, 65, 66, 67, 192, 193, 194, 256, 320, 385, 386, 1985, 2112, 2113, 2114] Po P104 := KW.trans KW.refl k109 rfl
          have wx106 := ti_full x106
          show MEvP _ none q_39 58 [(3, .ref b5), (0, .ref 0), (1, .int t1), (2, .int t2)] [.int x106] _ _ _ _
          exact mp_iret ⟨⟨_, rfl, trivial⟩, hT108, k111, trivial⟩ dX6_cut_58 (Or.inl rfl)
      · have c18 : (fv Po 1 1).toInt ≥ 8 := ti_lt_n c18
        refine mp_a (a_aload_n dX6_cut_37 rfl) (mpp 38 rfl ?_)
        refine mp_a (a_iconst (v := 1) dX6_cut_38 rfl) (mpp 39 rfl ?_)
        refine mp_a (a_bipush (v := 8) dX6_cut_39 rfl) (mpp 41 rfl ?_)
        refine mt_callv (i := 68) (q' := q_14) (As := [.int 1, .int 8]) (rest := []) hT dX6_cut_41 rfl qm_14 (by decide) rfl rl_0 (by decide) rfl (Nat.le_of_ble_eq_true rfl) rfl ⟨rfl, rfl⟩ ⟨Nat.le_of_ble_eq_true rfl, Nat.le_of_ble_eq_true rfl⟩ (EvP.mono (by decide) (c_F_refuse hT )) (fun r112 P113 g114 => mpp 44 rfl ?_)
        obtain ⟨⟨x115, rfl, g116⟩, hT117, k118, R119⟩ := g114
        have k120 : KW [10, 11, 12, 65, 66, 67, 192, 193, 194, 256, 320, 385, 386, 1985, 2112, 2113, 2114] Po P113 := KW.trans KW.refl k118 rfl
        have wx115 := ti_full x115
        show MEvP _ none q_39 44 [(3, .ref b5), (0, .ref 0), (1, .int t1), (2, .int t2)] [.int x115] _ _ _ _
        exact mp_iret ⟨⟨_, rfl, trivial⟩, hT117, k120, trivial⟩ dX6_cut_44 (Or.inl rfl)
    · have c14 : x10.toInt = 0 := ti_ne_n c14
      refine mp_a (a_sipush (v := -1001) dX6_cut_21 rfl) (mpp 24 rfl ?_)
      exact mp_iret ⟨⟨_, rfl, trivial⟩, hT, KW.refl, trivial⟩ dX6_cut_24 (Or.inl rfl)

set_option maxHeartbeats 4000000 in
theorem c_CP_isUndecided_NPiece {Po : mP} {a0_ : Nat} (hT : Typ Po)  (ha0 : rl a0_ = 33) : EvP 3 42 [.ref a0_] Po (fun r P' => (∃ x : Int32, r = some (.int x) ∧ (0 ≤ x.toInt ∧ x.toInt ≤ 1)) ∧ P' = Po) := by
  refine EvP.of qm_42 (Nat.le_of_ble_eq_true rfl) rfl ?_
  show MEvP _ none q_42 0 [(0, .ref a0_)] [] _ 0 0 _
  refine mp_a (a_aload_n dX2_isUndecided_0 rfl) (mpp 1 rfl ?_)
  refine mp_a (a_iconst (v := 0) dX2_isUndecided_1 rfl) (mpp 2 rfl ?_)
  refine mt_callv (i := 52) (q' := q_32) (As := [.int 0]) (rest := []) hT dX2_isUndecided_2 rfl qm_32 (by decide) rfl ha0 (by decide) rfl (Nat.le_of_ble_eq_true rfl) rfl ⟨rfl, rfl⟩ ⟨Nat.le_of_ble_eq_true rfl, Nat.le_of_ble_eq_true rfl⟩ (EvP.mono (by decide) (c_CP_countOf_NPiece hT ha0)) (fun r1 P2 g3 => mpp 5 rfl ?_)
  obtain ⟨⟨x4, rfl, g5⟩, e6⟩ := g3
  have e6 := e6.symm
  subst e6
  have wx4 := ti_full x4
  have g5 : 0 ≤ x4.toInt ∧ x4.toInt ≤ 8 := g5
  show MEvP _ none q_42 5 [(0, .ref a0_)] [.int x4] _ _ _ _
  refine mp_Tb (t := 12) (j_if_le dX2_isUndecided_5) (by decide) (fun c7 => ?_) (fun c7 => mpp 8 rfl ?_)
  · have c7 : x4.toInt ≤ 0 := ti_le c7
    refine mp_a (a_iconst (v := 0) dX2_isUndecided_12 rfl) (mpp 13 rfl ?_)
    have u8 : 0 ≤ (0 : Int) ∧ (0 : Int) ≤ 1 := by omega
    exact mp_iret ⟨⟨_, rfl, u8⟩, rfl⟩ dX2_isUndecided_13 (Or.inr ⟨rfl, by decide⟩)
  · have c7 : x4.toInt > 0 := ti_le_n c7
    refine mp_a (a_iconst (v := 1) dX2_isUndecided_8 rfl) (mpp 9 rfl ?_)
    refine mp_a (a_goto (t := 13) dX2_isUndecided_9 (by decide)) ?_
    have u9 : 0 ≤ (1 : Int) ∧ (1 : Int) ≤ 1 := by omega
    exact mp_iret ⟨⟨_, rfl, u9⟩, rfl⟩ dX2_isUndecided_13 (Or.inr ⟨rfl, by decide⟩)

set_option maxHeartbeats 4000000 in
theorem c_F_copyRow_sizes_rsizes_l2 {Po : mP} {a0_ : Nat} (ha0 : rl a0_ = 4) : ∀ (n : Nat) (v2 : Int32), ∀ (P : mP), Typ P → KW [704] Po P → (0 ≤ v2.toInt) → (2147483647 - v2.toInt).toNat = n → MEvP 0 none q_19 2 [(0, .ref a0_), (1, .ref 292), (2, .int v2)] [] P 0 0 (fun r P' => (r = none ∧ (True)) ∧ Typ P' ∧ KW [704] Po P' ∧ True) := by
  intro n
  induction n using Nat.strongRecOn with | _ n ih => ?_
  intro v2 P hT hK i_0 hm
  have w_v2 := ti_full v2
  refine mp_a (a_iload_n dX6_copyRow_2 rfl) (mpp 3 rfl ?_)
  refine mp_a (a_aload_n dX6_copyRow_3 rfl) (mpp 4 rfl ?_)
  refine mt_len (n := 8) hT dX6_copyRow_4 ha0 (by decide) (by decide) rfl (mpp 5 rfl ?_)
  refine mp_Tb (t := 26) (j_icmp_ge dX6_copyRow_5) (by decide) (fun c1 => ?_) (fun c1 => mpp 8 rfl ?_)
  · have c1 : v2.toInt ≥ 8 := ti_ge c1
    exact mp_ret ⟨⟨rfl, trivial⟩, hT, hK, trivial⟩ dX6_copyRow_26 rfl
  · have c1 : v2.toInt < 8 := ti_ge_n c1
    refine mp_a (a_iload_n dX6_copyRow_8 rfl) (mpp 9 rfl ?_)
    refine mp_a (a_aload_n dX6_copyRow_9 rfl) (mpp 10 rfl ?_)
    refine mt_len (n := 8) hT dX6_copyRow_10 rl_292 (by decide) (by decide) rfl (mpp 11 rfl ?_)
    refine mp_Tb (t := 26) (j_icmp_ge dX6_copyRow_11) (by decide) (fun c2 => ?_) (fun c2 => mpp 14 rfl ?_)
    · have c2 : v2.toInt ≥ 8 := ti_ge c2
      exact mp_ret ⟨⟨rfl, trivial⟩, hT, hK, trivial⟩ dX6_copyRow_26 rfl
    · have c2 : v2.toInt < 8 := ti_ge_n c2
      refine mp_a (a_aload_n dX6_copyRow_14 rfl) (mpp 15 rfl ?_)
      refine mp_a (a_iload_n dX6_copyRow_15 rfl) (mpp 16 rfl ?_)
      refine mp_a (a_aload_n dX6_copyRow_16 rfl) (mpp 17 rfl ?_)
      refine mp_a (a_iload_n dX6_copyRow_17 rfl) (mpp 18 rfl ?_)
      refine mt_ial (n := 8) hT dX6_copyRow_18 ha0 (by decide) rfl rfl (by omega) (by omega) rfl (fun g3 g4 => mpp 19 rfl ?_)
      refine mt_ias (n := 8) hT dX6_copyRow_19 rl_292 (by decide) rfl rfl (by omega) (by omega) rfl (ti_full (fv P a0_ v2.toInt.toNat)) (fun P5 hT6 f7 f8 => mpp 20 rfl ?_)
      have k9 : KW [704] Po P5 := KW.step hK rl_292 rfl f8
      obtain ⟨z10, h11⟩ := ti_ex (v2 + 1 : Int32)
      have wz10 := ti_full z10
      refine mp_a (a_iinc (v := z10) (L' := [(2, .int z10), (0, .ref a0_), (1, .ref 292)]) dX6_copyRow_20 (by decide) rfl h11 rfl) (mpp 23 rfl ?_)
      try have e12 : z10.toInt = v2.toInt + 1 := ti_addz h11 rfl rfl (by omega) (by omega)
      refine mp_a (a_goto (t := 2) dX6_copyRow_23 (by decide)) ?_
      refine MEvP.less (L := [(0, .ref a0_), (1, .ref 292), (2, .int z10)]) rfl rfl ⟨rfl, rfl, rfl, trivial⟩ ?_
      have i13 : 0 ≤ z10.toInt := by omega
      exact ih _ (by omega) _ P5 hT6 k9 i13 rfl

set_option maxHeartbeats 4000000 in
theorem c_F_copyRow_sizes_rsizes {Po : mP} {a0_ : Nat} (hT : Typ Po)  (ha0 : rl a0_ = 4) : EvP 1 19 [.ref a0_, .ref 292] Po (fun r P' => (r = none ∧ (True)) ∧ Typ P' ∧ KW [704] Po P' ∧ True) := by
  refine EvP.of qm_19 (Nat.le_of_ble_eq_true rfl) rfl ?_
  show MEvP _ none q_19 0 [(0, .ref a0_), (1, .ref 292)] [] _ 0 0 _
  refine mp_a (a_iconst (v := 0) dX6_copyRow_0 rfl) (mpp 1 rfl ?_)
  refine mp_a (a_istore_n (L' := [(2, .int 0), (0, .ref a0_), (1, .ref 292)]) dX6_copyRow_1 (by decide) rfl) (mpp 2 rfl ?_)
  refine MEvP.less (L := [(0, .ref a0_), (1, .ref 292), (2, .int 0)]) rfl rfl ⟨rfl, rfl, rfl, trivial⟩ ?_
  have i1 : 0 ≤ (0 : Int) := by omega
  exact c_F_copyRow_sizes_rsizes_l2  ha0 _ _ Po hT KW.refl i1 rfl

set_option maxHeartbeats 4000000 in
theorem c_F_put_rcreases {Po : mP} {t1 : Int32} {t2 : Int32} (hT : Typ Po)   : EvP 1 22 [.ref 293, .int t1, .int t2] Po (fun r P' => (r = none ∧ (True)) ∧ Typ P' ∧ KW [768] Po P' ∧ True) := by
  refine EvP.of qm_22 (Nat.le_of_ble_eq_true rfl) rfl ?_
  show MEvP _ none q_22 0 [(0, .ref 293), (1, .int t1), (2, .int t2)] [] _ 0 0 _
  refine mp_a (a_iload_n dX6_put_0 rfl) (mpp 1 rfl ?_)
  refine mp_Tb (t := 14) (j_if_lt dX6_put_1) (by decide) (fun c1 => ?_) (fun c1 => mpp 4 rfl ?_)
  · have c1 : t1.toInt < 0 := ti_lt c1
    exact mp_ret ⟨⟨rfl, trivial⟩, hT, KW.refl, trivial⟩ dX6_put_14 rfl
  · have c1 : t1.toInt ≥ 0 := ti_lt_n c1
    refine mp_a (a_iload_n dX6_put_4 rfl) (mpp 5 rfl ?_)
    refine mp_a (a_aload_n dX6_put_5 rfl) (mpp 6 rfl ?_)
    refine mt_len (n := 8) hT dX6_put_6 rl_293 (by decide) (by decide) rfl (mpp 7 rfl ?_)
    refine mp_Tb (t := 14) (j_icmp_ge dX6_put_7) (by decide) (fun c2 => ?_) (fun c2 => mpp 10 rfl ?_)
    · have c2 : t1.toInt ≥ 8 := ti_ge c2
      exact mp_ret ⟨⟨rfl, trivial⟩, hT, KW.refl, trivial⟩ dX6_put_14 rfl
    · have c2 : t1.toInt < 8 := ti_ge_n c2
      refine mp_a (a_aload_n dX6_put_10 rfl) (mpp 11 rfl ?_)
      refine mp_a (a_iload_n dX6_put_11 rfl) (mpp 12 rfl ?_)
      refine mp_a (a_iload_n dX6_put_12 rfl) (mpp 13 rfl ?_)
      refine mt_ias (n := 8) hT dX6_put_13 rl_293 (by decide) rfl rfl (by omega) (by omega) rfl (ti_full t2) (fun P3 hT4 f5 f6 => mpp 14 rfl ?_)
      have k7 : KW [768] Po P3 := KW.step KW.refl rl_293 rfl f6
      exact mp_ret ⟨⟨rfl, trivial⟩, hT4, k7, trivial⟩ dX6_put_14 rfl

set_option maxHeartbeats 4000000 in
theorem c_CR_putCrease_Reducer {Po : mP} {t1 : Int32} {t2 : Int32} (hT : Typ Po)   : EvP 2 46 [.ref 291, .int t1, .int t2] Po (fun r P' => (r = none ∧ (True)) ∧ Typ P' ∧ KW [768] Po P' ∧ True) := by
  refine EvP.of qm_46 (Nat.le_of_ble_eq_true rfl) rfl ?_
  show MEvP _ none q_46 0 [(0, .ref 291), (1, .int t1), (2, .int t2)] [] _ 0 0 _
  refine mp_a (a_aload_n dX3_putCrease_0 rfl) (mpp 1 rfl ?_)
  refine mt_getU (i := 15) (k := 3) (A := 293) hT dX3_putCrease_1 rfl rl_291 (by decide) rfl (by decide) rfl un_12 (mpp 4 rfl ?_)
  refine mp_a (a_aload_n dX3_putCrease_4 rfl) (mpp 5 rfl ?_)
  have g1 := ti_full (fv Po 291 0)
  refine mt_getI (i := 24) (k := 0) hT dX3_putCrease_5 rfl rl_291 (by decide) rfl (by decide) rfl (fun g2 g3 => mpp 8 rfl ?_)
  refine mp_Tb (t := 17) (j_if_ne dX3_putCrease_8) (by decide) (fun c4 => ?_) (fun c4 => mpp 11 rfl ?_)
  · have c4 : (fv Po 291 0).toInt ≠ 0 := ti_ne c4
    refine mp_a (a_iload_n dX3_putCrease_17 rfl) (mpp 18 rfl ?_)
    refine mp_a (a_iload_n dX3_putCrease_18 rfl) (mpp 19 rfl ?_)
    refine mp_calls (i := 47) (q' := q_22) (As := [.ref 293, .int t1, .int t2]) (rest := []) dX3_putCrease_19 rfl qm_22 (by decide) rfl (Nat.le_of_ble_eq_true rfl) rfl ⟨rfl, rfl⟩ ⟨Nat.le_of_ble_eq_true rfl, Nat.le_of_ble_eq_true rfl⟩ (EvP.mono (by decide) (c_F_put_rcreases hT )) (fun r5 P6 g7 => mpp 22 rfl ?_)
    obtain ⟨⟨rfl, g9⟩, hT10, k11, R12⟩ := g7
    have k13 : KW [768] Po P6 := KW.trans KW.refl k11 rfl
    show MEvP _ none q_46 22 [(0, .ref 291), (1, .int t1), (2, .int t2)] [] _ _ _ _
    exact mp_ret ⟨⟨rfl, trivial⟩, hT10, k13, trivial⟩ dX3_putCrease_22 rfl
  · have c4 : (fv Po 291 0).toInt = 0 := ti_ne_n c4
    refine mp_a (a_iload_n dX3_putCrease_11 rfl) (mpp 12 rfl ?_)
    refine mp_a (a_iconst (v := 1) dX3_putCrease_12 rfl) (mpp 13 rfl ?_)
    obtain ⟨z14, h15⟩ := ti_ex (t1 + 1 : Int32)
    have wz14 := ti_full z14
    refine mp_t (s_iadd (v := z14) dX3_putCrease_13 h15) (mpp 14 rfl ?_)
    try have e16 : z14.toInt = t1.toInt + 1 := ti_addz h15 rfl rfl (by omega) (by omega)
    refine mp_a (a_goto (t := 18) dX3_putCrease_14 (by decide)) ?_
    refine mp_a (a_iload_n dX3_putCrease_18 rfl) (mpp 19 rfl ?_)
    refine mp_calls (i := 47) (q' := q_22) (As := [.ref 293, .int z14, .int t2]) (rest := []) dX3_putCrease_19 rfl qm_22 (by decide) rfl (Nat.le_of_ble_eq_true rfl) rfl ⟨rfl, rfl⟩ ⟨Nat.le_of_ble_eq_true rfl, Nat.le_of_ble_eq_true rfl⟩ (EvP.mono (by decide) (c_F_put_rcreases hT )) (fun r17 P18 g19 => mpp 22 rfl ?_)
    obtain ⟨⟨rfl, g21⟩, hT22, k23, R24⟩ := g19
    have k25 : KW [768] Po P18 := KW.trans KW.refl k23 rfl
    show MEvP _ none q_46 22 [(0, .ref 291), (1, .int t1), (2, .int t2)] [] _ _ _ _
    exact mp_ret ⟨⟨rfl, trivial⟩, hT22, k25, trivial⟩ dX3_putCrease_22 rfl

set_option maxHeartbeats 4000000 in
theorem c_CR_load_Reducer_NPiece_l29 {Po : mP} {a1_ : Nat} (ha1 : rl a1_ = 33) : ∀ (n : Nat) (v2 : Int32), ∀ (P : mP), Typ P → KW [640, 641, 704, 768] Po P → (0 ≤ v2.toInt) → (2147483647 - v2.toInt).toNat = n → MEvP 2 none q_45 29 [(0, .ref 291), (1, .ref a1_), (2, .int v2)] [] P 0 0 (fun r P' => (r = none ∧ (True)) ∧ Typ P' ∧ KW [640, 641, 704, 768] Po P' ∧ True) := by
  intro n
  induction n using Nat.strongRecOn with | _ n ih => ?_
  intro v2 P hT hK i_0 hm
  have w_v2 := ti_full v2
  refine mp_a (a_iload_n dX3_load_29 rfl) (mpp 30 rfl ?_)
  refine mp_a (a_aload_n dX3_load_30 rfl) (mpp 31 rfl ?_)
  refine mt_callv (i := 34) (q' := q_25) (As := []) (rest := [.int v2]) hT dX3_load_31 rfl qm_25 (by decide) rfl ha1 (by decide) rfl (Nat.le_of_ble_eq_true rfl) rfl ⟨rfl, rfl⟩ ⟨Nat.le_of_ble_eq_true rfl, Nat.le_of_ble_eq_true rfl⟩ (EvP.mono (by decide) (c_CP_creaseCount_NPiece hT ha1)) (fun r1 P2 g3 => mpp 34 rfl ?_)
  obtain ⟨⟨x4, rfl, g5⟩, e6⟩ := g3
  have e6 := e6.symm
  subst e6
  have wx4 := ti_full x4
  have g5 : -1 ≤ x4.toInt ∧ x4.toInt ≤ (fv P a1_ 1).toInt := g5
  have g7 : (0 : Int) ≤ (fv P a1_ 1).toInt ∧ (fv P a1_ 1).toInt ≤ 8 := Typ.rng hT ha1 (by decide) (by decide) rfl
  show MEvP _ none q_45 34 [(0, .ref 291), (1, .ref a1_), (2, .int v2)] [.int x4, .int v2] _ _ _ _
  refine mp_Tb (t := 56) (j_icmp_ge dX3_load_34) (by decide) (fun c8 => ?_) (fun c8 => mpp 37 rfl ?_)
  · have c8 : v2.toInt ≥ x4.toInt := ti_ge c8
    exact mp_ret ⟨⟨rfl, trivial⟩, hT, hK, trivial⟩ dX3_load_56 rfl
  · have c8 : v2.toInt < x4.toInt := ti_ge_n c8
    refine mp_a (a_aload_n dX3_load_37 rfl) (mpp 38 rfl ?_)
    refine mp_a (a_iload_n dX3_load_38 rfl) (mpp 39 rfl ?_)
    refine mp_a (a_aload_n dX3_load_39 rfl) (mpp 40 rfl ?_)
    refine mt_getR (i := 38) (k := 4) hT dX3_load_40 rfl ha1 (by decide) rfl (by decide) rfl (fun q9 => mpp 43 rfl ?_)
    generalize rv P a1_ 4 = b10 at q9 ⊢
    refine mp_a (a_iload_n dX3_load_43 rfl) (mpp 44 rfl ?_)
    refine mp_calls (i := 39) (q' := q_12) (As := [.ref b10, .int v2]) (rest := [.int v2, .ref 291]) dX3_load_44 rfl qm_12 (by decide) rfl (Nat.le_of_ble_eq_true rfl) rfl ⟨rfl, rfl⟩ ⟨Nat.le_of_ble_eq_true rfl, Nat.le_of_ble_eq_true rfl⟩ (EvP.mono (by decide) (c_F_at_creases hT q9)) (fun r11 P12 g13 => mpp 47 rfl ?_)
    obtain ⟨⟨x14, rfl, g15⟩, e16⟩ := g13
    have e16 := e16.symm
    subst e16
    have wx14 := ti_full x14
    show MEvP _ none q_45 47 [(0, .ref 291), (1, .ref a1_), (2, .int v2)] [.int x14, .int v2, .ref 291] _ _ _ _
    refine mt_callv (i := 43) (q' := q_46) (As := [.int v2, .int x14]) (rest := []) hT dX3_load_47 rfl qm_46 (by decide) rfl rl_291 (by decide) rfl (Nat.le_of_ble_eq_true rfl) rfl ⟨rfl, rfl⟩ ⟨Nat.le_of_ble_eq_true rfl, Nat.le_of_ble_eq_true rfl⟩ (EvP.mono (by decide) (c_CR_putCrease_Reducer hT )) (fun r17 P18 g19 => mpp 50 rfl ?_)
    obtain ⟨⟨rfl, g21⟩, hT22, k23, R24⟩ := g19
    have k25 : KW [640, 641, 704, 768] Po P18 := KW.trans hK k23 rfl
    show MEvP _ none q_45 50 [(0, .ref 291), (1, .ref a1_), (2, .int v2)] [] _ _ _ _
    obtain ⟨z26, h27⟩ := ti_ex (v2 + 1 : Int32)
    have wz26 := ti_full z26
    refine mp_a (a_iinc (v := z26) (L' := [(2, .int z26), (0, .ref 291), (1, .ref a1_)]) dX3_load_50 (by decide) rfl h27 rfl) (mpp 53 rfl ?_)
    try have e28 : z26.toInt = v2.toInt + 1 := ti_addz h27 rfl rfl (by omega) (by omega)
    refine mp_a (a_goto (t := 29) dX3_load_53 (by decide)) ?_
    refine MEvP.less (L := [(0, .ref 291), (1, .ref a1_), (2, .int z26)]) rfl rfl ⟨rfl, rfl, rfl, trivial⟩ ?_
    have i29 : 0 ≤ z26.toInt := by omega
    exact ih _ (by omega) _ P18 hT22 k25 i29 rfl

set_option maxHeartbeats 4000000 in
theorem c_CR_load_Reducer_NPiece {Po : mP} {a1_ : Nat} (hT : Typ Po)  (ha1 : rl a1_ = 33) : EvP 3 45 [.ref 291, .ref a1_] Po (fun r P' => (r = none ∧ (True)) ∧ Typ P' ∧ KW [640, 641, 704, 768] Po P' ∧ True) := by
  refine EvP.of qm_45 (Nat.le_of_ble_eq_true rfl) rfl ?_
  show MEvP _ none q_45 0 [(0, .ref 291), (1, .ref a1_)] [] _ 0 0 _
  refine mp_a (a_aload_n dX3_load_0 rfl) (mpp 1 rfl ?_)
  refine mp_a (a_aload_n dX3_load_1 rfl) (mpp 2 rfl ?_)
  have g1 := ti_full (fv Po a1_ 0)
  refine mt_getI (i := 18) (k := 0) hT dX3_load_2 rfl ha1 (by decide) rfl (by decide) rfl (fun g2 g3 => mpp 5 rfl ?_)
  refine mt_putI (i := 24) (k := 0) (x := (fv Po a1_ 0)) hT dX3_load_5 rfl rl_291 (by decide) rfl (by decide) rfl (ti_full (fv Po a1_ 0)) rfl rfl (fun P4 hT5 f6 f7 => mpp 8 rfl ?_)
  have k8 : KW [640, 641, 704, 768] Po P4 := KW.step KW.refl rl_291 rfl f7
  have e9 : (fv P4 291 0).toInt = (fv Po a1_ 0).toInt := congrArg Int32.toInt f6
  refine mp_a (a_aload_n dX3_load_8 rfl) (mpp 9 rfl ?_)
  refine mp_a (a_aload_n dX3_load_9 rfl) (mpp 10 rfl ?_)
  have g10 : (0 : Int) ≤ (fv P4 a1_ 1).toInt ∧ (fv P4 a1_ 1).toInt ≤ 8 := Typ.rng hT5 ha1 (by decide) (by decide) rfl
  refine mt_getI (i := 25) (k := 1) hT5 dX3_load_10 rfl ha1 (by decide) rfl (by decide) rfl (fun g11 g12 => mpp 13 rfl ?_)
  refine mt_putI (i := 28) (k := 1) (x := (fv P4 a1_ 1)) hT5 dX3_load_13 rfl rl_291 (by decide) rfl (by decide) rfl ⟨by omega, by omega⟩ rfl rfl (fun P13 hT14 f15 f16 => mpp 16 rfl ?_)
  have k17 : KW [640, 641, 704, 768] Po P13 := KW.step k8 rl_291 rfl f16
  have e18 : (fv P13 291 1).toInt = (fv P4 a1_ 1).toInt := congrArg Int32.toInt f15
  refine mp_a (a_aload_n dX3_load_16 rfl) (mpp 17 rfl ?_)
  refine mt_getR (i := 29) (k := 3) hT14 dX3_load_17 rfl ha1 (by decide) rfl (by decide) rfl (fun q19 => mpp 20 rfl ?_)
  generalize rv P13 a1_ 3 = b20 at q19 ⊢
  refine mp_a (a_aload_n dX3_load_20 rfl) (mpp 21 rfl ?_)
  refine mt_getU (i := 9) (k := 2) (A := 292) hT14 dX3_load_21 rfl rl_291 (by decide) rfl (by decide) rfl un_11 (mpp 24 rfl ?_)
  refine mp_calls (i := 30) (q' := q_19) (As := [.ref b20, .ref 292]) (rest := []) dX3_load_24 rfl qm_19 (by decide) rfl (Nat.le_of_ble_eq_true rfl) rfl ⟨rfl, rfl⟩ ⟨Nat.le_of_ble_eq_true rfl, Nat.le_of_ble_eq_true rfl⟩ (EvP.mono (by decide) (c_F_copyRow_sizes_rsizes hT14 q19)) (fun r21 P22 g23 => mpp 27 rfl ?_)
  obtain ⟨⟨rfl, g25⟩, hT26, k27, R28⟩ := g23
  have k29 : KW [640, 641, 704, 768] Po P22 := KW.trans k17 k27 rfl
  show MEvP _ none q_45 27 [(0, .ref 291), (1, .ref a1_)] [] _ _ _ _
  refine mp_a (a_iconst (v := 0) dX3_load_27 rfl) (mpp 28 rfl ?_)
  refine mp_a (a_istore_n (L' := [(2, .int 0), (0, .ref 291), (1, .ref a1_)]) dX3_load_28 (by decide) rfl) (mpp 29 rfl ?_)
  refine MEvP.less (L := [(0, .ref 291), (1, .ref a1_), (2, .int 0)]) rfl rfl ⟨rfl, rfl, rfl, trivial⟩ ?_
  have i30 : 0 ≤ (0 : Int) := by omega
  exact c_CR_load_Reducer_NPiece_l29  ha1 _ _ P22 hT26 k29 i30 rfl

set_option maxHeartbeats 4000000 in
theorem c_F_at_rsizes {Po : mP} {t1 : Int32} (hT : Typ Po)   : EvP 1 12 [.ref 292, .int t1] Po (fun r P' => (∃ x : Int32, r = some (.int x) ∧ (True)) ∧ P' = Po) := by
  refine EvP.of qm_12 (Nat.le_of_ble_eq_true rfl) rfl ?_
  show MEvP _ none q_12 0 [(0, .ref 292), (1, .int t1)] [] _ 0 0 _
  refine mp_a (a_iload_n dX6_at_0 rfl) (mpp 1 rfl ?_)
  refine mp_Tb (t := 16) (j_if_lt dX6_at_1) (by decide) (fun c1 => ?_) (fun c1 => mpp 4 rfl ?_)
  · have c1 : t1.toInt < 0 := ti_lt c1
    refine mp_a (a_iconst (v := 0) dX6_at_16 rfl) (mpp 17 rfl ?_)
    exact mp_iret ⟨⟨_, rfl, trivial⟩, rfl⟩ dX6_at_17 (Or.inl rfl)
  · have c1 : t1.toInt ≥ 0 := ti_lt_n c1
    refine mp_a (a_iload_n dX6_at_4 rfl) (mpp 5 rfl ?_)
    refine mp_a (a_aload_n dX6_at_5 rfl) (mpp 6 rfl ?_)
    refine mt_len (n := 8) hT dX6_at_6 rl_292 (by decide) (by decide) rfl (mpp 7 rfl ?_)
    refine mp_Tb (t := 16) (j_icmp_ge dX6_at_7) (by decide) (fun c2 => ?_) (fun c2 => mpp 10 rfl ?_)
    · have c2 : t1.toInt ≥ 8 := ti_ge c2
      refine mp_a (a_iconst (v := 0) dX6_at_16 rfl) (mpp 17 rfl ?_)
      exact mp_iret ⟨⟨_, rfl, trivial⟩, rfl⟩ dX6_at_17 (Or.inl rfl)
    · have c2 : t1.toInt < 8 := ti_ge_n c2
      refine mp_a (a_aload_n dX6_at_10 rfl) (mpp 11 rfl ?_)
      refine mp_a (a_iload_n dX6_at_11 rfl) (mpp 12 rfl ?_)
      refine mt_ial (n := 8) hT dX6_at_12 rl_292 (by decide) rfl rfl (by omega) (by omega) rfl (fun g3 g4 => mpp 13 rfl ?_)
      refine mp_a (a_goto (t := 17) dX6_at_13 (by decide)) ?_
      exact mp_iret ⟨⟨_, rfl, trivial⟩, rfl⟩ dX6_at_17 (Or.inl rfl)

set_option maxHeartbeats 4000000 in
theorem c_CR_before_Reducer {Po : mP} {t1 : Int32} (hT : Typ Po)   : EvP 1 49 [.ref 291, .int t1] Po (fun r P' => (∃ x : Int32, r = some (.int x) ∧ (True)) ∧ P' = Po) := by
  refine EvP.of qm_49 (Nat.le_of_ble_eq_true rfl) rfl ?_
  show MEvP _ none q_49 0 [(0, .ref 291), (1, .int t1)] [] _ 0 0 _
  refine mp_a (a_iload_n dX3_before_0 rfl) (mpp 1 rfl ?_)
  refine mp_Tb (t := 10) (j_if_le dX3_before_1) (by decide) (fun c1 => ?_) (fun c1 => mpp 4 rfl ?_)
  · have c1 : t1.toInt ≤ 0 := ti_le c1
    refine mp_a (a_aload_n dX3_before_10 rfl) (mpp 11 rfl ?_)
    have g2 : (0 : Int) ≤ (fv Po 291 1).toInt ∧ (fv Po 291 1).toInt ≤ 8 := Typ.rng hT rl_291 (by decide) (by decide) rfl
    refine mt_getI (i := 28) (k := 1) hT dX3_before_11 rfl rl_291 (by decide) rfl (by decide) rfl (fun g3 g4 => mpp 14 rfl ?_)
    refine mp_a (a_iconst (v := 1) dX3_before_14 rfl) (mpp 15 rfl ?_)
    obtain ⟨z5, h6⟩ := ti_ex ((fv Po 291 1) - 1 : Int32)
    have wz5 := ti_full z5
    refine mp_t (s_isub (v := z5) dX3_before_15 h6) (mpp 16 rfl ?_)
    try have e7 : z5.toInt = (fv Po 291 1).toInt - 1 := ti_subz h6 rfl rfl (by omega) (by omega)
    exact mp_iret ⟨⟨_, rfl, trivial⟩, rfl⟩ dX3_before_16 (Or.inl rfl)
  · have c1 : t1.toInt > 0 := ti_le_n c1
    refine mp_a (a_iload_n dX3_before_4 rfl) (mpp 5 rfl ?_)
    refine mp_a (a_iconst (v := 1) dX3_before_5 rfl) (mpp 6 rfl ?_)
    obtain ⟨z8, h9⟩ := ti_ex (t1 - 1 : Int32)
    have wz8 := ti_full z8
    refine mp_t (s_isub (v := z8) dX3_before_6 h9) (mpp 7 rfl ?_)
    try have e10 : z8.toInt = t1.toInt - 1 := ti_subz h9 rfl rfl (by omega) (by omega)
    refine mp_a (a_goto (t := 16) dX3_before_7 (by decide)) ?_
    exact mp_iret ⟨⟨_, rfl, trivial⟩, rfl⟩ dX3_before_16 (Or.inl rfl)

set_option maxHeartbeats 4000000 in
theorem c_CR_after_Reducer {Po : mP} {t1 : Int32} (hT : Typ Po)   : EvP 1 50 [.ref 291, .int t1] Po (fun r P' => (∃ x : Int32, r = some (.int x) ∧ (True)) ∧ P' = Po) := by
  refine EvP.of qm_50 (Nat.le_of_ble_eq_true rfl) rfl ?_
  show MEvP _ none q_50 0 [(0, .ref 291), (1, .int t1)] [] _ 0 0 _
  refine mp_a (a_iload_n dX3_after_0 rfl) (mpp 1 rfl ?_)
  refine mp_a (a_aload_n dX3_after_1 rfl) (mpp 2 rfl ?_)
  have g1 : (0 : Int) ≤ (fv Po 291 1).toInt ∧ (fv Po 291 1).toInt ≤ 8 := Typ.rng hT rl_291 (by decide) (by decide) rfl
  refine mt_getI (i := 28) (k := 1) hT dX3_after_2 rfl rl_291 (by decide) rfl (by decide) rfl (fun g2 g3 => mpp 5 rfl ?_)
  refine mp_a (a_iconst (v := 1) dX3_after_5 rfl) (mpp 6 rfl ?_)
  obtain ⟨z4, h5⟩ := ti_ex ((fv Po 291 1) - 1 : Int32)
  have wz4 := ti_full z4
  refine mp_t (s_isub (v := z4) dX3_after_6 h5) (mpp 7 rfl ?_)
  try have e6 : z4.toInt = (fv Po 291 1).toInt - 1 := ti_subz h5 rfl rfl (by omega) (by omega)
  refine mp_Tb (t := 16) (j_icmp_ge dX3_after_7) (by decide) (fun c7 => ?_) (fun c7 => mpp 10 rfl ?_)
  · have c7 : t1.toInt ≥ z4.toInt := ti_ge c7
    refine mp_a (a_iconst (v := 0) dX3_after_16 rfl) (mpp 17 rfl ?_)
    exact mp_iret ⟨⟨_, rfl, trivial⟩, rfl⟩ dX3_after_17 (Or.inl rfl)
  · have c7 : t1.toInt < z4.toInt := ti_ge_n c7
    refine mp_a (a_iload_n dX3_after_10 rfl) (mpp 11 rfl ?_)
    refine mp_a (a_iconst (v := 1) dX3_after_11 rfl) (mpp 12 rfl ?_)
    obtain ⟨z8, h9⟩ := ti_ex (t1 + 1 : Int32)
    have wz8 := ti_full z8
    refine mp_t (s_iadd (v := z8) dX3_after_12 h9) (mpp 13 rfl ?_)
    try have e10 : z8.toInt = t1.toInt + 1 := ti_addz h9 rfl rfl (by omega) (by omega)
    refine mp_a (a_goto (t := 17) dX3_after_13 (by decide)) ?_
    exact mp_iret ⟨⟨_, rfl, trivial⟩, rfl⟩ dX3_after_17 (Or.inl rfl)

set_option maxHeartbeats 4000000 in
theorem c_F_at_rcreases {Po : mP} {t1 : Int32} (hT : Typ Po)   : EvP 1 12 [.ref 293, .int t1] Po (fun r P' => (∃ x : Int32, r = some (.int x) ∧ (True)) ∧ P' = Po) := by
  refine EvP.of qm_12 (Nat.le_of_ble_eq_true rfl) rfl ?_
  show MEvP _ none q_12 0 [(0, .ref 293), (1, .int t1)] [] _ 0 0 _
  refine mp_a (a_iload_n dX6_at_0 rfl) (mpp 1 rfl ?_)
  refine mp_Tb (t := 16) (j_if_lt dX6_at_1) (by decide) (fun c1 => ?_) (fun c1 => mpp 4 rfl ?_)
  · have c1 : t1.toInt < 0 := ti_lt c1
    refine mp_a (a_iconst (v := 0) dX6_at_16 rfl) (mpp 17 rfl ?_)
    exact mp_iret ⟨⟨_, rfl, trivial⟩, rfl⟩ dX6_at_17 (Or.inl rfl)
  · have c1 : t1.toInt ≥ 0 := ti_lt_n c1
    refine mp_a (a_iload_n dX6_at_4 rfl) (mpp 5 rfl ?_)
    refine mp_a (a_aload_n dX6_at_5 rfl) (mpp 6 rfl ?_)
    refine mt_len (n := 8) hT dX6_at_6 rl_293 (by decide) (by decide) rfl (mpp 7 rfl ?_)
    refine mp_Tb (t := 16) (j_icmp_ge dX6_at_7) (by decide) (fun c2 => ?_) (fun c2 => mpp 10 rfl ?_)
    · have c2 : t1.toInt ≥ 8 := ti_ge c2
      refine mp_a (a_iconst (v := 0) dX6_at_16 rfl) (mpp 17 rfl ?_)
      exact mp_iret ⟨⟨_, rfl, trivial⟩, rfl⟩ dX6_at_17 (Or.inl rfl)
    · have c2 : t1.toInt < 8 := ti_ge_n c2
      refine mp_a (a_aload_n dX6_at_10 rfl) (mpp 11 rfl ?_)
      refine mp_a (a_iload_n dX6_at_11 rfl) (mpp 12 rfl ?_)
      refine mt_ial (n := 8) hT dX6_at_12 rl_293 (by decide) rfl rfl (by omega) (by omega) rfl (fun g3 g4 => mpp 13 rfl ?_)
      refine mp_a (a_goto (t := 17) dX6_at_13 (by decide)) ?_
      exact mp_iret ⟨⟨_, rfl, trivial⟩, rfl⟩ dX6_at_17 (Or.inl rfl)

set_option maxHeartbeats 4000000 in
theorem c_CR_firstStep_Reducer_l107 {Po : mP}  (hT : Typ Po)   : ∀ (n : Nat) (v1 : Int32) (v2 : Int32) (v3 : Int32), (2 ≤ (fv Po 291 1).toInt) → (2147483647 - v3.toInt).toNat = n → MEvP 1 none q_52 107 [(0, .ref 291), (1, .int v1), (2, .int v2), (3, .int v3)] [] Po 0 0 (fun r P' => (∃ x : Int32, r = some (.int x) ∧ (x.toInt = 0 ∨ 2 ≤ (fv Po 291 1).toInt)) ∧ P' = Po) := by
  intro n
  induction n using Nat.strongRecOn with | _ n ih => ?_
  intro v1 v2 v3 i_0 hm
  have w_v1 := ti_full v1
  have w_v2 := ti_full v2
  have w_v3 := ti_full v3
  have g1 : (0 : Int) ≤ (fv Po 291 1).toInt ∧ (fv Po 291 1).toInt ≤ 8 := Typ.rng hT rl_291 (by decide) (by decide) rfl
  refine mp_a (a_iload_n dX3_firstStep_107 rfl) (mpp 108 rfl ?_)
  refine mp_a (a_aload_n dX3_firstStep_108 rfl) (mpp 109 rfl ?_)
  refine mt_getI (i := 28) (k := 1) hT dX3_firstStep_109 rfl rl_291 (by decide) rfl (by decide) rfl (fun g2 g3 => mpp 112 rfl ?_)
  refine mp_a (a_iload_n dX3_firstStep_112 rfl) (mpp 113 rfl ?_)
  obtain ⟨z4, h5⟩ := ti_ex ((fv Po 291 1) - v2 : Int32)
  have wz4 := ti_full z4
  refine mp_t (s_isub (v := z4) dX3_firstStep_113 h5) (mpp 114 rfl ?_)
  try have e6 : z4.toInt = (fv Po 291 1).toInt - v2.toInt := ti_subz h5 rfl rfl (by omega) (by omega)
  refine mp_Tb (t := 209) (j_icmp_ge dX3_firstStep_114) (by decide) (fun c7 => ?_) (fun c7 => mpp 117 rfl ?_)
  · have c7 : v3.toInt ≥ z4.toInt := ti_ge c7
    refine mp_a (a_iconst (v := 0) dX3_firstStep_209 rfl) (mpp 210 rfl ?_)
    have u8 : (0 : Int) = 0 ∨ 2 ≤ (fv Po 291 1).toInt := by omega
    exact mp_iret ⟨⟨_, rfl, u8⟩, rfl⟩ dX3_firstStep_210 (Or.inl rfl)
  · have c7 : v3.toInt < z4.toInt := ti_ge_n c7
    refine mp_a (a_aload_n dX3_firstStep_117 rfl) (mpp 118 rfl ?_)
    refine mt_getU (i := 9) (k := 2) (A := 292) hT dX3_firstStep_118 rfl rl_291 (by decide) rfl (by decide) rfl un_11 (mpp 121 rfl ?_)
    refine mp_a (a_iload_n dX3_firstStep_121 rfl) (mpp 122 rfl ?_)
    refine mp_calls (i := 39) (q' := q_12) (As := [.ref 292, .int v3]) (rest := []) dX3_firstStep_122 rfl qm_12 (by decide) rfl (Nat.le_of_ble_eq_true rfl) rfl ⟨rfl, rfl⟩ ⟨Nat.le_of_ble_eq_true rfl, Nat.le_of_ble_eq_true rfl⟩ (EvP.mono (by decide) (c_F_at_rsizes hT )) (fun r9 P10 g11 => mpp 125 rfl ?_)
    obtain ⟨⟨x12, rfl, g13⟩, e14⟩ := g11
    have e14 := e14.symm
    subst e14
    have wx12 := ti_full x12
    show MEvP _ none q_52 125 [(0, .ref 291), (1, .int v1), (2, .int v2), (3, .int v3)] [.int x12] _ _ _ _
    refine mp_a (a_aload_n dX3_firstStep_125 rfl) (mpp 126 rfl ?_)
    refine mt_getU (i := 9) (k := 2) (A := 292) hT dX3_firstStep_126 rfl rl_291 (by decide) rfl (by decide) rfl un_11 (mpp 129 rfl ?_)
    refine mp_a (a_aload_n dX3_firstStep_129 rfl) (mpp 130 rfl ?_)
    refine mp_a (a_iload_n dX3_firstStep_130 rfl) (mpp 131 rfl ?_)
    refine mt_callv (i := 80) (q' := q_49) (As := [.int v3]) (rest := [.ref 292, .int x12]) hT dX3_firstStep_131 rfl qm_49 (by decide) rfl rl_291 (by decide) rfl (Nat.le_of_ble_eq_true rfl) rfl ⟨rfl, rfl⟩ ⟨Nat.le_of_ble_eq_true rfl, Nat.le_of_ble_eq_true rfl⟩ (EvP.mono (by decide) (c_CR_before_Reducer hT )) (fun r15 P16 g17 => mpp 134 rfl ?_)
    obtain ⟨⟨x18, rfl, g19⟩, e20⟩ := g17
    have e20 := e20.symm
    subst e20
    have wx18 := ti_full x18
    show MEvP _ none q_52 134 [(0, .ref 291), (1, .int v1), (2, .int v2), (3, .int v3)] [.int x18, .ref 292, .int x12] _ _ _ _
    refine mp_calls (i := 39) (q' := q_12) (As := [.ref 292, .int x18]) (rest := [.int x12]) dX3_firstStep_134 rfl qm_12 (by decide) rfl (Nat.le_of_ble_eq_true rfl) rfl ⟨rfl, rfl⟩ ⟨Nat.le_of_ble_eq_true rfl, Nat.le_of_ble_eq_true rfl⟩ (EvP.mono (by decide) (c_F_at_rsizes hT )) (fun r21 P22 g23 => mpp 137 rfl ?_)
    obtain ⟨⟨x24, rfl, g25⟩, e26⟩ := g23
    have e26 := e26.symm
    subst e26
    have wx24 := ti_full x24
    show MEvP _ none q_52 137 [(0, .ref 291), (1, .int v1), (2, .int v2), (3, .int v3)] [.int x24, .int x12] _ _ _ _
    refine mp_Tb (t := 167) (j_icmp_gt dX3_firstStep_137) (by decide) (fun c27 => ?_) (fun c27 => mpp 140 rfl ?_)
    · have c27 : x12.toInt > x24.toInt := ti_gt c27
      refine mp_a (a_iconst (v := 0) dX3_firstStep_167 rfl) (mpp 168 rfl ?_)
      refine mp_a (a_istore (L' := [(4, .int 0), (0, .ref 291), (1, .int v1), (2, .int v2), (3, .int v3)]) dX3_firstStep_168 (by decide) rfl) (mpp 170 rfl ?_)
      refine mp_a (a_iload dX3_firstStep_170 rfl) (mpp 172 rfl ?_)
      refine mp_Tt (t := 203) (j_if_eq dX3_firstStep_172) (by decide) (by decide) ?_
      obtain ⟨z28, h29⟩ := ti_ex (v3 + 1 : Int32)
      have wz28 := ti_full z28
      refine mp_a (a_iinc (v := z28) (L' := [(3, .int z28), (4, .int 0), (0, .ref 291), (1, .int v1), (2, .int v2)]) dX3_firstStep_203 (by decide) rfl h29 rfl) (mpp 206 rfl ?_)
      try have e30 : z28.toInt = v3.toInt + 1 := ti_addz h29 rfl rfl (by omega) (by omega)
      refine mp_a (a_goto (t := 107) dX3_firstStep_206 (by decide)) ?_
      refine MEvP.less (L := [(0, .ref 291), (1, .int v1), (2, .int v2), (3, .int z28)]) rfl rfl ⟨rfl, rfl, rfl, rfl, trivial⟩ ?_
      have i31 : 2 ≤ (fv Po 291 1).toInt := by omega
      exact ih _ (by omega) _ _ _ i31 rfl
    · have c27 : x12.toInt ≤ x24.toInt := ti_gt_n c27
      refine mp_a (a_aload_n dX3_firstStep_140 rfl) (mpp 141 rfl ?_)
      refine mt_getU (i := 9) (k := 2) (A := 292) hT dX3_firstStep_141 rfl rl_291 (by decide) rfl (by decide) rfl un_11 (mpp 144 rfl ?_)
      refine mp_a (a_iload_n dX3_firstStep_144 rfl) (mpp 145 rfl ?_)
      refine mp_calls (i := 39) (q' := q_12) (As := [.ref 292, .int v3]) (rest := []) dX3_firstStep_145 rfl qm_12 (by decide) rfl (Nat.le_of_ble_eq_true rfl) rfl ⟨rfl, rfl⟩ ⟨Nat.le_of_ble_eq_true rfl, Nat.le_of_ble_eq_true rfl⟩ (EvP.mono (by decide) (c_F_at_rsizes hT )) (fun r32 P33 g34 => mpp 148 rfl ?_)
      obtain ⟨⟨x35, rfl, g36⟩, e37⟩ := g34
      have e37 := e37.symm
      subst e37
      have wx35 := ti_full x35
      show MEvP _ none q_52 148 [(0, .ref 291), (1, .int v1), (2, .int v2), (3, .int v3)] [.int x35] _ _ _ _
      refine mp_a (a_aload_n dX3_firstStep_148 rfl) (mpp 149 rfl ?_)
      refine mt_getU (i := 9) (k := 2) (A := 292) hT dX3_firstStep_149 rfl rl_291 (by decide) rfl (by decide) rfl un_11 (mpp 152 rfl ?_)
      refine mp_a (a_aload_n dX3_firstStep_152 rfl) (mpp 153 rfl ?_)
      refine mp_a (a_iload_n dX3_firstStep_153 rfl) (mpp 154 rfl ?_)
      refine mt_callv (i := 83) (q' := q_50) (As := [.int v3]) (rest := [.ref 292, .int x35]) hT dX3_firstStep_154 rfl qm_50 (by decide) rfl rl_291 (by decide) rfl (Nat.le_of_ble_eq_true rfl) rfl ⟨rfl, rfl⟩ ⟨Nat.le_of_ble_eq_true rfl, Nat.le_of_ble_eq_true rfl⟩ (EvP.mono (by decide) (c_CR_after_Reducer hT )) (fun r38 P39 g40 => mpp 157 rfl ?_)
      obtain ⟨⟨x41, rfl, g42⟩, e43⟩ := g40
      have e43 := e43.symm
      subst e43
      have wx41 := ti_full x41
      show MEvP _ none q_52 157 [(0, .ref 291), (1, .int v1), (2, .int v2), (3, .int v3)] [.int x41, .ref 292, .int x35] _ _ _ _
      refine mp_calls (i := 39) (q' := q_12) (As := [.ref 292, .int x41]) (rest := [.int x35]) dX3_firstStep_157 rfl qm_12 (by decide) rfl (Nat.le_of_ble_eq_true rfl) rfl ⟨rfl, rfl⟩ ⟨Nat.le_of_ble_eq_true rfl, Nat.le_of_ble_eq_true rfl⟩ (EvP.mono (by decide) (c_F_at_rsizes hT )) (fun r44 P45 g46 => mpp 160 rfl ?_)
      obtain ⟨⟨x47, rfl, g48⟩, e49⟩ := g46
      have e49 := e49.symm
      subst e49
      have wx47 := ti_full x47
      show MEvP _ none q_52 160 [(0, .ref 291), (1, .int v1), (2, .int v2), (3, .int v3)] [.int x47, .int x35] _ _ _ _
      refine mp_Tb (t := 167) (j_icmp_gt dX3_firstStep_160) (by decide) (fun c50 => ?_) (fun c50 => mpp 163 rfl ?_)
      · have c50 : x35.toInt > x47.toInt := ti_gt c50
        refine mp_a (a_iconst (v := 0) dX3_firstStep_167 rfl) (mpp 168 rfl ?_)
        refine mp_a (a_istore (L' := [(4, .int 0), (0, .ref 291), (1, .int v1), (2, .int v2), (3, .int v3)]) dX3_firstStep_168 (by decide) rfl) (mpp 170 rfl ?_)
        refine mp_a (a_iload dX3_firstStep_170 rfl) (mpp 172 rfl ?_)
        refine mp_Tt (t := 203) (j_if_eq dX3_firstStep_172) (by decide) (by decide) ?_
        obtain ⟨z51, h52⟩ := ti_ex (v3 + 1 : Int32)
        have wz51 := ti_full z51
        refine mp_a (a_iinc (v := z51) (L' := [(3, .int z51), (4, .int 0), (0, .ref 291), (1, .int v1), (2, .int v2)]) dX3_firstStep_203 (by decide) rfl h52 rfl) (mpp 206 rfl ?_)
        try have e53 : z51.toInt = v3.toInt + 1 := ti_addz h52 rfl rfl (by omega) (by omega)
        refine mp_a (a_goto (t := 107) dX3_firstStep_206 (by decide)) ?_
        refine MEvP.less (L := [(0, .ref 291), (1, .int v1), (2, .int v2), (3, .int z51)]) rfl rfl ⟨rfl, rfl, rfl, rfl, trivial⟩ ?_
        have i54 : 2 ≤ (fv Po 291 1).toInt := by omega
        exact ih _ (by omega) _ _ _ i54 rfl
      · have c50 : x35.toInt ≤ x47.toInt := ti_gt_n c50
        refine mp_a (a_iconst (v := 1) dX3_firstStep_163 rfl) (mpp 164 rfl ?_)
        refine mp_a (a_goto (t := 168) dX3_firstStep_164 (by decide)) ?_
        refine mp_a (a_istore (L' := [(4, .int 1), (0, .ref 291), (1, .int v1), (2, .int v2), (3, .int v3)]) dX3_firstStep_168 (by decide) rfl) (mpp 170 rfl ?_)
        refine mp_a (a_iload dX3_firstStep_170 rfl) (mpp 172 rfl ?_)
        refine mp_Tf (t := 203) (j_if_eq dX3_firstStep_172) (by decide) (by decide) (mpp 175 rfl ?_)
        refine mp_a (a_aload_n dX3_firstStep_175 rfl) (mpp 176 rfl ?_)
        refine mt_getU (i := 15) (k := 3) (A := 293) hT dX3_firstStep_176 rfl rl_291 (by decide) rfl (by decide) rfl un_12 (mpp 179 rfl ?_)
        refine mp_a (a_iload_n dX3_firstStep_179 rfl) (mpp 180 rfl ?_)
        refine mp_calls (i := 39) (q' := q_12) (As := [.ref 293, .int v3]) (rest := []) dX3_firstStep_180 rfl qm_12 (by decide) rfl (Nat.le_of_ble_eq_true rfl) rfl ⟨rfl, rfl⟩ ⟨Nat.le_of_ble_eq_true rfl, Nat.le_of_ble_eq_true rfl⟩ (EvP.mono (by decide) (c_F_at_rcreases hT )) (fun r55 P56 g57 => mpp 183 rfl ?_)
        obtain ⟨⟨x58, rfl, g59⟩, e60⟩ := g57
        have e60 := e60.symm
        subst e60
        have wx58 := ti_full x58
        show MEvP _ none q_52 183 [(4, .int 1), (0, .ref 291), (1, .int v1), (2, .int v2), (3, .int v3)] [.int x58] _ _ _ _
        refine mp_a (a_aload_n dX3_firstStep_183 rfl) (mpp 184 rfl ?_)
        refine mt_getU (i := 15) (k := 3) (A := 293) hT dX3_firstStep_184 rfl rl_291 (by decide) rfl (by decide) rfl un_12 (mpp 187 rfl ?_)
        refine mp_a (a_aload_n dX3_firstStep_187 rfl) (mpp 188 rfl ?_)
        refine mp_a (a_iload_n dX3_firstStep_188 rfl) (mpp 189 rfl ?_)
        refine mt_callv (i := 83) (q' := q_50) (As := [.int v3]) (rest := [.ref 293, .int x58]) hT dX3_firstStep_189 rfl qm_50 (by decide) rfl rl_291 (by decide) rfl (Nat.le_of_ble_eq_true rfl) rfl ⟨rfl, rfl⟩ ⟨Nat.le_of_ble_eq_true rfl, Nat.le_of_ble_eq_true rfl⟩ (EvP.mono (by decide) (c_CR_after_Reducer hT )) (fun r61 P62 g63 => mpp 192 rfl ?_)
        obtain ⟨⟨x64, rfl, g65⟩, e66⟩ := g63
        have e66 := e66.symm
        subst e66
        have wx64 := ti_full x64
        show MEvP _ none q_52 192 [(4, .int 1), (0, .ref 291), (1, .int v1), (2, .int v2), (3, .int v3)] [.int x64, .ref 293, .int x58] _ _ _ _
        refine mp_calls (i := 39) (q' := q_12) (As := [.ref 293, .int x64]) (rest := [.int x58]) dX3_firstStep_192 rfl qm_12 (by decide) rfl (Nat.le_of_ble_eq_true rfl) rfl ⟨rfl, rfl⟩ ⟨Nat.le_of_ble_eq_true rfl, Nat.le_of_ble_eq_true rfl⟩ (EvP.mono (by decide) (c_F_at_rcreases hT )) (fun r67 P68 g69 => mpp 195 rfl ?_)
        obtain ⟨⟨x70, rfl, g71⟩, e72⟩ := g69
        have e72 := e72.symm
        subst e72
        have wx70 := ti_full x70
        show MEvP _ none q_52 195 [(4, .int 1), (0, .ref 291), (1, .int v1), (2, .int v2), (3, .int v3)] [.int x70, .int x58] _ _ _ _
        refine mp_Tb (t := 203) (j_icmp_eq dX3_firstStep_195) (by decide) (fun c73 => ?_) (fun c73 => mpp 198 rfl ?_)
        · have c73 : x58.toInt = x70.toInt := ti_eq c73
          obtain ⟨z74, h75⟩ := ti_ex (v3 + 1 : Int32)
          have wz74 := ti_full z74
          refine mp_a (a_iinc (v := z74) (L' := [(3, .int z74), (4, .int 1), (0, .ref 291), (1, .int v1), (2, .int v2)]) dX3_firstStep_203 (by decide) rfl h75 rfl) (mpp 206 rfl ?_)
          try have e76 : z74.toInt = v3.toInt + 1 := ti_addz h75 rfl rfl (by omega) (by omega)
          refine mp_a (a_goto (t := 107) dX3_firstStep_206 (by decide)) ?_
          refine MEvP.less (L := [(0, .ref 291), (1, .int v1), (2, .int v2), (3, .int z74)]) rfl rfl ⟨rfl, rfl, rfl, rfl, trivial⟩ ?_
          have i77 : 2 ≤ (fv Po 291 1).toInt := by omega
          exact ih _ (by omega) _ _ _ i77 rfl
        · have c73 : x58.toInt ≠ x70.toInt := ti_eq_n c73
          refine mp_a (a_bipush (v := 10) dX3_firstStep_198 rfl) (mpp 200 rfl ?_)
          refine mp_a (a_iload_n dX3_firstStep_200 rfl) (mpp 201 rfl ?_)
          obtain ⟨z78, h79⟩ := ti_ex (10 + v3 : Int32)
          have wz78 := ti_full z78
          refine mp_t (s_iadd (v := z78) dX3_firstStep_201 h79) (mpp 202 rfl ?_)
          try have e80 : z78.toInt = 10 + v3.toInt := ti_addz h79 rfl rfl (by omega) (by omega)
          have u81 : z78.toInt = 0 ∨ 2 ≤ (fv Po 291 1).toInt := by omega
          exact mp_iret ⟨⟨_, rfl, u81⟩, rfl⟩ dX3_firstStep_202 (Or.inl rfl)

