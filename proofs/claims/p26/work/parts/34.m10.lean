/-! methods on typed pools, 10 (written by a program) -/
set_option maxHeartbeats 4000000 in
theorem c_CL_search_Layers_NPiece_l22 {Po : mP} {a1_ : Nat} {t2 : Int32} (ha1 : rl a1_ = 33) : ∀ (n : Nat) (v3 : Int32) (v4 : Int32) (v5 : Int32), ∀ (P : mP), Typ P → KW [832, 896, 960, 1024] Po P → (0 ≤ v5.toInt) → (2147483647 - v5.toInt).toNat = n → MEvP 4 none q_64 22 [(0, .ref 294), (1, .ref a1_), (2, .int t2), (3, .int v3), (4, .int v4), (5, .int v5)] [] P 0 0 (fun r P' => (∃ x : Int32, r = some (.int x) ∧ (True)) ∧ Typ P' ∧ KW [832, 896, 960, 1024] Po P' ∧ True) := by
  intro n
  induction n using Nat.strongRecOn with | _ n ih => ?_
  intro v3 v4 v5 P hT hK i_0 hm
  have w_t2 := ti_full t2
  have w_v3 := ti_full v3
  have w_v4 := ti_full v4
  have w_v5 := ti_full v5
  refine mp_a (a_iload dX1_search_22 rfl) (mpp 24 rfl ?_)
  refine mp_ldc (v := 1000000) dX1_search_24 rfl (mpp 26 rfl ?_)
  refine mp_Tb (t := 122) (j_icmp_ge dX1_search_26) (by decide) (fun c1 => ?_) (fun c1 => mpp 29 rfl ?_)
  · have c1 : v5.toInt ≥ 1000000 := ti_ge c1
    refine mp_a (a_iload_n dX1_search_122 rfl) (mpp 123 rfl ?_)
    exact mp_iret ⟨⟨_, rfl, trivial⟩, hT, hK, trivial⟩ dX1_search_123 (Or.inl rfl)
  · have c1 : v5.toInt < 1000000 := ti_ge_n c1
    refine mp_a (a_iload dX1_search_29 rfl) (mpp 31 rfl ?_)
    refine mp_Tb (t := 122) (j_if_lt dX1_search_31) (by decide) (fun c2 => ?_) (fun c2 => mpp 34 rfl ?_)
    · have c2 : v4.toInt < 0 := ti_lt c2
      refine mp_a (a_iload_n dX1_search_122 rfl) (mpp 123 rfl ?_)
      exact mp_iret ⟨⟨_, rfl, trivial⟩, hT, hK, trivial⟩ dX1_search_123 (Or.inl rfl)
    · have c2 : v4.toInt ≥ 0 := ti_lt_n c2
      refine mp_a (a_iload dX1_search_34 rfl) (mpp 36 rfl ?_)
      refine mp_a (a_aload_n dX1_search_36 rfl) (mpp 37 rfl ?_)
      have g3 : (0 : Int) ≤ (fv P 294 0).toInt ∧ (fv P 294 0).toInt ≤ 8 := Typ.rng hT rl_294 (by decide) (by decide) rfl
      refine mt_getI (i := 30) (k := 0) hT dX1_search_37 rfl rl_294 (by decide) rfl (by decide) rfl (fun g4 g5 => mpp 40 rfl ?_)
      refine mp_Tb (t := 52) (j_icmp_ge dX1_search_40) (by decide) (fun c6 => ?_) (fun c6 => mpp 43 rfl ?_)
      · have c6 : v4.toInt ≥ (fv P 294 0).toInt := ti_ge c6
        refine mp_a (a_iconst (v := -1) dX1_search_52 rfl) (mpp 53 rfl ?_)
        refine mp_a (a_istore (L' := [(6, .int (-1)), (0, .ref 294), (1, .ref a1_), (2, .int t2), (3, .int v3), (4, .int v4), (5, .int v5)]) dX1_search_53 (by decide) rfl) (mpp 55 rfl ?_)
        refine mp_a (a_iload dX1_search_55 rfl) (mpp 57 rfl ?_)
        refine mp_Tt (t := 87) (j_if_lt dX1_search_57) (by decide) (by decide) ?_
        refine mp_a (a_iload dX1_search_87 rfl) (mpp 89 rfl ?_)
        refine mp_a (a_aload_n dX1_search_89 rfl) (mpp 90 rfl ?_)
        refine mt_getI (i := 30) (k := 0) hT dX1_search_90 rfl rl_294 (by decide) rfl (by decide) rfl (fun g7 g8 => mpp 93 rfl ?_)
        refine mp_Tb (t := 113) (j_icmp_ne dX1_search_93) (by decide) (fun c9 => ?_) (fun c9 => mpp 96 rfl ?_)
        · have c9 : v4.toInt ≠ (fv P 294 0).toInt := ti_ne c9
          obtain ⟨z10, h11⟩ := ti_ex (v4 + (-1) : Int32)
          have wz10 := ti_full z10
          refine mp_a (a_iinc (v := z10) (L' := [(4, .int z10), (6, .int (-1)), (0, .ref 294), (1, .ref a1_), (2, .int t2), (3, .int v3), (5, .int v5)]) dX1_search_113 (by decide) rfl h11 rfl) (mpp 116 rfl ?_)
          try have e12 : z10.toInt = v4.toInt + (-1) := ti_addz h11 rfl rfl (by omega) (by omega)
          obtain ⟨z13, h14⟩ := ti_ex (v5 + 1 : Int32)
          have wz13 := ti_full z13
          refine mp_a (a_iinc (v := z13) (L' := [(5, .int z13), (4, .int z10), (6, .int (-1)), (0, .ref 294), (1, .ref a1_), (2, .int t2), (3, .int v3)]) dX1_search_116 (by decide) rfl h14 rfl) (mpp 119 rfl ?_)
          try have e15 : z13.toInt = v5.toInt + 1 := ti_addz h14 rfl rfl (by omega) (by omega)
          refine mp_a (a_goto (t := 22) dX1_search_119 (by decide)) ?_
          refine MEvP.less (L := [(0, .ref 294), (1, .ref a1_), (2, .int t2), (3, .int v3), (4, .int z10), (5, .int z13)]) rfl rfl ⟨rfl, rfl, rfl, rfl, rfl, rfl, trivial⟩ ?_
          have i16 : 0 ≤ z13.toInt := by omega
          exact ih _ (by omega) _ _ _ P hT hK i16 rfl
        · have c9 : v4.toInt = (fv P 294 0).toInt := ti_ne_n c9
          refine mp_a (a_aload_n dX1_search_96 rfl) (mpp 97 rfl ?_)
          refine mt_callv (i := 38) (q' := q_69) (As := []) (rest := []) hT dX1_search_97 rfl qm_69 (by decide) rfl rl_294 (by decide) rfl (Nat.le_of_ble_eq_true rfl) rfl ⟨rfl, rfl⟩ ⟨Nat.le_of_ble_eq_true rfl, Nat.le_of_ble_eq_true rfl⟩ (EvP.mono (by decide) (c_CL_layersCollide_Layers hT )) (fun r17 P18 g19 => mpp 100 rfl ?_)
          obtain ⟨⟨x20, rfl, g21⟩, e22⟩ := g19
          have e22 := e22.symm
          subst e22
          have wx20 := ti_full x20
          have g21 : 0 ≤ x20.toInt ∧ x20.toInt ≤ 1 := g21
          show MEvP _ none q_64 100 [(6, .int (-1)), (0, .ref 294), (1, .ref a1_), (2, .int t2), (3, .int v3), (4, .int v4), (5, .int v5)] [.int x20] _ _ _ _
          refine mp_Tb (t := 113) (j_if_ne dX1_search_100) (by decide) (fun c23 => ?_) (fun c23 => mpp 103 rfl ?_)
          · have c23 : x20.toInt ≠ 0 := ti_ne c23
            obtain ⟨z24, h25⟩ := ti_ex (v4 + (-1) : Int32)
            have wz24 := ti_full z24
            refine mp_a (a_iinc (v := z24) (L' := [(4, .int z24), (6, .int (-1)), (0, .ref 294), (1, .ref a1_), (2, .int t2), (3, .int v3), (5, .int v5)]) dX1_search_113 (by decide) rfl h25 rfl) (mpp 116 rfl ?_)
            try have e26 : z24.toInt = v4.toInt + (-1) := ti_addz h25 rfl rfl (by omega) (by omega)
            obtain ⟨z27, h28⟩ := ti_ex (v5 + 1 : Int32)
            have wz27 := ti_full z27
            refine mp_a (a_iinc (v := z27) (L' := [(5, .int z27), (4, .int z24), (6, .int (-1)), (0, .ref 294), (1, .ref a1_), (2, .int t2), (3, .int v3)]) dX1_search_116 (by decide) rfl h28 rfl) (mpp 119 rfl ?_)
            try have e29 : z27.toInt = v5.toInt + 1 := ti_addz h28 rfl rfl (by omega) (by omega)
            refine mp_a (a_goto (t := 22) dX1_search_119 (by decide)) ?_
            refine MEvP.less (L := [(0, .ref 294), (1, .ref a1_), (2, .int t2), (3, .int v3), (4, .int z24), (5, .int z27)]) rfl rfl ⟨rfl, rfl, rfl, rfl, rfl, rfl, trivial⟩ ?_
            have i30 : 0 ≤ z27.toInt := by omega
            exact ih _ (by omega) _ _ _ P hT hK i30 rfl
          · have c23 : x20.toInt = 0 := ti_ne_n c23
            obtain ⟨z31, h32⟩ := ti_ex (v3 + 1 : Int32)
            have wz31 := ti_full z31
            refine mp_a (a_iinc (v := z31) (L' := [(3, .int z31), (6, .int (-1)), (0, .ref 294), (1, .ref a1_), (2, .int t2), (4, .int v4), (5, .int v5)]) dX1_search_103 (by decide) rfl h32 rfl) (mpp 106 rfl ?_)
            try have e33 : z31.toInt = v3.toInt + 1 := ti_addz h32 rfl rfl (by omega) (by omega)
            refine mp_a (a_iload_n dX1_search_106 rfl) (mpp 107 rfl ?_)
            refine mp_a (a_iload_n dX1_search_107 rfl) (mpp 108 rfl ?_)
            refine mp_Tb (t := 113) (j_icmp_lt dX1_search_108) (by decide) (fun c34 => ?_) (fun c34 => mpp 111 rfl ?_)
            · have c34 : z31.toInt < t2.toInt := ti_lt c34
              obtain ⟨z35, h36⟩ := ti_ex (v4 + (-1) : Int32)
              have wz35 := ti_full z35
              refine mp_a (a_iinc (v := z35) (L' := [(4, .int z35), (3, .int z31), (6, .int (-1)), (0, .ref 294), (1, .ref a1_), (2, .int t2), (5, .int v5)]) dX1_search_113 (by decide) rfl h36 rfl) (mpp 116 rfl ?_)
              try have e37 : z35.toInt = v4.toInt + (-1) := ti_addz h36 rfl rfl (by omega) (by omega)
              obtain ⟨z38, h39⟩ := ti_ex (v5 + 1 : Int32)
              have wz38 := ti_full z38
              refine mp_a (a_iinc (v := z38) (L' := [(5, .int z38), (4, .int z35), (3, .int z31), (6, .int (-1)), (0, .ref 294), (1, .ref a1_), (2, .int t2)]) dX1_search_116 (by decide) rfl h39 rfl) (mpp 119 rfl ?_)
              try have e40 : z38.toInt = v5.toInt + 1 := ti_addz h39 rfl rfl (by omega) (by omega)
              refine mp_a (a_goto (t := 22) dX1_search_119 (by decide)) ?_
              refine MEvP.less (L := [(0, .ref 294), (1, .ref a1_), (2, .int t2), (3, .int z31), (4, .int z35), (5, .int z38)]) rfl rfl ⟨rfl, rfl, rfl, rfl, rfl, rfl, trivial⟩ ?_
              have i41 : 0 ≤ z38.toInt := by omega
              exact ih _ (by omega) _ _ _ P hT hK i41 rfl
            · have c34 : z31.toInt ≥ t2.toInt := ti_lt_n c34
              refine mp_a (a_iload_n dX1_search_111 rfl) (mpp 112 rfl ?_)
              exact mp_iret ⟨⟨_, rfl, trivial⟩, hT, hK, trivial⟩ dX1_search_112 (Or.inl rfl)
      · have c6 : v4.toInt < (fv P 294 0).toInt := ti_ge_n c6
        refine mp_a (a_aload_n dX1_search_43 rfl) (mpp 44 rfl ?_)
        refine mp_a (a_iload dX1_search_44 rfl) (mpp 46 rfl ?_)
        refine mt_callv (i := 34) (q' := q_66) (As := [.int v4]) (rest := []) hT dX1_search_46 rfl qm_66 (by decide) rfl rl_294 (by decide) rfl (Nat.le_of_ble_eq_true rfl) rfl ⟨rfl, rfl⟩ ⟨Nat.le_of_ble_eq_true rfl, Nat.le_of_ble_eq_true rfl⟩ (EvP.mono (by decide) (c_CL_nextLayer_Layers hT )) (fun r42 P43 g44 => mpp 49 rfl ?_)
        obtain ⟨⟨x45, rfl, g46⟩, e47⟩ := g44
        have e47 := e47.symm
        subst e47
        have wx45 := ti_full x45
        show MEvP _ none q_64 49 [(0, .ref 294), (1, .ref a1_), (2, .int t2), (3, .int v3), (4, .int v4), (5, .int v5)] [.int x45] _ _ _ _
        refine mp_a (a_goto (t := 53) dX1_search_49 (by decide)) ?_
        refine mp_a (a_istore (L' := [(6, .int x45), (0, .ref 294), (1, .ref a1_), (2, .int t2), (3, .int v3), (4, .int v4), (5, .int v5)]) dX1_search_53 (by decide) rfl) (mpp 55 rfl ?_)
        refine mp_a (a_iload dX1_search_55 rfl) (mpp 57 rfl ?_)
        refine mp_Tb (t := 87) (j_if_lt dX1_search_57) (by decide) (fun c48 => ?_) (fun c48 => mpp 60 rfl ?_)
        · have c48 : x45.toInt < 0 := ti_lt c48
          refine mp_a (a_iload dX1_search_87 rfl) (mpp 89 rfl ?_)
          refine mp_a (a_aload_n dX1_search_89 rfl) (mpp 90 rfl ?_)
          refine mt_getI (i := 30) (k := 0) hT dX1_search_90 rfl rl_294 (by decide) rfl (by decide) rfl (fun g49 g50 => mpp 93 rfl ?_)
          refine mp_Tb (t := 113) (j_icmp_ne dX1_search_93) (by decide) (fun c51 => ?_) (fun c51 => mpp 96 rfl ?_)
          · have c51 : v4.toInt ≠ (fv P 294 0).toInt := ti_ne c51
            obtain ⟨z52, h53⟩ := ti_ex (v4 + (-1) : Int32)
            have wz52 := ti_full z52
            refine mp_a (a_iinc (v := z52) (L' := [(4, .int z52), (6, .int x45), (0, .ref 294), (1, .ref a1_), (2, .int t2), (3, .int v3), (5, .int v5)]) dX1_search_113 (by decide) rfl h53 rfl) (mpp 116 rfl ?_)
            try have e54 : z52.toInt = v4.toInt + (-1) := ti_addz h53 rfl rfl (by omega) (by omega)
            obtain ⟨z55, h56⟩ := ti_ex (v5 + 1 : Int32)
            have wz55 := ti_full z55
            refine mp_a (a_iinc (v := z55) (L' := [(5, .int z55), (4, .int z52), (6, .int x45), (0, .ref 294), (1, .ref a1_), (2, .int t2), (3, .int v3)]) dX1_search_116 (by decide) rfl h56 rfl) (mpp 119 rfl ?_)
            try have e57 : z55.toInt = v5.toInt + 1 := ti_addz h56 rfl rfl (by omega) (by omega)
            refine mp_a (a_goto (t := 22) dX1_search_119 (by decide)) ?_
            refine MEvP.less (L := [(0, .ref 294), (1, .ref a1_), (2, .int t2), (3, .int v3), (4, .int z52), (5, .int z55)]) rfl rfl ⟨rfl, rfl, rfl, rfl, rfl, rfl, trivial⟩ ?_
            have i58 : 0 ≤ z55.toInt := by omega
            exact ih _ (by omega) _ _ _ P hT hK i58 rfl
          · have c51 : v4.toInt = (fv P 294 0).toInt := ti_ne_n c51
            refine mp_a (a_aload_n dX1_search_96 rfl) (mpp 97 rfl ?_)
            refine mt_callv (i := 38) (q' := q_69) (As := []) (rest := []) hT dX1_search_97 rfl qm_69 (by decide) rfl rl_294 (by decide) rfl (Nat.le_of_ble_eq_true rfl) rfl ⟨rfl, rfl⟩ ⟨Nat.le_of_ble_eq_true rfl, Nat.le_of_ble_eq_true rfl⟩ (EvP.mono (by decide) (c_CL_layersCollide_Layers hT )) (fun r59 P60 g61 => mpp 100 rfl ?_)
            obtain ⟨⟨x62, rfl, g63⟩, e64⟩ := g61
            have e64 := e64.symm
            subst e64
            have wx62 := ti_full x62
            have g63 : 0 ≤ x62.toInt ∧ x62.toInt ≤ 1 := g63
            show MEvP _ none q_64 100 [(6, .int x45), (0, .ref 294), (1, .ref a1_), (2, .int t2), (3, .int v3), (4, .int v4), (5, .int v5)] [.int x62] _ _ _ _
            refine mp_Tb (t := 113) (j_if_ne dX1_search_100) (by decide) (fun c65 => ?_) (fun c65 => mpp 103 rfl ?_)
            · have c65 : x62.toInt ≠ 0 := ti_ne c65
              obtain ⟨z66, h67⟩ := ti_ex (v4 + (-1) : Int32)
              have wz66 := ti_full z66
              refine mp_a (a_iinc (v := z66) (L' := [(4, .int z66), (6, .int x45), (0, .ref 294), (1, .ref a1_), (2, .int t2), (3, .int v3), (5, .int v5)]) dX1_search_113 (by decide) rfl h67 rfl) (mpp 116 rfl ?_)
              try have e68 : z66.toInt = v4.toInt + (-1) := ti_addz h67 rfl rfl (by omega) (by omega)
              obtain ⟨z69, h70⟩ := ti_ex (v5 + 1 : Int32)
              have wz69 := ti_full z69
              refine mp_a (a_iinc (v := z69) (L' := [(5, .int z69), (4, .int z66), (6, .int x45), (0, .ref 294), (1, .ref a1_), (2, .int t2), (3, .int v3)]) dX1_search_116 (by decide) rfl h70 rfl) (mpp 119 rfl ?_)
              try have e71 : z69.toInt = v5.toInt + 1 := ti_addz h70 rfl rfl (by omega) (by omega)
              refine mp_a (a_goto (t := 22) dX1_search_119 (by decide)) ?_
              refine MEvP.less (L := [(0, .ref 294), (1, .ref a1_), (2, .int t2), (3, .int v3), (4, .int z66), (5, .int z69)]) rfl rfl ⟨rfl, rfl, rfl, rfl, rfl, rfl, trivial⟩ ?_
              have i72 : 0 ≤ z69.toInt := by omega
              exact ih _ (by omega) _ _ _ P hT hK i72 rfl
            · have c65 : x62.toInt = 0 := ti_ne_n c65
              obtain ⟨z73, h74⟩ := ti_ex (v3 + 1 : Int32)
              have wz73 := ti_full z73
              refine mp_a (a_iinc (v := z73) (L' := [(3, .int z73), (6, .int x45), (0, .ref 294), (1, .ref a1_), (2, .int t2), (4, .int v4), (5, .int v5)]) dX1_search_103 (by decide) rfl h74 rfl) (mpp 106 rfl ?_)
              try have e75 : z73.toInt = v3.toInt + 1 := ti_addz h74 rfl rfl (by omega) (by omega)
              refine mp_a (a_iload_n dX1_search_106 rfl) (mpp 107 rfl ?_)
              refine mp_a (a_iload_n dX1_search_107 rfl) (mpp 108 rfl ?_)
              refine mp_Tb (t := 113) (j_icmp_lt dX1_search_108) (by decide) (fun c76 => ?_) (fun c76 => mpp 111 rfl ?_)
              · have c76 : z73.toInt < t2.toInt := ti_lt c76
                obtain ⟨z77, h78⟩ := ti_ex (v4 + (-1) : Int32)
                have wz77 := ti_full z77
                refine mp_a (a_iinc (v := z77) (L' := [(4, .int z77), (3, .int z73), (6, .int x45), (0, .ref 294), (1, .ref a1_), (2, .int t2), (5, .int v5)]) dX1_search_113 (by decide) rfl h78 rfl) (mpp 116 rfl ?_)
                try have e79 : z77.toInt = v4.toInt + (-1) := ti_addz h78 rfl rfl (by omega) (by omega)
                obtain ⟨z80, h81⟩ := ti_ex (v5 + 1 : Int32)
                have wz80 := ti_full z80
                refine mp_a (a_iinc (v := z80) (L' := [(5, .int z80), (4, .int z77), (3, .int z73), (6, .int x45), (0, .ref 294), (1, .ref a1_), (2, .int t2)]) dX1_search_116 (by decide) rfl h81 rfl) (mpp 119 rfl ?_)
                try have e82 : z80.toInt = v5.toInt + 1 := ti_addz h81 rfl rfl (by omega) (by omega)
                refine mp_a (a_goto (t := 22) dX1_search_119 (by decide)) ?_
                refine MEvP.less (L := [(0, .ref 294), (1, .ref a1_), (2, .int t2), (3, .int z73), (4, .int z77), (5, .int z80)]) rfl rfl ⟨rfl, rfl, rfl, rfl, rfl, rfl, trivial⟩ ?_
                have i83 : 0 ≤ z80.toInt := by omega
                exact ih _ (by omega) _ _ _ P hT hK i83 rfl
              · have c76 : z73.toInt ≥ t2.toInt := ti_lt_n c76
                refine mp_a (a_iload_n dX1_search_111 rfl) (mpp 112 rfl ?_)
                exact mp_iret ⟨⟨_, rfl, trivial⟩, hT, hK, trivial⟩ dX1_search_112 (Or.inl rfl)
        · have c48 : x45.toInt ≥ 0 := ti_lt_n c48
          refine mp_a (a_aload_n dX1_search_60 rfl) (mpp 61 rfl ?_)
          refine mt_getU (i := 9) (k := 1) (A := 295) hT dX1_search_61 rfl rl_294 (by decide) rfl (by decide) rfl un_14 (mpp 64 rfl ?_)
          refine mp_a (a_iload dX1_search_64 rfl) (mpp 66 rfl ?_)
          refine mp_a (a_iload dX1_search_66 rfl) (mpp 68 rfl ?_)
          refine mp_calls (i := 25) (q' := q_22) (As := [.ref 295, .int v4, .int x45]) (rest := []) dX1_search_68 rfl qm_22 (by decide) rfl (Nat.le_of_ble_eq_true rfl) rfl ⟨rfl, rfl⟩ ⟨Nat.le_of_ble_eq_true rfl, Nat.le_of_ble_eq_true rfl⟩ (EvP.mono (by decide) (c_F_put_order hT )) (fun r84 P85 g86 => mpp 71 rfl ?_)
          obtain ⟨⟨rfl, g88⟩, hT89, k90, R91⟩ := g86
          have k92 : KW [832, 896, 960, 1024] Po P85 := KW.trans hK k90 rfl
          show MEvP _ none q_64 71 [(6, .int x45), (0, .ref 294), (1, .ref a1_), (2, .int t2), (3, .int v3), (4, .int v4), (5, .int v5)] [] _ _ _ _
          obtain ⟨z93, h94⟩ := ti_ex (v4 + 1 : Int32)
          have wz93 := ti_full z93
          refine mp_a (a_iinc (v := z93) (L' := [(4, .int z93), (6, .int x45), (0, .ref 294), (1, .ref a1_), (2, .int t2), (3, .int v3), (5, .int v5)]) dX1_search_71 (by decide) rfl h94 rfl) (mpp 74 rfl ?_)
          try have e95 : z93.toInt = v4.toInt + 1 := ti_addz h94 rfl rfl (by omega) (by omega)
          refine mp_a (a_aload_n dX1_search_74 rfl) (mpp 75 rfl ?_)
          refine mt_getU (i := 9) (k := 1) (A := 295) hT89 dX1_search_75 rfl rl_294 (by decide) rfl (by decide) rfl un_14 (mpp 78 rfl ?_)
          refine mp_a (a_iload dX1_search_78 rfl) (mpp 80 rfl ?_)
          refine mp_a (a_iconst (v := -1) dX1_search_80 rfl) (mpp 81 rfl ?_)
          refine mp_calls (i := 25) (q' := q_22) (As := [.ref 295, .int z93, .int (-1)]) (rest := []) dX1_search_81 rfl qm_22 (by decide) rfl (Nat.le_of_ble_eq_true rfl) rfl ⟨rfl, rfl⟩ ⟨Nat.le_of_ble_eq_true rfl, Nat.le_of_ble_eq_true rfl⟩ (EvP.mono (by decide) (c_F_put_order hT89 )) (fun r96 P97 g98 => mpp 84 rfl ?_)
          obtain ⟨⟨rfl, g100⟩, hT101, k102, R103⟩ := g98
          have k104 : KW [832, 896, 960, 1024] Po P97 := KW.trans k92 k102 rfl
          show MEvP _ none q_64 84 [(4, .int z93), (6, .int x45), (0, .ref 294), (1, .ref a1_), (2, .int t2), (3, .int v3), (5, .int v5)] [] _ _ _ _
          refine mp_a (a_goto (t := 116) dX1_search_84 (by decide)) ?_
          obtain ⟨z105, h106⟩ := ti_ex (v5 + 1 : Int32)
          have wz105 := ti_full z105
          refine mp_a (a_iinc (v := z105) (L' := [(5, .int z105), (4, .int z93), (6, .int x45), (0, .ref 294), (1, .ref a1_), (2, .int t2), (3, .int v3)]) dX1_search_116 (by decide) rfl h106 rfl) (mpp 119 rfl ?_)
          try have e107 : z105.toInt = v5.toInt + 1 := ti_addz h106 rfl rfl (by omega) (by omega)
          refine mp_a (a_goto (t := 22) dX1_search_119 (by decide)) ?_
          refine MEvP.less (L := [(0, .ref 294), (1, .ref a1_), (2, .int t2), (3, .int v3), (4, .int z93), (5, .int z105)]) rfl rfl ⟨rfl, rfl, rfl, rfl, rfl, rfl, trivial⟩ ?_
          have i108 : 0 ≤ z105.toInt := by omega
          exact ih _ (by omega) _ _ _ P97 hT101 k104 i108 rfl

set_option maxHeartbeats 4000000 in
theorem c_CL_search_Layers_NPiece {Po : mP} {a1_ : Nat} {t2 : Int32} (hT : Typ Po)  (ha1 : rl a1_ = 33) : EvP 5 64 [.ref 294, .ref a1_, .int t2] Po (fun r P' => (∃ x : Int32, r = some (.int x) ∧ (True)) ∧ Typ P' ∧ KW [832, 896, 960, 1024] Po P' ∧ True) := by
  refine EvP.of qm_64 (Nat.le_of_ble_eq_true rfl) rfl ?_
  show MEvP _ none q_64 0 [(0, .ref 294), (1, .ref a1_), (2, .int t2)] [] _ 0 0 _
  refine mp_a (a_aload_n dX1_search_0 rfl) (mpp 1 rfl ?_)
  refine mp_a (a_aload_n dX1_search_1 rfl) (mpp 2 rfl ?_)
  refine mt_callv (i := 21) (q' := q_65) (As := [.ref a1_]) (rest := []) hT dX1_search_2 rfl qm_65 (by decide) rfl rl_294 (by decide) rfl (Nat.le_of_ble_eq_true rfl) rfl ⟨rfl, rfl⟩ ⟨Nat.le_of_ble_eq_true rfl, Nat.le_of_ble_eq_true rfl⟩ (EvP.mono (by decide) (c_CL_load_Layers_NPiece hT ha1)) (fun r1 P2 g3 => mpp 5 rfl ?_)
  obtain ⟨⟨rfl, g5⟩, hT6, k7, R8⟩ := g3
  have k9 : KW [832, 896, 960, 1024] Po P2 := KW.trans KW.refl k7 rfl
  show MEvP _ none q_64 5 [(0, .ref 294), (1, .ref a1_), (2, .int t2)] [] _ _ _ _
  refine mp_a (a_iconst (v := 0) dX1_search_5 rfl) (mpp 6 rfl ?_)
  refine mp_a (a_istore_n (L' := [(3, .int 0), (0, .ref 294), (1, .ref a1_), (2, .int t2)]) dX1_search_6 (by decide) rfl) (mpp 7 rfl ?_)
  refine mp_a (a_iconst (v := 0) dX1_search_7 rfl) (mpp 8 rfl ?_)
  refine mp_a (a_istore (L' := [(4, .int 0), (3, .int 0), (0, .ref 294), (1, .ref a1_), (2, .int t2)]) dX1_search_8 (by decide) rfl) (mpp 10 rfl ?_)
  refine mp_a (a_aload_n dX1_search_10 rfl) (mpp 11 rfl ?_)
  refine mt_getU (i := 9) (k := 1) (A := 295) hT6 dX1_search_11 rfl rl_294 (by decide) rfl (by decide) rfl un_14 (mpp 14 rfl ?_)
  refine mp_a (a_iconst (v := 0) dX1_search_14 rfl) (mpp 15 rfl ?_)
  refine mp_a (a_iconst (v := -1) dX1_search_15 rfl) (mpp 16 rfl ?_)
  refine mp_calls (i := 25) (q' := q_22) (As := [.ref 295, .int 0, .int (-1)]) (rest := []) dX1_search_16 rfl qm_22 (by decide) rfl (Nat.le_of_ble_eq_true rfl) rfl ⟨rfl, rfl⟩ ⟨Nat.le_of_ble_eq_true rfl, Nat.le_of_ble_eq_true rfl⟩ (EvP.mono (by decide) (c_F_put_order hT6 )) (fun r10 P11 g12 => mpp 19 rfl ?_)
  obtain ⟨⟨rfl, g14⟩, hT15, k16, R17⟩ := g12
  have k18 : KW [832, 896, 960, 1024] Po P11 := KW.trans k9 k16 rfl
  show MEvP _ none q_64 19 [(4, .int 0), (3, .int 0), (0, .ref 294), (1, .ref a1_), (2, .int t2)] [] _ _ _ _
  refine mp_a (a_iconst (v := 0) dX1_search_19 rfl) (mpp 20 rfl ?_)
  refine mp_a (a_istore (L' := [(5, .int 0), (4, .int 0), (3, .int 0), (0, .ref 294), (1, .ref a1_), (2, .int t2)]) dX1_search_20 (by decide) rfl) (mpp 22 rfl ?_)
  refine MEvP.less (L := [(0, .ref 294), (1, .ref a1_), (2, .int t2), (3, .int 0), (4, .int 0), (5, .int 0)]) rfl rfl ⟨rfl, rfl, rfl, rfl, rfl, rfl, trivial⟩ ?_
  have i19 : 0 ≤ (0 : Int) := by omega
  exact c_CL_search_Layers_NPiece_l22  ha1 _ _ _ _ P11 hT15 k18 i19 rfl

set_option maxHeartbeats 4000000 in
theorem c_F_foldsAgain {Po : mP} {t1 : Int32} (hT : Typ Po)   : EvP 6 62 [.ref 0, .int t1] Po (fun r P' => (∃ x : Int32, r = some (.int x) ∧ (True)) ∧ Typ P' ∧ KW [832, 896, 960, 1024] Po P' ∧ True) := by
  refine EvP.of qm_62 (Nat.le_of_ble_eq_true rfl) rfl ?_
  show MEvP _ none q_62 0 [(0, .ref 0), (1, .int t1)] [] _ 0 0 _
  refine mp_a (a_aload_n dX6_foldsAgain_0 rfl) (mpp 1 rfl ?_)
  refine mt_getU (i := 10) (k := 0) (A := 1) hT dX6_foldsAgain_1 rfl rl_0 (by decide) rfl (by decide) rfl un_31 (mpp 4 rfl ?_)
  refine mp_a (a_iload_n dX6_foldsAgain_4 rfl) (mpp 5 rfl ?_)
  refine mt_callv (i := 94) (q' := q_9) (As := [.int t1]) (rest := []) hT dX6_foldsAgain_5 rfl qm_9 (by decide) rfl rl_1 (by decide) rfl (Nat.le_of_ble_eq_true rfl) rfl ⟨rfl, rfl⟩ ⟨Nat.le_of_ble_eq_true rfl, Nat.le_of_ble_eq_true rfl⟩ (EvP.mono (by decide) (c_CS_pieceAt_NState hT )) (fun r1 P2 g3 => mpp 8 rfl ?_)
  obtain ⟨g3, e4⟩ := g3
  have e4 := e4.symm
  subst e4
  rcases g3 with rfl | ⟨b5, rfl, q6, q6r⟩
  · show MEvP _ none q_62 8 [(0, .ref 0), (1, .int t1)] [.null] _ _ _ _
    refine mp_a (a_astore_nN (L' := [(2, .null), (0, .ref 0), (1, .int t1)]) dX6_foldsAgain_8 (by decide) rfl) (mpp 9 rfl ?_)
    refine mp_a (a_aload_nN dX6_foldsAgain_9 rfl) (mpp 10 rfl ?_)
    refine mp_calls (i := 181) (q' := q_63) (As := [.null]) (rest := []) dX6_foldsAgain_10 rfl qm_63 (by decide) rfl (Nat.le_of_ble_eq_true rfl) rfl ⟨rfl, rfl⟩ ⟨Nat.le_of_ble_eq_true rfl, Nat.le_of_ble_eq_true rfl⟩ (EvP.mono (by decide) (c_F_errorOfDecidedStrip_null hT )) (fun r7 P8 g9 => mpp 13 rfl ?_)
    obtain ⟨⟨x10, rfl, g11⟩, e12⟩ := g9
    have e12 := e12.symm
    subst e12
    have wx10 := ti_full x10
    show MEvP _ none q_62 13 [(2, .null), (0, .ref 0), (1, .int t1)] [.int x10] _ _ _ _
    refine mp_a (a_istore_n (L' := [(3, .int x10), (2, .null), (0, .ref 0), (1, .int t1)]) dX6_foldsAgain_13 (by decide) rfl) (mpp 14 rfl ?_)
    refine mp_a (a_iload_n dX6_foldsAgain_14 rfl) (mpp 15 rfl ?_)
    refine mp_Tb (t := 22) (j_if_ne dX6_foldsAgain_15) (by decide) (fun c13 => ?_) (fun c13 => mpp 18 rfl ?_)
    · have c13 : x10.toInt ≠ 0 := ti_ne c13
      refine mp_a (a_iload_n dX6_foldsAgain_22 rfl) (mpp 23 rfl ?_)
      exact mp_iret ⟨⟨_, rfl, trivial⟩, hT, KW.refl, trivial⟩ dX6_foldsAgain_23 (Or.inl rfl)
    · have c13 : x10.toInt = 0 := ti_ne_n c13
      refine mp_a (a_aload_nN dX6_foldsAgain_18 rfl) (mpp 19 rfl ?_)
      refine mp_t (s_ifnonnullN dX6_foldsAgain_19) (mpp 22 rfl ?_)
      refine mp_a (a_iload_n dX6_foldsAgain_22 rfl) (mpp 23 rfl ?_)
      exact mp_iret ⟨⟨_, rfl, trivial⟩, hT, KW.refl, trivial⟩ dX6_foldsAgain_23 (Or.inl rfl)
  · show MEvP _ none q_62 8 [(0, .ref 0), (1, .int t1)] [.ref b5] _ _ _ _
    refine mp_a (a_astore_n (L' := [(2, .ref b5), (0, .ref 0), (1, .int t1)]) dX6_foldsAgain_8 (by decide) rfl) (mpp 9 rfl ?_)
    refine mp_a (a_aload_n dX6_foldsAgain_9 rfl) (mpp 10 rfl ?_)
    refine mp_calls (i := 181) (q' := q_63) (As := [.ref b5]) (rest := []) dX6_foldsAgain_10 rfl qm_63 (by decide) rfl (Nat.le_of_ble_eq_true rfl) rfl ⟨rfl, rfl⟩ ⟨Nat.le_of_ble_eq_true rfl, Nat.le_of_ble_eq_true rfl⟩ (EvP.mono (by decide) (c_F_errorOfDecidedStrip_NPiece hT q6)) (fun r14 P15 g16 => mpp 13 rfl ?_)
    obtain ⟨⟨x17, rfl, g18⟩, e19⟩ := g16
    have e19 := e19.symm
    subst e19
    have wx17 := ti_full x17
    show MEvP _ none q_62 13 [(2, .ref b5), (0, .ref 0), (1, .int t1)] [.int x17] _ _ _ _
    refine mp_a (a_istore_n (L' := [(3, .int x17), (2, .ref b5), (0, .ref 0), (1, .int t1)]) dX6_foldsAgain_13 (by decide) rfl) (mpp 14 rfl ?_)
    refine mp_a (a_iload_n dX6_foldsAgain_14 rfl) (mpp 15 rfl ?_)
    refine mp_Tb (t := 22) (j_if_ne dX6_foldsAgain_15) (by decide) (fun c20 => ?_) (fun c20 => mpp 18 rfl ?_)
    · have c20 : x17.toInt ≠ 0 := ti_ne c20
      refine mp_a (a_iload_n dX6_foldsAgain_22 rfl) (mpp 23 rfl ?_)
      exact mp_iret ⟨⟨_, rfl, trivial⟩, hT, KW.refl, trivial⟩ dX6_foldsAgain_23 (Or.inl rfl)
    · have c20 : x17.toInt = 0 := ti_ne_n c20
      refine mp_a (a_aload_n dX6_foldsAgain_18 rfl) (mpp 19 rfl ?_)
      refine mp_t (s_ifnonnullR (t := 24) dX6_foldsAgain_19 (by decide)) ?_
      refine mp_a (a_aload_n dX6_foldsAgain_24 rfl) (mpp 25 rfl ?_)
      refine mt_getU (i := 46) (k := 6) (A := 294) hT dX6_foldsAgain_25 rfl rl_0 (by decide) rfl (by decide) rfl un_13 (mpp 28 rfl ?_)
      refine mp_a (a_aload_n dX6_foldsAgain_28 rfl) (mpp 29 rfl ?_)
      refine mp_a (a_iconst (v := 1) dX6_foldsAgain_29 rfl) (mpp 30 rfl ?_)
      refine mt_callv (i := 184) (q' := q_64) (As := [.ref b5, .int 1]) (rest := []) hT dX6_foldsAgain_30 rfl qm_64 (by decide) rfl rl_294 (by decide) rfl (Nat.le_of_ble_eq_true rfl) rfl ⟨rfl, rfl⟩ ⟨Nat.le_of_ble_eq_true rfl, Nat.le_of_ble_eq_true rfl⟩ (EvP.mono (by decide) (c_CL_search_Layers_NPiece hT q6)) (fun r21 P22 g23 => mpp 33 rfl ?_)
      obtain ⟨⟨x24, rfl, g25⟩, hT26, k27, R28⟩ := g23
      have k29 : KW [832, 896, 960, 1024] Po P22 := KW.trans KW.refl k27 rfl
      have wx24 := ti_full x24
      show MEvP _ none q_62 33 [(3, .int x17), (2, .ref b5), (0, .ref 0), (1, .int t1)] [.int x24] _ _ _ _
      exact mp_iret ⟨⟨_, rfl, trivial⟩, hT26, k29, trivial⟩ dX6_foldsAgain_33 (Or.inl rfl)

set_option maxHeartbeats 4000000 in
theorem c_F_step {Po : mP} {t1 : Int32} (hT : Typ Po)   : EvP 4 73 [.ref 0, .int t1] Po (fun r P' => (∃ x : Int32, r = some (.int x) ∧ (True)) ∧ Typ P' ∧ KW [640, 641, 704, 768] Po P' ∧ True) := by
  refine EvP.of qm_73 (Nat.le_of_ble_eq_true rfl) rfl ?_
  show MEvP _ none q_73 0 [(0, .ref 0), (1, .int t1)] [] _ 0 0 _
  refine mp_a (a_aload_n dX6_step_0 rfl) (mpp 1 rfl ?_)
  refine mt_getU (i := 10) (k := 0) (A := 1) hT dX6_step_1 rfl rl_0 (by decide) rfl (by decide) rfl un_31 (mpp 4 rfl ?_)
  refine mp_a (a_iload_n dX6_step_4 rfl) (mpp 5 rfl ?_)
  refine mt_callv (i := 94) (q' := q_9) (As := [.int t1]) (rest := []) hT dX6_step_5 rfl qm_9 (by decide) rfl rl_1 (by decide) rfl (Nat.le_of_ble_eq_true rfl) rfl ⟨rfl, rfl⟩ ⟨Nat.le_of_ble_eq_true rfl, Nat.le_of_ble_eq_true rfl⟩ (EvP.mono (by decide) (c_CS_pieceAt_NState hT )) (fun r1 P2 g3 => mpp 8 rfl ?_)
  obtain ⟨g3, e4⟩ := g3
  have e4 := e4.symm
  subst e4
  rcases g3 with rfl | ⟨b5, rfl, q6, q6r⟩
  · show MEvP _ none q_73 8 [(0, .ref 0), (1, .int t1)] [.null] _ _ _ _
    refine mp_a (a_astore_nN (L' := [(2, .null), (0, .ref 0), (1, .int t1)]) dX6_step_8 (by decide) rfl) (mpp 9 rfl ?_)
    refine mp_a (a_aload_nN dX6_step_9 rfl) (mpp 10 rfl ?_)
    refine mp_t (s_ifnonnullN dX6_step_10) (mpp 13 rfl ?_)
    refine mp_a (a_sipush (v := -1001) dX6_step_13 rfl) (mpp 16 rfl ?_)
    exact mp_iret ⟨⟨_, rfl, trivial⟩, hT, KW.refl, trivial⟩ dX6_step_16 (Or.inl rfl)
  · show MEvP _ none q_73 8 [(0, .ref 0), (1, .int t1)] [.ref b5] _ _ _ _
    refine mp_a (a_astore_n (L' := [(2, .ref b5), (0, .ref 0), (1, .int t1)]) dX6_step_8 (by decide) rfl) (mpp 9 rfl ?_)
    refine mp_a (a_aload_n dX6_step_9 rfl) (mpp 10 rfl ?_)
    refine mp_t (s_ifnonnullR (t := 17) dX6_step_10 (by decide)) ?_
    refine mp_a (a_aload_n dX6_step_17 rfl) (mpp 18 rfl ?_)
    refine mt_callv (i := 159) (q' := q_42) (As := []) (rest := []) hT dX6_step_18 rfl qm_42 (by decide) rfl q6 (by decide) rfl (Nat.le_of_ble_eq_true rfl) rfl ⟨rfl, rfl⟩ ⟨Nat.le_of_ble_eq_true rfl, Nat.le_of_ble_eq_true rfl⟩ (EvP.mono (by decide) (c_CP_isUndecided_NPiece hT q6)) (fun r7 P8 g9 => mpp 21 rfl ?_)
    obtain ⟨⟨x10, rfl, g11⟩, e12⟩ := g9
    have e12 := e12.symm
    subst e12
    have wx10 := ti_full x10
    have g11 : 0 ≤ x10.toInt ∧ x10.toInt ≤ 1 := g11
    show MEvP _ none q_73 21 [(2, .ref b5), (0, .ref 0), (1, .int t1)] [.int x10] _ _ _ _
    refine mp_Tb (t := 28) (j_if_eq dX6_step_21) (by decide) (fun c13 => ?_) (fun c13 => mpp 24 rfl ?_)
    · have c13 : x10.toInt = 0 := ti_eq c13
      refine mp_a (a_aload_n dX6_step_28 rfl) (mpp 29 rfl ?_)
      refine mt_getU (i := 39) (k := 5) (A := 291) hT dX6_step_29 rfl rl_0 (by decide) rfl (by decide) rfl un_10 (mpp 32 rfl ?_)
      refine mp_a (a_aload_n dX6_step_32 rfl) (mpp 33 rfl ?_)
      refine mt_callv (i := 188) (q' := q_45) (As := [.ref b5]) (rest := []) hT dX6_step_33 rfl qm_45 (by decide) rfl rl_291 (by decide) rfl (Nat.le_of_ble_eq_true rfl) rfl ⟨rfl, rfl⟩ ⟨Nat.le_of_ble_eq_true rfl, Nat.le_of_ble_eq_true rfl⟩ (EvP.mono (by decide) (c_CR_load_Reducer_NPiece hT q6)) (fun r14 P15 g16 => mpp 36 rfl ?_)
      obtain ⟨⟨rfl, g18⟩, hT19, k20, R21⟩ := g16
      have k22 : KW [640, 641, 704, 768] Po P15 := KW.trans KW.refl k20 rfl
      show MEvP _ none q_73 36 [(2, .ref b5), (0, .ref 0), (1, .int t1)] [] _ _ _ _
      refine mp_a (a_aload_n dX6_step_36 rfl) (mpp 37 rfl ?_)
      refine mt_getU (i := 39) (k := 5) (A := 291) hT19 dX6_step_37 rfl rl_0 (by decide) rfl (by decide) rfl un_10 (mpp 40 rfl ?_)
      refine mt_callv (i := 191) (q' := q_52) (As := []) (rest := []) hT19 dX6_step_40 rfl qm_52 (by decide) rfl rl_291 (by decide) rfl (Nat.le_of_ble_eq_true rfl) rfl ⟨rfl, rfl⟩ ⟨Nat.le_of_ble_eq_true rfl, Nat.le_of_ble_eq_true rfl⟩ (EvP.mono (by decide) (c_CR_firstStep_Reducer hT19 )) (fun r23 P24 g25 => mpp 43 rfl ?_)
      obtain ⟨⟨x26, rfl, g27⟩, e28⟩ := g25
      have e28 := e28.symm
      subst e28
      have wx26 := ti_full x26
      have g27 : x26.toInt = 0 ∨ 2 ≤ (fv P15 291 1).toInt := g27
      have g29 : (0 : Int) ≤ (fv P15 291 1).toInt ∧ (fv P15 291 1).toInt ≤ 8 := Typ.rng hT19 rl_291 (by decide) (by decide) rfl
      show MEvP _ none q_73 43 [(2, .ref b5), (0, .ref 0), (1, .int t1)] [.int x26] _ _ _ _
      refine mp_a (a_istore_n (L' := [(3, .int x26), (2, .ref b5), (0, .ref 0), (1, .int t1)]) dX6_step_43 (by decide) rfl) (mpp 44 rfl ?_)
      refine mp_a (a_iload_n dX6_step_44 rfl) (mpp 45 rfl ?_)
      refine mp_Tb (t := 54) (j_if_ne dX6_step_45) (by decide) (fun c30 => ?_) (fun c30 => mpp 48 rfl ?_)
      · have c30 : x26.toInt ≠ 0 := ti_ne c30
        refine mp_a (a_iload_n dX6_step_54 rfl) (mpp 55 rfl ?_)
        exact mp_iret ⟨⟨_, rfl, trivial⟩, hT19, k22, trivial⟩ dX6_step_55 (Or.inl rfl)
      · have c30 : x26.toInt = 0 := ti_ne_n c30
        refine mp_a (a_sipush (v := -1004) dX6_step_48 rfl) (mpp 51 rfl ?_)
        refine mp_a (a_goto (t := 55) dX6_step_51 (by decide)) ?_
        exact mp_iret ⟨⟨_, rfl, trivial⟩, hT19, k22, trivial⟩ dX6_step_55 (Or.inl rfl)
    · have c13 : x10.toInt ≠ 0 := ti_eq_n c13
      refine mp_a (a_sipush (v := -1004) dX6_step_24 rfl) (mpp 27 rfl ?_)
      exact mp_iret ⟨⟨_, rfl, trivial⟩, hT, KW.refl, trivial⟩ dX6_step_27 (Or.inl rfl)

set_option maxHeartbeats 4000000 in
theorem c_F_steps {Po : mP} {t1 : Int32} (hT : Typ Po)   : EvP 4 74 [.ref 0, .int t1] Po (fun r P' => (∃ x : Int32, r = some (.int x) ∧ (True)) ∧ Typ P' ∧ KW [640, 641, 704, 768] Po P' ∧ True) := by
  refine EvP.of qm_74 (Nat.le_of_ble_eq_true rfl) rfl ?_
  show MEvP _ none q_74 0 [(0, .ref 0), (1, .int t1)] [] _ 0 0 _
  refine mp_a (a_aload_n dX6_steps_0 rfl) (mpp 1 rfl ?_)
  refine mt_getU (i := 10) (k := 0) (A := 1) hT dX6_steps_1 rfl rl_0 (by decide) rfl (by decide) rfl un_31 (mpp 4 rfl ?_)
  refine mp_a (a_iload_n dX6_steps_4 rfl) (mpp 5 rfl ?_)
  refine mt_callv (i := 94) (q' := q_9) (As := [.int t1]) (rest := []) hT dX6_steps_5 rfl qm_9 (by decide) rfl rl_1 (by decide) rfl (Nat.le_of_ble_eq_true rfl) rfl ⟨rfl, rfl⟩ ⟨Nat.le_of_ble_eq_true rfl, Nat.le_of_ble_eq_true rfl⟩ (EvP.mono (by decide) (c_CS_pieceAt_NState hT )) (fun r1 P2 g3 => mpp 8 rfl ?_)
  obtain ⟨g3, e4⟩ := g3
  have e4 := e4.symm
  subst e4
  rcases g3 with rfl | ⟨b5, rfl, q6, q6r⟩
  · show MEvP _ none q_74 8 [(0, .ref 0), (1, .int t1)] [.null] _ _ _ _
    refine mp_a (a_astore_nN (L' := [(2, .null), (0, .ref 0), (1, .int t1)]) dX6_steps_8 (by decide) rfl) (mpp 9 rfl ?_)
    refine mp_a (a_aload_nN dX6_steps_9 rfl) (mpp 10 rfl ?_)
    refine mp_t (s_ifnonnullN dX6_steps_10) (mpp 13 rfl ?_)
    refine mp_a (a_sipush (v := -1001) dX6_steps_13 rfl) (mpp 16 rfl ?_)
    exact mp_iret ⟨⟨_, rfl, trivial⟩, hT, KW.refl, trivial⟩ dX6_steps_16 (Or.inl rfl)
  · show MEvP _ none q_74 8 [(0, .ref 0), (1, .int t1)] [.ref b5] _ _ _ _
    refine mp_a (a_astore_n (L' := [(2, .ref b5), (0, .ref 0), (1, .int t1)]) dX6_steps_8 (by decide) rfl) (mpp 9 rfl ?_)
    refine mp_a (a_aload_n dX6_steps_9 rfl) (mpp 10 rfl ?_)
    refine mp_t (s_ifnonnullR (t := 17) dX6_steps_10 (by decide)) ?_
    refine mp_a (a_aload_n dX6_steps_17 rfl) (mpp 18 rfl ?_)
    refine mt_callv (i := 159) (q' := q_42) (As := []) (rest := []) hT dX6_steps_18 rfl qm_42 (by decide) rfl q6 (by decide) rfl (Nat.le_of_ble_eq_true rfl) rfl ⟨rfl, rfl⟩ ⟨Nat.le_of_ble_eq_true rfl, Nat.le_of_ble_eq_true rfl⟩ (EvP.mono (by decide) (c_CP_isUndecided_NPiece hT q6)) (fun r7 P8 g9 => mpp 21 rfl ?_)
    obtain ⟨⟨x10, rfl, g11⟩, e12⟩ := g9
    have e12 := e12.symm
    subst e12
    have wx10 := ti_full x10
    have g11 : 0 ≤ x10.toInt ∧ x10.toInt ≤ 1 := g11
    show MEvP _ none q_74 21 [(2, .ref b5), (0, .ref 0), (1, .int t1)] [.int x10] _ _ _ _
    refine mp_Tb (t := 28) (j_if_eq dX6_steps_21) (by decide) (fun c13 => ?_) (fun c13 => mpp 24 rfl ?_)
    · have c13 : x10.toInt = 0 := ti_eq c13
      refine mp_a (a_aload_n dX6_steps_28 rfl) (mpp 29 rfl ?_)
      refine mt_getU (i := 39) (k := 5) (A := 291) hT dX6_steps_29 rfl rl_0 (by decide) rfl (by decide) rfl un_10 (mpp 32 rfl ?_)
      refine mp_a (a_aload_n dX6_steps_32 rfl) (mpp 33 rfl ?_)
      refine mt_callv (i := 188) (q' := q_45) (As := [.ref b5]) (rest := []) hT dX6_steps_33 rfl qm_45 (by decide) rfl rl_291 (by decide) rfl (Nat.le_of_ble_eq_true rfl) rfl ⟨rfl, rfl⟩ ⟨Nat.le_of_ble_eq_true rfl, Nat.le_of_ble_eq_true rfl⟩ (EvP.mono (by decide) (c_CR_load_Reducer_NPiece hT q6)) (fun r14 P15 g16 => mpp 36 rfl ?_)
      obtain ⟨⟨rfl, g18⟩, hT19, k20, R21⟩ := g16
      have k22 : KW [640, 641, 704, 768] Po P15 := KW.trans KW.refl k20 rfl
      show MEvP _ none q_74 36 [(2, .ref b5), (0, .ref 0), (1, .int t1)] [] _ _ _ _
      refine mp_a (a_aload_n dX6_steps_36 rfl) (mpp 37 rfl ?_)
      refine mt_getU (i := 39) (k := 5) (A := 291) hT19 dX6_steps_37 rfl rl_0 (by decide) rfl (by decide) rfl un_10 (mpp 40 rfl ?_)
      refine mt_callv (i := 194) (q' := q_51) (As := []) (rest := []) hT19 dX6_steps_40 rfl qm_51 (by decide) rfl rl_291 (by decide) rfl (Nat.le_of_ble_eq_true rfl) rfl ⟨rfl, rfl⟩ ⟨Nat.le_of_ble_eq_true rfl, Nat.le_of_ble_eq_true rfl⟩ (EvP.mono (by decide) (c_CR_reduce_Reducer hT19 )) (fun r23 P24 g25 => mpp 43 rfl ?_)
      obtain ⟨⟨x26, rfl, g27⟩, hT28, k29, R30⟩ := g25
      have k31 : KW [640, 641, 704, 768] Po P24 := KW.trans k22 k29 rfl
      have wx26 := ti_full x26
      show MEvP _ none q_74 43 [(2, .ref b5), (0, .ref 0), (1, .int t1)] [.int x26] _ _ _ _
      exact mp_iret ⟨⟨_, rfl, trivial⟩, hT28, k31, trivial⟩ dX6_steps_43 (Or.inl rfl)
    · have c13 : x10.toInt ≠ 0 := ti_eq_n c13
      refine mp_a (a_sipush (v := -1004) dX6_steps_24 rfl) (mpp 27 rfl ?_)
      exact mp_iret ⟨⟨_, rfl, trivial⟩, hT, KW.refl, trivial⟩ dX6_steps_27 (Or.inl rfl)

set_option maxHeartbeats 4000000 in
theorem c_CR_kindIn {Po : mP} {t0 : Int32} {t1 : Int32} (hT : Typ Po)   : EvP 1 78 [.int t0, .int t1] Po (fun r P' => (∃ x : Int32, r = some (.int x) ∧ (True)) ∧ P' = Po) := by
  refine EvP.of qm_78 (Nat.le_of_ble_eq_true rfl) rfl ?_
  show MEvP _ none q_78 0 [(0, .int t0), (1, .int t1)] [] _ 0 0 _
  refine mp_a (a_iload_n dX3_kindIn_0 rfl) (mpp 1 rfl ?_)
  refine mp_a (a_iload_n dX3_kindIn_1 rfl) (mpp 2 rfl ?_)
  obtain ⟨z1, h2⟩ := ti_ex (t0 >>> (t1 &&& 31) : Int32)
  have wz1 := ti_full z1
  refine mp_t (s_ishr (v := z1) dX3_kindIn_2 h2) (mpp 3 rfl ?_)
  refine mp_a (a_iconst (v := 1) dX3_kindIn_3 rfl) (mpp 4 rfl ?_)
  obtain ⟨z3, h4⟩ := ti_ex (z1 &&& 1 : Int32)
  have wz3 := ti_full z3
  refine mp_t (s_iand (v := z3) dX3_kindIn_4 h4) (mpp 5 rfl ?_)
  refine mp_Tb (t := 12) (j_if_ne dX3_kindIn_5) (by decide) (fun c5 => ?_) (fun c5 => mpp 8 rfl ?_)
  · have c5 : z3.toInt ≠ 0 := ti_ne c5
    refine mp_a (a_iconst (v := 2) dX3_kindIn_12 rfl) (mpp 13 rfl ?_)
    exact mp_iret ⟨⟨_, rfl, trivial⟩, rfl⟩ dX3_kindIn_13 (Or.inl rfl)
  · have c5 : z3.toInt = 0 := ti_ne_n c5
    refine mp_a (a_iconst (v := 1) dX3_kindIn_8 rfl) (mpp 9 rfl ?_)
    refine mp_a (a_goto (t := 13) dX3_kindIn_9 (by decide)) ?_
    exact mp_iret ⟨⟨_, rfl, trivial⟩, rfl⟩ dX3_kindIn_13 (Or.inl rfl)

set_option maxHeartbeats 4000000 in
theorem c_CR_changesTo_NPiece_l4 {Po : mP} {a0_ : Nat} {t1 : Int32} (hT : Typ Po)  (ha0 : rl a0_ = 33) : ∀ (n : Nat) (v2 : Int32) (v3 : Int32), (0 ≤ v3.toInt) → (2147483647 - v3.toInt).toNat = n → MEvP 1 none q_77 4 [(0, .ref a0_), (1, .int t1), (2, .int v2), (3, .int v3)] [] Po 0 0 (fun r P' => (∃ x : Int32, r = some (.int x) ∧ (True)) ∧ P' = Po) := by
  intro n
  induction n using Nat.strongRecOn with | _ n ih => ?_
  intro v2 v3 i_0 hm
  have w_t1 := ti_full t1
  have w_v2 := ti_full v2
  have w_v3 := ti_full v3
  refine mp_a (a_iload_n dX3_changesTo_4 rfl) (mpp 5 rfl ?_)
  refine mp_a (a_aload_n dX3_changesTo_5 rfl) (mpp 6 rfl ?_)
  refine mt_callv (i := 34) (q' := q_25) (As := []) (rest := [.int v3]) hT dX3_changesTo_6 rfl qm_25 (by decide) rfl ha0 (by decide) rfl (Nat.le_of_ble_eq_true rfl) rfl ⟨rfl, rfl⟩ ⟨Nat.le_of_ble_eq_true rfl, Nat.le_of_ble_eq_true rfl⟩ (EvP.mono (by decide) (c_CP_creaseCount_NPiece hT ha0)) (fun r1 P2 g3 => mpp 9 rfl ?_)
  obtain ⟨⟨x4, rfl, g5⟩, e6⟩ := g3
  have e6 := e6.symm
  subst e6
  have wx4 := ti_full x4
  have g5 : -1 ≤ x4.toInt ∧ x4.toInt ≤ (fv Po a0_ 1).toInt := g5
  have g7 : (0 : Int) ≤ (fv Po a0_ 1).toInt ∧ (fv Po a0_ 1).toInt ≤ 8 := Typ.rng hT ha0 (by decide) (by decide) rfl
  show MEvP _ none q_77 9 [(0, .ref a0_), (1, .int t1), (2, .int v2), (3, .int v3)] [.int x4, .int v3] _ _ _ _
  refine mp_Tb (t := 46) (j_icmp_ge dX3_changesTo_9) (by decide) (fun c8 => ?_) (fun c8 => mpp 12 rfl ?_)
  · have c8 : v3.toInt ≥ x4.toInt := ti_ge c8
    refine mp_a (a_iload_n dX3_changesTo_46 rfl) (mpp 47 rfl ?_)
    exact mp_iret ⟨⟨_, rfl, trivial⟩, rfl⟩ dX3_changesTo_47 (Or.inl rfl)
  · have c8 : v3.toInt < x4.toInt := ti_ge_n c8
    refine mp_a (a_aload_n dX3_changesTo_12 rfl) (mpp 13 rfl ?_)
    refine mt_getR (i := 38) (k := 4) hT dX3_changesTo_13 rfl ha0 (by decide) rfl (by decide) rfl (fun q9 => mpp 16 rfl ?_)
    generalize rv Po a0_ 4 = b10 at q9 ⊢
    refine mp_a (a_iload_n dX3_changesTo_16 rfl) (mpp 17 rfl ?_)
    refine mp_calls (i := 39) (q' := q_12) (As := [.ref b10, .int v3]) (rest := []) dX3_changesTo_17 rfl qm_12 (by decide) rfl (Nat.le_of_ble_eq_true rfl) rfl ⟨rfl, rfl⟩ ⟨Nat.le_of_ble_eq_true rfl, Nat.le_of_ble_eq_true rfl⟩ (EvP.mono (by decide) (c_F_at_creases hT q9)) (fun r11 P12 g13 => mpp 20 rfl ?_)
    obtain ⟨⟨x14, rfl, g15⟩, e16⟩ := g13
    have e16 := e16.symm
    subst e16
    have wx14 := ti_full x14
    show MEvP _ none q_77 20 [(0, .ref a0_), (1, .int t1), (2, .int v2), (3, .int v3)] [.int x14] _ _ _ _
    refine mp_a (a_istore (L' := [(4, .int x14), (0, .ref a0_), (1, .int t1), (2, .int v2), (3, .int v3)]) dX3_changesTo_20 (by decide) rfl) (mpp 22 rfl ?_)
    refine mp_a (a_iload dX3_changesTo_22 rfl) (mpp 24 rfl ?_)
    refine mp_Tb (t := 40) (j_if_eq dX3_changesTo_24) (by decide) (fun c17 => ?_) (fun c17 => mpp 27 rfl ?_)
    · have c17 : x14.toInt = 0 := ti_eq c17
      obtain ⟨z18, h19⟩ := ti_ex (v3 + 1 : Int32)
      have wz18 := ti_full z18
      refine mp_a (a_iinc (v := z18) (L' := [(3, .int z18), (4, .int x14), (0, .ref a0_), (1, .int t1), (2, .int v2)]) dX3_changesTo_40 (by decide) rfl h19 rfl) (mpp 43 rfl ?_)
      try have e20 : z18.toInt = v3.toInt + 1 := ti_addz h19 rfl rfl (by omega) (by omega)
      refine mp_a (a_goto (t := 4) dX3_changesTo_43 (by decide)) ?_
      refine MEvP.less (L := [(0, .ref a0_), (1, .int t1), (2, .int v2), (3, .int z18)]) rfl rfl ⟨rfl, rfl, rfl, rfl, trivial⟩ ?_
      have i21 : 0 ≤ z18.toInt := by omega
      exact ih _ (by omega) _ _ i21 rfl
    · have c17 : x14.toInt ≠ 0 := ti_eq_n c17
      refine mp_a (a_iload dX3_changesTo_27 rfl) (mpp 29 rfl ?_)
      refine mp_a (a_iload_n dX3_changesTo_29 rfl) (mpp 30 rfl ?_)
      refine mp_a (a_iload_n dX3_changesTo_30 rfl) (mpp 31 rfl ?_)
      refine mp_calls (i := 94) (q' := q_78) (As := [.int t1, .int v3]) (rest := [.int x14]) dX3_changesTo_31 rfl qm_78 (by decide) rfl (Nat.le_of_ble_eq_true rfl) rfl ⟨rfl, rfl⟩ ⟨Nat.le_of_ble_eq_true rfl, Nat.le_of_ble_eq_true rfl⟩ (EvP.mono (by decide) (c_CR_kindIn hT )) (fun r22 P23 g24 => mpp 34 rfl ?_)
      obtain ⟨⟨x25, rfl, g26⟩, e27⟩ := g24
      have e27 := e27.symm
      subst e27
      have wx25 := ti_full x25
      show MEvP _ none q_77 34 [(4, .int x14), (0, .ref a0_), (1, .int t1), (2, .int v2), (3, .int v3)] [.int x25, .int x14] _ _ _ _
      refine mp_Tb (t := 40) (j_icmp_eq dX3_changesTo_34) (by decide) (fun c28 => ?_) (fun c28 => mpp 37 rfl ?_)
      · have c28 : x14.toInt = x25.toInt := ti_eq c28
        obtain ⟨z29, h30⟩ := ti_ex (v3 + 1 : Int32)
        have wz29 := ti_full z29
        refine mp_a (a_iinc (v := z29) (L' := [(3, .int z29), (4, .int x14), (0, .ref a0_), (1, .int t1), (2, .int v2)]) dX3_changesTo_40 (by decide) rfl h30 rfl) (mpp 43 rfl ?_)
        try have e31 : z29.toInt = v3.toInt + 1 := ti_addz h30 rfl rfl (by omega) (by omega)
        refine mp_a (a_goto (t := 4) dX3_changesTo_43 (by decide)) ?_
        refine MEvP.less (L := [(0, .ref a0_), (1, .int t1), (2, .int v2), (3, .int z29)]) rfl rfl ⟨rfl, rfl, rfl, rfl, trivial⟩ ?_
        have i32 : 0 ≤ z29.toInt := by omega
        exact ih _ (by omega) _ _ i32 rfl
      · have c28 : x14.toInt ≠ x25.toInt := ti_eq_n c28
        obtain ⟨z33, h34⟩ := ti_ex (v2 + 1 : Int32)
        have wz33 := ti_full z33
        refine mp_a (a_iinc (v := z33) (L' := [(2, .int z33), (4, .int x14), (0, .ref a0_), (1, .int t1), (3, .int v3)]) dX3_changesTo_37 (by decide) rfl h34 rfl) (mpp 40 rfl ?_)
        try have e35 : z33.toInt = v2.toInt + 1 := ti_addz h34 rfl rfl (by omega) (by omega)
        obtain ⟨z36, h37⟩ := ti_ex (v3 + 1 : Int32)
        have wz36 := ti_full z36
        refine mp_a (a_iinc (v := z36) (L' := [(3, .int z36), (2, .int z33), (4, .int x14), (0, .ref a0_), (1, .int t1)]) dX3_changesTo_40 (by decide) rfl h37 rfl) (mpp 43 rfl ?_)
        try have e38 : z36.toInt = v3.toInt + 1 := ti_addz h37 rfl rfl (by omega) (by omega)
        refine mp_a (a_goto (t := 4) dX3_changesTo_43 (by decide)) ?_
        refine MEvP.less (L := [(0, .ref a0_), (1, .int t1), (2, .int z33), (3, .int z36)]) rfl rfl ⟨rfl, rfl, rfl, rfl, trivial⟩ ?_
        have i39 : 0 ≤ z36.toInt := by omega
        exact ih _ (by omega) _ _ i39 rfl

set_option maxHeartbeats 4000000 in
theorem c_CR_changesTo_NPiece {Po : mP} {a0_ : Nat} {t1 : Int32} (hT : Typ Po)  (ha0 : rl a0_ = 33) : EvP 2 77 [.ref a0_, .int t1] Po (fun r P' => (∃ x : Int32, r = some (.int x) ∧ (True)) ∧ P' = Po) := by
  refine EvP.of qm_77 (Nat.le_of_ble_eq_true rfl) rfl ?_
  show MEvP _ none q_77 0 [(0, .ref a0_), (1, .int t1)] [] _ 0 0 _
  refine mp_a (a_iconst (v := 0) dX3_changesTo_0 rfl) (mpp 1 rfl ?_)
  refine mp_a (a_istore_n (L' := [(2, .int 0), (0, .ref a0_), (1, .int t1)]) dX3_changesTo_1 (by decide) rfl) (mpp 2 rfl ?_)
  refine mp_a (a_iconst (v := 0) dX3_changesTo_2 rfl) (mpp 3 rfl ?_)
  refine mp_a (a_istore_n (L' := [(3, .int 0), (2, .int 0), (0, .ref a0_), (1, .int t1)]) dX3_changesTo_3 (by decide) rfl) (mpp 4 rfl ?_)
  refine MEvP.less (L := [(0, .ref a0_), (1, .int t1), (2, .int 0), (3, .int 0)]) rfl rfl ⟨rfl, rfl, rfl, rfl, trivial⟩ ?_
  have i1 : 0 ≤ (0 : Int) := by omega
  exact c_CR_changesTo_NPiece_l4 hT  ha0 _ _ _ i1 rfl

set_option maxHeartbeats 4000000 in
theorem c_CR_foldsWith_Reducer_NPiece_l7 {Po : mP} {a1_ : Nat} {t2 : Int32} (ha1 : rl a1_ = 33) : ∀ (n : Nat) (v3 : Int32), ∀ (P : mP), Typ P → KW [640, 641, 704, 768] Po P → (0 ≤ v3.toInt) → (2147483647 - v3.toInt).toNat = n → MEvP 3 none q_79 7 [(0, .ref 291), (1, .ref a1_), (2, .int t2), (3, .int v3)] [] P 0 0 (fun r P' => (∃ x : Int32, r = some (.int x) ∧ (0 ≤ x.toInt ∧ x.toInt ≤ 1)) ∧ Typ P' ∧ KW [640, 641, 704, 768] Po P' ∧ True) := by
  intro n
  induction n using Nat.strongRecOn with | _ n ih => ?_
  intro v3 P hT hK i_0 hm
  have w_t2 := ti_full t2
  have w_v3 := ti_full v3
  refine mp_a (a_iload_n dX3_foldsWith_7 rfl) (mpp 8 rfl ?_)
  refine mp_a (a_aload_n dX3_foldsWith_8 rfl) (mpp 9 rfl ?_)
  refine mt_callv (i := 34) (q' := q_25) (As := []) (rest := [.int v3]) hT dX3_foldsWith_9 rfl qm_25 (by decide) rfl ha1 (by decide) rfl (Nat.le_of_ble_eq_true rfl) rfl ⟨rfl, rfl⟩ ⟨Nat.le_of_ble_eq_true rfl, Nat.le_of_ble_eq_true rfl⟩ (EvP.mono (by decide) (c_CP_creaseCount_NPiece hT ha1)) (fun r1 P2 g3 => mpp 12 rfl ?_)
  obtain ⟨⟨x4, rfl, g5⟩, e6⟩ := g3
  have e6 := e6.symm
  subst e6
  have wx4 := ti_full x4
  have g5 : -1 ≤ x4.toInt ∧ x4.toInt ≤ (fv P a1_ 1).toInt := g5
  have g7 : (0 : Int) ≤ (fv P a1_ 1).toInt ∧ (fv P a1_ 1).toInt ≤ 8 := Typ.rng hT ha1 (by decide) (by decide) rfl
  show MEvP _ none q_79 12 [(0, .ref 291), (1, .ref a1_), (2, .int t2), (3, .int v3)] [.int x4, .int v3] _ _ _ _
  refine mp_Tb (t := 31) (j_icmp_ge dX3_foldsWith_12) (by decide) (fun c8 => ?_) (fun c8 => mpp 15 rfl ?_)
  · have c8 : v3.toInt ≥ x4.toInt := ti_ge c8
    refine mp_a (a_aload_n dX3_foldsWith_31 rfl) (mpp 32 rfl ?_)
    refine mt_callv (i := 74) (q' := q_51) (As := []) (rest := []) hT dX3_foldsWith_32 rfl qm_51 (by decide) rfl rl_291 (by decide) rfl (Nat.le_of_ble_eq_true rfl) rfl ⟨rfl, rfl⟩ ⟨Nat.le_of_ble_eq_true rfl, Nat.le_of_ble_eq_true rfl⟩ (EvP.mono (by decide) (c_CR_reduce_Reducer hT )) (fun r9 P10 g11 => mpp 35 rfl ?_)
    obtain ⟨⟨x12, rfl, g13⟩, hT14, k15, R16⟩ := g11
    have k17 : KW [640, 641, 704, 768] Po P10 := KW.trans hK k15 rfl
    have wx12 := ti_full x12
    show MEvP _ none q_79 35 [(0, .ref 291), (1, .ref a1_), (2, .int t2), (3, .int v3)] [.int x12] _ _ _ _
    refine mp_t (s_pop dX3_foldsWith_35 rfl) (mpp 36 rfl ?_)
    refine mp_a (a_aload_n dX3_foldsWith_36 rfl) (mpp 37 rfl ?_)
    refine mt_callv (i := 77) (q' := q_55) (As := []) (rest := []) hT14 dX3_foldsWith_37 rfl qm_55 (by decide) rfl rl_291 (by decide) rfl (Nat.le_of_ble_eq_true rfl) rfl ⟨rfl, rfl⟩ ⟨Nat.le_of_ble_eq_true rfl, Nat.le_of_ble_eq_true rfl⟩ (EvP.mono (by decide) (c_CR_isReduced_Reducer hT14 )) (fun r18 P19 g20 => mpp 40 rfl ?_)
    obtain ⟨⟨x21, rfl, g22⟩, e23⟩ := g20
    have e23 := e23.symm
    subst e23
    have wx21 := ti_full x21
    have g22 : 0 ≤ x21.toInt ∧ x21.toInt ≤ 1 := g22
    show MEvP _ none q_79 40 [(0, .ref 291), (1, .ref a1_), (2, .int t2), (3, .int v3)] [.int x21] _ _ _ _
    have u24 : 0 ≤ x21.toInt ∧ x21.toInt ≤ 1 := by omega
    exact mp_iret ⟨⟨_, rfl, u24⟩, hT14, k17, trivial⟩ dX3_foldsWith_40 (Or.inr ⟨rfl, ti_01 (by omega)⟩)
  · have c8 : v3.toInt < x4.toInt := ti_ge_n c8
    refine mp_a (a_aload_n dX3_foldsWith_15 rfl) (mpp 16 rfl ?_)
    refine mp_a (a_iload_n dX3_foldsWith_16 rfl) (mpp 17 rfl ?_)
    refine mp_a (a_iload_n dX3_foldsWith_17 rfl) (mpp 18 rfl ?_)
    refine mp_a (a_iload_n dX3_foldsWith_18 rfl) (mpp 19 rfl ?_)
    refine mp_calls (i := 94) (q' := q_78) (As := [.int t2, .int v3]) (rest := [.int v3, .ref 291]) dX3_foldsWith_19 rfl qm_78 (by decide) rfl (Nat.le_of_ble_eq_true rfl) rfl ⟨rfl, rfl⟩ ⟨Nat.le_of_ble_eq_true rfl, Nat.le_of_ble_eq_true rfl⟩ (EvP.mono (by decide) (c_CR_kindIn hT )) (fun r25 P26 g27 => mpp 22 rfl ?_)
    obtain ⟨⟨x28, rfl, g29⟩, e30⟩ := g27
    have e30 := e30.symm
    subst e30
    have wx28 := ti_full x28
    show MEvP _ none q_79 22 [(0, .ref 291), (1, .ref a1_), (2, .int t2), (3, .int v3)] [.int x28, .int v3, .ref 291] _ _ _ _
    refine mt_callv (i := 43) (q' := q_46) (As := [.int v3, .int x28]) (rest := []) hT dX3_foldsWith_22 rfl qm_46 (by decide) rfl rl_291 (by decide) rfl (Nat.le_of_ble_eq_true rfl) rfl ⟨rfl, rfl⟩ ⟨Nat.le_of_ble_eq_true rfl, Nat.le_of_ble_eq_true rfl⟩ (EvP.mono (by decide) (c_CR_putCrease_Reducer hT )) (fun r31 P32 g33 => mpp 25 rfl ?_)
    obtain ⟨⟨rfl, g35⟩, hT36, k37, R38⟩ := g33
    have k39 : KW [640, 641, 704, 768] Po P32 := KW.trans hK k37 rfl
    show MEvP _ none q_79 25 [(0, .ref 291), (1, .ref a1_), (2, .int t2), (3, .int v3)] [] _ _ _ _
    obtain ⟨z40, h41⟩ := ti_ex (v3 + 1 : Int32)
    have wz40 := ti_full z40
    refine mp_a (a_iinc (v := z40) (L' := [(3, .int z40), (0, .ref 291), (1, .ref a1_), (2, .int t2)]) dX3_foldsWith_25 (by decide) rfl h41 rfl) (mpp 28 rfl ?_)
    try have e42 : z40.toInt = v3.toInt + 1 := ti_addz h41 rfl rfl (by omega) (by omega)
    refine mp_a (a_goto (t := 7) dX3_foldsWith_28 (by decide)) ?_
    refine MEvP.less (L := [(0, .ref 291), (1, .ref a1_), (2, .int t2), (3, .int z40)]) rfl rfl ⟨rfl, rfl, rfl, rfl, trivial⟩ ?_
    have i43 : 0 ≤ z40.toInt := by omega
    exact ih _ (by omega) _ P32 hT36 k39 i43 rfl

set_option maxHeartbeats 4000000 in
theorem c_CR_foldsWith_Reducer_NPiece {Po : mP} {a1_ : Nat} {t2 : Int32} (hT : Typ Po)  (ha1 : rl a1_ = 33) : EvP 4 79 [.ref 291, .ref a1_, .int t2] Po (fun r P' => (∃ x : Int32, r = some (.int x) ∧ (0 ≤ x.toInt ∧ x.toInt ≤ 1)) ∧ Typ P' ∧ KW [640, 641, 704, 768] Po P' ∧ True) := by
  refine EvP.of qm_79 (Nat.le_of_ble_eq_true rfl) rfl ?_
  show MEvP _ none q_79 0 [(0, .ref 291), (1, .ref a1_), (2, .int t2)] [] _ 0 0 _
  refine mp_a (a_aload_n dX3_foldsWith_0 rfl) (mpp 1 rfl ?_)
  refine mp_a (a_aload_n dX3_foldsWith_1 rfl) (mpp 2 rfl ?_)
  refine mt_callv (i := 55) (q' := q_45) (As := [.ref a1_]) (rest := []) hT dX3_foldsWith_2 rfl qm_45 (by decide) rfl rl_291 (by decide) rfl (Nat.le_of_ble_eq_true rfl) rfl ⟨rfl, rfl⟩ ⟨Nat.le_of_ble_eq_true rfl, Nat.le_of_ble_eq_true rfl⟩ (EvP.mono (by decide) (c_CR_load_Reducer_NPiece hT ha1)) (fun r1 P2 g3 => mpp 5 rfl ?_)
  obtain ⟨⟨rfl, g5⟩, hT6, k7, R8⟩ := g3
  have k9 : KW [640, 641, 704, 768] Po P2 := KW.trans KW.refl k7 rfl
  show MEvP _ none q_79 5 [(0, .ref 291), (1, .ref a1_), (2, .int t2)] [] _ _ _ _
  refine mp_a (a_iconst (v := 0) dX3_foldsWith_5 rfl) (mpp 6 rfl ?_)
  refine mp_a (a_istore_n (L' := [(3, .int 0), (0, .ref 291), (1, .ref a1_), (2, .int t2)]) dX3_foldsWith_6 (by decide) rfl) (mpp 7 rfl ?_)
  refine MEvP.less (L := [(0, .ref 291), (1, .ref a1_), (2, .int t2), (3, .int 0)]) rfl rfl ⟨rfl, rfl, rfl, rfl, trivial⟩ ?_
  have i10 : 0 ≤ (0 : Int) := by omega
  exact c_CR_foldsWith_Reducer_NPiece_l7  ha1 _ _ P2 hT6 k9 i10 rfl

set_option maxHeartbeats 4000000 in
theorem c_CR_countWays_Reducer_NPiece_l4 {Po : mP} {a1_ : Nat} (ha1 : rl a1_ = 33) : ∀ (n : Nat) (v2 : Int32) (v3 : Int32), ∀ (P : mP), Typ P → KW [640, 641, 704, 768] Po P → (0 ≤ v3.toInt) → (2147483647 - v3.toInt).toNat = n → MEvP 4 none q_76 4 [(0, .ref 291), (1, .ref a1_), (2, .int v2), (3, .int v3)] [] P 0 0 (fun r P' => (∃ x : Int32, r = some (.int x) ∧ (True)) ∧ Typ P' ∧ KW [640, 641, 704, 768] Po P' ∧ True) := by
  intro n
  induction n using Nat.strongRecOn with | _ n ih => ?_
  intro v2 v3 P hT hK i_0 hm
  have w_v2 := ti_full v2
  have w_v3 := ti_full v3
  refine mp_a (a_iload_n dX3_countWays_4 rfl) (mpp 5 rfl ?_)
  refine mp_a (a_iconst (v := 1) dX3_countWays_5 rfl) (mpp 6 rfl ?_)
  refine mp_a (a_aload_n dX3_countWays_6 rfl) (mpp 7 rfl ?_)
  refine mt_callv (i := 34) (q' := q_25) (As := []) (rest := [.int 1, .int v3]) hT dX3_countWays_7 rfl qm_25 (by decide) rfl ha1 (by decide) rfl (Nat.le_of_ble_eq_true rfl) rfl ⟨rfl, rfl⟩ ⟨Nat.le_of_ble_eq_true rfl, Nat.le_of_ble_eq_true rfl⟩ (EvP.mono (by decide) (c_CP_creaseCount_NPiece hT ha1)) (fun r1 P2 g3 => mpp 10 rfl ?_)
  obtain ⟨⟨x4, rfl, g5⟩, e6⟩ := g3
  have e6 := e6.symm
  subst e6
  have wx4 := ti_full x4
  have g5 : -1 ≤ x4.toInt ∧ x4.toInt ≤ (fv P a1_ 1).toInt := g5
  have g7 : (0 : Int) ≤ (fv P a1_ 1).toInt ∧ (fv P a1_ 1).toInt ≤ 8 := Typ.rng hT ha1 (by decide) (by decide) rfl
  show MEvP _ none q_76 10 [(0, .ref 291), (1, .ref a1_), (2, .int v2), (3, .int v3)] [.int x4, .int 1, .int v3] _ _ _ _
  obtain ⟨z8, h9⟩ := ti_ex (1 <<< (x4 &&& 31) : Int32)
  have wz8 := ti_full z8
  refine mp_t (s_ishl (v := z8) dX3_countWays_10 h9) (mpp 11 rfl ?_)
  refine mp_Tb (t := 40) (j_icmp_ge dX3_countWays_11) (by decide) (fun c10 => ?_) (fun c10 => mpp 14 rfl ?_)
  · have c10 : v3.toInt ≥ z8.toInt := ti_ge c10
    refine mp_a (a_iload_n dX3_countWays_40 rfl) (mpp 41 rfl ?_)
    exact mp_iret ⟨⟨_, rfl, trivial⟩, hT, hK, trivial⟩ dX3_countWays_41 (Or.inl rfl)
  · have c10 : v3.toInt < z8.toInt := ti_ge_n c10
    refine mp_a (a_aload_n dX3_countWays_14 rfl) (mpp 15 rfl ?_)
    refine mp_a (a_iload_n dX3_countWays_15 rfl) (mpp 16 rfl ?_)
    refine mp_calls (i := 86) (q' := q_77) (As := [.ref a1_, .int v3]) (rest := []) dX3_countWays_16 rfl qm_77 (by decide) rfl (Nat.le_of_ble_eq_true rfl) rfl ⟨rfl, rfl⟩ ⟨Nat.le_of_ble_eq_true rfl, Nat.le_of_ble_eq_true rfl⟩ (EvP.mono (by decide) (c_CR_changesTo_NPiece hT ha1)) (fun r11 P12 g13 => mpp 19 rfl ?_)
    obtain ⟨⟨x14, rfl, g15⟩, e16⟩ := g13
    have e16 := e16.symm
    subst e16
    have wx14 := ti_full x14
    show MEvP _ none q_76 19 [(0, .ref 291), (1, .ref a1_), (2, .int v2), (3, .int v3)] [.int x14] _ _ _ _
    refine mp_Tb (t := 34) (j_if_ne dX3_countWays_19) (by decide) (fun c17 => ?_) (fun c17 => mpp 22 rfl ?_)
    · have c17 : x14.toInt ≠ 0 := ti_ne c17
      obtain ⟨z18, h19⟩ := ti_ex (v3 + 1 : Int32)
      have wz18 := ti_full z18
      refine mp_a (a_iinc (v := z18) (L' := [(3, .int z18), (0, .ref 291), (1, .ref a1_), (2, .int v2)]) dX3_countWays_34 (by decide) rfl h19 rfl) (mpp 37 rfl ?_)
      try have e20 : z18.toInt = v3.toInt + 1 := ti_addz h19 rfl rfl (by omega) (by omega)
      refine mp_a (a_goto (t := 4) dX3_countWays_37 (by decide)) ?_
      refine MEvP.less (L := [(0, .ref 291), (1, .ref a1_), (2, .int v2), (3, .int z18)]) rfl rfl ⟨rfl, rfl, rfl, rfl, trivial⟩ ?_
      have i21 : 0 ≤ z18.toInt := by omega
      exact ih _ (by omega) _ _ P hT hK i21 rfl
    · have c17 : x14.toInt = 0 := ti_ne_n c17
      refine mp_a (a_aload_n dX3_countWays_22 rfl) (mpp 23 rfl ?_)
      refine mp_a (a_aload_n dX3_countWays_23 rfl) (mpp 24 rfl ?_)
      refine mp_a (a_iload_n dX3_countWays_24 rfl) (mpp 25 rfl ?_)
      refine mt_callv (i := 90) (q' := q_79) (As := [.ref a1_, .int v3]) (rest := []) hT dX3_countWays_25 rfl qm_79 (by decide) rfl rl_291 (by decide) rfl (Nat.le_of_ble_eq_true rfl) rfl ⟨rfl, rfl⟩ ⟨Nat.le_of_ble_eq_true rfl, Nat.le_of_ble_eq_true rfl⟩ (EvP.mono (by decide) (c_CR_foldsWith_Reducer_NPiece hT ha1)) (fun r22 P23 g24 => mpp 28 rfl ?_)
      obtain ⟨⟨x25, rfl, g26⟩, hT27, k28, R29⟩ := g24
      have k30 : KW [640, 641, 704, 768] Po P23 := KW.trans hK k28 rfl
      have wx25 := ti_full x25
      have g26 : 0 ≤ x25.toInt ∧ x25.toInt ≤ 1 := g26
      show MEvP _ none q_76 28 [(0, .ref 291), (1, .ref a1_), (2, .int v2), (3, .int v3)] [.int x25] _ _ _ _
      refine mp_Tb (t := 34) (j_if_eq dX3_countWays_28) (by decide) (fun c31 => ?_) (fun c31 => mpp 31 rfl ?_)
      · have c31 : x25.toInt = 0 := ti_eq c31
        obtain ⟨z32, h33⟩ := ti_ex (v3 + 1 : Int32)
        have wz32 := ti_full z32
        refine mp_a (a_iinc (v := z32) (L' := [(3, .int z32), (0, .ref 291), (1, .ref a1_), (2, .int v2)]) dX3_countWays_34 (by decide) rfl h33 rfl) (mpp 37 rfl ?_)
        try have e34 : z32.toInt = v3.toInt + 1 := ti_addz h33 rfl rfl (by omega) (by omega)
        refine mp_a (a_goto (t := 4) dX3_countWays_37 (by decide)) ?_
        refine MEvP.less (L := [(0, .ref 291), (1, .ref a1_), (2, .int v2), (3, .int z32)]) rfl rfl ⟨rfl, rfl, rfl, rfl, trivial⟩ ?_
        have i35 : 0 ≤ z32.toInt := by omega
        exact ih _ (by omega) _ _ P23 hT27 k30 i35 rfl
      · have c31 : x25.toInt ≠ 0 := ti_eq_n c31
        obtain ⟨z36, h37⟩ := ti_ex (v2 + 1 : Int32)
        have wz36 := ti_full z36
        refine mp_a (a_iinc (v := z36) (L' := [(2, .int z36), (0, .ref 291), (1, .ref a1_), (3, .int v3)]) dX3_countWays_31 (by decide) rfl h37 rfl) (mpp 34 rfl ?_)
        try have e38 : z36.toInt = v2.toInt + 1 := ti_addz h37 rfl rfl (by omega) (by omega)
        obtain ⟨z39, h40⟩ := ti_ex (v3 + 1 : Int32)
        have wz39 := ti_full z39
        refine mp_a (a_iinc (v := z39) (L' := [(3, .int z39), (2, .int z36), (0, .ref 291), (1, .ref a1_)]) dX3_countWays_34 (by decide) rfl h40 rfl) (mpp 37 rfl ?_)
        try have e41 : z39.toInt = v3.toInt + 1 := ti_addz h40 rfl rfl (by omega) (by omega)
        refine mp_a (a_goto (t := 4) dX3_countWays_37 (by decide)) ?_
        refine MEvP.less (L := [(0, .ref 291), (1, .ref a1_), (2, .int z36), (3, .int z39)]) rfl rfl ⟨rfl, rfl, rfl, rfl, trivial⟩ ?_
        have i42 : 0 ≤ z39.toInt := by omega
        exact ih _ (by omega) _ _ P23 hT27 k30 i42 rfl

set_option maxHeartbeats 4000000 in
theorem c_CR_countWays_Reducer_NPiece {Po : mP} {a1_ : Nat} (hT : Typ Po)  (ha1 : rl a1_ = 33) : EvP 5 76 [.ref 291, .ref a1_] Po (fun r P' => (∃ x : Int32, r = some (.int x) ∧ (True)) ∧ Typ P' ∧ KW [640, 641, 704, 768] Po P' ∧ True) := by
  refine EvP.of qm_76 (Nat.le_of_ble_eq_true rfl) rfl ?_
  show MEvP _ none q_76 0 [(0, .ref 291), (1, .ref a1_)] [] _ 0 0 _
  refine mp_a (a_iconst (v := 0) dX3_countWays_0 rfl) (mpp 1 rfl ?_)
  refine mp_a (a_istore_n (L' := [(2, .int 0), (0, .ref 291), (1, .ref a1_)]) dX3_countWays_1 (by decide) rfl) (mpp 2 rfl ?_)
  refine mp_a (a_iconst (v := 0) dX3_countWays_2 rfl) (mpp 3 rfl ?_)
  refine mp_a (a_istore_n (L' := [(3, .int 0), (2, .int 0), (0, .ref 291), (1, .ref a1_)]) dX3_countWays_3 (by decide) rfl) (mpp 4 rfl ?_)
  refine MEvP.less (L := [(0, .ref 291), (1, .ref a1_), (2, .int 0), (3, .int 0)]) rfl rfl ⟨rfl, rfl, rfl, rfl, trivial⟩ ?_
  have i1 : 0 ≤ (0 : Int) := by omega
  exact c_CR_countWays_Reducer_NPiece_l4  ha1 _ _ _ Po hT KW.refl i1 rfl

