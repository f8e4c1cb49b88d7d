/-! methods on typed pools, 32 (written by a program) -/
set_option maxHeartbeats 4000000 in
theorem c_M_gives_r7_l63 {Po : mP} {t1 : Int32} (hp0 : 0 ≤ t1.toInt) (hp1 : (fv Po 301 20).toInt = t1.toInt + 7) (hp2 : (fv Po 301 20).toInt ≤ 7)  : ∀ (n : Nat) (v2 : Int32), ∀ (P : mP), Typ P → KW [1109, 1664, 1728, 1856] Po P → (0 ≤ v2.toInt) → (2147483647 - v2.toInt).toNat = n → MEvP 11 none q_201 63 [(0, .ref 301), (1, .int t1), (2, .int v2)] [] P 0 0 (fun r P' => (r = none ∧ (True)) ∧ Typ P' ∧ KW [1109, 1664, 1728, 1856] Po P' ∧ True) := by
  intro n
  induction n using Nat.strongRecOn with | _ n ih => ?_
  intro v2 P hT hK i_0 hm
  have w_t1 := ti_full t1
  have w_v2 := ti_full v2
  refine mp_a (a_iload_n dX7_gives_63 rfl) (mpp 64 rfl ?_)
  refine mp_a (a_aload_n dX7_gives_64 rfl) (mpp 65 rfl ?_)
  have e1 : (fv P 301 20).toInt = (fv Po 301 20).toInt := congrArg Int32.toInt (KW.at hK 20 rl_301 rfl)
  refine mt_getI (i := 255) (k := 20) hT dX7_gives_65 rfl rl_301 (by decide) rfl (by decide) rfl (fun g2 g3 => mpp 68 rfl ?_)
  refine mp_Tb (t := 148) (j_icmp_ge dX7_gives_68) (by decide) (fun c4 => ?_) (fun c4 => mpp 71 rfl ?_)
  · have c4 : v2.toInt ≥ (fv P 301 20).toInt := ti_ge c4
    exact mp_ret ⟨⟨rfl, trivial⟩, hT, hK, trivial⟩ dX7_gives_148 rfl
  · have c4 : v2.toInt < (fv P 301 20).toInt := ti_ge_n c4
    refine mp_a (a_aload_n dX7_gives_71 rfl) (mpp 72 rfl ?_)
    refine mt_getU (i := 43) (k := 18) (A := 313) hT dX7_gives_72 rfl rl_301 (by decide) rfl (by decide) rfl un_29 (mpp 75 rfl ?_)
    refine mp_a (a_iload_n dX7_gives_75 rfl) (mpp 76 rfl ?_)
    refine mt_bal (n := 7) hT dX7_gives_76 rl_313 (by decide) rfl rfl (by omega) (by omega) rfl (fun g5 g6 => mpp 77 rfl ?_)
    refine mp_Tb (t := 142) (j_if_ne dX7_gives_77) (by decide) (fun c7 => ?_) (fun c7 => mpp 80 rfl ?_)
    · have c7 : (fv P 313 v2.toInt.toNat).toInt ≠ 0 := ti_ne c7
      obtain ⟨z8, h9⟩ := ti_ex (v2 + 1 : Int32)
      have wz8 := ti_full z8
      refine mp_a (a_iinc (v := z8) (L' := [(2, .int z8), (0, .ref 301), (1, .int t1)]) dX7_gives_142 (by decide) rfl h9 rfl) (mpp 145 rfl ?_)
      try have e10 : z8.toInt = v2.toInt + 1 := ti_addz h9 rfl rfl (by omega) (by omega)
      refine mp_a (a_goto (t := 63) dX7_gives_145 (by decide)) ?_
      refine MEvP.less (L := [(0, .ref 301), (1, .int t1), (2, .int z8)]) rfl rfl ⟨rfl, rfl, rfl, trivial⟩ ?_
      have i11 : 0 ≤ z8.toInt := by omega
      exact ih _ (by omega) _ P hT hK i11 rfl
    · have c7 : (fv P 313 v2.toInt.toNat).toInt = 0 := ti_ne_n c7
      refine mp_a (a_iload_n dX7_gives_80 rfl) (mpp 81 rfl ?_)
      refine mp_Tb (t := 114) (j_if_le dX7_gives_81) (by decide) (fun c12 => ?_) (fun c12 => mpp 84 rfl ?_)
      · have c12 : t1.toInt ≤ 0 := ti_le c12
        refine mp_a (a_aload_n dX7_gives_114 rfl) (mpp 115 rfl ?_)
        refine mt_getU (i := 43) (k := 18) (A := 313) hT dX7_gives_115 rfl rl_301 (by decide) rfl (by decide) rfl un_29 (mpp 118 rfl ?_)
        refine mp_a (a_iload_n dX7_gives_118 rfl) (mpp 119 rfl ?_)
        refine mp_a (a_iconst (v := 1) dX7_gives_119 rfl) (mpp 120 rfl ?_)
        refine mt_bas (n := 7) hT dX7_gives_120 rl_313 (by decide) rfl rfl (by omega) (by omega) rfl (by decide) (fun P13 hT14 f15 f16 => mpp 121 rfl ?_)
        have k17 : KW [1109, 1664, 1728, 1856] Po P13 := KW.step hK rl_313 rfl f16
        refine mp_a (a_aload_n dX7_gives_121 rfl) (mpp 122 rfl ?_)
        refine mt_getU (i := 34) (k := 15) (A := 310) hT14 dX7_gives_122 rfl rl_301 (by decide) rfl (by decide) rfl un_26 (mpp 125 rfl ?_)
        refine mp_a (a_iload_n dX7_gives_125 rfl) (mpp 126 rfl ?_)
        refine mp_a (a_iload_n dX7_gives_126 rfl) (mpp 127 rfl ?_)
        refine mt_ias (n := 7) hT14 dX7_gives_127 rl_310 (by decide) rfl rfl (by omega) (by omega) rfl (ti_full v2) (fun P18 hT19 f20 f21 => mpp 128 rfl ?_)
        have k22 : KW [1109, 1664, 1728, 1856] Po P18 := KW.step k17 rl_310 rfl f21
        refine mp_a (a_aload_n dX7_gives_128 rfl) (mpp 129 rfl ?_)
        refine mp_a (a_iload_n dX7_gives_129 rfl) (mpp 130 rfl ?_)
        refine mp_a (a_iconst (v := 1) dX7_gives_130 rfl) (mpp 131 rfl ?_)
        obtain ⟨z23, h24⟩ := ti_ex (t1 + 1 : Int32)
        have wz23 := ti_full z23
        refine mp_t (s_iadd (v := z23) dX7_gives_131 h24) (mpp 132 rfl ?_)
        try have e25 : z23.toInt = t1.toInt + 1 := ti_addz h24 rfl rfl (by omega) (by omega)
        have e26 : (fv P18 301 20).toInt = (fv P 301 20).toInt := congrArg Int32.toInt ((f21 301 20 (ne_r rl_301 rl_310 rfl)).trans (f16 301 20 (ne_r rl_301 rl_313 rfl)))
        have p27 : 0 ≤ z23.toInt := by omega
        have p28 : (fv P18 301 20).toInt = z23.toInt + 6 := by omega
        have p29 : (fv P18 301 20).toInt ≤ 7 := by omega
        refine mt_callv (i := 276) (q' := q_201) (As := [.int z23]) (rest := []) hT19 dX7_gives_132 rfl qm_201 (by decide) rfl rl_301 (by decide) rfl (Nat.le_of_ble_eq_true rfl) rfl ⟨rfl, rfl⟩ ⟨Nat.le_of_ble_eq_true rfl, Nat.le_of_ble_eq_true rfl⟩ (EvP.mono (by decide) (c_M_gives_r6 hT19 p27 p28 p29 )) (fun r30 P31 g32 => mpp 135 rfl ?_)
        obtain ⟨⟨rfl, g34⟩, hT35, k36, R37⟩ := g32
        have k38 : KW [1109, 1664, 1728, 1856] Po P31 := KW.trans k22 k36 rfl
        show MEvP _ none q_201 135 [(0, .ref 301), (1, .int t1), (2, .int v2)] [] _ _ _ _
        refine mp_a (a_aload_n dX7_gives_135 rfl) (mpp 136 rfl ?_)
        refine mt_getU (i := 43) (k := 18) (A := 313) hT35 dX7_gives_136 rfl rl_301 (by decide) rfl (by decide) rfl un_29 (mpp 139 rfl ?_)
        refine mp_a (a_iload_n dX7_gives_139 rfl) (mpp 140 rfl ?_)
        refine mp_a (a_iconst (v := 0) dX7_gives_140 rfl) (mpp 141 rfl ?_)
        refine mt_bas (n := 7) hT35 dX7_gives_141 rl_313 (by decide) rfl rfl (by omega) (by omega) rfl (by decide) (fun P39 hT40 f41 f42 => mpp 142 rfl ?_)
        have k43 : KW [1109, 1664, 1728, 1856] Po P39 := KW.step k38 rl_313 rfl f42
        obtain ⟨z44, h45⟩ := ti_ex (v2 + 1 : Int32)
        have wz44 := ti_full z44
        refine mp_a (a_iinc (v := z44) (L' := [(2, .int z44), (0, .ref 301), (1, .int t1)]) dX7_gives_142 (by decide) rfl h45 rfl) (mpp 145 rfl ?_)
        try have e46 : z44.toInt = v2.toInt + 1 := ti_addz h45 rfl rfl (by omega) (by omega)
        refine mp_a (a_goto (t := 63) dX7_gives_145 (by decide)) ?_
        refine MEvP.less (L := [(0, .ref 301), (1, .int t1), (2, .int z44)]) rfl rfl ⟨rfl, rfl, rfl, trivial⟩ ?_
        have i47 : 0 ≤ z44.toInt := by omega
        exact ih _ (by omega) _ P39 hT40 k43 i47 rfl
      · have c12 : t1.toInt > 0 := ti_le_n c12
        refine mp_a (a_iload_n dX7_gives_84 rfl) (mpp 85 rfl ?_)
        refine mp_a (a_aload_n dX7_gives_85 rfl) (mpp 86 rfl ?_)
        refine mt_getU (i := 34) (k := 15) (A := 310) hT dX7_gives_86 rfl rl_301 (by decide) rfl (by decide) rfl un_26 (mpp 89 rfl ?_)
        refine mp_a (a_iload_n dX7_gives_89 rfl) (mpp 90 rfl ?_)
        refine mp_a (a_iconst (v := 1) dX7_gives_90 rfl) (mpp 91 rfl ?_)
        obtain ⟨z48, h49⟩ := ti_ex (t1 - 1 : Int32)
        have wz48 := ti_full z48
        refine mp_t (s_isub (v := z48) dX7_gives_91 h49) (mpp 92 rfl ?_)
        try have e50 : z48.toInt = t1.toInt - 1 := ti_subz h49 rfl rfl (by omega) (by omega)
        refine mt_ial (n := 7) hT dX7_gives_92 rl_310 (by decide) rfl rfl (by omega) (by omega) rfl (fun g51 g52 => mpp 93 rfl ?_)
        refine mp_Tb (t := 100) (j_icmp_le dX7_gives_93) (by decide) (fun c53 => ?_) (fun c53 => mpp 96 rfl ?_)
        · have c53 : v2.toInt ≤ (fv P 310 z48.toInt.toNat).toInt := ti_le c53
          refine mp_a (a_iconst (v := 0) dX7_gives_100 rfl) (mpp 101 rfl ?_)
          refine mp_a (a_aload_n dX7_gives_101 rfl) (mpp 102 rfl ?_)
          refine mp_a (a_iload_n dX7_gives_102 rfl) (mpp 103 rfl ?_)
          refine mp_a (a_iconst (v := 1) dX7_gives_103 rfl) (mpp 104 rfl ?_)
          obtain ⟨z54, h55⟩ := ti_ex (t1 - 1 : Int32)
          have wz54 := ti_full z54
          refine mp_t (s_isub (v := z54) dX7_gives_104 h55) (mpp 105 rfl ?_)
          try have e56 : z54.toInt = t1.toInt - 1 := ti_subz h55 rfl rfl (by omega) (by omega)
          have p57 : 0 ≤ z54.toInt := by omega
          have p58 : z54.toInt ≤ 7 := by omega
          refine mt_callv (i := 273) (q' := q_206) (As := [.int z54]) (rest := [.int 0]) hT dX7_gives_105 rfl qm_206 (by decide) rfl rl_301 (by decide) rfl (Nat.le_of_ble_eq_true rfl) rfl ⟨rfl, rfl⟩ ⟨Nat.le_of_ble_eq_true rfl, Nat.le_of_ble_eq_true rfl⟩ (EvP.mono (by decide) (c_M_isAbove hT p57 p58 )) (fun r59 P60 g61 => mpp 108 rfl ?_)
          obtain ⟨⟨x62, rfl, g63⟩, e64⟩ := g61
          have e64 := e64.symm
          subst e64
          have wx62 := ti_full x62
          have g63 : 0 ≤ x62.toInt ∧ x62.toInt ≤ 1 := g63
          show MEvP _ none q_201 108 [(0, .ref 301), (1, .int t1), (2, .int v2)] [.int x62, .int 0] _ _ _ _
          refine mp_Tb (t := 114) (j_icmp_eq dX7_gives_108) (by decide) (fun c65 => ?_) (fun c65 => mpp 111 rfl ?_)
          · have c65 : 0 = x62.toInt := ti_eq c65
            refine mp_a (a_aload_n dX7_gives_114 rfl) (mpp 115 rfl ?_)
            refine mt_getU (i := 43) (k := 18) (A := 313) hT dX7_gives_115 rfl rl_301 (by decide) rfl (by decide) rfl un_29 (mpp 118 rfl ?_)
            refine mp_a (a_iload_n dX7_gives_118 rfl) (mpp 119 rfl ?_)
            refine mp_a (a_iconst (v := 1) dX7_gives_119 rfl) (mpp 120 rfl ?_)
            refine mt_bas (n := 7) hT dX7_gives_120 rl_313 (by decide) rfl rfl (by omega) (by omega) rfl (by decide) (fun P66 hT67 f68 f69 => mpp 121 rfl ?_)
            have k70 : KW [1109, 1664, 1728, 1856] Po P66 := KW.step hK rl_313 rfl f69
            refine mp_a (a_aload_n dX7_gives_121 rfl) (mpp 122 rfl ?_)
            refine mt_getU (i := 34) (k := 15) (A := 310) hT67 dX7_gives_122 rfl rl_301 (by decide) rfl (by decide) rfl un_26 (mpp 125 rfl ?_)
            refine mp_a (a_iload_n dX7_gives_125 rfl) (mpp 126 rfl ?_)
            refine mp_a (a_iload_n dX7_gives_126 rfl) (mpp 127 rfl ?_)
            refine mt_ias (n := 7) hT67 dX7_gives_127 rl_310 (by decide) rfl rfl (by omega) (by omega) rfl (ti_full v2) (fun P71 hT72 f73 f74 => mpp 128 rfl ?_)
            have k75 : KW [1109, 1664, 1728, 1856] Po P71 := KW.step k70 rl_310 rfl f74
            refine mp_a (a_aload_n dX7_gives_128 rfl) (mpp 129 rfl ?_)
            refine mp_a (a_iload_n dX7_gives_129 rfl) (mpp 130 rfl ?_)
            refine mp_a (a_iconst (v := 1) dX7_gives_130 rfl) (mpp 131 rfl ?_)
            obtain ⟨z76, h77⟩ := ti_ex (t1 + 1 : Int32)
            have wz76 := ti_full z76
            refine mp_t (s_iadd (v := z76) dX7_gives_131 h77) (mpp 132 rfl ?_)
            try have e78 : z76.toInt = t1.toInt + 1 := ti_addz h77 rfl rfl (by omega) (by omega)
            have e79 : (fv P71 301 20).toInt = (fv P 301 20).toInt := congrArg Int32.toInt ((f74 301 20 (ne_r rl_301 rl_310 rfl)).trans (f69 301 20 (ne_r rl_301 rl_313 rfl)))
            have p80 : 0 ≤ z76.toInt := by omega
            have p81 : (fv P71 301 20).toInt = z76.toInt + 6 := by omega
            have p82 : (fv P71 301 20).toInt ≤ 7 := by omega
            refine mt_callv (i := 276) (q' := q_201) (As := [.int z76]) (rest := []) hT72 dX7_gives_132 rfl qm_201 (by decide) rfl rl_301 (by decide) rfl (Nat.le_of_ble_eq_true rfl) rfl ⟨rfl, rfl⟩ ⟨Nat.le_of_ble_eq_true rfl, Nat.le_of_ble_eq_true rfl⟩ (EvP.mono (by decide) (c_M_gives_r6 hT72 p80 p81 p82 )) (fun r83 P84 g85 => mpp 135 rfl ?_)
            obtain ⟨⟨rfl, g87⟩, hT88, k89, R90⟩ := g85
            have k91 : KW [1109, 1664, 1728, 1856] Po P84 := KW.trans k75 k89 rfl
            show MEvP _ none q_201 135 [(0, .ref 301), (1, .int t1), (2, .int v2)] [] _ _ _ _
            refine mp_a (a_aload_n dX7_gives_135 rfl) (mpp 136 rfl ?_)
            refine mt_getU (i := 43) (k := 18) (A := 313) hT88 dX7_gives_136 rfl rl_301 (by decide) rfl (by decide) rfl un_29 (mpp 139 rfl ?_)
            refine mp_a (a_iload_n dX7_gives_139 rfl) (mpp 140 rfl ?_)
            refine mp_a (a_iconst (v := 0) dX7_gives_140 rfl) (mpp 141 rfl ?_)
            refine mt_bas (n := 7) hT88 dX7_gives_141 rl_313 (by decide) rfl rfl (by omega) (by omega) rfl (by decide) (fun P92 hT93 f94 f95 => mpp 142 rfl ?_)
            have k96 : KW [1109, 1664, 1728, 1856] Po P92 := KW.step k91 rl_313 rfl f95
            obtain ⟨z97, h98⟩ := ti_ex (v2 + 1 : Int32)
            have wz97 := ti_full z97
            refine mp_a (a_iinc (v := z97) (L' := [(2, .int z97), (0, .ref 301), (1, .int t1)]) dX7_gives_142 (by decide) rfl h98 rfl) (mpp 145 rfl ?_)
            try have e99 : z97.toInt = v2.toInt + 1 := ti_addz h98 rfl rfl (by omega) (by omega)
            refine mp_a (a_goto (t := 63) dX7_gives_145 (by decide)) ?_
            refine MEvP.less (L := [(0, .ref 301), (1, .int t1), (2, .int z97)]) rfl rfl ⟨rfl, rfl, rfl, trivial⟩ ?_
            have i100 : 0 ≤ z97.toInt := by omega
            exact ih _ (by omega) _ P92 hT93 k96 i100 rfl
          · have c65 : 0 ≠ x62.toInt := ti_eq_n c65
            refine mp_a (a_goto (t := 142) dX7_gives_111 (by decide)) ?_
            obtain ⟨z101, h102⟩ := ti_ex (v2 + 1 : Int32)
            have wz101 := ti_full z101
            refine mp_a (a_iinc (v := z101) (L' := [(2, .int z101), (0, .ref 301), (1, .int t1)]) dX7_gives_142 (by decide) rfl h102 rfl) (mpp 145 rfl ?_)
            try have e103 : z101.toInt = v2.toInt + 1 := ti_addz h102 rfl rfl (by omega) (by omega)
            refine mp_a (a_goto (t := 63) dX7_gives_145 (by decide)) ?_
            refine MEvP.less (L := [(0, .ref 301), (1, .int t1), (2, .int z101)]) rfl rfl ⟨rfl, rfl, rfl, trivial⟩ ?_
            have i104 : 0 ≤ z101.toInt := by omega
            exact ih _ (by omega) _ P hT hK i104 rfl
        · have c53 : v2.toInt > (fv P 310 z48.toInt.toNat).toInt := ti_le_n c53
          refine mp_a (a_iconst (v := 1) dX7_gives_96 rfl) (mpp 97 rfl ?_)
          refine mp_a (a_goto (t := 101) dX7_gives_97 (by decide)) ?_
          refine mp_a (a_aload_n dX7_gives_101 rfl) (mpp 102 rfl ?_)
          refine mp_a (a_iload_n dX7_gives_102 rfl) (mpp 103 rfl ?_)
          refine mp_a (a_iconst (v := 1) dX7_gives_103 rfl) (mpp 104 rfl ?_)
          obtain ⟨z105, h106⟩ := ti_ex (t1 - 1 : Int32)
          have wz105 := ti_full z105
          refine mp_t (s_isub (v := z105) dX7_gives_104 h106) (mpp 105 rfl ?_)
          try have e107 : z105.toInt = t1.toInt - 1 := ti_subz h106 rfl rfl (by omega) (by omega)
          have p108 : 0 ≤ z105.toInt := by omega
          have p109 : z105.toInt ≤ 7 := by omega
          refine mt_callv (i := 273) (q' := q_206) (As := [.int z105]) (rest := [.int 1]) hT dX7_gives_105 rfl qm_206 (by decide) rfl rl_301 (by decide) rfl (Nat.le_of_ble_eq_true rfl) rfl ⟨rfl, rfl⟩ ⟨Nat.le_of_ble_eq_true rfl, Nat.le_of_ble_eq_true rfl⟩ (EvP.mono (by decide) (c_M_isAbove hT p108 p109 )) (fun r110 P111 g112 => mpp 108 rfl ?_)
          obtain ⟨⟨x113, rfl, g114⟩, e115⟩ := g112
          have e115 := e115.symm
          subst e115
          have wx113 := ti_full x113
          have g114 : 0 ≤ x113.toInt ∧ x113.toInt ≤ 1 := g114
          show MEvP _ none q_201 108 [(0, .ref 301), (1, .int t1), (2, .int v2)] [.int x113, .int 1] _ _ _ _
          refine mp_Tb (t := 114) (j_icmp_eq dX7_gives_108) (by decide) (fun c116 => ?_) (fun c116 => mpp 111 rfl ?_)
          · have c116 : 1 = x113.toInt := ti_eq c116
            refine mp_a (a_aload_n dX7_gives_114 rfl) (mpp 115 rfl ?_)
            refine mt_getU (i := 43) (k := 18) (A := 313) hT dX7_gives_115 rfl rl_301 (by decide) rfl (by decide) rfl un_29 (mpp 118 rfl ?_)
            refine mp_a (a_iload_n dX7_gives_118 rfl) (mpp 119 rfl ?_)
            refine mp_a (a_iconst (v := 1) dX7_gives_119 rfl) (mpp 120 rfl ?_)
            refine mt_bas (n := 7) hT dX7_gives_120 rl_313 (by decide) rfl rfl (by omega) (by omega) rfl (by decide) (fun P117 hT118 f119 f120 => mpp 121 rfl ?_)
            have k121 : KW [1109, 1664, 1728, 1856] Po P117 := KW.step hK rl_313 rfl f120
            refine mp_a (a_aload_n dX7_gives_121 rfl) (mpp 122 rfl ?_)
            refine mt_getU (i := 34) (k := 15) (A := 310) hT118 dX7_gives_122 rfl rl_301 (by decide) rfl (by decide) rfl un_26 (mpp 125 rfl ?_)
            refine mp_a (a_iload_n dX7_gives_125 rfl) (mpp 126 rfl ?_)
            refine mp_a (a_iload_n dX7_gives_126 rfl) (mpp 127 rfl ?_)
            refine mt_ias (n := 7) hT118 dX7_gives_127 rl_310 (by decide) rfl rfl (by omega) (by omega) rfl (ti_full v2) (fun P122 hT123 f124 f125 => mpp 128 rfl ?_)
            have k126 : KW [1109, 1664, 1728, 1856] Po P122 := KW.step k121 rl_310 rfl f125
            refine mp_a (a_aload_n dX7_gives_128 rfl) (mpp 129 rfl ?_)
            refine mp_a (a_iload_n dX7_gives_129 rfl) (mpp 130 rfl ?_)
            refine mp_a (a_iconst (v := 1) dX7_gives_130 rfl) (mpp 131 rfl ?_)
            obtain ⟨z127, h128⟩ := ti_ex (t1 + 1 : Int32)
            have wz127 := ti_full z127
            refine mp_t (s_iadd (v := z127) dX7_gives_131 h128) (mpp 132 rfl ?_)
            try have e129 : z127.toInt = t1.toInt + 1 := ti_addz h128 rfl rfl (by omega) (by omega)
            have e130 : (fv P122 301 20).toInt = (fv P 301 20).toInt := congrArg Int32.toInt ((f125 301 20 (ne_r rl_301 rl_310 rfl)).trans (f120 301 20 (ne_r rl_301 rl_313 rfl)))
            have p131 : 0 ≤ z127.toInt := by omega
            have p132 : (fv P122 301 20).toInt = z127.toInt + 6 := by omega
            have p133 : (fv P122 301 20).toInt ≤ 7 := by omega
            refine mt_callv (i := 276) (q' := q_201) (As := [.int z127]) (rest := []) hT123 dX7_gives_132 rfl qm_201 (by decide) rfl rl_301 (by decide) rfl (Nat.le_of_ble_eq_true rfl) rfl ⟨rfl, rfl⟩ ⟨Nat.le_of_ble_eq_true rfl, Nat.le_of_ble_eq_true rfl⟩ (EvP.mono (by decide) (c_M_gives_r6 hT123 p131 p132 p133 )) (fun r134 P135 g136 => mpp 135 rfl ?_)
            obtain ⟨⟨rfl, g138⟩, hT139, k140, R141⟩ := g136
            have k142 : KW [1109, 1664, 1728, 1856] Po P135 := KW.trans k126 k140 rfl
            show MEvP _ none q_201 135 [(0, .ref 301), (1, .int t1), (2, .int v2)] [] _ _ _ _
            refine mp_a (a_aload_n dX7_gives_135 rfl) (mpp 136 rfl ?_)
            refine mt_getU (i := 43) (k := 18) (A := 313) hT139 dX7_gives_136 rfl rl_301 (by decide) rfl (by decide) rfl un_29 (mpp 139 rfl ?_)
            refine mp_a (a_iload_n dX7_gives_139 rfl) (mpp 140 rfl ?_)
            refine mp_a (a_iconst (v := 0) dX7_gives_140 rfl) (mpp 141 rfl ?_)
            refine mt_bas (n := 7) hT139 dX7_gives_141 rl_313 (by decide) rfl rfl (by omega) (by omega) rfl (by decide) (fun P143 hT144 f145 f146 => mpp 142 rfl ?_)
            have k147 : KW [1109, 1664, 1728, 1856] Po P143 := KW.step k142 rl_313 rfl f146
            obtain ⟨z148, h149⟩ := ti_ex (v2 + 1 : Int32)
            have wz148 := ti_full z148
            refine mp_a (a_iinc (v := z148) (L' := [(2, .int z148), (0, .ref 301), (1, .int t1)]) dX7_gives_142 (by decide) rfl h149 rfl) (mpp 145 rfl ?_)
            try have e150 : z148.toInt = v2.toInt + 1 := ti_addz h149 rfl rfl (by omega) (by omega)
            refine mp_a (a_goto (t := 63) dX7_gives_145 (by decide)) ?_
            refine MEvP.less (L := [(0, .ref 301), (1, .int t1), (2, .int z148)]) rfl rfl ⟨rfl, rfl, rfl, trivial⟩ ?_
            have i151 : 0 ≤ z148.toInt := by omega
            exact ih _ (by omega) _ P143 hT144 k147 i151 rfl
          · have c116 : 1 ≠ x113.toInt := ti_eq_n c116
            refine mp_a (a_goto (t := 142) dX7_gives_111 (by decide)) ?_
            obtain ⟨z152, h153⟩ := ti_ex (v2 + 1 : Int32)
            have wz152 := ti_full z152
            refine mp_a (a_iinc (v := z152) (L' := [(2, .int z152), (0, .ref 301), (1, .int t1)]) dX7_gives_142 (by decide) rfl h153 rfl) (mpp 145 rfl ?_)
            try have e154 : z152.toInt = v2.toInt + 1 := ti_addz h153 rfl rfl (by omega) (by omega)
            refine mp_a (a_goto (t := 63) dX7_gives_145 (by decide)) ?_
            refine MEvP.less (L := [(0, .ref 301), (1, .int t1), (2, .int z152)]) rfl rfl ⟨rfl, rfl, rfl, trivial⟩ ?_
            have i155 : 0 ≤ z152.toInt := by omega
            exact ih _ (by omega) _ P hT hK i155 rfl

set_option maxHeartbeats 4000000 in
theorem c_M_gives_r7 {Po : mP} {t1 : Int32} (hT : Typ Po)  (hp0 : 0 ≤ t1.toInt) (hp1 : (fv Po 301 20).toInt = t1.toInt + 7) (hp2 : (fv Po 301 20).toInt ≤ 7)  : EvP 12 201 [.ref 301, .int t1] Po (fun r P' => (r = none ∧ (True)) ∧ Typ P' ∧ KW [1109, 1664, 1728, 1856] Po P' ∧ True) := by
  refine EvP.of qm_201 (Nat.le_of_ble_eq_true rfl) rfl ?_
  show MEvP _ none q_201 0 [(0, .ref 301), (1, .int t1)] [] _ 0 0 _
  have g1 : (0 : Int) ≤ (fv Po 301 20).toInt ∧ (fv Po 301 20).toInt ≤ 8 := Typ.rng hT rl_301 (by decide) (by decide) rfl
  refine mp_a (a_iload_n dX7_gives_0 rfl) (mpp 1 rfl ?_)
  refine mp_a (a_aload_n dX7_gives_1 rfl) (mpp 2 rfl ?_)
  refine mt_getI (i := 255) (k := 20) hT dX7_gives_2 rfl rl_301 (by decide) rfl (by decide) rfl (fun g2 g3 => mpp 5 rfl ?_)
  refine mp_Tb (t := 61) (j_icmp_ne dX7_gives_5) (by decide) (fun c4 => ?_) (fun c4 => mpp 8 rfl ?_)
  · have c4 : t1.toInt ≠ (fv Po 301 20).toInt := ti_ne c4
    refine mp_a (a_iconst (v := 0) dX7_gives_61 rfl) (mpp 62 rfl ?_)
    refine mp_a (a_istore_n (L' := [(2, .int 0), (0, .ref 301), (1, .int t1)]) dX7_gives_62 (by decide) rfl) (mpp 63 rfl ?_)
    refine MEvP.less (L := [(0, .ref 301), (1, .int t1), (2, .int 0)]) rfl rfl ⟨rfl, rfl, rfl, trivial⟩ ?_
    have i5 : 0 ≤ (0 : Int) := by omega
    exact c_M_gives_r7_l63  hp0 hp1 hp2 _ _ Po hT KW.refl i5 rfl
  · have c4 : t1.toInt = (fv Po 301 20).toInt := ti_ne_n c4
    exfalso
    omega

set_option maxHeartbeats 4000000 in
theorem c_M_ordersOf_l17 {Po : mP} {t1 : Int32} (hp0 : 0 ≤ t1.toInt) (hp1 : t1.toInt ≤ 7) (hp2 : (fv Po 302 (4 + 19 * t1.toInt.toNat)).toInt ≤ 7)  : ∀ (n : Nat) (v2 : Int32), ∀ (P : mP), Typ P → KW [1107, 1108, 1109, 1664, 1728, 1792, 1856] Po P → ((fv P 301 20).toInt ≤ 7) → (0 ≤ v2.toInt) → (2147483647 - v2.toInt).toNat = n → MEvP 12 none q_200 17 [(0, .ref 301), (1, .int t1), (2, .int v2)] [] P 0 0 (fun r P' => (∃ x : Int32, r = some (.int x) ∧ (True)) ∧ Typ P' ∧ KW [1107, 1108, 1109, 1664, 1728, 1792, 1856] Po P' ∧ True) := by
  intro n
  induction n using Nat.strongRecOn with | _ n ih => ?_
  intro v2 P hT hK i_0 i_1 hm
  have w_t1 := ti_full t1
  have w_v2 := ti_full v2
  have g1 : (0 : Int) ≤ (fv P 301 20).toInt ∧ (fv P 301 20).toInt ≤ 8 := Typ.rng hT rl_301 (by decide) (by decide) rfl
  have g2 : (0 : Int) ≤ (fv P 301 20).toInt ∧ (fv P 301 20).toInt ≤ 8 := Typ.rng hT rl_301 (by decide) (by decide) rfl
  refine mp_a (a_iload_n dX7_ordersOf_17 rfl) (mpp 18 rfl ?_)
  refine mp_a (a_aload_n dX7_ordersOf_18 rfl) (mpp 19 rfl ?_)
  refine mt_getI (i := 255) (k := 20) hT dX7_ordersOf_19 rfl rl_301 (by decide) rfl (by decide) rfl (fun g3 g4 => mpp 22 rfl ?_)
  refine mp_Tb (t := 43) (j_icmp_gt dX7_ordersOf_22) (by decide) (fun c5 => ?_) (fun c5 => mpp 25 rfl ?_)
  · have c5 : v2.toInt > (fv P 301 20).toInt := ti_gt c5
    refine mp_a (a_aload_n dX7_ordersOf_43 rfl) (mpp 44 rfl ?_)
    refine mp_a (a_iconst (v := 0) dX7_ordersOf_44 rfl) (mpp 45 rfl ?_)
    refine mt_putI (i := 270) (k := 21) (x := 0) hT dX7_ordersOf_45 rfl rl_301 (by decide) rfl (by decide) rfl (by decide) rfl rfl (fun P6 hT7 f8 f9 => mpp 48 rfl ?_)
    have k10 : KW [1107, 1108, 1109, 1664, 1728, 1792, 1856] Po P6 := KW.step hK rl_301 rfl f9
    have e11 : (fv P6 301 21).toInt = 0 := congrArg Int32.toInt f8
    refine mp_a (a_aload_n dX7_ordersOf_48 rfl) (mpp 49 rfl ?_)
    refine mp_a (a_iconst (v := 0) dX7_ordersOf_49 rfl) (mpp 50 rfl ?_)
    have e13 : (fv P6 301 20).toInt = (fv P 301 20).toInt := congrArg Int32.toInt (f9 301 20 (ne_k rfl))
    have c12 : (fv P6 301 20).toInt = 0 ∨ (fv P6 301 20).toInt = 1 ∨ (fv P6 301 20).toInt = 2 ∨ (fv P6 301 20).toInt = 3 ∨ (fv P6 301 20).toInt = 4 ∨ (fv P6 301 20).toInt = 5 ∨ (fv P6 301 20).toInt = 6 ∨ (fv P6 301 20).toInt = 7 := by omega
    rcases c12 with c12 | c12 | c12 | c12 | c12 | c12 | c12 | c12
    · have p14 : 0 ≤ (0 : Int) := by omega
      have p15 : (fv P6 301 20).toInt = (0 : Int) + 0 := by omega
      have p16 : (fv P6 301 20).toInt ≤ 7 := by omega
      refine mt_callv (i := 276) (q' := q_201) (As := [.int 0]) (rest := []) hT7 dX7_ordersOf_50 rfl qm_201 (by decide) rfl rl_301 (by decide) rfl (Nat.le_of_ble_eq_true rfl) rfl ⟨rfl, rfl⟩ ⟨Nat.le_of_ble_eq_true rfl, Nat.le_of_ble_eq_true rfl⟩ (EvP.mono (by decide) (c_M_gives_r0 hT7 p14 p15 p16 )) (fun r17 P18 g19 => mpp 53 rfl ?_)
      obtain ⟨⟨rfl, g21⟩, hT22, k23, R24⟩ := g19
      have k25 : KW [1107, 1108, 1109, 1664, 1728, 1792, 1856] Po P18 := KW.trans k10 k23 rfl
      show MEvP _ none q_200 53 [(0, .ref 301), (1, .int t1), (2, .int v2)] [] _ _ _ _
      refine mp_a (a_aload_n dX7_ordersOf_53 rfl) (mpp 54 rfl ?_)
      have g26 := ti_full (fv P18 301 21)
      refine mt_getI (i := 270) (k := 21) hT22 dX7_ordersOf_54 rfl rl_301 (by decide) rfl (by decide) rfl (fun g27 g28 => mpp 57 rfl ?_)
      exact mp_iret ⟨⟨_, rfl, trivial⟩, hT22, k25, trivial⟩ dX7_ordersOf_57 (Or.inl rfl)
    · have p29 : 0 ≤ (0 : Int) := by omega
      have p30 : (fv P6 301 20).toInt = (0 : Int) + 1 := by omega
      have p31 : (fv P6 301 20).toInt ≤ 7 := by omega
      refine mt_callv (i := 276) (q' := q_201) (As := [.int 0]) (rest := []) hT7 dX7_ordersOf_50 rfl qm_201 (by decide) rfl rl_301 (by decide) rfl (Nat.le_of_ble_eq_true rfl) rfl ⟨rfl, rfl⟩ ⟨Nat.le_of_ble_eq_true rfl, Nat.le_of_ble_eq_true rfl⟩ (EvP.mono (by decide) (c_M_gives_r1 hT7 p29 p30 p31 )) (fun r32 P33 g34 => mpp 53 rfl ?_)
      obtain ⟨⟨rfl, g36⟩, hT37, k38, R39⟩ := g34
      have k40 : KW [1107, 1108, 1109, 1664, 1728, 1792, 1856] Po P33 := KW.trans k10 k38 rfl
      show MEvP _ none q_200 53 [(0, .ref 301), (1, .int t1), (2, .int v2)] [] _ _ _ _
      refine mp_a (a_aload_n dX7_ordersOf_53 rfl) (mpp 54 rfl ?_)
      have g41 := ti_full (fv P33 301 21)
      refine mt_getI (i := 270) (k := 21) hT37 dX7_ordersOf_54 rfl rl_301 (by decide) rfl (by decide) rfl (fun g42 g43 => mpp 57 rfl ?_)
      exact mp_iret ⟨⟨_, rfl, trivial⟩, hT37, k40, trivial⟩ dX7_ordersOf_57 (Or.inl rfl)
    · have p44 : 0 ≤ (0 : Int) := by omega
      have p45 : (fv P6 301 20).toInt = (0 : Int) + 2 := by omega
      have p46 : (fv P6 301 20).toInt ≤ 7 := by omega
      refine mt_callv (i := 276) (q' := q_201) (As := [.int 0]) (rest := []) hT7 dX7_ordersOf_50 rfl qm_201 (by decide) rfl rl_301 (by decide) rfl (Nat.le_of_ble_eq_true rfl) rfl ⟨rfl, rfl⟩ ⟨Nat.le_of_ble_eq_true rfl, Nat.le_of_ble_eq_true rfl⟩ (EvP.mono (by decide) (c_M_gives_r2 hT7 p44 p45 p46 )) (fun r47 P48 g49 => mpp 53 rfl ?_)
      obtain ⟨⟨rfl, g51⟩, hT52, k53, R54⟩ := g49
      have k55 : KW [1107, 1108, 1109, 1664, 1728, 1792, 1856] Po P48 := KW.trans k10 k53 rfl
      show MEvP _ none q_200 53 [(0, .ref 301), (1, .int t1), (2, .int v2)] [] _ _ _ _
      refine mp_a (a_aload_n dX7_ordersOf_53 rfl) (mpp 54 rfl ?_)
      have g56 := ti_full (fv P48 301 21)
      refine mt_getI (i := 270) (k := 21) hT52 dX7_ordersOf_54 rfl rl_301 (by decide) rfl (by decide) rfl (fun g57 g58 => mpp 57 rfl ?_)
      exact mp_iret ⟨⟨_, rfl, trivial⟩, hT52, k55, trivial⟩ dX7_ordersOf_57 (Or.inl rfl)
    · have p59 : 0 ≤ (0 : Int) := by omega
      have p60 : (fv P6 301 20).toInt = (0 : Int) + 3 := by omega
      have p61 : (fv P6 301 20).toInt ≤ 7 := by omega
      refine mt_callv (i := 276) (q' := q_201) (As := [.int 0]) (rest := []) hT7 dX7_ordersOf_50 rfl qm_201 (by decide) rfl rl_301 (by decide) rfl (Nat.le_of_ble_eq_true rfl) rfl ⟨rfl, rfl⟩ ⟨Nat.le_of_ble_eq_true rfl, Nat.le_of_ble_eq_true rfl⟩ (EvP.mono (by decide) (c_M_gives_r3 hT7 p59 p60 p61 )) (fun r62 P63 g64 => mpp 53 rfl ?_)
      obtain ⟨⟨rfl, g66⟩, hT67, k68, R69⟩ := g64
      have k70 : KW [1107, 1108, 1109, 1664, 1728, 1792, 1856] Po P63 := KW.trans k10 k68 rfl
      show MEvP _ none q_200 53 [(0, .ref 301), (1, .int t1), (2, .int v2)] [] _ _ _ _
      refine mp_a (a_aload_n dX7_ordersOf_53 rfl) (mpp 54 rfl ?_)
      have g71 := ti_full (fv P63 301 21)
      refine mt_getI (i := 270) (k := 21) hT67 dX7_ordersOf_54 rfl rl_301 (by decide) rfl (by decide) rfl (fun g72 g73 => mpp 57 rfl ?_)
      exact mp_iret ⟨⟨_, rfl, trivial⟩, hT67, k70, trivial⟩ dX7_ordersOf_57 (Or.inl rfl)
    · have p74 : 0 ≤ (0 : Int) := by omega
      have p75 : (fv P6 301 20).toInt = (0 : Int) + 4 := by omega
      have p76 : (fv P6 301 20).toInt ≤ 7 := by omega
      refine mt_callv (i := 276) (q' := q_201) (As := [.int 0]) (rest := []) hT7 dX7_ordersOf_50 rfl qm_201 (by decide) rfl rl_301 (by decide) rfl (Nat.le_of_ble_eq_true rfl) rfl ⟨rfl, rfl⟩ ⟨Nat.le_of_ble_eq_true rfl, Nat.le_of_ble_eq_true rfl⟩ (EvP.mono (by decide) (c_M_gives_r4 hT7 p74 p75 p76 )) (fun r77 P78 g79 => mpp 53 rfl ?_)
      obtain ⟨⟨rfl, g81⟩, hT82, k83, R84⟩ := g79
      have k85 : KW [1107, 1108, 1109, 1664, 1728, 1792, 1856] Po P78 := KW.trans k10 k83 rfl
      show MEvP _ none q_200 53 [(0, .ref 301), (1, .int t1), (2, .int v2)] [] _ _ _ _
      refine mp_a (a_aload_n dX7_ordersOf_53 rfl) (mpp 54 rfl ?_)
      have g86 := ti_full (fv P78 301 21)
      refine mt_getI (i := 270) (k := 21) hT82 dX7_ordersOf_54 rfl rl_301 (by decide) rfl (by decide) rfl (fun g87 g88 => mpp 57 rfl ?_)
      exact mp_iret ⟨⟨_, rfl, trivial⟩, hT82, k85, trivial⟩ dX7_ordersOf_57 (Or.inl rfl)
    · have p89 : 0 ≤ (0 : Int) := by omega
      have p90 : (fv P6 301 20).toInt = (0 : Int) + 5 := by omega
      have p91 : (fv P6 301 20).toInt ≤ 7 := by omega
      refine mt_callv (i := 276) (q' := q_201) (As := [.int 0]) (rest := []) hT7 dX7_ordersOf_50 rfl qm_201 (by decide) rfl rl_301 (by decide) rfl (Nat.le_of_ble_eq_true rfl) rfl ⟨rfl, rfl⟩ ⟨Nat.le_of_ble_eq_true rfl, Nat.le_of_ble_eq_true rfl⟩ (EvP.mono (by decide) (c_M_gives_r5 hT7 p89 p90 p91 )) (fun r92 P93 g94 => mpp 53 rfl ?_)
      obtain ⟨⟨rfl, g96⟩, hT97, k98, R99⟩ := g94
      have k100 : KW [1107, 1108, 1109, 1664, 1728, 1792, 1856] Po P93 := KW.trans k10 k98 rfl
      show MEvP _ none q_200 53 [(0, .ref 301), (1, .int t1), (2, .int v2)] [] _ _ _ _
      refine mp_a (a_aload_n dX7_ordersOf_53 rfl) (mpp 54 rfl ?_)
      have g101 := ti_full (fv P93 301 21)
      refine mt_getI (i := 270) (k := 21) hT97 dX7_ordersOf_54 rfl rl_301 (by decide) rfl (by decide) rfl (fun g102 g103 => mpp 57 rfl ?_)
      exact mp_iret ⟨⟨_, rfl, trivial⟩, hT97, k100, trivial⟩ dX7_ordersOf_57 (Or.inl rfl)
    · have p104 : 0 ≤ (0 : Int) := by omega
      have p105 : (fv P6 301 20).toInt = (0 : Int) + 6 := by omega
      have p106 : (fv P6 301 20).toInt ≤ 7 := by omega
      refine mt_callv (i := 276) (q' := q_201) (As := [.int 0]) (rest := []) hT7 dX7_ordersOf_50 rfl qm_201 (by decide) rfl rl_301 (by decide) rfl (Nat.le_of_ble_eq_true rfl) rfl ⟨rfl, rfl⟩ ⟨Nat.le_of_ble_eq_true rfl, Nat.le_of_ble_eq_true rfl⟩ (EvP.mono (by decide) (c_M_gives_r6 hT7 p104 p105 p106 )) (fun r107 P108 g109 => mpp 53 rfl ?_)
      obtain ⟨⟨rfl, g111⟩, hT112, k113, R114⟩ := g109
      have k115 : KW [1107, 1108, 1109, 1664, 1728, 1792, 1856] Po P108 := KW.trans k10 k113 rfl
      show MEvP _ none q_200 53 [(0, .ref 301), (1, .int t1), (2, .int v2)] [] _ _ _ _
      refine mp_a (a_aload_n dX7_ordersOf_53 rfl) (mpp 54 rfl ?_)
      have g116 := ti_full (fv P108 301 21)
      refine mt_getI (i := 270) (k := 21) hT112 dX7_ordersOf_54 rfl rl_301 (by decide) rfl (by decide) rfl (fun g117 g118 => mpp 57 rfl ?_)
      exact mp_iret ⟨⟨_, rfl, trivial⟩, hT112, k115, trivial⟩ dX7_ordersOf_57 (Or.inl rfl)
    · have p119 : 0 ≤ (0 : Int) := by omega
      have p120 : (fv P6 301 20).toInt = (0 : Int) + 7 := by omega
      have p121 : (fv P6 301 20).toInt ≤ 7 := by omega
      refine mt_callv (i := 276) (q' := q_201) (As := [.int 0]) (rest := []) hT7 dX7_ordersOf_50 rfl qm_201 (by decide) rfl rl_301 (by decide) rfl (Nat.le_of_ble_eq_true rfl) rfl ⟨rfl, rfl⟩ ⟨Nat.le_of_ble_eq_true rfl, Nat.le_of_ble_eq_true rfl⟩ (EvP.mono (by decide) (c_M_gives_r7 hT7 p119 p120 p121 )) (fun r122 P123 g124 => mpp 53 rfl ?_)
      obtain ⟨⟨rfl, g126⟩, hT127, k128, R129⟩ := g124
      have k130 : KW [1107, 1108, 1109, 1664, 1728, 1792, 1856] Po P123 := KW.trans k10 k128 rfl
      show MEvP _ none q_200 53 [(0, .ref 301), (1, .int t1), (2, .int v2)] [] _ _ _ _
      refine mp_a (a_aload_n dX7_ordersOf_53 rfl) (mpp 54 rfl ?_)
      have g131 := ti_full (fv P123 301 21)
      refine mt_getI (i := 270) (k := 21) hT127 dX7_ordersOf_54 rfl rl_301 (by decide) rfl (by decide) rfl (fun g132 g133 => mpp 57 rfl ?_)
      exact mp_iret ⟨⟨_, rfl, trivial⟩, hT127, k130, trivial⟩ dX7_ordersOf_57 (Or.inl rfl)
  · have c5 : v2.toInt ≤ (fv P 301 20).toInt := ti_gt_n c5
    refine mp_a (a_aload_n dX7_ordersOf_25 rfl) (mpp 26 rfl ?_)
    refine mt_getU (i := 40) (k := 17) (A := 312) hT dX7_ordersOf_26 rfl rl_301 (by decide) rfl (by decide) rfl un_28 (mpp 29 rfl ?_)
    refine mp_a (a_iload_n dX7_ordersOf_29 rfl) (mpp 30 rfl ?_)
    refine mp_a (a_aload_n dX7_ordersOf_30 rfl) (mpp 31 rfl ?_)
    refine mp_a (a_iload_n dX7_ordersOf_31 rfl) (mpp 32 rfl ?_)
    refine mp_a (a_iload_n dX7_ordersOf_32 rfl) (mpp 33 rfl ?_)
    have p134 : 0 ≤ t1.toInt := by omega
    have p135 : t1.toInt ≤ 7 := by omega
    have p136 : v2.toInt ≤ 8 := by omega
    refine mt_callv (i := 225) (q' := q_186) (As := [.int t1, .int v2]) (rest := [.int v2, .ref 312]) hT dX7_ordersOf_33 rfl qm_186 (by decide) rfl rl_301 (by decide) rfl (Nat.le_of_ble_eq_true rfl) rfl ⟨rfl, rfl⟩ ⟨Nat.le_of_ble_eq_true rfl, Nat.le_of_ble_eq_true rfl⟩ (EvP.mono (by decide) (c_M_placeOf hT p134 p135 p136 )) (fun r137 P138 g139 => mpp 36 rfl ?_)
    obtain ⟨⟨x140, rfl, g141⟩, e142⟩ := g139
    have e142 := e142.symm
    subst e142
    have wx140 := ti_full x140
    show MEvP _ none q_200 36 [(0, .ref 301), (1, .int t1), (2, .int v2)] [.int x140, .int v2, .ref 312] _ _ _ _
    refine mt_ias (n := 8) hT dX7_ordersOf_36 rl_312 (by decide) rfl rfl (by omega) (by omega) rfl (ti_full x140) (fun P143 hT144 f145 f146 => mpp 37 rfl ?_)
    have k147 : KW [1107, 1108, 1109, 1664, 1728, 1792, 1856] Po P143 := KW.step hK rl_312 rfl f146
    obtain ⟨z148, h149⟩ := ti_ex (v2 + 1 : Int32)
    have wz148 := ti_full z148
    refine mp_a (a_iinc (v := z148) (L' := [(2, .int z148), (0, .ref 301), (1, .int t1)]) dX7_ordersOf_37 (by decide) rfl h149 rfl) (mpp 40 rfl ?_)
    try have e150 : z148.toInt = v2.toInt + 1 := ti_addz h149 rfl rfl (by omega) (by omega)
    refine mp_a (a_goto (t := 17) dX7_ordersOf_40 (by decide)) ?_
    refine MEvP.less (L := [(0, .ref 301), (1, .int t1), (2, .int z148)]) rfl rfl ⟨rfl, rfl, rfl, trivial⟩ ?_
    have e151 : (fv P143 301 20).toInt = (fv P 301 20).toInt := congrArg Int32.toInt (f146 301 20 (ne_r rl_301 rl_312 rfl))
    have i152 : (fv P143 301 20).toInt ≤ 7 := by omega
    have i153 : 0 ≤ z148.toInt := by omega
    exact ih _ (by omega) _ P143 hT144 k147 i152 i153 rfl

set_option maxHeartbeats 4000000 in
theorem c_M_ordersOf {Po : mP} {t1 : Int32} (hT : Typ Po)  (hp0 : 0 ≤ t1.toInt) (hp1 : t1.toInt ≤ 7) (hp2 : (fv Po 302 (4 + 19 * t1.toInt.toNat)).toInt ≤ 7)  : EvP 13 200 [.ref 301, .int t1] Po (fun r P' => (∃ x : Int32, r = some (.int x) ∧ (True)) ∧ Typ P' ∧ KW [1107, 1108, 1109, 1664, 1728, 1792, 1856] Po P' ∧ True) := by
  refine EvP.of qm_200 (Nat.le_of_ble_eq_true rfl) rfl ?_
  show MEvP _ none q_200 0 [(0, .ref 301), (1, .int t1)] [] _ 0 0 _
  have g1 := ti_full (fv Po 302 (4 + 19 * t1.toInt.toNat))
  refine mp_a (a_aload_n dX7_ordersOf_0 rfl) (mpp 1 rfl ?_)
  refine mp_a (a_iload_n dX7_ordersOf_1 rfl) (mpp 2 rfl ?_)
  refine mt_putI (i := 252) (k := 19) (x := t1) hT dX7_ordersOf_2 rfl rl_301 (by decide) rfl (by decide) rfl ⟨by omega, by omega⟩ rfl rfl (fun P2 hT3 f4 f5 => mpp 5 rfl ?_)
  have k6 : KW [1107, 1108, 1109, 1664, 1728, 1792, 1856] Po P2 := KW.step KW.refl rl_301 rfl f5
  have e7 : (fv P2 301 19).toInt = t1.toInt := congrArg Int32.toInt f4
  refine mp_a (a_aload_n dX7_ordersOf_5 rfl) (mpp 6 rfl ?_)
  refine mp_a (a_aload_n dX7_ordersOf_6 rfl) (mpp 7 rfl ?_)
  refine mp_a (a_iload_n dX7_ordersOf_7 rfl) (mpp 8 rfl ?_)
  refine mp_a (a_iconst (v := 1) dX7_ordersOf_8 rfl) (mpp 9 rfl ?_)
  have p8 : 0 ≤ t1.toInt := by omega
  have p9 : t1.toInt ≤ 7 := by omega
  have p10 : 0 ≤ (1 : Int) := by omega
  have p11 : (1 : Int) ≤ 18 := by omega
  refine mt_callv (i := 78) (q' := q_137) (As := [.int t1, .int 1]) (rest := [.ref 301]) hT3 dX7_ordersOf_9 rfl qm_137 (by decide) rfl rl_301 (by decide) rfl (Nat.le_of_ble_eq_true rfl) rfl ⟨rfl, rfl⟩ ⟨Nat.le_of_ble_eq_true rfl, Nat.le_of_ble_eq_true rfl⟩ (EvP.mono (by decide) (c_M_of_c1 hT3 p8 p9 p10 p11 )) (fun r12 P13 g14 => mpp 12 rfl ?_)
  obtain ⟨⟨x15, rfl, g16⟩, e17⟩ := g14
  have e17 := e17.symm
  subst e17
  have wx15 := ti_full x15
  have g16 : x15.toInt = (fv P2 302 (4 + 19 * t1.toInt.toNat)).toInt ∧ 0 ≤ x15.toInt ∧ x15.toInt ≤ 8 := g16
  have e18 : (fv P2 302 (4 + 19 * t1.toInt.toNat)).toInt = (fv Po 302 (4 + 19 * t1.toInt.toNat)).toInt := congrArg Int32.toInt (f5 302 (4 + 19 * t1.toInt.toNat) (ne_r rl_302 rl_301 rfl))
  show MEvP _ none q_200 12 [(0, .ref 301), (1, .int t1)] [.int x15, .ref 301] _ _ _ _
  refine mt_putI (i := 255) (k := 20) (x := x15) hT3 dX7_ordersOf_12 rfl rl_301 (by decide) rfl (by decide) rfl ⟨by omega, by omega⟩ rfl rfl (fun P19 hT20 f21 f22 => mpp 15 rfl ?_)
  have k23 : KW [1107, 1108, 1109, 1664, 1728, 1792, 1856] Po P19 := KW.step k6 rl_301 rfl f22
  have e24 : (fv P19 301 20).toInt = x15.toInt := congrArg Int32.toInt f21
  refine mp_a (a_iconst (v := 0) dX7_ordersOf_15 rfl) (mpp 16 rfl ?_)
  refine mp_a (a_istore_n (L' := [(2, .int 0), (0, .ref 301), (1, .int t1)]) dX7_ordersOf_16 (by decide) rfl) (mpp 17 rfl ?_)
  refine MEvP.less (L := [(0, .ref 301), (1, .int t1), (2, .int 0)]) rfl rfl ⟨rfl, rfl, rfl, trivial⟩ ?_
  have i25 : (fv P19 301 20).toInt ≤ 7 := by omega
  have i26 : 0 ≤ (0 : Int) := by omega
  exact c_M_ordersOf_l17  hp0 hp1 hp2 _ _ P19 hT20 k23 i25 i26 rfl

set_option maxHeartbeats 4000000 in
theorem c_M_foldsAgain {Po : mP} {t1 : Int32} (hT : Typ Po) (hR : Rel Po)  : EvP 14 198 [.ref 301, .int t1] Po (fun r P' => (∃ x : Int32, r = some (.int x) ∧ (True)) ∧ Typ P' ∧ KW [1107, 1108, 1109, 1664, 1728, 1792, 1856] Po P' ∧ Rel P') := by
  refine EvP.of qm_198 (Nat.le_of_ble_eq_true rfl) rfl ?_
  show MEvP _ none q_198 0 [(0, .ref 301), (1, .int t1)] [] _ 0 0 _
  refine mp_a (a_aload_n dX7_foldsAgain_0 rfl) (mpp 1 rfl ?_)
  refine mp_a (a_iload_n dX7_foldsAgain_1 rfl) (mpp 2 rfl ?_)
  refine mt_callv (i := 279) (q' := q_199) (As := [.int t1]) (rest := []) hT dX7_foldsAgain_2 rfl qm_199 (by decide) rfl rl_301 (by decide) rfl (Nat.le_of_ble_eq_true rfl) rfl ⟨rfl, rfl⟩ ⟨Nat.le_of_ble_eq_true rfl, Nat.le_of_ble_eq_true rfl⟩ (EvP.mono (by decide) (c_M_wrongStrip hT )) (fun r1 P2 g3 => mpp 5 rfl ?_)
  obtain ⟨⟨x4, rfl, g5⟩, e6⟩ := g3
  have e6 := e6.symm
  subst e6
  have wx4 := ti_full x4
  have g5 : x4.toInt ≠ 0 ∨ (0 ≤ t1.toInt ∧ t1.toInt + 1 ≤ (fv Po 302 0).toInt ∧ t1.toInt ≤ 7 ∧ (fv Po 302 (3 + 19 * t1.toInt.toNat)).toInt = 0) := g5
  have g7 : (0 : Int) ≤ (fv Po 302 0).toInt ∧ (fv Po 302 0).toInt ≤ 8 := Typ.rng hT rl_302 (by decide) (by decide) rfl
  have g8 := ti_full (fv Po 302 (3 + 19 * t1.toInt.toNat))
  show MEvP _ none q_198 5 [(0, .ref 301), (1, .int t1)] [.int x4] _ _ _ _
  refine mp_a (a_istore_n (L' := [(2, .int x4), (0, .ref 301), (1, .int t1)]) dX7_foldsAgain_5 (by decide) rfl) (mpp 6 rfl ?_)
  refine mp_a (a_iload_n dX7_foldsAgain_6 rfl) (mpp 7 rfl ?_)
  refine mp_Tb (t := 14) (j_if_eq dX7_foldsAgain_7) (by decide) (fun c9 => ?_) (fun c9 => mpp 10 rfl ?_)
  · have c9 : x4.toInt = 0 := ti_eq c9
    refine mp_a (a_aload_n dX7_foldsAgain_14 rfl) (mpp 15 rfl ?_)
    refine mp_a (a_iload_n dX7_foldsAgain_15 rfl) (mpp 16 rfl ?_)
    have g10 := ti_full (fv Po 302 (4 + 19 * t1.toInt.toNat))
    have p11 : 0 ≤ t1.toInt := by omega
    have p12 : t1.toInt ≤ 7 := by omega
    have p13 : (fv Po 302 (4 + 19 * t1.toInt.toNat)).toInt ≤ 7 := Rel.use hR (p := t1.toInt.toNat) (by omega) (by omega)
    refine mt_callv (i := 282) (q' := q_200) (As := [.int t1]) (rest := []) hT dX7_foldsAgain_16 rfl qm_200 (by decide) rfl rl_301 (by decide) rfl (Nat.le_of_ble_eq_true rfl) rfl ⟨rfl, rfl⟩ ⟨Nat.le_of_ble_eq_true rfl, Nat.le_of_ble_eq_true rfl⟩ (EvP.mono (by decide) (c_M_ordersOf hT p11 p12 p13 )) (fun r14 P15 g16 => mpp 19 rfl ?_)
    obtain ⟨⟨x17, rfl, g18⟩, hT19, k20, R21⟩ := g16
    have k22 : KW [1107, 1108, 1109, 1664, 1728, 1792, 1856] Po P15 := KW.trans KW.refl k20 rfl
    have R23 := Rel.kw hR k20 rfl
    have wx17 := ti_full x17
    show MEvP _ none q_198 19 [(2, .int x4), (0, .ref 301), (1, .int t1)] [.int x17] _ _ _ _
    refine mp_Tb (t := 26) (j_if_le dX7_foldsAgain_19) (by decide) (fun c24 => ?_) (fun c24 => mpp 22 rfl ?_)
    · have c24 : x17.toInt ≤ 0 := ti_le c24
      refine mp_a (a_iconst (v := 0) dX7_foldsAgain_26 rfl) (mpp 27 rfl ?_)
      exact mp_iret ⟨⟨_, rfl, trivial⟩, hT19, k22, R23⟩ dX7_foldsAgain_27 (Or.inl rfl)
    · have c24 : x17.toInt > 0 := ti_le_n c24
      refine mp_a (a_iconst (v := 1) dX7_foldsAgain_22 rfl) (mpp 23 rfl ?_)
      refine mp_a (a_goto (t := 27) dX7_foldsAgain_23 (by decide)) ?_
      exact mp_iret ⟨⟨_, rfl, trivial⟩, hT19, k22, R23⟩ dX7_foldsAgain_27 (Or.inl rfl)
  · have c9 : x4.toInt ≠ 0 := ti_eq_n c9
    refine mp_a (a_iload_n dX7_foldsAgain_10 rfl) (mpp 11 rfl ?_)
    refine mp_a (a_goto (t := 27) dX7_foldsAgain_11 (by decide)) ?_
    exact mp_iret ⟨⟨_, rfl, trivial⟩, hT, KW.refl, hR⟩ dX7_foldsAgain_27 (Or.inl rfl)

set_option maxHeartbeats 4000000 in
theorem c_M_step {Po : mP} {t1 : Int32} (hT : Typ Po)   : EvP 6 175 [.ref 301, .int t1] Po (fun r P' => (∃ x : Int32, r = some (.int x) ∧ (True)) ∧ Typ P' ∧ KW [1101, 1102, 1536, 1600] Po P' ∧ True) := by
  refine EvP.of qm_175 (Nat.le_of_ble_eq_true rfl) rfl ?_
  show MEvP _ none q_175 0 [(0, .ref 301), (1, .int t1)] [] _ 0 0 _
  refine mp_a (a_aload_n dX7_step_0 rfl) (mpp 1 rfl ?_)
  refine mp_a (a_iload_n dX7_step_1 rfl) (mpp 2 rfl ?_)
  refine mt_callv (i := 85) (q' := q_144) (As := [.int t1]) (rest := []) hT dX7_step_2 rfl qm_144 (by decide) rfl rl_301 (by decide) rfl (Nat.le_of_ble_eq_true rfl) rfl ⟨rfl, rfl⟩ ⟨Nat.le_of_ble_eq_true rfl, Nat.le_of_ble_eq_true rfl⟩ (EvP.mono (by decide) (c_M_isPiece hT )) (fun r1 P2 g3 => mpp 5 rfl ?_)
  obtain ⟨⟨x4, rfl, g5⟩, e6⟩ := g3
  have e6 := e6.symm
  subst e6
  have wx4 := ti_full x4
  have g5 : 0 ≤ x4.toInt ∧ x4.toInt ≤ 1 ∧ ((x4.toInt = 1 ∧ 0 ≤ t1.toInt ∧ t1.toInt + 1 ≤ (fv Po 302 0).toInt ∧ t1.toInt ≤ 7) ∨ (x4.toInt = 0 ∧ (t1.toInt < 0 ∨ (fv Po 302 0).toInt ≤ t1.toInt))) := g5
  have g7 : (0 : Int) ≤ (fv Po 302 0).toInt ∧ (fv Po 302 0).toInt ≤ 8 := Typ.rng hT rl_302 (by decide) (by decide) rfl
  show MEvP _ none q_175 5 [(0, .ref 301), (1, .int t1)] [.int x4] _ _ _ _
  refine mp_Tb (t := 12) (j_if_ne dX7_step_5) (by decide) (fun c8 => ?_) (fun c8 => mpp 8 rfl ?_)
  · have c8 : x4.toInt ≠ 0 := ti_ne c8
    refine mp_a (a_aload_n dX7_step_12 rfl) (mpp 13 rfl ?_)
    refine mp_a (a_iload_n dX7_step_13 rfl) (mpp 14 rfl ?_)
    have p9 : 0 ≤ t1.toInt := by omega
    have p10 : t1.toInt ≤ 7 := by omega
    refine mt_callv (i := 196) (q' := q_164) (As := [.int t1]) (rest := []) hT dX7_step_14 rfl qm_164 (by decide) rfl rl_301 (by decide) rfl (Nat.le_of_ble_eq_true rfl) rfl ⟨rfl, rfl⟩ ⟨Nat.le_of_ble_eq_true rfl, Nat.le_of_ble_eq_true rfl⟩ (EvP.mono (by decide) (c_M_lays hT p9 p10 )) (fun r11 P12 g13 => mpp 17 rfl ?_)
    obtain ⟨⟨rfl, g15⟩, hT16, k17, R18⟩ := g13
    have k19 : KW [1101, 1102, 1536, 1600] Po P12 := KW.trans KW.refl k17 rfl
    show MEvP _ none q_175 17 [(0, .ref 301), (1, .int t1)] [] _ _ _ _
    refine mp_a (a_aload_n dX7_step_17 rfl) (mpp 18 rfl ?_)
    refine mp_a (a_iload_n dX7_step_18 rfl) (mpp 19 rfl ?_)
    refine mp_a (a_iconst (v := 0) dX7_step_19 rfl) (mpp 20 rfl ?_)
    have p20 : 0 ≤ t1.toInt := by omega
    have p21 : t1.toInt ≤ 7 := by omega
    refine mt_callv (i := 136) (q' := q_149) (As := [.int t1, .int 0]) (rest := []) hT16 dX7_step_20 rfl qm_149 (by decide) rfl rl_301 (by decide) rfl (Nat.le_of_ble_eq_true rfl) rfl ⟨rfl, rfl⟩ ⟨Nat.le_of_ble_eq_true rfl, Nat.le_of_ble_eq_true rfl⟩ (EvP.mono (by decide) (c_M_countOf hT16 p20 p21 )) (fun r22 P23 g24 => mpp 23 rfl ?_)
    obtain ⟨⟨x25, rfl, g26⟩, e27⟩ := g24
    have e27 := e27.symm
    subst e27
    have wx25 := ti_full x25
    have g26 : (x25.toInt ≤ 0 ∨ UD P12 t1.toInt.toNat (0 : Int)) ∧ 0 ≤ x25.toInt ∧ x25.toInt ≤ 8 := g26
    show MEvP _ none q_175 23 [(0, .ref 301), (1, .int t1)] [.int x25] _ _ _ _
    refine mp_Tb (t := 30) (j_if_le dX7_step_23) (by decide) (fun c28 => ?_) (fun c28 => mpp 26 rfl ?_)
    · have c28 : x25.toInt ≤ 0 := ti_le c28
      refine mp_a (a_aload_n dX7_step_30 rfl) (mpp 31 rfl ?_)
      refine mt_callv (i := 187) (q' := q_167) (As := []) (rest := []) hT16 dX7_step_31 rfl qm_167 (by decide) rfl rl_301 (by decide) rfl (Nat.le_of_ble_eq_true rfl) rfl ⟨rfl, rfl⟩ ⟨Nat.le_of_ble_eq_true rfl, Nat.le_of_ble_eq_true rfl⟩ (EvP.mono (by decide) (c_M_stepNow hT16 )) (fun r29 P30 g31 => mpp 34 rfl ?_)
      obtain ⟨⟨x32, rfl, g33⟩, e34⟩ := g31
      have e34 := e34.symm
      subst e34
      have wx32 := ti_full x32
      have g33 : x32.toInt = 0 ∨ (x32.toInt = 1 ∧ (fv P12 301 14).toInt = 0 ∧ 2 ≤ (fv P12 301 13).toInt) ∨ (x32.toInt = 2 ∧ (fv P12 301 14).toInt = 0 ∧ 2 ≤ (fv P12 301 13).toInt) ∨ ((fv P12 301 14).toInt = 1 ∧ 3 ≤ (fv P12 301 13).toInt ∧ 10 ≤ x32.toInt ∧ x32.toInt + 1 ≤ (fv P12 301 13).toInt + 10) ∨ ((fv P12 301 14).toInt = 0 ∧ 11 ≤ x32.toInt ∧ x32.toInt + 2 ≤ (fv P12 301 13).toInt + 10) := g33
      have g35 : (0 : Int) ≤ (fv P12 301 14).toInt ∧ (fv P12 301 14).toInt ≤ 1 := Typ.rng hT16 rl_301 (by decide) (by decide) rfl
      have g36 : (0 : Int) ≤ (fv P12 301 13).toInt ∧ (fv P12 301 13).toInt ≤ 8 := Typ.rng hT16 rl_301 (by decide) (by decide) rfl
      show MEvP _ none q_175 34 [(0, .ref 301), (1, .int t1)] [.int x32] _ _ _ _
      refine mp_a (a_istore_n (L' := [(2, .int x32), (0, .ref 301), (1, .int t1)]) dX7_step_34 (by decide) rfl) (mpp 35 rfl ?_)
      refine mp_a (a_iload_n dX7_step_35 rfl) (mpp 36 rfl ?_)
      refine mp_Tb (t := 45) (j_if_ne dX7_step_36) (by decide) (fun c37 => ?_) (fun c37 => mpp 39 rfl ?_)
      · have c37 : x32.toInt ≠ 0 := ti_ne c37
        refine mp_a (a_iload_n dX7_step_45 rfl) (mpp 46 rfl ?_)
        exact mp_iret ⟨⟨_, rfl, trivial⟩, hT16, k19, trivial⟩ dX7_step_46 (Or.inl rfl)
      · have c37 : x32.toInt = 0 := ti_ne_n c37
        refine mp_a (a_sipush (v := -1004) dX7_step_39 rfl) (mpp 42 rfl ?_)
        refine mp_a (a_goto (t := 46) dX7_step_42 (by decide)) ?_
        exact mp_iret ⟨⟨_, rfl, trivial⟩, hT16, k19, trivial⟩ dX7_step_46 (Or.inl rfl)
    · have c28 : x25.toInt > 0 := ti_le_n c28
      refine mp_a (a_iconst (v := 0) dX7_step_26 rfl) (mpp 27 rfl ?_)
      refine mp_a (a_goto (t := 34) dX7_step_27 (by decide)) ?_
      refine mp_a (a_istore_n (L' := [(2, .int 0), (0, .ref 301), (1, .int t1)]) dX7_step_34 (by decide) rfl) (mpp 35 rfl ?_)
      refine mp_a (a_iload_n dX7_step_35 rfl) (mpp 36 rfl ?_)
      refine mp_Tf (t := 45) (j_if_ne dX7_step_36) (by decide) (by decide) (mpp 39 rfl ?_)
      refine mp_a (a_sipush (v := -1004) dX7_step_39 rfl) (mpp 42 rfl ?_)
      refine mp_a (a_goto (t := 46) dX7_step_42 (by decide)) ?_
      exact mp_iret ⟨⟨_, rfl, trivial⟩, hT16, k19, trivial⟩ dX7_step_46 (Or.inl rfl)
  · have c8 : x4.toInt = 0 := ti_ne_n c8
    refine mp_a (a_sipush (v := -1001) dX7_step_8 rfl) (mpp 11 rfl ?_)
    exact mp_iret ⟨⟨_, rfl, trivial⟩, hT, KW.refl, trivial⟩ dX7_step_11 (Or.inl rfl)

set_option maxHeartbeats 4000000 in
theorem c_M_steps {Po : mP} {t1 : Int32} (hT : Typ Po)   : EvP 6 176 [.ref 301, .int t1] Po (fun r P' => (∃ x : Int32, r = some (.int x) ∧ (True)) ∧ Typ P' ∧ KW [1101, 1102, 1536, 1600] Po P' ∧ True) := by
  refine EvP.of qm_176 (Nat.le_of_ble_eq_true rfl) rfl ?_
  show MEvP _ none q_176 0 [(0, .ref 301), (1, .int t1)] [] _ 0 0 _
  refine mp_a (a_aload_n dX7_steps_0 rfl) (mpp 1 rfl ?_)
  refine mp_a (a_iload_n dX7_steps_1 rfl) (mpp 2 rfl ?_)
  refine mt_callv (i := 85) (q' := q_144) (As := [.int t1]) (rest := []) hT dX7_steps_2 rfl qm_144 (by decide) rfl rl_301 (by decide) rfl (Nat.le_of_ble_eq_true rfl) rfl ⟨rfl, rfl⟩ ⟨Nat.le_of_ble_eq_true rfl, Nat.le_of_ble_eq_true rfl⟩ (EvP.mono (by decide) (c_M_isPiece hT )) (fun r1 P2 g3 => mpp 5 rfl ?_)
  obtain ⟨⟨x4, rfl, g5⟩, e6⟩ := g3
  have e6 := e6.symm
  subst e6
  have wx4 := ti_full x4
  have g5 : 0 ≤ x4.toInt ∧ x4.toInt ≤ 1 ∧ ((x4.toInt = 1 ∧ 0 ≤ t1.toInt ∧ t1.toInt + 1 ≤ (fv Po 302 0).toInt ∧ t1.toInt ≤ 7) ∨ (x4.toInt = 0 ∧ (t1.toInt < 0 ∨ (fv Po 302 0).toInt ≤ t1.toInt))) := g5
  have g7 : (0 : Int) ≤ (fv Po 302 0).toInt ∧ (fv Po 302 0).toInt ≤ 8 := Typ.rng hT rl_302 (by decide) (by decide) rfl
  show MEvP _ none q_176 5 [(0, .ref 301), (1, .int t1)] [.int x4] _ _ _ _
  refine mp_Tb (t := 12) (j_if_ne dX7_steps_5) (by decide) (fun c8 => ?_) (fun c8 => mpp 8 rfl ?_)
  · have c8 : x4.toInt ≠ 0 := ti_ne c8
    refine mp_a (a_aload_n dX7_steps_12 rfl) (mpp 13 rfl ?_)
    refine mp_a (a_iload_n dX7_steps_13 rfl) (mpp 14 rfl ?_)
    have p9 : 0 ≤ t1.toInt := by omega
    have p10 : t1.toInt ≤ 7 := by omega
    refine mt_callv (i := 196) (q' := q_164) (As := [.int t1]) (rest := []) hT dX7_steps_14 rfl qm_164 (by decide) rfl rl_301 (by decide) rfl (Nat.le_of_ble_eq_true rfl) rfl ⟨rfl, rfl⟩ ⟨Nat.le_of_ble_eq_true rfl, Nat.le_of_ble_eq_true rfl⟩ (EvP.mono (by decide) (c_M_lays hT p9 p10 )) (fun r11 P12 g13 => mpp 17 rfl ?_)
    obtain ⟨⟨rfl, g15⟩, hT16, k17, R18⟩ := g13
    have k19 : KW [1101, 1102, 1536, 1600] Po P12 := KW.trans KW.refl k17 rfl
    show MEvP _ none q_176 17 [(0, .ref 301), (1, .int t1)] [] _ _ _ _
    refine mp_a (a_aload_n dX7_steps_17 rfl) (mpp 18 rfl ?_)
    refine mp_a (a_iload_n dX7_steps_18 rfl) (mpp 19 rfl ?_)
    refine mp_a (a_iconst (v := 0) dX7_steps_19 rfl) (mpp 20 rfl ?_)
    have p20 : 0 ≤ t1.toInt := by omega
    have p21 : t1.toInt ≤ 7 := by omega
    refine mt_callv (i := 136) (q' := q_149) (As := [.int t1, .int 0]) (rest := []) hT16 dX7_steps_20 rfl qm_149 (by decide) rfl rl_301 (by decide) rfl (Nat.le_of_ble_eq_true rfl) rfl ⟨rfl, rfl⟩ ⟨Nat.le_of_ble_eq_true rfl, Nat.le_of_ble_eq_true rfl⟩ (EvP.mono (by decide) (c_M_countOf hT16 p20 p21 )) (fun r22 P23 g24 => mpp 23 rfl ?_)
    obtain ⟨⟨x25, rfl, g26⟩, e27⟩ := g24
    have e27 := e27.symm
    subst e27
    have wx25 := ti_full x25
    have g26 : (x25.toInt ≤ 0 ∨ UD P12 t1.toInt.toNat (0 : Int)) ∧ 0 ≤ x25.toInt ∧ x25.toInt ≤ 8 := g26
    show MEvP _ none q_176 23 [(0, .ref 301), (1, .int t1)] [.int x25] _ _ _ _
    refine mp_Tb (t := 32) (j_if_le dX7_steps_23) (by decide) (fun c28 => ?_) (fun c28 => mpp 26 rfl ?_)
    · have c28 : x25.toInt ≤ 0 := ti_le c28
      refine mp_a (a_aload_n dX7_steps_32 rfl) (mpp 33 rfl ?_)
      refine mt_callv (i := 193) (q' := q_166) (As := []) (rest := []) hT16 dX7_steps_33 rfl qm_166 (by decide) rfl rl_301 (by decide) rfl (Nat.le_of_ble_eq_true rfl) rfl ⟨rfl, rfl⟩ ⟨Nat.le_of_ble_eq_true rfl, Nat.le_of_ble_eq_true rfl⟩ (EvP.mono (by decide) (c_M_reduces hT16 )) (fun r29 P30 g31 => mpp 36 rfl ?_)
      obtain ⟨⟨x32, rfl, g33⟩, hT34, k35, R36⟩ := g31
      have k37 : KW [1101, 1102, 1536, 1600] Po P30 := KW.trans k19 k35 rfl
      have wx32 := ti_full x32
      show MEvP _ none q_176 36 [(0, .ref 301), (1, .int t1)] [.int x32] _ _ _ _
      exact mp_iret ⟨⟨_, rfl, trivial⟩, hT34, k37, trivial⟩ dX7_steps_36 (Or.inl rfl)
    · have c28 : x25.toInt > 0 := ti_le_n c28
      refine mp_a (a_sipush (v := -1004) dX7_steps_26 rfl) (mpp 29 rfl ?_)
      refine mp_a (a_goto (t := 36) dX7_steps_29 (by decide)) ?_
      exact mp_iret ⟨⟨_, rfl, trivial⟩, hT16, k19, trivial⟩ dX7_steps_36 (Or.inl rfl)
  · have c8 : x4.toInt = 0 := ti_ne_n c8
    refine mp_a (a_sipush (v := -1001) dX7_steps_8 rfl) (mpp 11 rfl ?_)
    exact mp_iret ⟨⟨_, rfl, trivial⟩, hT, KW.refl, trivial⟩ dX7_steps_11 (Or.inl rfl)

