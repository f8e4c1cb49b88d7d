/-! methods on typed pools, 31 (written by a program) -/
set_option maxHeartbeats 4000000 in
theorem c_M_gives_r5_l63 {Po : mP} {t1 : Int32} (hp0 : 0 ≤ t1.toInt) (hp1 : (fv Po 301 20).toInt = t1.toInt + 5) (hp2 : (fv Po 301 20).toInt ≤ 7)  : ∀ (n : Nat) (v2 : Int32), ∀ (P : mP), Typ P → KW [1109, 1664, 1728, 1856] Po P → (0 ≤ v2.toInt) → (2147483647 - v2.toInt).toNat = n → MEvP 9 none q_201 63 [(0, .ref 301), (1, .int t1), (2, .int v2)] [] P 0 0 (fun r P' => (r = none ∧ (True)) ∧ Typ P' ∧ KW [1109, 1664, 1728, 1856] Po P' ∧ True) := by
  intro n
  induction n using Nat.strongRecOn with | _ n ih => ?_
  intro v2 P hT hK i_0 hm
  have w_t1 := ti_full t1
  have w_v2 := ti_full v2
  refine mp_a (a_iload_n dX7_gives_63 rfl) (mpp 64 rfl ?_)
  refine mp_a (a_aload_n dX7_gives_64 rfl) (mpp 65 rfl ?_)
  have e1 : (fv P 301 20).toInt = (fv Po 301 20).toInt := congrArg Int32.toInt (KW.at hK 20 rl_301 rfl)
  refine mt_getI (i := 255) (k := 20) hT dX7_gives_65 rfl rl_301 (by decide) rfl (by decide) rfl (fun g2 g3 => mpp 68 rfl ?_)
  refine mp_Tb (t := 148) (j_icmp_ge dX7_gives_68) (by decide) (fun c4 => ?_) (fun c4 => mpp 71 rfl ?_)
  · have c4 : v2.toInt ≥ (fv P 301 20).toInt := ti_ge c4
    exact mp_ret ⟨⟨rfl, trivial⟩, hT, hK, trivial⟩ dX7_gives_148 rfl
  · have c4 : v2.toInt < (fv P 301 20).toInt := ti_ge_n c4
    refine mp_a (a_aload_n dX7_gives_71 rfl) (mpp 72 rfl ?_)
    refine mt_getU (i := 43) (k := 18) (A := 313) hT dX7_gives_72 rfl rl_301 (by decide) rfl (by decide) rfl un_29 (mpp 75 rfl ?_)
    refine mp_a (a_iload_n dX7_gives_75 rfl) (mpp 76 rfl ?_)
    refine mt_bal (n := 7) hT dX7_gives_76 rl_313 (by decide) rfl rfl (by omega) (by omega) rfl (fun g5 g6 => mpp 77 rfl ?_)
    refine mp_Tb (t := 142) (j_if_ne dX7_gives_77) (by decide) (fun c7 => ?_) (fun c7 => mpp 80 rfl ?_)
    · have c7 : (fv P 313 v2.toInt.toNat).toInt ≠ 0 := ti_ne c7
      obtain ⟨z8, h9⟩ := ti_ex (v2 + 1 : Int32)
      have wz8 := ti_full z8
      refine mp_a (a_iinc (v := z8) (L' := [(2, .int z8), (0, .ref 301), (1, .int t1)]) dX7_gives_142 (by decide) rfl h9 rfl) (mpp 145 rfl ?_)
      try have e10 : z8.toInt = v2.toInt + 1 := ti_addz h9 rfl rfl (by omega) (by omega)
      refine mp_a (a_goto (t := 63) dX7_gives_145 (by decide)) ?_
      refine MEvP.less (L := [(0, .ref 301), (1, .int t1), (2, .int z8)]) rfl rfl ⟨rfl, rfl, rfl, trivial⟩ ?_
      have i11 : 0 ≤ z8.toInt := by omega
      exact ih _ (by omega) _ P hT hK i11 rfl
    · have c7 : (fv P 313 v2.toInt.toNat).toInt = 0 := ti_ne_n c7
      refine mp_a (a_iload_n dX7_gives_80 rfl) (mpp 81 rfl ?_)
      refine mp_Tb (t := 114) (j_if_le dX7_gives_81) (by decide) (fun c12 => ?_) (fun c12 => mpp 84 rfl ?_)
      · have c12 : t1.toInt ≤ 0 := ti_le c12
        refine mp_a (a_aload_n dX7_gives_114 rfl) (mpp 115 rfl ?_)
        refine mt_getU (i := 43) (k := 18) (A := 313) hT dX7_gives_115 rfl rl_301 (by decide) rfl (by decide) rfl un_29 (mpp 118 rfl ?_)
        refine mp_a (a_iload_n dX7_gives_118 rfl) (mpp 119 rfl ?_)
        refine mp_a (a_iconst (v := 1) dX7_gives_119 rfl) (mpp 120 rfl ?_)
        refine mt_bas (n := 7) hT dX7_gives_120 rl_313 (by decide) rfl rfl (by omega) (by omega) rfl (by decide) (fun P13 hT14 f15 f16 => mpp 121 rfl ?_)
        have k17 : KW [1109, 1664, 1728, 1856] Po P13 := KW.step hK rl_313 rfl f16
        refine mp_a (a_aload_n dX7_gives_121 rfl) (mpp 122 rfl ?_)
        refine mt_getU (i := 34) (k := 15) (A := 310) hT14 dX7_gives_122 rfl rl_301 (by decide) rfl (by decide) rfl un_26 (mpp 125 rfl ?_)
        refine mp_a (a_iload_n dX7_gives_125 rfl) (mpp 126 rfl ?_)
        refine mp_a (a_iload_n dX7_gives_126 rfl) (mpp 127 rfl ?_)
        refine mt_ias (n := 7) hT14 dX7_gives_127 rl_310 (by decide) rfl rfl (by omega) (by omega) rfl (ti_full v2) (fun P18 hT19 f20 f21 => mpp 128 rfl ?_)
        have k22 : KW [1109, 1664, 1728, 1856] Po P18 := KW.step k17 rl_310 rfl f21
        refine mp_a (a_aload_n dX7_gives_128 rfl) (mpp 129 rfl ?_)
        refine mp_a (a_iload_n dX7_gives_129 rfl) (mpp 130 rfl ?_)
        refine mp_a (a_iconst (v := 1) dX7_gives_130 rfl) (mpp 131 rfl ?_)
        obtain ⟨z23, h24⟩ := ti_ex (t1 + 1 : Int32)
        have wz23 := ti_full z23
        refine mp_t (s_iadd (v := z23) dX7_gives_131 h24) (mpp 132 rfl ?_)
        try have e25 : z23.toInt = t1.toInt + 1 := ti_addz h24 rfl rfl (by omega) (by omega)
        have e26 : (fv P18 301 20).toInt = (fv P 301 20).toInt := congrArg Int32.toInt ((f21 301 20 (ne_r rl_301 rl_310 rfl)).trans (f16 301 20 (ne_r rl_301 rl_313 rfl)))
        have p27 : 0 ≤ z23.toInt := by omega
        have p28 : (fv P18 301 20).toInt = z23.toInt + 4 := by omega
        have p29 : (fv P18 301 20).toInt ≤ 7 := by omega
        refine mt_callv (i := 276) (q' := q_201) (As := [.int z23]) (rest := []) hT19 dX7_gives_132 rfl qm_201 (by decide) rfl rl_301 (by decide) rfl (Nat.le_of_ble_eq_true rfl) rfl ⟨rfl, rfl⟩ ⟨Nat.le_of_ble_eq_true rfl, Nat.le_of_ble_eq_true rfl⟩ (EvP.mono (by decide) (c_M_gives_r4 hT19 p27 p28 p29 )) (fun r30 P31 g32 => mpp 135 rfl ?_)
        obtain ⟨⟨rfl, g34⟩, hT35, k36, R37⟩ := g32
        have k38 : KW [1109, 1664, 1728, 1856] Po P31 := KW.trans k22 k36 rfl
        show MEvP _ none q_201 135 [(0, .ref 301), (1, .int t1), (2, .int v2)] [] _ _ _ _
        refine mp_a (a_aload_n dX7_gives_135 rfl) (mpp 136 rfl ?_)
        refine mt_getU (i := 43) (k := 18) (A := 313) hT35 dX7_gives_136 rfl rl_301 (by decide) rfl (by decide) rfl un_29 (mpp 139 rfl ?_)
        refine mp_a (a_iload_n dX7_gives_139 rfl) (mpp 140 rfl ?_)
        refine mp_a (a_iconst (v := 0) dX7_gives_140 rfl) (mpp 141 rfl ?_)
        refine mt_bas (n := 7) hT35 dX7_gives_141 rl_313 (by decide) rfl rfl (by omega) (by omega) rfl (by decide) (fun P39 hT40 f41 f42 => mpp 142 rfl ?_)
        have k43 : KW [1109, 1664, 1728, 1856] Po P39 := KW.step k38 rl_313 rfl f42
        obtain ⟨z44, h45⟩ := ti_ex (v2 + 1 : Int32)
        have wz44 := ti_full z44
        refine mp_a (a_iinc (v := z44) (L' := [(2, .int z44), (0, .ref 301), (1, .int t1)]) dX7_gives_142 (by decide) rfl h45 rfl) (mpp 145 rfl ?_)
        try have e46 : z44.toInt = v2.toInt + 1 := ti_addz h45 rfl rfl (by omega) (by omega)
        refine mp_a (a_goto (t := 63) dX7_gives_145 (by decide)) ?_
        refine MEvP.less (L := [(0, .ref 301), (1, .int t1), (2, .int z44)]) rfl rfl ⟨rfl, rfl, rfl, trivial⟩ ?_
        have i47 : 0 ≤ z44.toInt := by omega
        exact ih _ (by omega) _ P39 hT40 k43 i47 rfl
      · have c12 : t1.toInt > 0 := ti_le_n c12
        refine mp_a (a_iload_n dX7_gives_84 rfl) (mpp 85 rfl ?_)
        refine mp_a (a_aload_n dX7_gives_85 rfl) (mpp 86 rfl ?_)
        refine mt_getU (i := 34) (k := 15) (A := 310) hT dX7_gives_86 rfl rl_301 (by decide) rfl (by decide) rfl un_26 (mpp 89 rfl ?_)
        refine mp_a (a_iload_n dX7_gives_89 rfl) (mpp 90 rfl ?_)
        refine mp_a (a_iconst (v := 1) dX7_gives_90 rfl) (mpp 91 rfl ?_)
        obtain ⟨z48, h49⟩ := ti_ex (t1 - 1 : Int32)
        have wz48 := ti_full z48
        refine mp_t (s_isub (v := z48) dX7_gives_91 h49) (mpp 92 rfl ?_)
        try have e50 : z48.toInt = t1.toInt - 1 := ti_subz h49 rfl rfl (by omega) (by omega)
        refine mt_ial (n := 7) hT dX7_gives_92 rl_310 (by decide) rfl rfl (by omega) (by omega) rfl (fun g51 g52 => mpp 93 rfl ?_)
        refine mp_Tb (t := 100) (j_icmp_le dX7_gives_93) (by decide) (fun c53 => ?_) (fun c53 => mpp 96 rfl ?_)
        · have c53 : v2.toInt ≤ (fv P 310 z48.toInt.toNat).toInt := ti_le c53
          refine mp_a (a_iconst (v := 0) dX7_gives_100 rfl) (mpp 101 rfl ?_)
          refine mp_a (a_aload_n dX7_gives_101 rfl) (mpp 102 rfl ?_)
          refine mp_a (a_iload_n dX7_gives_102 rfl) (mpp 103 rfl ?_)
          refine mp_a (a_iconst (v := 1) dX7_gives_103 rfl) (mpp 104 rfl ?_)
          obtain ⟨z54, h55⟩ := ti_ex (t1 - 1 : Int32)
          have wz54 := ti_full z54
          refine mp_t (s_isub (v := z54) dX7_gives_104 h55) (mpp 105 rfl ?_)
          try have e56 : z54.toInt = t1.toInt - 1 := ti_subz h55 rfl rfl (by omega) (by omega)
          have p57 : 0 ≤ z54.toInt := by omega
          have p58 : z54.toInt ≤ 7 := by omega
          refine mt_callv (i := 273) (q' := q_206) (As := [.int z54]) (rest := [.int 0]) hT dX7_gives_105 rfl qm_206 (by decide) rfl rl_301 (by decide) rfl (Nat.le_of_ble_eq_true rfl) rfl ⟨rfl, rfl⟩ ⟨Nat.le_of_ble_eq_true rfl, Nat.le_of_ble_eq_true rfl⟩ (EvP.mono (by decide) (c_M_isAbove hT p57 p58 )) (fun r59 P60 g61 => mpp 108 rfl ?_)
          obtain ⟨⟨x62, rfl, g63⟩, e64⟩ := g61
          have e64 := e64.symm
          subst e64
          have wx62 := ti_full x62
          have g63 : 0 ≤ x62.toInt ∧ x62.toInt ≤ 1 := g63
          show MEvP _ none q_201 108 [(0, .ref 301), (1, .int t1), (2, .int v2)] [.int x62, .int 0] _ _ _ _
          refine mp_Tb (t := 114) (j_icmp_eq dX7_gives_108) (by decide) (fun c65 => ?_) (fun c65 => mpp 111 rfl ?_)
          · have c65 : 0 = x62.toInt := ti_eq c65
            refine mp_a (a_aload_n dX7_gives_114 rfl) (mpp 115 rfl ?_)
            refine mt_getU (i := 43) (k := 18) (A := 313) hT dX7_gives_115 rfl rl_301 (by decide) rfl (by decide) rfl un_29 (mpp 118 rfl ?_)
            refine mp_a (a_iload_n dX7_gives_118 rfl) (mpp 119 rfl ?_)
            refine mp_a (a_iconst (v := 1) dX7_gives_119 rfl) (mpp 120 rfl ?_)
            refine mt_bas (n := 7) hT dX7_gives_120 rl_313 (by decide) rfl rfl (by omega) (by omega) rfl (by decide) (fun P66 hT67 f68 f69 => mpp 121 rfl ?_)
            have k70 : KW [1109, 1664, 1728, 1856] Po P66 := KW.step hK rl_313 rfl f69
            refine mp_a (a_aload_n dX7_gives_121 rfl) (mpp 122 rfl ?_)
            refine mt_getU (i := 34) (k := 15) (A := 310) hT67 dX7_gives_122 rfl rl_301 (by decide) rfl (by decide) rfl un_26 (mpp 125 rfl ?_)
            refine mp_a (a_iload_n dX7_gives_125 rfl) (mpp 126 rfl ?_)
            refine mp_a (a_iload_n dX7_gives_126 rfl) (mpp 127 rfl ?_)
            refine mt_ias (n := 7) hT67 dX7_gives_127 rl_310 (by decide) rfl rfl (by omega) (by omega) rfl (ti_full v2) (fun P71 hT72 f73 f74 => mpp 128 rfl ?_)
            have k75 : KW [1109, 1664, 1728, 1856] Po P71 := KW.step k70 rl_310 rfl f74
            refine mp_a (a_aload_n dX7_gives_128 rfl) (mpp 129 rfl ?_)
            refine mp_a (a_iload_n dX7_gives_129 rfl) (mpp 130 rfl ?_)
            refine mp_a (a_iconst (v := 1) dX7_gives_130 rfl) (mpp 131 rfl ?_)
            obtain ⟨z76, h77⟩ := ti_ex (t1 + 1 : Int32)
            have wz76 := ti_full z76
            refine mp_t (s_iadd (v := z76) dX7_gives_131 h77) (mpp 132 rfl ?_)
            try have e78 : z76.toInt = t1.toInt + 1 := ti_addz h77 rfl rfl (by omega) (by omega)
            have e79 : (fv P71 301 20).toInt = (fv P 301 20).toInt := congrArg Int32.toInt ((f74 301 20 (ne_r rl_301 rl_310 rfl)).trans (f69 301 20 (ne_r rl_301 rl_313 rfl)))
            have p80 : 0 ≤ z76.toInt := by omega
            have p81 : (fv P71 301 20).toInt = z76.toInt + 4 := by omega
            have p82 : (fv P71 301 20).toInt ≤ 7 := by omega
            refine mt_callv (i := 276) (q' := q_201) (As := [.int z76]) (rest := []) hT72 dX7_gives_132 rfl qm_201 (by decide) rfl rl_301 (by decide) rfl (Nat.le_of_ble_eq_true rfl) rfl ⟨rfl, rfl⟩ ⟨Nat.le_of_ble_eq_true rfl, Nat.le_of_ble_eq_true rfl⟩ (EvP.mono (by decide) (c_M_gives_r4 hT72 p80 p81 p82 )) (fun r83 P84 g85 => mpp 135 rfl ?_)
            obtain ⟨⟨rfl, g87⟩, hT88, k89, R90⟩ := g85
            have k91 : KW [1109, 1664, 1728, 1856] Po P84 := KW.trans k75 k89 rfl
            show MEvP _ none q_201 135 [(0, .ref 301), (1, .int t1), (2, .int v2)] [] _ _ _ _
            refine mp_a (a_aload_n dX7_gives_135 rfl) (mpp 136 rfl ?_)
            refine mt_getU (i := 43) (k := 18) (A := 313) hT88 dX7_gives_136 rfl rl_301 (by decide) rfl (by decide) rfl un_29 (mpp 139 rfl ?_)
            refine mp_a (a_iload_n dX7_gives_139 rfl) (mpp 140 rfl ?_)
            refine mp_a (a_iconst (v := 0) dX7_gives_140 rfl) (mpp 141 rfl ?_)
            refine mt_bas (n := 7) hT88 dX7_gives_141 rl_313 (by decide) rfl rfl (by omega) (by omega) rfl (by decide) (fun P92 hT93 f94 f95 => mpp 142 rfl ?_)
            have k96 : KW [1109, 1664, 1728, 1856] Po P92 := KW.step k91 rl_313 rfl f95
            obtain ⟨z97, h98⟩ := ti_ex (v2 + 1 : Int32)
            have wz97 := ti_full z97
            refine mp_a (a_iinc (v := z97) (L' := [(2, .int z97), (0, .ref 301), (1, .int t1)]) dX7_gives_142 (by decide) rfl h98 rfl) (mpp 145 rfl ?_)
            try have e99 : z97.toInt = v2.toInt + 1 := ti_addz h98 rfl rfl (by omega) (by omega)
            refine mp_a (a_goto (t := 63) dX7_gives_145 (by decide)) ?_
            refine MEvP.less (L := [(0, .ref 301), (1, .int t1), (2, .int z97)]) rfl rfl ⟨rfl, rfl, rfl, trivial⟩ ?_
            have i100 : 0 ≤ z97.toInt := by omega
            exact ih _ (by omega) _ P92 hT93 k96 i100 rfl
          · have c65 : 0 ≠ x62.toInt := ti_eq_n c65
            refine mp_a (a_goto (t := 142) dX7_gives_111 (by decide)) ?_
            obtain ⟨z101, h102⟩ := ti_ex (v2 + 1 : Int32)
            have wz101 := ti_full z101
            refine mp_a (a_iinc (v := z101) (L' := [(2, .int z101), (0, .ref 301), (1, .int t1)]) dX7_gives_142 (by decide) rfl h102 rfl) (mpp 145 rfl ?_)
            try have e103 : z101.toInt = v2.toInt + 1 := ti_addz h102 rfl rfl (by omega) (by omega)
            refine mp_a (a_goto (t := 63) dX7_gives_145 (by decide)) ?_
            refine MEvP.less (L := [(0, .ref 301), (1, .int t1), (2, .int z101)]) rfl rfl ⟨rfl, rfl, rfl, trivial⟩ ?_
            have i104 : 0 ≤ z101.toInt := by omega
            exact ih _ (by omega) _ P hT hK i104 rfl
        · have c53 : v2.toInt > (fv P 310 z48.toInt.toNat).toInt := ti_le_n c53
          refine mp_a (a_iconst (v := 1) dX7_gives_96 rfl) (mpp 97 rfl ?_)
          refine mp_a (a_goto (t := 101) dX7_gives_97 (by decide)) ?_
          refine mp_a (a_aload_n dX7_gives_101 rfl) (mpp 102 rfl ?_)
          refine mp_a (a_iload_n dX7_gives_102 rfl) (mpp 103 rfl ?_)
          refine mp_a (a_iconst (v := 1) dX7_gives_103 rfl) (mpp 104 rfl ?_)
          obtain ⟨z105, h106⟩ := ti_ex (t1 - 1 : Int32)
          have wz105 := ti_full z105
          refine mp_t (s_isub (v := z105) dX7_gives_104 h106) (mpp 105 rfl ?_)
          try have e107 : z105.toInt = t1.toInt - 1 := ti_subz h106 rfl rfl (by omega) (by omega)
          have p108 : 0 ≤ z105.toInt := by omega
          have p109 : z105.toInt ≤ 7 := by omega
          refine mt_callv (i := 273) (q' := q_206) (As := [.int z105]) (rest := [.int 1]) hT dX7_gives_105 rfl qm_206 (by decide) rfl rl_301 (by decide) rfl (Nat.le_of_ble_eq_true rfl) rfl ⟨rfl, rfl⟩ ⟨Nat.le_of_ble_eq_true rfl, Nat.le_of_ble_eq_true rfl⟩ (EvP.mono (by decide) (c_M_isAbove hT p108 p109 )) (fun r110 P111 g112 => mpp 108 rfl ?_)
          obtain ⟨⟨x113, rfl, g114⟩, e115⟩ := g112
          have e115 := e115.symm
          subst e115
          have wx113 := ti_full x113
          have g114 : 0 ≤ x113.toInt ∧ x113.toInt ≤ 1 := g114
          show MEvP _ none q_201 108 [(0, .ref 301), (1, .int t1), (2, .int v2)] [.int x113, .int 1] _ _ _ _
          refine mp_Tb (t := 114) (j_icmp_eq dX7_gives_108) (by decide) (fun c116 => ?_) (fun c116 => mpp 111 rfl ?_)
          · have c116 : 1 = x113.toInt := ti_eq c116
            refine mp_a (a_aload_n dX7_gives_114 rfl) (mpp 115 rfl ?_)
            refine mt_getU (i := 43) (k := 18) (A := 313) hT dX7_gives_115 rfl rl_301 (by decide) rfl (by decide) rfl un_29 (mpp 118 rfl ?_)
            refine mp_a (a_iload_n dX7_gives_118 rfl) (mpp 119 rfl ?_)
            refine mp_a (a_iconst (v := 1) dX7_gives_119 rfl) (mpp 120 rfl ?_)
            refine mt_bas (n := 7) hT dX7_gives_120 rl_313 (by decide) rfl rfl (by omega) (by omega) rfl (by decide) (fun P117 hT118 f119 f120 => mpp 121 rfl ?_)
            have k121 : KW [1109, 1664, 1728, 1856] Po P117 := KW.step hK rl_313 rfl f120
            refine mp_a (a_aload_n dX7_gives_121 rfl) (mpp 122 rfl ?_)
            refine mt_getU (i := 34) (k := 15) (A := 310) hT118 dX7_gives_122 rfl rl_301 (by decide) rfl (by decide) rfl un_26 (mpp 125 rfl ?_)
            refine mp_a (a_iload_n dX7_gives_125 rfl) (mpp 126 rfl ?_)
            refine mp_a (a_iload_n dX7_gives_126 rfl) (mpp 127 rfl ?_)
            refine mt_ias (n := 7) hT118 dX7_gives_127 rl_310 (by decide) rfl rfl (by omega) (by omega) rfl (ti_full v2) (fun P122 hT123 f124 f125 => mpp 128 rfl ?_)
            have k126 : KW [1109, 1664, 1728, 1856] Po P122 := KW.step k121 rl_310 rfl f125
            refine mp_a (a_aload_n dX7_gives_128 rfl) (mpp 129 rfl ?_)
            refine mp_a (a_iload_n dX7_gives_129 rfl) (mpp 130 rfl ?_)
            refine mp_a (a_iconst (v := 1) dX7_gives_130 rfl) (mpp 131 rfl ?_)
            obtain ⟨z127, h128⟩ := ti_ex (t1 + 1 : Int32)
            have wz127 := ti_full z127
            refine mp_t (s_iadd (v := z127) dX7_gives_131 h128) (mpp 132 rfl ?_)
            try have e129 : z127.toInt = t1.toInt + 1 := ti_addz h128 rfl rfl (by omega) (by omega)
            have e130 : (fv P122 301 20).toInt = (fv P 301 20).toInt := congrArg Int32.toInt ((f125 301 20 (ne_r rl_301 rl_310 rfl)).trans (f120 301 20 (ne_r rl_301 rl_313 rfl)))
            have p131 : 0 ≤ z127.toInt := by omega
            have p132 : (fv P122 301 20).toInt = z127.toInt + 4 := by omega
            have p133 : (fv P122 301 20).toInt ≤ 7 := by omega
            refine mt_callv (i := 276) (q' := q_201) (As := [.int z127]) (rest := []) hT123 dX7_gives_132 rfl qm_201 (by decide) rfl rl_301 (by decide) rfl (Nat.le_of_ble_eq_true rfl) rfl ⟨rfl, rfl⟩ ⟨Nat.le_of_ble_eq_true rfl, Nat.le_of_ble_eq_true rfl⟩ (EvP.mono (by decide) (c_M_gives_r4 hT123 p131 p132 p133 )) (fun r134 P135 g136 => mpp 135 rfl ?_)
            obtain ⟨⟨rfl, g138⟩, hT139, k140, R141⟩ := g136
            have k142 : KW [1109, 1664, 1728, 1856] Po P135 := KW.trans k126 k140 rfl
            show MEvP _ none q_201 135 [(0, .ref 301), (1, .int t1), (2, .int v2)] [] _ _ _ _
            refine mp_a (a_aload_n dX7_gives_135 rfl) (mpp 136 rfl ?_)
            refine mt_getU (i := 43) (k := 18) (A := 313) hT139 dX7_gives_136 rfl rl_301 (by decide) rfl (by decide) rfl un_29 (mpp 139 rfl ?_)
            refine mp_a (a_iload_n dX7_gives_139 rfl) (mpp 140 rfl ?_)
            refine mp_a (a_iconst (v := 0) dX7_gives_140 rfl) (mpp 141 rfl ?_)
            refine mt_bas (n := 7) hT139 dX7_gives_141 rl_313 (by decide) rfl rfl (by omega) (by omega) rfl (by decide) (fun P143 hT144 f145 f146 => mpp 142 rfl ?_)
            have k147 : KW [1109, 1664, 1728, 1856] Po P143 := KW.step k142 rl_313 rfl f146
            obtain ⟨z148, h149⟩ := ti_ex (v2 + 1 : Int32)
            have wz148 := ti_full z148
            refine mp_a (a_iinc (v := z148) (L' := [(2, .int z148), (0, .ref 301), (1, .int t1)]) dX7_gives_142 (by decide) rfl h149 rfl) (mpp 145 rfl ?_)
            try have e150 : z148.toInt = v2.toInt + 1 := ti_addz h149 rfl rfl (by omega) (by omega)
            refine mp_a (a_goto (t := 63) dX7_gives_145 (by decide)) ?_
            refine MEvP.less (L := [(0, .ref 301), (1, .int t1), (2, .int z148)]) rfl rfl ⟨rfl, rfl, rfl, trivial⟩ ?_
            have i151 : 0 ≤ z148.toInt := by omega
            exact ih _ (by omega) _ P143 hT144 k147 i151 rfl
          · have c116 : 1 ≠ x113.toInt := ti_eq_n c116
            refine mp_a (a_goto (t := 142) dX7_gives_111 (by decide)) ?_
            obtain ⟨z152, h153⟩ := ti_ex (v2 + 1 : Int32)
            have wz152 := ti_full z152
            refine mp_a (a_iinc (v := z152) (L' := [(2, .int z152), (0, .ref 301), (1, .int t1)]) dX7_gives_142 (by decide) rfl h153 rfl) (mpp 145 rfl ?_)
            try have e154 : z152.toInt = v2.toInt + 1 := ti_addz h153 rfl rfl (by omega) (by omega)
            refine mp_a (a_goto (t := 63) dX7_gives_145 (by decide)) ?_
            refine MEvP.less (L := [(0, .ref 301), (1, .int t1), (2, .int z152)]) rfl rfl ⟨rfl, rfl, rfl, trivial⟩ ?_
            have i155 : 0 ≤ z152.toInt := by omega
            exact ih _ (by omega) _ P hT hK i155 rfl

set_option maxHeartbeats 4000000 in
theorem c_M_gives_r5 {Po : mP} {t1 : Int32} (hT : Typ Po)  (hp0 : 0 ≤ t1.toInt) (hp1 : (fv Po 301 20).toInt = t1.toInt + 5) (hp2 : (fv Po 301 20).toInt ≤ 7)  : EvP 10 201 [.ref 301, .int t1] Po (fun r P' => (r = none ∧ (True)) ∧ Typ P' ∧ KW [1109, 1664, 1728, 1856] Po P' ∧ True) := by
  refine EvP.of qm_201 (Nat.le_of_ble_eq_true rfl) rfl ?_
  show MEvP _ none q_201 0 [(0, .ref 301), (1, .int t1)] [] _ 0 0 _
  have g1 : (0 : Int) ≤ (fv Po 301 20).toInt ∧ (fv Po 301 20).toInt ≤ 8 := Typ.rng hT rl_301 (by decide) (by decide) rfl
  refine mp_a (a_iload_n dX7_gives_0 rfl) (mpp 1 rfl ?_)
  refine mp_a (a_aload_n dX7_gives_1 rfl) (mpp 2 rfl ?_)
  refine mt_getI (i := 255) (k := 20) hT dX7_gives_2 rfl rl_301 (by decide) rfl (by decide) rfl (fun g2 g3 => mpp 5 rfl ?_)
  refine mp_Tb (t := 61) (j_icmp_ne dX7_gives_5) (by decide) (fun c4 => ?_) (fun c4 => mpp 8 rfl ?_)
  · have c4 : t1.toInt ≠ (fv Po 301 20).toInt := ti_ne c4
    refine mp_a (a_iconst (v := 0) dX7_gives_61 rfl) (mpp 62 rfl ?_)
    refine mp_a (a_istore_n (L' := [(2, .int 0), (0, .ref 301), (1, .int t1)]) dX7_gives_62 (by decide) rfl) (mpp 63 rfl ?_)
    refine MEvP.less (L := [(0, .ref 301), (1, .int t1), (2, .int 0)]) rfl rfl ⟨rfl, rfl, rfl, trivial⟩ ?_
    have i5 : 0 ≤ (0 : Int) := by omega
    exact c_M_gives_r5_l63  hp0 hp1 hp2 _ _ Po hT KW.refl i5 rfl
  · have c4 : t1.toInt = (fv Po 301 20).toInt := ti_ne_n c4
    exfalso
    omega

set_option maxHeartbeats 4000000 in
theorem c_M_gives_r6_l63 {Po : mP} {t1 : Int32} (hp0 : 0 ≤ t1.toInt) (hp1 : (fv Po 301 20).toInt = t1.toInt + 6) (hp2 : (fv Po 301 20).toInt ≤ 7)  : ∀ (n : Nat) (v2 : Int32), ∀ (P : mP), Typ P → KW [1109, 1664, 1728, 1856] Po P → (0 ≤ v2.toInt) → (2147483647 - v2.toInt).toNat = n → MEvP 10 none q_201 63 [(0, .ref 301), (1, .int t1), (2, .int v2)] [] P 0 0 (fun r P' => (r = none ∧ (True)) ∧ Typ P' ∧ KW [1109, 1664, 1728, 1856] Po P' ∧ True) := by
  intro n
  induction n using Nat.strongRecOn with | _ n ih => ?_
  intro v2 P hT hK i_0 hm
  have w_t1 := ti_full t1
  have w_v2 := ti_full v2
  refine mp_a (a_iload_n dX7_gives_63 rfl) (mpp 64 rfl ?_)
  refine mp_a (a_aload_n dX7_gives_64 rfl) (mpp 65 rfl ?_)
  have e1 : (fv P 301 20).toInt = (fv Po 301 20).toInt := congrArg Int32.toInt (KW.at hK 20 rl_301 rfl)
  refine mt_getI (i := 255) (k := 20) hT dX7_gives_65 rfl rl_301 (by decide) rfl (by decide) rfl (fun g2 g3 => mpp 68 rfl ?_)
  refine mp_Tb (t := 148) (j_icmp_ge dX7_gives_68) (by decide) (fun c4 => ?_) (fun c4 => mpp 71 rfl ?_)
  · have c4 : v2.toInt ≥ (fv P 301 20).toInt := ti_ge c4
    exact mp_ret ⟨⟨rfl, trivial⟩, hT, hK, trivial⟩ dX7_gives_148 rfl
  · have c4 : v2.toInt < (fv P 301 20).toInt := ti_ge_n c4
    refine mp_a (a_aload_n dX7_gives_71 rfl) (mpp 72 rfl ?_)
    refine mt_getU (i := 43) (k := 18) (A := 313) hT dX7_gives_72 rfl rl_301 (by decide) rfl (by decide) rfl un_29 (mpp 75 rfl ?_)
    refine mp_a (a_iload_n dX7_gives_75 rfl) (mpp 76 rfl ?_)
    refine mt_bal (n := 7) hT dX7_gives_76 rl_313 (by decide) rfl rfl (by omega) (by omega) rfl (fun g5 g6 => mpp 77 rfl ?_)
    refine mp_Tb (t := 142) (j_if_ne dX7_gives_77) (by decide) (fun c7 => ?_) (fun c7 => mpp 80 rfl ?_)
    · have c7 : (fv P 313 v2.toInt.toNat).toInt ≠ 0 := ti_ne c7
      obtain ⟨z8, h9⟩ := ti_ex (v2 + 1 : Int32)
      have wz8 := ti_full z8
      refine mp_a (a_iinc (v := z8) (L' := [(2, .int z8), (0, .ref 301), (1, .int t1)]) dX7_gives_142 (by decide) rfl h9 rfl) (mpp 145 rfl ?_)
      try have e10 : z8.toInt = v2.toInt + 1 := ti_addz h9 rfl rfl (by omega) (by omega)
      refine mp_a (a_goto (t := 63) dX7_gives_145 (by decide)) ?_
      refine MEvP.less (L := [(0, .ref 301), (1, .int t1), (2, .int z8)]) rfl rfl ⟨rfl, rfl, rfl, trivial⟩ ?_
      have i11 : 0 ≤ z8.toInt := by omega
      exact ih _ (by omega) _ P hT hK i11 rfl
    · have c7 : (fv P 313 v2.toInt.toNat).toInt = 0 := ti_ne_n c7
      refine mp_a (a_iload_n dX7_gives_80 rfl) (mpp 81 rfl ?_)
      refine mp_Tb (t := 114) (j_if_le dX7_gives_81) (by decide) (fun c12 => ?_) (fun c12 => mpp 84 rfl ?_)
      · have c12 : t1.toInt ≤ 0 := ti_le c12
        refine mp_a (a_aload_n dX7_gives_114 rfl) (mpp 115 rfl ?_)
        refine mt_getU (i := 43) (k := 18) (A := 313) hT dX7_gives_115 rfl rl_301 (by decide) rfl (by decide) rfl un_29 (mpp 118 rfl ?_)
        refine mp_a (a_iload_n dX7_gives_118 rfl) (mpp 119 rfl ?_)
        refine mp_a (a_iconst (v := 1) dX7_gives_119 rfl) (mpp 120 rfl ?_)
        refine mt_bas (n := 7) hT dX7_gives_120 rl_313 (by decide) rfl rfl (by omega) (by omega) rfl (by decide) (fun P13 hT14 f15 f16 => mpp 121 rfl ?_)
        have k17 : KW [1109, 1664, 1728, 1856] Po P13 := KW.step hK rl_313 rfl f16
        refine mp_a (a_aload_n dX7_gives_121 rfl) (mpp 122 rfl ?_)
        refine mt_getU (i := 34) (k := 15) (A := 310) hT14 dX7_gives_122 rfl rl_301 (by decide) rfl (by decide) rfl un_26 (mpp 125 rfl ?_)
        refine mp_a (a_iload_n dX7_gives_125 rfl) (mpp 126 rfl ?_)
        refine mp_a (a_iload_n dX7_gives_126 rfl) (mpp 127 rfl ?_)
        refine mt_ias (n := 7) hT14 dX7_gives_127 rl_310 (by decide) rfl rfl (by omega) (by omega) rfl (ti_full v2) (fun P18 hT19 f20 f21 => mpp 128 rfl ?_)
        have k22 : KW [1109, 1664, 1728, 1856] Po P18 := KW.step k17 rl_310 rfl f21
        refine mp_a (a_aload_n dX7_gives_128 rfl) (mpp 129 rfl ?_)
        refine mp_a (a_iload_n dX7_gives_129 rfl) (mpp 130 rfl ?_)
        refine mp_a (a_iconst (v := 1) dX7_gives_130 rfl) (mpp 131 rfl ?_)
        obtain ⟨z23, h24⟩ := ti_ex (t1 + 1 : Int32)
        have wz23 := ti_full z23
        refine mp_t (s_iadd (v := z23) dX7_gives_131 h24) (mpp 132 rfl ?_)
        try have e25 : z23.toInt = t1.toInt + 1 := ti_addz h24 rfl rfl (by omega) (by omega)
        have e26 : (fv P18 301 20).toInt = (fv P 301 20).toInt := congrArg Int32.toInt ((f21 301 20 (ne_r rl_301 rl_310 rfl)).trans (f16 301 20 (ne_r rl_301 rl_313 rfl)))
        have p27 : 0 ≤ z23.toInt := by omega
        have p28 : (fv P18 301 20).toInt = z23.toInt + 5 := by omega
        have p29 : (fv P18 301 20).toInt ≤ 7 := by omega
        refine mt_callv (i := 276) (q' := q_201) (As := [.int z23]) (rest := []) hT19 dX7_gives_132 rfl qm_201 (by decide) rfl rl_301 (by decide) rfl (Nat.le_of_ble_eq_true rfl) rfl ⟨rfl, rfl⟩ ⟨Nat.le_of_ble_eq_true rfl, Nat.le_of_ble_eq_true rfl⟩ (EvP.mono (by decide) (c_M_gives_r5 hT19 p27 p28 p29 )) (fun r30 P31 g32 => mpp 135 rfl ?_)
        obtain ⟨⟨rfl, g34⟩, hT35, k36, R37⟩ := g32
        have k38 : KW [1109, 1664, 1728, 1856] Po P31 := KW.trans k22 k36 rfl
        show MEvP _ none q_201 135 [(0, .ref 301), (1, .int t1), (2, .int v2)] [] _ _ _ _
        refine mp_a (a_aload_n dX7_gives_135 rfl) (mpp 136 rfl ?_)
        refine mt_getU (i := 43) (k := 18) (A := 313) hT35 dX7_gives_136 rfl rl_301 (by decide) rfl (by decide) rfl un_29 (mpp 139 rfl ?_)
        refine mp_a (a_iload_n dX7_gives_139 rfl) (mpp 140 rfl ?_)
        refine mp_a (a_iconst (v := 0) dX7_gives_140 rfl) (mpp 141 rfl ?_)
        refine mt_bas (n := 7) hT35 dX7_gives_141 rl_313 (by decide) rfl rfl (by omega) (by omega) rfl (by decide) (fun P39 hT40 f41 f42 => mpp 142 rfl ?_)
        have k43 : KW [1109, 1664, 1728, 1856] Po P39 := KW.step k38 rl_313 rfl f42
        obtain ⟨z44, h45⟩ := ti_ex (v2 + 1 : Int32)
        have wz44 := ti_full z44
        refine mp_a (a_iinc (v := z44) (L' := [(2, .int z44), (0, .ref 301), (1, .int t1)]) dX7_gives_142 (by decide) rfl h45 rfl) (mpp 145 rfl ?_)
        try have e46 : z44.toInt = v2.toInt + 1 := ti_addz h45 rfl rfl (by omega) (by omega)
        refine mp_a (a_goto (t := 63) dX7_gives_145 (by decide)) ?_
        refine MEvP.less (L := [(0, .ref 301), (1, .int t1), (2, .int z44)]) rfl rfl ⟨rfl, rfl, rfl, trivial⟩ ?_
        have i47 : 0 ≤ z44.toInt := by omega
        exact ih _ (by omega) _ P39 hT40 k43 i47 rfl
      · have c12 : t1.toInt > 0 := ti_le_n c12
        refine mp_a (a_iload_n dX7_gives_84 rfl) (mpp 85 rfl ?_)
        refine mp_a (a_aload_n dX7_gives_85 rfl) (mpp 86 rfl ?_)
        refine mt_getU (i := 34) (k := 15) (A := 310) hT dX7_gives_86 rfl rl_301 (by decide) rfl (by decide) rfl un_26 (mpp 89 rfl ?_)
        refine mp_a (a_iload_n dX7_gives_89 rfl) (mpp 90 rfl ?_)
        refine mp_a (a_iconst (v := 1) dX7_gives_90 rfl) (mpp 91 rfl ?_)
        obtain ⟨z48, h49⟩ := ti_ex (t1 - 1 : Int32)
        have wz48 := ti_full z48
        refine mp_t (s_isub (v := z48) dX7_gives_91 h49) (mpp 92 rfl ?_)
        try have e50 : z48.toInt = t1.toInt - 1 := ti_subz h49 rfl rfl (by omega) (by omega)
        refine mt_ial (n := 7) hT dX7_gives_92 rl_310 (by decide) rfl rfl (by omega) (by omega) rfl (fun g51 g52 => mpp 93 rfl ?_)
        refine mp_Tb (t := 100) (j_icmp_le dX7_gives_93) (by decide) (fun c53 => ?_) (fun c53 => mpp 96 rfl ?_)
        · have c53 : v2.toInt ≤ (fv P 310 z48.toInt.toNat).toInt := ti_le c53
          refine mp_a (a_iconst (v := 0) dX7_gives_100 rfl) (mpp 101 rfl ?_)
          refine mp_a (a_aload_n dX7_gives_101 rfl) (mpp 102 rfl ?_)
          refine mp_a (a_iload_n dX7_gives_102 rfl) (mpp 103 rfl ?_)
          refine mp_a (a_iconst (v := 1) dX7_gives_103 rfl) (mpp 104 rfl ?_)
          obtain ⟨z54, h55⟩ := ti_ex (t1 - 1 : Int32)
          have wz54 := ti_full z54
          refine mp_t (s_isub (v := z54) dX7_gives_104 h55) (mpp 105 rfl ?_)
          try have e56 : z54.toInt = t1.toInt - 1 := ti_subz h55 rfl rfl (by omega) (by omega)
          have p57 : 0 ≤ z54.toInt := by omega
          have p58 : z54.toInt ≤ 7 := by omega
          refine mt_callv (i := 273) (q' := q_206) (As := [.int z54]) (rest := [.int 0]) hT dX7_gives_105 rfl qm_206 (by decide) rfl rl_301 (by decide) rfl (Nat.le_of_ble_eq_true rfl) rfl ⟨rfl, rfl⟩ ⟨Nat.le_of_ble_eq_true rfl, Nat.le_of_ble_eq_true rfl⟩ (EvP.mono (by decide) (c_M_isAbove hT p57 p58 )) (fun r59 P60 g61 => mpp 108 rfl ?_)
          obtain ⟨⟨x62, rfl, g63⟩, e64⟩ := g61
          have e64 := e64.symm
          subst e64
          have wx62 := ti_full x62
          have g63 : 0 ≤ x62.toInt ∧ x62.toInt ≤ 1 := g63
          show MEvP _ none q_201 108 [(0, .ref 301), (1, .int t1), (2, .int v2)] [.int x62, .int 0] _ _ _ _
          refine mp_Tb (t := 114) (j_icmp_eq dX7_gives_108) (by decide) (fun c65 => ?_) (fun c65 => mpp 111 rfl ?_)
          · have c65 : 0 = x62.toInt := ti_eq c65
            refine mp_a (a_aload_n dX7_gives_114 rfl) (mpp 115 rfl ?_)
            refine mt_getU (i := 43) (k := 18) (A := 313) hT dX7_gives_115 rfl rl_301 (by decide) rfl (by decide) rfl un_29 (mpp 118 rfl ?_)
            refine mp_a (a_iload_n dX7_gives_118 rfl) (mpp 119 rfl ?_)
            refine mp_a (a_iconst (v := 1) dX7_gives_119 rfl) (mpp 120 rfl ?_)
            refine mt_bas (n := 7) hT dX7_gives_120 rl_313 (by decide) rfl rfl (by omega) (by omega) rfl (by decide) (fun P66 hT67 f68 f69 => mpp 121 rfl ?_)
            have k70 : KW [1109, 1664, 1728, 1856] Po P66 := KW.step hK rl_313 rfl f69
            refine mp_a (a_aload_n dX7_gives_121 rfl) (mpp 122 rfl ?_)
            refine mt_getU (i := 34) (k := 15) (A := 310) hT67 dX7_gives_122 rfl rl_301 (by decide) rfl (by decide) rfl un_26 (mpp 125 rfl ?_)
            refine mp_a (a_iload_n dX7_gives_125 rfl) (mpp 126 rfl ?_)
            refine mp_a (a_iload_n dX7_gives_126 rfl) (mpp 127 rfl ?_)
            refine mt_ias (n := 7) hT67 dX7_gives_127 rl_310 (by decide) rfl rfl (by omega) (by omega) rfl (ti_full v2) (fun P71 hT72 f73 f74 => mpp 128 rfl ?_)
            have k75 : KW [1109, 1664, 1728, 1856] Po P71 := KW.step k70 rl_310 rfl f74
            refine mp_a (a_aload_n dX7_gives_128 rfl) (mpp 129 rfl ?_)
            refine mp_a (a_iload_n dX7_gives_129 rfl) (mpp 130 rfl ?_)
            refine mp_a (a_iconst (v := 1) dX7_gives_130 rfl) (mpp 131 rfl ?_)
            obtain ⟨z76, h77⟩ := ti_ex (t1 + 1 : Int32)
            have wz76 := ti_full z76
            refine mp_t (s_iadd (v := z76) dX7_gives_131 h77) (mpp 132 rfl ?_)
            try have e78 : z76.toInt = t1.toInt + 1 := ti_addz h77 rfl rfl (by omega) (by omega)
            have e79 : (fv P71 301 20).toInt = (fv P 301 20).toInt := congrArg Int32.toInt ((f74 301 20 (ne_r rl_301 rl_310 rfl)).trans (f69 301 20 (ne_r rl_301 rl_313 rfl)))
            have p80 : 0 ≤ z76.toInt := by omega
            have p81 : (fv P71 301 20).toInt = z76.toInt + 5 := by omega
            have p82 : (fv P71 301 20).toInt ≤ 7 := by omega
            refine mt_callv (i := 276) (q' := q_201) (As := [.int z76]) (rest := []) hT72 dX7_gives_132 rfl qm_201 (by decide) rfl rl_301 (by decide) rfl (Nat.le_of_ble_eq_true rfl) rfl ⟨rfl, rfl⟩ ⟨Nat.le_of_ble_eq_true rfl, Nat.le_of_ble_eq_true rfl⟩ (EvP.mono (by decide) (c_M_gives_r5 hT72 p80 p81 p82 )) (fun r83 P84 g85 => mpp 135 rfl ?_)
            obtain ⟨⟨rfl, g87⟩, hT88, k89, R90⟩ := g85
            have k91 : KW [1109, 1664, 1728, 1856] Po P84 := KW.trans k75 k89 rfl
            show MEvP _ none q_201 135 [(0, .ref 301), (1, .int t1), (2, .int v2)] [] _ _ _ _
            refine mp_a (a_aload_n dX7_gives_135 rfl) (mpp 136 rfl ?_)
            refine mt_getU (i := 43) (k := 18) (A := 313) hT88 dX7_gives_136 rfl rl_301 (by decide) rfl (by decide) rfl un_29 (mpp 139 rfl ?_)
            refine mp_a (a_iload_n dX7_gives_139 rfl) (mpp 140 rfl ?_)
            refine mp_a (a_iconst (v := 0) dX7_gives_140 rfl) (mpp 141 rfl ?_)
            refine mt_bas (n := 7) hT88 dX7_gives_141 rl_313 (by decide) rfl rfl (by omega) (by omega) rfl (by decide) (fun P92 hT93 f94 f95 => mpp 142 rfl ?_)
            have k96 : KW [1109, 1664, 1728, 1856] Po P92 := KW.step k91 rl_313 rfl f95
            obtain ⟨z97, h98⟩ := ti_ex (v2 + 1 : Int32)
            have wz97 := ti_full z97
            refine mp_a (a_iinc (v := z97) (L' := [(2, .int z97), (0, .ref 301), (1, .int t1)]) dX7_gives_142 (by decide) rfl h98 rfl) (mpp 145 rfl ?_)
            try have e99 : z97.toInt = v2.toInt + 1 := ti_addz h98 rfl rfl (by omega) (by omega)
            refine mp_a (a_goto (t := 63) dX7_gives_145 (by decide)) ?_
            refine MEvP.less (L := [(0, .ref 301), (1, .int t1), (2, .int z97)]) rfl rfl ⟨rfl, rfl, rfl, trivial⟩ ?_
            have i100 : 0 ≤ z97.toInt := by omega
            exact ih _ (by omega) _ P92 hT93 k96 i100 rfl
          · have c65 : 0 ≠ x62.toInt := ti_eq_n c65
            refine mp_a (a_goto (t := 142) dX7_gives_111 (by decide)) ?_
            obtain ⟨z101, h102⟩ := ti_ex (v2 + 1 : Int32)
            have wz101 := ti_full z101
            refine mp_a (a_iinc (v := z101) (L' := [(2, .int z101), (0, .ref 301), (1, .int t1)]) dX7_gives_142 (by decide) rfl h102 rfl) (mpp 145 rfl ?_)
            try have e103 : z101.toInt = v2.toInt + 1 := ti_addz h102 rfl rfl (by omega) (by omega)
            refine mp_a (a_goto (t := 63) dX7_gives_145 (by decide)) ?_
            refine MEvP.less (L := [(0, .ref 301), (1, .int t1), (2, .int z101)]) rfl rfl ⟨rfl, rfl, rfl, trivial⟩ ?_
            have i104 : 0 ≤ z101.toInt := by omega
            exact ih _ (by omega) _ P hT hK i104 rfl
        · have c53 : v2.toInt > (fv P 310 z48.toInt.toNat).toInt := ti_le_n c53
          refine mp_a (a_iconst (v := 1) dX7_gives_96 rfl) (mpp 97 rfl ?_)
          refine mp_a (a_goto (t := 101) dX7_gives_97 (by decide)) ?_
          refine mp_a (a_aload_n dX7_gives_101 rfl) (mpp 102 rfl ?_)
          refine mp_a (a_iload_n dX7_gives_102 rfl) (mpp 103 rfl ?_)
          refine mp_a (a_iconst (v := 1) dX7_gives_103 rfl) (mpp 104 rfl ?_)
          obtain ⟨z105, h106⟩ := ti_ex (t1 - 1 : Int32)
          have wz105 := ti_full z105
          refine mp_t (s_isub (v := z105) dX7_gives_104 h106) (mpp 105 rfl ?_)
          try have e107 : z105.toInt = t1.toInt - 1 := ti_subz h106 rfl rfl (by omega) (by omega)
          have p108 : 0 ≤ z105.toInt := by omega
          have p109 : z105.toInt ≤ 7 := by omega
          refine mt_callv (i := 273) (q' := q_206) (As := [.int z105]) (rest := [.int 1]) hT dX7_gives_105 rfl qm_206 (by decide) rfl rl_301 (by decide) rfl (Nat.le_of_ble_eq_true rfl) rfl ⟨rfl, rfl⟩ ⟨Nat.le_of_ble_eq_true rfl, Nat.le_of_ble_eq_true rfl⟩ (EvP.mono (by decide) (c_M_isAbove hT p108 p109 )) (fun r110 P111 g112 => mpp 108 rfl ?_)
          obtain ⟨⟨x113, rfl, g114⟩, e115⟩ := g112
          have e115 := e115.symm
          subst e115
          have wx113 := ti_full x113
          have g114 : 0 ≤ x113.toInt ∧ x113.toInt ≤ 1 := g114
          show MEvP _ none q_201 108 [(0, .ref 301), (1, .int t1), (2, .int v2)] [.int x113, .int 1] _ _ _ _
          refine mp_Tb (t := 114) (j_icmp_eq dX7_gives_108) (by decide) (fun c116 => ?_) (fun c116 => mpp 111 rfl ?_)
          · have c116 : 1 = x113.toInt := ti_eq c116
            refine mp_a (a_aload_n dX7_gives_114 rfl) (mpp 115 rfl ?_)
            refine mt_getU (i := 43) (k := 18) (A := 313) hT dX7_gives_115 rfl rl_301 (by decide) rfl (by decide) rfl un_29 (mpp 118 rfl ?_)
            refine mp_a (a_iload_n dX7_gives_118 rfl) (mpp 119 rfl ?_)
            refine mp_a (a_iconst (v := 1) dX7_gives_119 rfl) (mpp 120 rfl ?_)
            refine mt_bas (n := 7) hT dX7_gives_120 rl_313 (by decide) rfl rfl (by omega) (by omega) rfl (by decide) (fun P117 hT118 f119 f120 => mpp 121 rfl ?_)
            have k121 : KW [1109, 1664, 1728, 1856] Po P117 := KW.step hK rl_313 rfl f120
            refine mp_a (a_aload_n dX7_gives_121 rfl) (mpp 122 rfl ?_)
            refine mt_getU (i := 34) (k := 15) (A := 310) hT118 dX7_gives_122 rfl rl_301 (by decide) rfl (by decide) rfl un_26 (mpp 125 rfl ?_)
            refine mp_a (a_iload_n dX7_gives_125 rfl) (mpp 126 rfl ?_)
            refine mp_a (a_iload_n dX7_gives_126 rfl) (mpp 127 rfl ?_)
            refine mt_ias (n := 7) hT118 dX7_gives_127 rl_310 (by decide) rfl rfl (by omega) (by omega) rfl (ti_full v2) (fun P122 hT123 f124 f125 => mpp 128 rfl ?_)
            have k126 : KW [1109, 1664, 1728, 1856] Po P122 := KW.step k121 rl_310 rfl f125
            refine mp_a (a_aload_n dX7_gives_128 rfl) (mpp 129 rfl ?_)
            refine mp_a (a_iload_n dX7_gives_129 rfl) (mpp 130 rfl ?_)
            refine mp_a (a_iconst (v := 1) dX7_gives_130 rfl) (mpp 131 rfl ?_)
            obtain ⟨z127, h128⟩ := ti_ex (t1 + 1 : Int32)
            have wz127 := ti_full z127
            refine mp_t (s_iadd (v := z127) dX7_gives_131 h128) (mpp 132 rfl ?_)
            try have e129 : z127.toInt = t1.toInt + 1 := ti_addz h128 rfl rfl (by omega) (by omega)
            have e130 : (fv P122 301 20).toInt = (fv P 301 20).toInt := congrArg Int32.toInt ((f125 301 20 (ne_r rl_301 rl_310 rfl)).trans (f120 301 20 (ne_r rl_301 rl_313 rfl)))
            have p131 : 0 ≤ z127.toInt := by omega
            have p132 : (fv P122 301 20).toInt = z127.toInt + 5 := by omega
            have p133 : (fv P122 301 20).toInt ≤ 7 := by omega
            refine mt_callv (i := 276) (q' := q_201) (As := [.int z127]) (rest := []) hT123 dX7_gives_132 rfl qm_201 (by decide) rfl rl_301 (by decide) rfl (Nat.le_of_ble_eq_true rfl) rfl ⟨rfl, rfl⟩ ⟨Nat.le_of_ble_eq_true rfl, Nat.le_of_ble_eq_true rfl⟩ (EvP.mono (by decide) (c_M_gives_r5 hT123 p131 p132 p133 )) (fun r134 P135 g136 => mpp 135 rfl ?_)
            obtain ⟨⟨rfl, g138⟩, hT139, k140, R141⟩ := g136
            have k142 : KW [1109, 1664, 1728, 1856] Po P135 := KW.trans k126 k140 rfl
            show MEvP _ none q_201 135 [(0, .ref 301), (1, .int t1), (2, .int v2)] [] _ _ _ _
            refine mp_a (a_aload_n dX7_gives_135 rfl) (mpp 136 rfl ?_)
            refine mt_getU (i := 43) (k := 18) (A := 313) hT139 dX7_gives_136 rfl rl_301 (by decide) rfl (by decide) rfl un_29 (mpp 139 rfl ?_)
            refine mp_a (a_iload_n dX7_gives_139 rfl) (mpp 140 rfl ?_)
            refine mp_a (a_iconst (v := 0) dX7_gives_140 rfl) (mpp 141 rfl ?_)
            refine mt_bas (n := 7) hT139 dX7_gives_141 rl_313 (by decide) rfl rfl (by omega) (by omega) rfl (by decide) (fun P143 hT144 f145 f146 => mpp 142 rfl ?_)
            have k147 : KW [1109, 1664, 1728, 1856] Po P143 := KW.step k142 rl_313 rfl f146
            obtain ⟨z148, h149⟩ := ti_ex (v2 + 1 : Int32)
            have wz148 := ti_full z148
            refine mp_a (a_iinc (v := z148) (L' := [(2, .int z148), (0, .ref 301), (1, .int t1)]) dX7_gives_142 (by decide) rfl h149 rfl) (mpp 145 rfl ?_)
            try have e150 : z148.toInt = v2.toInt + 1 := ti_addz h149 rfl rfl (by omega) (by omega)
            refine mp_a (a_goto (t := 63) dX7_gives_145 (by decide)) ?_
            refine MEvP.less (L := [(0, .ref 301), (1, .int t1), (2, .int z148)]) rfl rfl ⟨rfl, rfl, rfl, trivial⟩ ?_
            have i151 : 0 ≤ z148.toInt := by omega
            exact ih _ (by omega) _ P143 hT144 k147 i151 rfl
          · have c116 : 1 ≠ x113.toInt := ti_eq_n c116
            refine mp_a (a_goto (t := 142) dX7_gives_111 (by decide)) ?_
            obtain ⟨z152, h153⟩ := ti_ex (v2 + 1 : Int32)
            have wz152 := ti_full z152
            refine mp_a (a_iinc (v := z152) (L' := [(2, .int z152), (0, .ref 301), (1, .int t1)]) dX7_gives_142 (by decide) rfl h153 rfl) (mpp 145 rfl ?_)
            try have e154 : z152.toInt = v2.toInt + 1 := ti_addz h153 rfl rfl (by omega) (by omega)
            refine mp_a (a_goto (t := 63) dX7_gives_145 (by decide)) ?_
            refine MEvP.less (L := [(0, .ref 301), (1, .int t1), (2, .int z152)]) rfl rfl ⟨rfl, rfl, rfl, trivial⟩ ?_
            have i155 : 0 ≤ z152.toInt := by omega
            exact ih _ (by omega) _ P hT hK i155 rfl

set_option maxHeartbeats 4000000 in
theorem c_M_gives_r6 {Po : mP} {t1 : Int32} (hT : Typ Po)  (hp0 : 0 ≤ t1.toInt) (hp1 : (fv Po 301 20).toInt = t1.toInt + 6) (hp2 : (fv Po 301 20).toInt ≤ 7)  : EvP 11 201 [.ref 301, .int t1] Po (fun r P' => (r = none ∧ (True)) ∧ Typ P' ∧ KW [1109, 1664, 1728, 1856] Po P' ∧ True) := by
  refine EvP.of qm_201 (Nat.le_of_ble_eq_true rfl) rfl ?_
  show MEvP _ none q_201 0 [(0, .ref 301), (1, .int t1)] [] _ 0 0 _
  have g1 : (0 : Int) ≤ (fv Po 301 20).toInt ∧ (fv Po 301 20).toInt ≤ 8 := Typ.rng hT rl_301 (by decide) (by decide) rfl
  refine mp_a (a_iload_n dX7_gives_0 rfl) (mpp 1 rfl ?_)
  refine mp_a (a_aload_n dX7_gives_1 rfl) (mpp 2 rfl ?_)
  refine mt_getI (i := 255) (k := 20) hT dX7_gives_2 rfl rl_301 (by decide) rfl (by decide) rfl (fun g2 g3 => mpp 5 rfl ?_)
  refine mp_Tb (t := 61) (j_icmp_ne dX7_gives_5) (by decide) (fun c4 => ?_) (fun c4 => mpp 8 rfl ?_)
  · have c4 : t1.toInt ≠ (fv Po 301 20).toInt := ti_ne c4
    refine mp_a (a_iconst (v := 0) dX7_gives_61 rfl) (mpp 62 rfl ?_)
    refine mp_a (a_istore_n (L' := [(2, .int 0), (0, .ref 301), (1, .int t1)]) dX7_gives_62 (by decide) rfl) (mpp 63 rfl ?_)
    refine MEvP.less (L := [(0, .ref 301), (1, .int t1), (2, .int 0)]) rfl rfl ⟨rfl, rfl, rfl, trivial⟩ ?_
    have i5 : 0 ≤ (0 : Int) := by omega
    exact c_M_gives_r6_l63  hp0 hp1 hp2 _ _ Po hT KW.refl i5 rfl
  · have c4 : t1.toInt = (fv Po 301 20).toInt := ti_ne_n c4
    exfalso
    omega

