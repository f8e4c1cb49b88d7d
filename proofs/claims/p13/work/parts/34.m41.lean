/-! methods on typed pools, 41 (written by a program) -/
set_option maxHeartbeats 4000000 in
theorem c_M_gives_r6_l63 {Po : mP} {t1 : Int32} (hp0 : 0 ≤ t1.toInt) (hp1 : (fv Po 301 20).toInt = t1.toInt + 6) (hp2 : (fv Po 301 20).toInt ≤ 7)  : ∀ (n : Nat) (v2 : Int32), ∀ (P : mP), Typ P → KW [1109, 1664, 1728, 1856] Po P → (0 ≤ v2.toInt) → (2147483647 - v2.toInt).toNat = n → MEvP 10 none q_201 63 [(0, .ref 301), (1, .int t1), (2, .int v2)] [] P 0 0 (fun r P' => (r = none ∧ (True)) ∧ Typ P' ∧ KW [1109, 1664, 1728, 1856] Po P' ∧ True) := by
  intro n
  induction n using Nat.strongRecOn with | _ n ih => ?_
  intro v2 P hT hK i_0 hm
  have w_t1 := ti_full t1
  have w_v2 := ti_full v2
  refine mp_a (a_iload_n dX7_gives_63 rfl) (mpp 64 rfl ?_)
  refine mp_a (a_aload_n dX7_gives_64 rfl) (mpp 65 rfl ?_)
  have e1 : (fv P 301 20).toInt = (fv Po 301 20).toInt := congrArg Int32.toInt (KW.at hK 20 rl_301 rfl)
  refine mt_getI (i := 255) (k := 20) hT dX7_gives_65 rfl rl_301 (by decide) rfl (by decide) rfl (fun g2 g3 => mpp 68 rfl ?_)
  refine mp_Tb (t := 148) (j_icmp_ge dX7_gives_68) (by decide) (fun c4 => ?_) (fun c4 => mpp 71 rfl ?_)
  · have c4 : v2.toInt ≥ (fv P 301 20).toInt := ti_ge c4
    exact mp_ret ⟨⟨rfl, trivial⟩, hT, hK, trivial⟩ dX7_gives_148 rfl
  · have c4 : v2.toInt < (fv P 301 20).toInt := ti_ge_n c4
    refine mp_a (a_aload_n dX7_gives_71 rfl) (mpp 72 rfl ?_)
    refine mt_getU (i := 43) (k := 18) (A := 313) hT dX7_gives_72 rfl rl_301 (by decide) rfl (by decide) rfl un_29 (mpp 75 rfl ?_)
    refine mp_a (a_iload_n dX7_gives_75 rfl) (mpp 76 rfl ?_)
    refine mt_bal (n := 7) hT dX7_gives_76 rl_313 (by decide) rfl rfl (by omega) (by omega) rfl (fun g5 g6 => mpp 77 rfl ?_)
    refine mp_Tb (t := 142) (j_if_ne dX7_gives_77) (by decide) (fun c7 => ?_) (fun c7 => mpp 80 rfl ?_)
    · have c7 : (fv P 313 v2.toInt.toNat).toInt ≠ 0 := ti_ne c7
      obtain ⟨z8, h9⟩ := ti_ex (v2 + 1 : Int32)
      have wz8 := ti_full z8
      refine mp_a (a_iinc (v := z8) (L' := [(2, .int z8), (0, .ref 301), (1, .int t1)]) dX7_gives_142 (by decide) rfl h9 rfl) (mpp 145 rfl ?_)
      try have e10 : z8.toInt = v2.toInt + 1 := ti_addz h9 rfl rfl (by omega) (by omega)
      refine mp_a (a_goto (t := 63) dX7_gives_145 (by decide)) ?_
      refine MEvP.less (L := [(0, .ref 301), (1, .int t1), (2, .int z8)]) rfl rfl ⟨rfl, rfl, rfl, trivial⟩ ?_
      have i11 : 0 ≤ z8.toInt := by omega
      exact ih _ (by omega) _ P hT hK i11 rfl
    · have c7 : (fv P 313 v2.toInt.toNat).toInt = 0 := ti_ne_n c7
      refine mp_a (a_iload_n dX7_gives_80 rfl) (mpp 81 rfl ?_)
      refine mp_Tb (t := 114) (j_if_le dX7_gives_81) (by decide) (fun c12 => ?_) (fun c12 => mpp 84 rfl ?_)
      · have c12 : t1.toInt ≤ 0 := ti_le c12
        refine mp_a (a_aload_n dX7_gives_114 rfl) (mpp 115 rfl ?_)
        refine mt_getU (i := 43) (k := 18) (A := 313) hT dX7_gives_115 rfl rl_301 (by decide) rfl (by decide) rfl un_29 (mpp 118 rfl ?_)
        refine mp_a (a_iload_n dX7_gives_118 rfl) (mpp 119 rfl ?_)
        refine mp_a (a_iconst (v := 1) dX7_gives_119 rfl) (mpp 120 rfl ?_)
        refine mt_bas (n := 7) hT dX7_gives_120 rl_313 (by decide) rfl rfl (by omega) (by omega) rfl (by decide) (fun P13 hT14 f15 f16 f17 => mpp 121 rfl ?_)
        have k18 : KW [1109, 1664, 1728, 1856] Po P13 := KW.step hK rl_313 rfl f16 f17
        refine mp_a (a_aload_n dX7_gives_121 rfl) (mpp 122 rfl ?_)
        refine mt_getU (i := 34) (k := 15) (A := 310) hT14 dX7_gives_122 rfl rl_301 (by decide) rfl (by decide) rfl un_26 (mpp 125 rfl ?_)
        refine mp_a (a_iload_n dX7_gives_125 rfl) (mpp 126 rfl ?_)
        refine mp_a (a_iload_n dX7_gives_126 rfl) (mpp 127 rfl ?_)
        refine mt_ias (n := 7) hT14 dX7_gives_127 rl_310 (by decide) rfl rfl (by omega) (by omega) rfl (ti_full v2) (fun P19 hT20 f21 f22 f23 => mpp 128 rfl ?_)
        have k24 : KW [1109, 1664, 1728, 1856] Po P19 := KW.step k18 rl_310 rfl f22 f23
        refine mp_a (a_aload_n dX7_gives_128 rfl) (mpp 129 rfl ?_)
        refine mp_a (a_iload_n dX7_gives_129 rfl) (mpp 130 rfl ?_)
        refine mp_a (a_iconst (v := 1) dX7_gives_130 rfl) (mpp 131 rfl ?_)
        obtain ⟨z25, h26⟩ := ti_ex (t1 + 1 : Int32)
        have wz25 := ti_full z25
        refine mp_t (s_iadd (v := z25) dX7_gives_131 h26) (mpp 132 rfl ?_)
        try have e27 : z25.toInt = t1.toInt + 1 := ti_addz h26 rfl rfl (by omega) (by omega)
        have e28 : (fv P19 301 20).toInt = (fv P 301 20).toInt := congrArg Int32.toInt ((f22 301 20 (ne_r rl_301 rl_310 rfl)).trans (f16 301 20 (ne_r rl_301 rl_313 rfl)))
        have p29 : 0 ≤ z25.toInt := by omega
        have p30 : (fv P19 301 20).toInt = z25.toInt + 5 := by omega
        have p31 : (fv P19 301 20).toInt ≤ 7 := by omega
        refine mt_callv (i := 276) (q' := q_201) (As := [.int z25]) (rest := []) hT20 dX7_gives_132 rfl qm_201 (by decide) rfl rl_301 (by decide) rfl (Nat.le_of_ble_eq_true rfl) rfl ⟨rfl, rfl⟩ ⟨Nat.le_of_ble_eq_true rfl, Nat.le_of_ble_eq_true rfl⟩ (EvP.mono (by decide) (c_M_gives_r5 hT20 p29 p30 p31 )) (fun r32 P33 g34 => mpp 135 rfl ?_)
        obtain ⟨⟨rfl, g36⟩, hT37, k38, R39⟩ := g34
        have k40 : KW [1109, 1664, 1728, 1856] Po P33 := KW.trans k24 k38 rfl
        show MEvP _ none q_201 135 [(0, .ref 301), (1, .int t1), (2, .int v2)] [] _ _ _ _
        refine mp_a (a_aload_n dX7_gives_135 rfl) (mpp 136 rfl ?_)
        refine mt_getU (i := 43) (k := 18) (A := 313) hT37 dX7_gives_136 rfl rl_301 (by decide) rfl (by decide) rfl un_29 (mpp 139 rfl ?_)
        refine mp_a (a_iload_n dX7_gives_139 rfl) (mpp 140 rfl ?_)
        refine mp_a (a_iconst (v := 0) dX7_gives_140 rfl) (mpp 141 rfl ?_)
        refine mt_bas (n := 7) hT37 dX7_gives_141 rl_313 (by decide) rfl rfl (by omega) (by omega) rfl (by decide) (fun P42 hT43 f44 f45 f46 => mpp 142 rfl ?_)
        have k47 : KW [1109, 1664, 1728, 1856] Po P42 := KW.step k40 rl_313 rfl f45 f46
        obtain ⟨z48, h49⟩ := ti_ex (v2 + 1 : Int32)
        have wz48 := ti_full z48
        refine mp_a (a_iinc (v := z48) (L' := [(2, .int z48), (0, .ref 301), (1, .int t1)]) dX7_gives_142 (by decide) rfl h49 rfl) (mpp 145 rfl ?_)
        try have e50 : z48.toInt = v2.toInt + 1 := ti_addz h49 rfl rfl (by omega) (by omega)
        refine mp_a (a_goto (t := 63) dX7_gives_145 (by decide)) ?_
        refine MEvP.less (L := [(0, .ref 301), (1, .int t1), (2, .int z48)]) rfl rfl ⟨rfl, rfl, rfl, trivial⟩ ?_
        have i51 : 0 ≤ z48.toInt := by omega
        exact ih _ (by omega) _ P42 hT43 k47 i51 rfl
      · have c12 : t1.toInt > 0 := ti_le_n c12
        refine mp_a (a_iload_n dX7_gives_84 rfl) (mpp 85 rfl ?_)
        refine mp_a (a_aload_n dX7_gives_85 rfl) (mpp 86 rfl ?_)
        refine mt_getU (i := 34) (k := 15) (A := 310) hT dX7_gives_86 rfl rl_301 (by decide) rfl (by decide) rfl un_26 (mpp 89 rfl ?_)
        refine mp_a (a_iload_n dX7_gives_89 rfl) (mpp 90 rfl ?_)
        refine mp_a (a_iconst (v := 1) dX7_gives_90 rfl) (mpp 91 rfl ?_)
        obtain ⟨z52, h53⟩ := ti_ex (t1 - 1 : Int32)
        have wz52 := ti_full z52
        refine mp_t (s_isub (v := z52) dX7_gives_91 h53) (mpp 92 rfl ?_)
        try have e54 : z52.toInt = t1.toInt - 1 := ti_subz h53 rfl rfl (by omega) (by omega)
        refine mt_ial (n := 7) hT dX7_gives_92 rl_310 (by decide) rfl rfl (by omega) (by omega) rfl (fun g55 g56 => mpp 93 rfl ?_)
        refine mp_Tb (t := 100) (j_icmp_le dX7_gives_93) (by decide) (fun c57 => ?_) (fun c57 => mpp 96 rfl ?_)
        · have c57 : v2.toInt ≤ (fv P 310 z52.toInt.toNat).toInt := ti_le c57
          refine mp_a (a_iconst (v := 0) dX7_gives_100 rfl) (mpp 101 rfl ?_)
          refine mp_a (a_aload_n dX7_gives_101 rfl) (mpp 102 rfl ?_)
          refine mp_a (a_iload_n dX7_gives_102 rfl) (mpp 103 rfl ?_)
          refine mp_a (a_iconst (v := 1) dX7_gives_103 rfl) (mpp 104 rfl ?_)
          obtain ⟨z58, h59⟩ := ti_ex (t1 - 1 : Int32)
          have wz58 := ti_full z58
          refine mp_t (s_isub (v := z58) dX7_gives_104 h59) (mpp 105 rfl ?_)
          try have e60 : z58.toInt = t1.toInt - 1 := ti_subz h59 rfl rfl (by omega) (by omega)
          have p61 : 0 ≤ z58.toInt := by omega
          have p62 : z58.toInt ≤ 7 := by omega
          refine mt_callv (i := 273) (q' := q_206) (As := [.int z58]) (rest := [.int 0]) hT dX7_gives_105 rfl qm_206 (by decide) rfl rl_301 (by decide) rfl (Nat.le_of_ble_eq_true rfl) rfl ⟨rfl, rfl⟩ ⟨Nat.le_of_ble_eq_true rfl, Nat.le_of_ble_eq_true rfl⟩ (EvP.mono (by decide) (c_M_isAbove hT p61 p62 )) (fun r63 P64 g65 => mpp 108 rfl ?_)
          obtain ⟨⟨x66, rfl, g67⟩, e68⟩ := g65
          have e68 := e68.symm
          subst e68
          have wx66 := ti_full x66
          replace g67 : 0 ≤ x66.toInt ∧ x66.toInt ≤ 1 := g67
          show MEvP _ none q_201 108 [(0, .ref 301), (1, .int t1), (2, .int v2)] [.int x66, .int 0] _ _ _ _
          refine mp_Tb (t := 114) (j_icmp_eq dX7_gives_108) (by decide) (fun c69 => ?_) (fun c69 => mpp 111 rfl ?_)
          · have c69 : 0 = x66.toInt := ti_eq c69
            refine mp_a (a_aload_n dX7_gives_114 rfl) (mpp 115 rfl ?_)
            refine mt_getU (i := 43) (k := 18) (A := 313) hT dX7_gives_115 rfl rl_301 (by decide) rfl (by decide) rfl un_29 (mpp 118 rfl ?_)
            refine mp_a (a_iload_n dX7_gives_118 rfl) (mpp 119 rfl ?_)
            refine mp_a (a_iconst (v := 1) dX7_gives_119 rfl) (mpp 120 rfl ?_)
            refine mt_bas (n := 7) hT dX7_gives_120 rl_313 (by decide) rfl rfl (by omega) (by omega) rfl (by decide) (fun P70 hT71 f72 f73 f74 => mpp 121 rfl ?_)
            have k75 : KW [1109, 1664, 1728, 1856] Po P70 := KW.step hK rl_313 rfl f73 f74
            refine mp_a (a_aload_n dX7_gives_121 rfl) (mpp 122 rfl ?_)
            refine mt_getU (i := 34) (k := 15) (A := 310) hT71 dX7_gives_122 rfl rl_301 (by decide) rfl (by decide) rfl un_26 (mpp 125 rfl ?_)
            refine mp_a (a_iload_n dX7_gives_125 rfl) (mpp 126 rfl ?_)
            refine mp_a (a_iload_n dX7_gives_126 rfl) (mpp 127 rfl ?_)
            refine mt_ias (n := 7) hT71 dX7_gives_127 rl_310 (by decide) rfl rfl (by omega) (by omega) rfl (ti_full v2) (fun P76 hT77 f78 f79 f80 => mpp 128 rfl ?_)
            have k81 : KW [1109, 1664, 1728, 1856] Po P76 := KW.step k75 rl_310 rfl f79 f80
            refine mp_a (a_aload_n dX7_gives_128 rfl) (mpp 129 rfl ?_)
            refine mp_a (a_iload_n dX7_gives_129 rfl) (mpp 130 rfl ?_)
            refine mp_a (a_iconst (v := 1) dX7_gives_130 rfl) (mpp 131 rfl ?_)
            obtain ⟨z82, h83⟩ := ti_ex (t1 + 1 : Int32)
            have wz82 := ti_full z82
            refine mp_t (s_iadd (v := z82) dX7_gives_131 h83) (mpp 132 rfl ?_)
            try have e84 : z82.toInt = t1.toInt + 1 := ti_addz h83 rfl rfl (by omega) (by omega)
            have e85 : (fv P76 301 20).toInt = (fv P 301 20).toInt := congrArg Int32.toInt ((f79 301 20 (ne_r rl_301 rl_310 rfl)).trans (f73 301 20 (ne_r rl_301 rl_313 rfl)))
            have p86 : 0 ≤ z82.toInt := by omega
            have p87 : (fv P76 301 20).toInt = z82.toInt + 5 := by omega
            have p88 : (fv P76 301 20).toInt ≤ 7 := by omega
            refine mt_callv (i := 276) (q' := q_201) (As := [.int z82]) (rest := []) hT77 dX7_gives_132 rfl qm_201 (by decide) rfl rl_301 (by decide) rfl (Nat.le_of_ble_eq_true rfl) rfl ⟨rfl, rfl⟩ ⟨Nat.le_of_ble_eq_true rfl, Nat.le_of_ble_eq_true rfl⟩ (EvP.mono (by decide) (c_M_gives_r5 hT77 p86 p87 p88 )) (fun r89 P90 g91 => mpp 135 rfl ?_)
            obtain ⟨⟨rfl, g93⟩, hT94, k95, R96⟩ := g91
            have k97 : KW [1109, 1664, 1728, 1856] Po P90 := KW.trans k81 k95 rfl
            show MEvP _ none q_201 135 [(0, .ref 301), (1, .int t1), (2, .int v2)] [] _ _ _ _
            refine mp_a (a_aload_n dX7_gives_135 rfl) (mpp 136 rfl ?_)
            refine mt_getU (i := 43) (k := 18) (A := 313) hT94 dX7_gives_136 rfl rl_301 (by decide) rfl (by decide) rfl un_29 (mpp 139 rfl ?_)
            refine mp_a (a_iload_n dX7_gives_139 rfl) (mpp 140 rfl ?_)
            refine mp_a (a_iconst (v := 0) dX7_gives_140 rfl) (mpp 141 rfl ?_)
            refine mt_bas (n := 7) hT94 dX7_gives_141 rl_313 (by decide) rfl rfl (by omega) (by omega) rfl (by decide) (fun P99 hT100 f101 f102 f103 => mpp 142 rfl ?_)
            have k104 : KW [1109, 1664, 1728, 1856] Po P99 := KW.step k97 rl_313 rfl f102 f103
            obtain ⟨z105, h106⟩ := ti_ex (v2 + 1 : Int32)
            have wz105 := ti_full z105
            refine mp_a (a_iinc (v := z105) (L' := [(2, .int z105), (0, .ref 301), (1, .int t1)]) dX7_gives_142 (by decide) rfl h106 rfl) (mpp 145 rfl ?_)
            try have e107 : z105.toInt = v2.toInt + 1 := ti_addz h106 rfl rfl (by omega) (by omega)
            refine mp_a (a_goto (t := 63) dX7_gives_145 (by decide)) ?_
            refine MEvP.less (L := [(0, .ref 301), (1, .int t1), (2, .int z105)]) rfl rfl ⟨rfl, rfl, rfl, trivial⟩ ?_
            have i108 : 0 ≤ z105.toInt := by omega
            exact ih _ (by omega) _ P99 hT100 k104 i108 rfl
          · have c69 : 0 ≠ x66.toInt := ti_eq_n c69
            refine mp_a (a_goto (t := 142) dX7_gives_111 (by decide)) ?_
            obtain ⟨z109, h110⟩ := ti_ex (v2 + 1 : Int32)
            have wz109 := ti_full z109
            refine mp_a (a_iinc (v := z109) (L' := [(2, .int z109), (0, .ref 301), (1, .int t1)]) dX7_gives_142 (by decide) rfl h110 rfl) (mpp 145 rfl ?_)
            try have e111 : z109.toInt = v2.toInt + 1 := ti_addz h110 rfl rfl (by omega) (by omega)
            refine mp_a (a_goto (t := 63) dX7_gives_145 (by decide)) ?_
            refine MEvP.less (L := [(0, .ref 301), (1, .int t1), (2, .int z109)]) rfl rfl ⟨rfl, rfl, rfl, trivial⟩ ?_
            have i112 : 0 ≤ z109.toInt := by omega
            exact ih _ (by omega) _ P hT hK i112 rfl
        · have c57 : v2.toInt > (fv P 310 z52.toInt.toNat).toInt := ti_le_n c57
          refine mp_a (a_iconst (v := 1) dX7_gives_96 rfl) (mpp 97 rfl ?_)
          refine mp_a (a_goto (t := 101) dX7_gives_97 (by decide)) ?_
          refine mp_a (a_aload_n dX7_gives_101 rfl) (mpp 102 rfl ?_)
          refine mp_a (a_iload_n dX7_gives_102 rfl) (mpp 103 rfl ?_)
          refine mp_a (a_iconst (v := 1) dX7_gives_103 rfl) (mpp 104 rfl ?_)
          obtain ⟨z113, h114⟩ := ti_ex (t1 - 1 : Int32)
          have wz113 := ti_full z113
          refine mp_t (s_isub (v := z113) dX7_gives_104 h114) (mpp 105 rfl ?_)
          try have e115 : z113.toInt = t1.toInt - 1 := ti_subz h114 rfl rfl (by omega) (by omega)
          have p116 : 0 ≤ z113.toInt := by omega
          have p117 : z113.toInt ≤ 7 := by omega
          refine mt_callv (i := 273) (q' := q_206) (As := [.int z113]) (rest := [.int 1]) hT dX7_gives_105 rfl qm_206 (by decide) rfl rl_301 (by decide) rfl (Nat.le_of_ble_eq_true rfl) rfl ⟨rfl, rfl⟩ ⟨Nat.le_of_ble_eq_true rfl, Nat.le_of_ble_eq_true rfl⟩ (EvP.mono (by decide) (c_M_isAbove hT p116 p117 )) (fun r118 P119 g120 => mpp 108 rfl ?_)
          obtain ⟨⟨x121, rfl, g122⟩, e123⟩ := g120
          have e123 := e123.symm
          subst e123
          have wx121 := ti_full x121
          replace g122 : 0 ≤ x121.toInt ∧ x121.toInt ≤ 1 := g122
          show MEvP _ none q_201 108 [(0, .ref 301), (1, .int t1), (2, .int v2)] [.int x121, .int 1] _ _ _ _
          refine mp_Tb (t := 114) (j_icmp_eq dX7_gives_108) (by decide) (fun c124 => ?_) (fun c124 => mpp 111 rfl ?_)
          · have c124 : 1 = x121.toInt := ti_eq c124
            refine mp_a (a_aload_n dX7_gives_114 rfl) (mpp 115 rfl ?_)
            refine mt_getU (i := 43) (k := 18) (A := 313) hT dX7_gives_115 rfl rl_301 (by decide) rfl (by decide) rfl un_29 (mpp 118 rfl ?_)
            refine mp_a (a_iload_n dX7_gives_118 rfl) (mpp 119 rfl ?_)
            refine mp_a (a_iconst (v := 1) dX7_gives_119 rfl) (mpp 120 rfl ?_)
            refine mt_bas (n := 7) hT dX7_gives_120 rl_313 (by decide) rfl rfl (by omega) (by omega) rfl (by decide) (fun P125 hT126 f127 f128 f129 => mpp 121 rfl ?_)
            have k130 : KW [1109, 1664, 1728, 1856] Po P125 := KW.step hK rl_313 rfl f128 f129
            refine mp_a (a_aload_n dX7_gives_121 rfl) (mpp 122 rfl ?_)
            refine mt_getU (i := 34) (k := 15) (A := 310) hT126 dX7_gives_122 rfl rl_301 (by decide) rfl (by decide) rfl un_26 (mpp 125 rfl ?_)
            refine mp_a (a_iload_n dX7_gives_125 rfl) (mpp 126 rfl ?_)
            refine mp_a (a_iload_n dX7_gives_126 rfl) (mpp 127 rfl ?_)
            refine mt_ias (n := 7) hT126 dX7_gives_127 rl_310 (by decide) rfl rfl (by omega) (by omega) rfl (ti_full v2) (fun P131 hT132 f133 f134 f135 => mpp 128 rfl ?_)
            have k136 : KW [1109, 1664, 1728, 1856] Po P131 := KW.step k130 rl_310 rfl f134 f135
            refine mp_a (a_aload_n dX7_gives_128 rfl) (mpp 129 rfl ?_)
            refine mp_a (a_iload_n dX7_gives_129 rfl) (mpp 130 rfl ?_)
            refine mp_a (a_iconst (v := 1) dX7_gives_130 rfl) (mpp 131 rfl ?_)
            obtain ⟨z137, h138⟩ := ti_ex (t1 + 1 : Int32)
            have wz137 := ti_full z137
            refine mp_t (s_iadd (v := z137) dX7_gives_131 h138) (mpp 132 rfl ?_)
            try have e139 : z137.toInt = t1.toInt + 1 := ti_addz h138 rfl rfl (by omega) (by omega)
            have e140 : (fv P131 301 20).toInt = (fv P 301 20).toInt := congrArg Int32.toInt ((f134 301 20 (ne_r rl_301 rl_310 rfl)).trans (f128 301 20 (ne_r rl_301 rl_313 rfl)))
            have p141 : 0 ≤ z137.toInt := by omega
            have p142 : (fv P131 301 20).toInt = z137.toInt + 5 := by omega
            have p143 : (fv P131 301 20).toInt ≤ 7 := by omega
            refine mt_callv (i := 276) (q' := q_201) (As := [.int z137]) (rest := []) hT132 dX7_gives_132 rfl qm_201 (by decide) rfl rl_301 (by decide) rfl (Nat.le_of_ble_eq_true rfl) rfl ⟨rfl, rfl⟩ ⟨Nat.le_of_ble_eq_true rfl, Nat.le_of_ble_eq_true rfl⟩ (EvP.mono (by decide) (c_M_gives_r5 hT132 p141 p142 p143 )) (fun r144 P145 g146 => mpp 135 rfl ?_)
            obtain ⟨⟨rfl, g148⟩, hT149, k150, R151⟩ := g146
            have k152 : KW [1109, 1664, 1728, 1856] Po P145 := KW.trans k136 k150 rfl
            show MEvP _ none q_201 135 [(0, .ref 301), (1, .int t1), (2, .int v2)] [] _ _ _ _
            refine mp_a (a_aload_n dX7_gives_135 rfl) (mpp 136 rfl ?_)
            refine mt_getU (i := 43) (k := 18) (A := 313) hT149 dX7_gives_136 rfl rl_301 (by decide) rfl (by decide) rfl un_29 (mpp 139 rfl ?_)
            refine mp_a (a_iload_n dX7_gives_139 rfl) (mpp 140 rfl ?_)
            refine mp_a (a_iconst (v := 0) dX7_gives_140 rfl) (mpp 141 rfl ?_)
            refine mt_bas (n := 7) hT149 dX7_gives_141 rl_313 (by decide) rfl rfl (by omega) (by omega) rfl (by decide) (fun P154 hT155 f156 f157 f158 => mpp 142 rfl ?_)
            have k159 : KW [1109, 1664, 1728, 1856] Po P154 := KW.step k152 rl_313 rfl f157 f158
            obtain ⟨z160, h161⟩ := ti_ex (v2 + 1 : Int32)
            have wz160 := ti_full z160
            refine mp_a (a_iinc (v := z160) (L' := [(2, .int z160), (0, .ref 301), (1, .int t1)]) dX7_gives_142 (by decide) rfl h161 rfl) (mpp 145 rfl ?_)
            try have e162 : z160.toInt = v2.toInt + 1 := ti_addz h161 rfl rfl (by omega) (by omega)
            refine mp_a (a_goto (t := 63) dX7_gives_145 (by decide)) ?_
            refine MEvP.less (L := [(0, .ref 301), (1, .int t1), (2, .int z160)]) rfl rfl ⟨rfl, rfl, rfl, trivial⟩ ?_
            have i163 : 0 ≤ z160.toInt := by omega
            exact ih _ (by omega) _ P154 hT155 k159 i163 rfl
          · have c124 : 1 ≠ x121.toInt := ti_eq_n c124
            refine mp_a (a_goto (t := 142) dX7_gives_111 (by decide)) ?_
            obtain ⟨z164, h165⟩ := ti_ex (v2 + 1 : Int32)
            have wz164 := ti_full z164
            refine mp_a (a_iinc (v := z164) (L' := [(2, .int z164), (0, .ref 301), (1, .int t1)]) dX7_gives_142 (by decide) rfl h165 rfl) (mpp 145 rfl ?_)
            try have e166 : z164.toInt = v2.toInt + 1 := ti_addz h165 rfl rfl (by omega) (by omega)
            refine mp_a (a_goto (t := 63) dX7_gives_145 (by decide)) ?_
            refine MEvP.less (L := [(0, .ref 301), (1, .int t1), (2, .int z164)]) rfl rfl ⟨rfl, rfl, rfl, trivial⟩ ?_
            have i167 : 0 ≤ z164.toInt := by omega
            exact ih _ (by omega) _ P hT hK i167 rfl

set_option maxHeartbeats 4000000 in
theorem c_M_gives_r6 {Po : mP} {t1 : Int32} (hT : Typ Po)  (hp0 : 0 ≤ t1.toInt) (hp1 : (fv Po 301 20).toInt = t1.toInt + 6) (hp2 : (fv Po 301 20).toInt ≤ 7)  : EvP 11 201 [.ref 301, .int t1] Po (fun r P' => (r = none ∧ (True)) ∧ Typ P' ∧ KW [1109, 1664, 1728, 1856] Po P' ∧ True) := by
  refine EvP.of qm_201 (Nat.le_of_ble_eq_true rfl) rfl ?_
  show MEvP _ none q_201 0 [(0, .ref 301), (1, .int t1)] [] _ 0 0 _
  have w_t1 := ti_full t1
  have g1 : (0 : Int) ≤ (fv Po 301 20).toInt ∧ (fv Po 301 20).toInt ≤ 8 := Typ.rng hT rl_301 (by decide) (by decide) rfl
  refine mp_a (a_iload_n dX7_gives_0 rfl) (mpp 1 rfl ?_)
  refine mp_a (a_aload_n dX7_gives_1 rfl) (mpp 2 rfl ?_)
  refine mt_getI (i := 255) (k := 20) hT dX7_gives_2 rfl rl_301 (by decide) rfl (by decide) rfl (fun g2 g3 => mpp 5 rfl ?_)
  refine mp_Tb (t := 61) (j_icmp_ne dX7_gives_5) (by decide) (fun c4 => ?_) (fun c4 => mpp 8 rfl ?_)
  · have c4 : t1.toInt ≠ (fv Po 301 20).toInt := ti_ne c4
    refine mp_a (a_iconst (v := 0) dX7_gives_61 rfl) (mpp 62 rfl ?_)
    refine mp_a (a_istore_n (L' := [(2, .int 0), (0, .ref 301), (1, .int t1)]) dX7_gives_62 (by decide) rfl) (mpp 63 rfl ?_)
    refine MEvP.less (L := [(0, .ref 301), (1, .int t1), (2, .int 0)]) rfl rfl ⟨rfl, rfl, rfl, trivial⟩ ?_
    have i5 : 0 ≤ (0 : Int) := by omega
    exact c_M_gives_r6_l63   hp0 hp1 hp2 _ _ Po hT KW.refl i5 rfl
  · have c4 : t1.toInt = (fv Po 301 20).toInt := ti_ne_n c4
    exfalso
    omega

set_option maxHeartbeats 4000000 in
theorem c_M_gives_r7_l63 {Po : mP} {t1 : Int32} (hp0 : 0 ≤ t1.toInt) (hp1 : (fv Po 301 20).toInt = t1.toInt + 7) (hp2 : (fv Po 301 20).toInt ≤ 7)  : ∀ (n : Nat) (v2 : Int32), ∀ (P : mP), Typ P → KW [1109, 1664, 1728, 1856] Po P → (0 ≤ v2.toInt) → (2147483647 - v2.toInt).toNat = n → MEvP 11 none q_201 63 [(0, .ref 301), (1, .int t1), (2, .int v2)] [] P 0 0 (fun r P' => (r = none ∧ (True)) ∧ Typ P' ∧ KW [1109, 1664, 1728, 1856] Po P' ∧ True) := by
  intro n
  induction n using Nat.strongRecOn with | _ n ih => ?_
  intro v2 P hT hK i_0 hm
  have w_t1 := ti_full t1
  have w_v2 := ti_full v2
  refine mp_a (a_iload_n dX7_gives_63 rfl) (mpp 64 rfl ?_)
  refine mp_a (a_aload_n dX7_gives_64 rfl) (mpp 65 rfl ?_)
  have e1 : (fv P 301 20).toInt = (fv Po 301 20).toInt := congrArg Int32.toInt (KW.at hK 20 rl_301 rfl)
  refine mt_getI (i := 255) (k := 20) hT dX7_gives_65 rfl rl_301 (by decide) rfl (by decide) rfl (fun g2 g3 => mpp 68 rfl ?_)
  refine mp_Tb (t := 148) (j_icmp_ge dX7_gives_68) (by decide) (fun c4 => ?_) (fun c4 => mpp 71 rfl ?_)
  · have c4 : v2.toInt ≥ (fv P 301 20).toInt := ti_ge c4
    exact mp_ret ⟨⟨rfl, trivial⟩, hT, hK, trivial⟩ dX7_gives_148 rfl
  · have c4 : v2.toInt < (fv P 301 20).toInt := ti_ge_n c4
    refine mp_a (a_aload_n dX7_gives_71 rfl) (mpp 72 rfl ?_)
    refine mt_getU (i := 43) (k := 18) (A := 313) hT dX7_gives_72 rfl rl_301 (by decide) rfl (by decide) rfl un_29 (mpp 75 rfl ?_)
    refine mp_a (a_iload_n dX7_gives_75 rfl) (mpp 76 rfl ?_)
    refine mt_bal (n := 7) hT dX7_gives_76 rl_313 (by decide) rfl rfl (by omega) (by omega) rfl (fun g5 g6 => mpp 77 rfl ?_)
    refine mp_Tb (t := 142) (j_if_ne dX7_gives_77) (by decide) (fun c7 => ?_) (fun c7 => mpp 80 rfl ?_)
    · have c7 : (fv P 313 v2.toInt.toNat).toInt ≠ 0 := ti_ne c7
      obtain ⟨z8, h9⟩ := ti_ex (v2 + 1 : Int32)
      have wz8 := ti_full z8
      refine mp_a (a_iinc (v := z8) (L' := [(2, .int z8), (0, .ref 301), (1, .int t1)]) dX7_gives_142 (by decide) rfl h9 rfl) (mpp 145 rfl ?_)
      try have e10 : z8.toInt = v2.toInt + 1 := ti_addz h9 rfl rfl (by omega) (by omega)
      refine mp_a (a_goto (t := 63) dX7_gives_145 (by decide)) ?_
      refine MEvP.less (L := [(0, .ref 301), (1, .int t1), (2, .int z8)]) rfl rfl ⟨rfl, rfl, rfl, trivial⟩ ?_
      have i11 : 0 ≤ z8.toInt := by omega
      exact ih _ (by omega) _ P hT hK i11 rfl
    · have c7 : (fv P 313 v2.toInt.toNat).toInt = 0 := ti_ne_n c7
      refine mp_a (a_iload_n dX7_gives_80 rfl) (mpp 81 rfl ?_)
      refine mp_Tb (t := 114) (j_if_le dX7_gives_81) (by decide) (fun c12 => ?_) (fun c12 => mpp 84 rfl ?_)
      · have c12 : t1.toInt ≤ 0 := ti_le c12
        refine mp_a (a_aload_n dX7_gives_114 rfl) (mpp 115 rfl ?_)
        refine mt_getU (i := 43) (k := 18) (A := 313) hT dX7_gives_115 rfl rl_301 (by decide) rfl (by decide) rfl un_29 (mpp 118 rfl ?_)
        refine mp_a (a_iload_n dX7_gives_118 rfl) (mpp 119 rfl ?_)
        refine mp_a (a_iconst (v := 1) dX7_gives_119 rfl) (mpp 120 rfl ?_)
        refine mt_bas (n := 7) hT dX7_gives_120 rl_313 (by decide) rfl rfl (by omega) (by omega) rfl (by decide) (fun P13 hT14 f15 f16 f17 => mpp 121 rfl ?_)
        have k18 : KW [1109, 1664, 1728, 1856] Po P13 := KW.step hK rl_313 rfl f16 f17
        refine mp_a (a_aload_n dX7_gives_121 rfl) (mpp 122 rfl ?_)
        refine mt_getU (i := 34) (k := 15) (A := 310) hT14 dX7_gives_122 rfl rl_301 (by decide) rfl (by decide) rfl un_26 (mpp 125 rfl ?_)
        refine mp_a (a_iload_n dX7_gives_125 rfl) (mpp 126 rfl ?_)
        refine mp_a (a_iload_n dX7_gives_126 rfl) (mpp 127 rfl ?_)
        refine mt_ias (n := 7) hT14 dX7_gives_127 rl_310 (by decide) rfl rfl (by omega) (by omega) rfl (ti_full v2) (fun P19 hT20 f21 f22 f23 => mpp 128 rfl ?_)
        have k24 : KW [1109, 1664, 1728, 1856] Po P19 := KW.step k18 rl_310 rfl f22 f23
        refine mp_a (a_aload_n dX7_gives_128 rfl) (mpp 129 rfl ?_)
        refine mp_a (a_iload_n dX7_gives_129 rfl) (mpp 130 rfl ?_)
        refine mp_a (a_iconst (v := 1) dX7_gives_130 rfl) (mpp 131 rfl ?_)
        obtain ⟨z25, h26⟩ := ti_ex (t1 + 1 : Int32)
        have wz25 := ti_full z25
        refine mp_t (s_iadd (v := z25) dX7_gives_131 h26) (mpp 132 rfl ?_)
        try have e27 : z25.toInt = t1.toInt + 1 := ti_addz h26 rfl rfl (by omega) (by omega)
        have e28 : (fv P19 301 20).toInt = (fv P 301 20).toInt := congrArg Int32.toInt ((f22 301 20 (ne_r rl_301 rl_310 rfl)).trans (f16 301 20 (ne_r rl_301 rl_313 rfl)))
        have p29 : 0 ≤ z25.toInt := by omega
        have p30 : (fv P19 301 20).toInt = z25.toInt + 6 := by omega
        have p31 : (fv P19 301 20).toInt ≤ 7 := by omega
        refine mt_callv (i := 276) (q' := q_201) (As := [.int z25]) (rest := []) hT20 dX7_gives_132 rfl qm_201 (by decide) rfl rl_301 (by decide) rfl (Nat.le_of_ble_eq_true rfl) rfl ⟨rfl, rfl⟩ ⟨Nat.le_of_ble_eq_true rfl, Nat.le_of_ble_eq_true rfl⟩ (EvP.mono (by decide) (c_M_gives_r6 hT20 p29 p30 p31 )) (fun r32 P33 g34 => mpp 135 rfl ?_)
        obtain ⟨⟨rfl, g36⟩, hT37, k38, R39⟩ := g34
        have k40 : KW [1109, 1664, 1728, 1856] Po P33 := KW.trans k24 k38 rfl
        show MEvP _ none q_201 135 [(0, .ref 301), (1, .int t1), (2, .int v2)] [] _ _ _ _
        refine mp_a (a_aload_n dX7_gives_135 rfl) (mpp 136 rfl ?_)
        refine mt_getU (i := 43) (k := 18) (A := 313) hT37 dX7_gives_136 rfl rl_301 (by decide) rfl (by decide) rfl un_29 (mpp 139 rfl ?_)
        refine mp_a (a_iload_n dX7_gives_139 rfl) (mpp 140 rfl ?_)
        refine mp_a (a_iconst (v := 0) dX7_gives_140 rfl) (mpp 141 rfl ?_)
        refine mt_bas (n := 7) hT37 dX7_gives_141 rl_313 (by decide) rfl rfl (by omega) (by omega) rfl (by decide) (fun P42 hT43 f44 f45 f46 => mpp 142 rfl ?_)
        have k47 : KW [1109, 1664, 1728, 1856] Po P42 := KW.step k40 rl_313 rfl f45 f46
        obtain ⟨z48, h49⟩ := ti_ex (v2 + 1 : Int32)
        have wz48 := ti_full z48
        refine mp_a (a_iinc (v := z48) (L' := [(2, .int z48), (0, .ref 301), (1, .int t1)]) dX7_gives_142 (by decide) rfl h49 rfl) (mpp 145 rfl ?_)
        try have e50 : z48.toInt = v2.toInt + 1 := ti_addz h49 rfl rfl (by omega) (by omega)
        refine mp_a (a_goto (t := 63) dX7_gives_145 (by decide)) ?_
        refine MEvP.less (L := [(0, .ref 301), (1, .int t1), (2, .int z48)]) rfl rfl ⟨rfl, rfl, rfl, trivial⟩ ?_
        have i51 : 0 ≤ z48.toInt := by omega
        exact ih _ (by omega) _ P42 hT43 k47 i51 rfl
      · have c12 : t1.toInt > 0 := ti_le_n c12
        refine mp_a (a_iload_n dX7_gives_84 rfl) (mpp 85 rfl ?_)
        refine mp_a (a_aload_n dX7_gives_85 rfl) (mpp 86 rfl ?_)
        refine mt_getU (i := 34) (k := 15) (A := 310) hT dX7_gives_86 rfl rl_301 (by decide) rfl (by decide) rfl un_26 (mpp 89 rfl ?_)
        refine mp_a (a_iload_n dX7_gives_89 rfl) (mpp 90 rfl ?_)
        refine mp_a (a_iconst (v := 1) dX7_gives_90 rfl) (mpp 91 rfl ?_)
        obtain ⟨z52, h53⟩ := ti_ex (t1 - 1 : Int32)
        have wz52 := ti_full z52
        refine mp_t (s_isub (v := z52) dX7_gives_91 h53) (mpp 92 rfl ?_)
        try have e54 : z52.toInt = t1.toInt - 1 := ti_subz h53 rfl rfl (by omega) (by omega)
        refine mt_ial (n := 7) hT dX7_gives_92 rl_310 (by decide) rfl rfl (by omega) (by omega) rfl (fun g55 g56 => mpp 93 rfl ?_)
        refine mp_Tb (t := 100) (j_icmp_le dX7_gives_93) (by decide) (fun c57 => ?_) (fun c57 => mpp 96 rfl ?_)
        · have c57 : v2.toInt ≤ (fv P 310 z52.toInt.toNat).toInt := ti_le c57
          refine mp_a (a_iconst (v := 0) dX7_gives_100 rfl) (mpp 101 rfl ?_)
          refine mp_a (a_aload_n dX7_gives_101 rfl) (mpp 102 rfl ?_)
          refine mp_a (a_iload_n dX7_gives_102 rfl) (mpp 103 rfl ?_)
          refine mp_a (a_iconst (v := 1) dX7_gives_103 rfl) (mpp 104 rfl ?_)
          obtain ⟨z58, h59⟩ := ti_ex (t1 - 1 : Int32)
          have wz58 := ti_full z58
          refine mp_t (s_isub (v := z58) dX7_gives_104 h59) (mpp 105 rfl ?_)
          try have e60 : z58.toInt = t1.toInt - 1 := ti_subz h59 rfl rfl (by omega) (by omega)
          have p61 : 0 ≤ z58.toInt := by omega
          have p62 : z58.toInt ≤ 7 := by omega
          refine mt_callv (i := 273) (q' := q_206) (As := [.int z58]) (rest := [.int 0]) hT dX7_gives_105 rfl qm_206 (by decide) rfl rl_301 (by decide) rfl (Nat.le_of_ble_eq_true rfl) rfl ⟨rfl, rfl⟩ ⟨Nat.le_of_ble_eq_true rfl, Nat.le_of_ble_eq_true rfl⟩ (EvP.mono (by decide) (c_M_isAbove hT p61 p62 )) (fun r63 P64 g65 => mpp 108 rfl ?_)
          obtain ⟨⟨x66, rfl, g67⟩, e68⟩ := g65
          have e68 := e68.symm
          subst e68
          have wx66 := ti_full x66
          replace g67 : 0 ≤ x66.toInt ∧ x66.toInt ≤ 1 := g67
          show MEvP _ none q_201 108 [(0, .ref 301), (1, .int t1), (2, .int v2)] [.int x66, .int 0] _ _ _ _
          refine mp_Tb (t := 114) (j_icmp_eq dX7_gives_108) (by decide) (fun c69 => ?_) (fun c69 => mpp 111 rfl ?_)
          · have c69 : 0 = x66.toInt := ti_eq c69
            refine mp_a (a_aload_n dX7_gives_114 rfl) (mpp 115 rfl ?_)
            refine mt_getU (i := 43) (k := 18) (A := 313) hT dX7_gives_115 rfl rl_301 (by decide) rfl (by decide) rfl un_29 (mpp 118 rfl ?_)
            refine mp_a (a_iload_n dX7_gives_118 rfl) (mpp 119 rfl ?_)
            refine mp_a (a_iconst (v := 1) dX7_gives_119 rfl) (mpp 120 rfl ?_)
            refine mt_bas (n := 7) hT dX7_gives_120 rl_313 (by decide) rfl rfl (by omega) (by omega) rfl (by decide) (fun P70 hT71 f72 f73 f74 => mpp 121 rfl ?_)
            have k75 : KW [1109, 1664, 1728, 1856] Po P70 := KW.step hK rl_313 rfl f73 f74
            refine mp_a (a_aload_n dX7_gives_121 rfl) (mpp 122 rfl ?_)
            refine mt_getU (i := 34) (k := 15) (A := 310) hT71 dX7_gives_122 rfl rl_301 (by decide) rfl (by decide) rfl un_26 (mpp 125 rfl ?_)
            refine mp_a (a_iload_n dX7_gives_125 rfl) (mpp 126 rfl ?_)
            refine mp_a (a_iload_n dX7_gives_126 rfl) (mpp 127 rfl ?_)
            refine mt_ias (n := 7) hT71 dX7_gives_127 rl_310 (by decide) rfl rfl (by omega) (by omega) rfl (ti_full v2) (fun P76 hT77 f78 f79 f80 => mpp 128 rfl ?_)
            have k81 : KW [1109, 1664, 1728, 1856] Po P76 := KW.step k75 rl_310 rfl f79 f80
            refine mp_a (a_aload_n dX7_gives_128 rfl) (mpp 129 rfl ?_)
            refine mp_a (a_iload_n dX7_gives_129 rfl) (mpp 130 rfl ?_)
            refine mp_a (a_iconst (v := 1) dX7_gives_130 rfl) (mpp 131 rfl ?_)
            obtain ⟨z82, h83⟩ := ti_ex (t1 + 1 : Int32)
            have wz82 := ti_full z82
            refine mp_t (s_iadd (v := z82) dX7_gives_131 h83) (mpp 132 rfl ?_)
            try have e84 : z82.toInt = t1.toInt + 1 := ti_addz h83 rfl rfl (by omega) (by omega)
            have e85 : (fv P76 301 20).toInt = (fv P 301 20).toInt := congrArg Int32.toInt ((f79 301 20 (ne_r rl_301 rl_310 rfl)).trans (f73 301 20 (ne_r rl_301 rl_313 rfl)))
            have p86 : 0 ≤ z82.toInt := by omega
            have p87 : (fv P76 301 20).toInt = z82.toInt + 6 := by omega
            have p88 : (fv P76 301 20).toInt ≤ 7 := by omega
            refine mt_callv (i := 276) (q' := q_201) (As := [.int z82]) (rest := []) hT77 dX7_gives_132 rfl qm_201 (by decide) rfl rl_301 (by decide) rfl (Nat.le_of_ble_eq_true rfl) rfl ⟨rfl, rfl⟩ ⟨Nat.le_of_ble_eq_true rfl, Nat.le_of_ble_eq_true rfl⟩ (EvP.mono (by decide) (c_M_gives_r6 hT77 p86 p87 p88 )) (fun r89 P90 g91 => mpp 135 rfl ?_)
            obtain ⟨⟨rfl, g93⟩, hT94, k95, R96⟩ := g91
            have k97 : KW [1109, 1664, 1728, 1856] Po P90 := KW.trans k81 k95 rfl
            show MEvP _ none q_201 135 [(0, .ref 301), (1, .int t1), (2, .int v2)] [] _ _ _ _
            refine mp_a (a_aload_n dX7_gives_135 rfl) (mpp 136 rfl ?_)
            refine mt_getU (i := 43) (k := 18) (A := 313) hT94 dX7_gives_136 rfl rl_301 (by decide) rfl (by decide) rfl un_29 (mpp 139 rfl ?_)
            refine mp_a (a_iload_n dX7_gives_139 rfl) (mpp 140 rfl ?_)
            refine mp_a (a_iconst (v := 0) dX7_gives_140 rfl) (mpp 141 rfl ?_)
            refine mt_bas (n := 7) hT94 dX7_gives_141 rl_313 (by decide) rfl rfl (by omega) (by omega) rfl (by decide) (fun P99 hT100 f101 f102 f103 => mpp 142 rfl ?_)
            have k104 : KW [1109, 1664, 1728, 1856] Po P99 := KW.step k97 rl_313 rfl f102 f103
            obtain ⟨z105, h106⟩ := ti_ex (v2 + 1 : Int32)
            have wz105 := ti_full z105
            refine mp_a (a_iinc (v := z105) (L' := [(2, .int z105), (0, .ref 301), (1, .int t1)]) dX7_gives_142 (by decide) rfl h106 rfl) (mpp 145 rfl ?_)
            try have e107 : z105.toInt = v2.toInt + 1 := ti_addz h106 rfl rfl (by omega) (by omega)
            refine mp_a (a_goto (t := 63) dX7_gives_145 (by decide)) ?_
            refine MEvP.less (L := [(0, .ref 301), (1, .int t1), (2, .int z105)]) rfl rfl ⟨rfl, rfl, rfl, trivial⟩ ?_
            have i108 : 0 ≤ z105.toInt := by omega
            exact ih _ (by omega) _ P99 hT100 k104 i108 rfl
          · have c69 : 0 ≠ x66.toInt := ti_eq_n c69
            refine mp_a (a_goto (t := 142) dX7_gives_111 (by decide)) ?_
            obtain ⟨z109, h110⟩ := ti_ex (v2 + 1 : Int32)
            have wz109 := ti_full z109
            refine mp_a (a_iinc (v := z109) (L' := [(2, .int z109), (0, .ref 301), (1, .int t1)]) dX7_gives_142 (by decide) rfl h110 rfl) (mpp 145 rfl ?_)
            try have e111 : z109.toInt = v2.toInt + 1 := ti_addz h110 rfl rfl (by omega) (by omega)
            refine mp_a (a_goto (t := 63) dX7_gives_145 (by decide)) ?_
            refine MEvP.less (L := [(0, .ref 301), (1, .int t1), (2, .int z109)]) rfl rfl ⟨rfl, rfl, rfl, trivial⟩ ?_
            have i112 : 0 ≤ z109.toInt := by omega
            exact ih _ (by omega) _ P hT hK i112 rfl
        · have c57 : v2.toInt > (fv P 310 z52.toInt.toNat).toInt := ti_le_n c57
          refine mp_a (a_iconst (v := 1) dX7_gives_96 rfl) (mpp 97 rfl ?_)
          refine mp_a (a_goto (t := 101) dX7_gives_97 (by decide)) ?_
          refine mp_a (a_aload_n dX7_gives_101 rfl) (mpp 102 rfl ?_)
          refine mp_a (a_iload_n dX7_gives_102 rfl) (mpp 103 rfl ?_)
          refine mp_a (a_iconst (v := 1) dX7_gives_103 rfl) (mpp 104 rfl ?_)
          obtain ⟨z113, h114⟩ := ti_ex (t1 - 1 : Int32)
          have wz113 := ti_full z113
          refine mp_t (s_isub (v := z113) dX7_gives_104 h114) (mpp 105 rfl ?_)
          try have e115 : z113.toInt = t1.toInt - 1 := ti_subz h114 rfl rfl (by omega) (by omega)
          have p116 : 0 ≤ z113.toInt := by omega
          have p117 : z113.toInt ≤ 7 := by omega
          refine mt_callv (i := 273) (q' := q_206) (As := [.int z113]) (rest := [.int 1]) hT dX7_gives_105 rfl qm_206 (by decide) rfl rl_301 (by decide) rfl (Nat.le_of_ble_eq_true rfl) rfl ⟨rfl, rfl⟩ ⟨Nat.le_of_ble_eq_true rfl, Nat.le_of_ble_eq_true rfl⟩ (EvP.mono (by decide) (c_M_isAbove hT p116 p117 )) (fun r118 P119 g120 => mpp 108 rfl ?_)
          obtain ⟨⟨x121, rfl, g122⟩, e123⟩ := g120
          have e123 := e123.symm
          subst e123
          have wx121 := ti_full x121
          replace g122 : 0 ≤ x121.toInt ∧ x121.toInt ≤ 1 := g122
          show MEvP _ none q_201 108 [(0, .ref 301), (1, .int t1), (2, .int v2)] [.int x121, .int 1] _ _ _ _
          refine mp_Tb (t := 114) (j_icmp_eq dX7_gives_108) (by decide) (fun c124 => ?_) (fun c124 => mpp 111 rfl ?_)
          · have c124 : 1 = x121.toInt := ti_eq c124
            refine mp_a (a_aload_n dX7_gives_114 rfl) (mpp 115 rfl ?_)
            refine mt_getU (i := 43) (k := 18) (A := 313) hT dX7_gives_115 rfl rl_301 (by decide) rfl (by decide) rfl un_29 (mpp 118 rfl ?_)
            refine mp_a (a_iload_n dX7_gives_118 rfl) (mpp 119 rfl ?_)
            refine mp_a (a_iconst (v := 1) dX7_gives_119 rfl) (mpp 120 rfl ?_)
            refine mt_bas (n := 7) hT dX7_gives_120 rl_313 (by decide) rfl rfl (by omega) (by omega) rfl (by decide) (fun P125 hT126 f127 f128 f129 => mpp 121 rfl ?_)
            have k130 : KW [1109, 1664, 1728, 1856] Po P125 := KW.step hK rl_313 rfl f128 f129
            refine mp_a (a_aload_n dX7_gives_121 rfl) (mpp 122 rfl ?_)
            refine mt_getU (i := 34) (k := 15) (A := 310) hT126 dX7_gives_122 rfl rl_301 (by decide) rfl (by decide) rfl un_26 (mpp 125 rfl ?_)
            refine mp_a (a_iload_n dX7_gives_125 rfl) (mpp 126 rfl ?_)
            refine mp_a (a_iload_n dX7_gives_126 rfl) (mpp 127 rfl ?_)
            refine mt_ias (n := 7) hT126 dX7_gives_127 rl_310 (by decide) rfl rfl (by omega) (by omega) rfl (ti_full v2) (fun P131 hT132 f133 f134 f135 => mpp 128 rfl ?_)
            have k136 : KW [1109, 1664, 1728, 1856] Po P131 := KW.step k130 rl_310 rfl f134 f135
            refine mp_a (a_aload_n dX7_gives_128 rfl) (mpp 129 rfl ?_)
            refine mp_a (a_iload_n dX7_gives_129 rfl) (mpp 130 rfl ?_)
            refine mp_a (a_iconst (v := 1) dX7_gives_130 rfl) (mpp 131 rfl ?_)
            obtain ⟨z137, h138⟩ := ti_ex (t1 + 1 : Int32)
            have wz137 := ti_full z137
            refine mp_t (s_iadd (v := z137) dX7_gives_131 h138) (mpp 132 rfl ?_)
            try have e139 : z137.toInt = t1.toInt + 1 := ti_addz h138 rfl rfl (by omega) (by omega)
            have e140 : (fv P131 301 20).toInt = (fv P 301 20).toInt := congrArg Int32.toInt ((f134 301 20 (ne_r rl_301 rl_310 rfl)).trans (f128 301 20 (ne_r rl_301 rl_313 rfl)))
            have p141 : 0 ≤ z137.toInt := by omega
            have p142 : (fv P131 301 20).toInt = z137.toInt + 6 := by omega
            have p143 : (fv P131 301 20).toInt ≤ 7 := by omega
            refine mt_callv (i := 276) (q' := q_201) (As := [.int z137]) (rest := []) hT132 dX7_gives_132 rfl qm_201 (by decide) rfl rl_301 (by decide) rfl (Nat.le_of_ble_eq_true rfl) rfl ⟨rfl, rfl⟩ ⟨Nat.le_of_ble_eq_true rfl, Nat.le_of_ble_eq_true rfl⟩ (EvP.mono (by decide) (c_M_gives_r6 hT132 p141 p142 p143 )) (fun r144 P145 g146 => mpp 135 rfl ?_)
            obtain ⟨⟨rfl, g148⟩, hT149, k150, R151⟩ := g146
            have k152 : KW [1109, 1664, 1728, 1856] Po P145 := KW.trans k136 k150 rfl
            show MEvP _ none q_201 135 [(0, .ref 301), (1, .int t1), (2, .int v2)] [] _ _ _ _
            refine mp_a (a_aload_n dX7_gives_135 rfl) (mpp 136 rfl ?_)
            refine mt_getU (i := 43) (k := 18) (A := 313) hT149 dX7_gives_136 rfl rl_301 (by decide) rfl (by decide) rfl un_29 (mpp 139 rfl ?_)
            refine mp_a (a_iload_n dX7_gives_139 rfl) (mpp 140 rfl ?_)
            refine mp_a (a_iconst (v := 0) dX7_gives_140 rfl) (mpp 141 rfl ?_)
            refine mt_bas (n := 7) hT149 dX7_gives_141 rl_313 (by decide) rfl rfl (by omega) (by omega) rfl (by decide) (fun P154 hT155 f156 f157 f158 => mpp 142 rfl ?_)
            have k159 : KW [1109, 1664, 1728, 1856] Po P154 := KW.step k152 rl_313 rfl f157 f158
            obtain ⟨z160, h161⟩ := ti_ex (v2 + 1 : Int32)
            have wz160 := ti_full z160
            refine mp_a (a_iinc (v := z160) (L' := [(2, .int z160), (0, .ref 301), (1, .int t1)]) dX7_gives_142 (by decide) rfl h161 rfl) (mpp 145 rfl ?_)
            try have e162 : z160.toInt = v2.toInt + 1 := ti_addz h161 rfl rfl (by omega) (by omega)
            refine mp_a (a_goto (t := 63) dX7_gives_145 (by decide)) ?_
            refine MEvP.less (L := [(0, .ref 301), (1, .int t1), (2, .int z160)]) rfl rfl ⟨rfl, rfl, rfl, trivial⟩ ?_
            have i163 : 0 ≤ z160.toInt := by omega
            exact ih _ (by omega) _ P154 hT155 k159 i163 rfl
          · have c124 : 1 ≠ x121.toInt := ti_eq_n c124
            refine mp_a (a_goto (t := 142) dX7_gives_111 (by decide)) ?_
            obtain ⟨z164, h165⟩ := ti_ex (v2 + 1 : Int32)
            have wz164 := ti_full z164
            refine mp_a (a_iinc (v := z164) (L' := [(2, .int z164), (0, .ref 301), (1, .int t1)]) dX7_gives_142 (by decide) rfl h165 rfl) (mpp 145 rfl ?_)
            try have e166 : z164.toInt = v2.toInt + 1 := ti_addz h165 rfl rfl (by omega) (by omega)
            refine mp_a (a_goto (t := 63) dX7_gives_145 (by decide)) ?_
            refine MEvP.less (L := [(0, .ref 301), (1, .int t1), (2, .int z164)]) rfl rfl ⟨rfl, rfl, rfl, trivial⟩ ?_
            have i167 : 0 ≤ z164.toInt := by omega
            exact ih _ (by omega) _ P hT hK i167 rfl

set_option maxHeartbeats 4000000 in
theorem c_M_gives_r7 {Po : mP} {t1 : Int32} (hT : Typ Po)  (hp0 : 0 ≤ t1.toInt) (hp1 : (fv Po 301 20).toInt = t1.toInt + 7) (hp2 : (fv Po 301 20).toInt ≤ 7)  : EvP 12 201 [.ref 301, .int t1] Po (fun r P' => (r = none ∧ (True)) ∧ Typ P' ∧ KW [1109, 1664, 1728, 1856] Po P' ∧ True) := by
  refine EvP.of qm_201 (Nat.le_of_ble_eq_true rfl) rfl ?_
  show MEvP _ none q_201 0 [(0, .ref 301), (1, .int t1)] [] _ 0 0 _
  have w_t1 := ti_full t1
  have g1 : (0 : Int) ≤ (fv Po 301 20).toInt ∧ (fv Po 301 20).toInt ≤ 8 := Typ.rng hT rl_301 (by decide) (by decide) rfl
  refine mp_a (a_iload_n dX7_gives_0 rfl) (mpp 1 rfl ?_)
  refine mp_a (a_aload_n dX7_gives_1 rfl) (mpp 2 rfl ?_)
  refine mt_getI (i := 255) (k := 20) hT dX7_gives_2 rfl rl_301 (by decide) rfl (by decide) rfl (fun g2 g3 => mpp 5 rfl ?_)
  refine mp_Tb (t := 61) (j_icmp_ne dX7_gives_5) (by decide) (fun c4 => ?_) (fun c4 => mpp 8 rfl ?_)
  · have c4 : t1.toInt ≠ (fv Po 301 20).toInt := ti_ne c4
    refine mp_a (a_iconst (v := 0) dX7_gives_61 rfl) (mpp 62 rfl ?_)
    refine mp_a (a_istore_n (L' := [(2, .int 0), (0, .ref 301), (1, .int t1)]) dX7_gives_62 (by decide) rfl) (mpp 63 rfl ?_)
    refine MEvP.less (L := [(0, .ref 301), (1, .int t1), (2, .int 0)]) rfl rfl ⟨rfl, rfl, rfl, trivial⟩ ?_
    have i5 : 0 ≤ (0 : Int) := by omega
    exact c_M_gives_r7_l63   hp0 hp1 hp2 _ _ Po hT KW.refl i5 rfl
  · have c4 : t1.toInt = (fv Po 301 20).toInt := ti_ne_n c4
    exfalso
    omega

set_option maxHeartbeats 4000000 in
theorem c_M_ordersOf_l17 {Po : mP} {t1 : Int32} (hp0 : 0 ≤ t1.toInt) (hp1 : t1.toInt ≤ 7) (hp2 : (fv Po 302 (4 + 19 * t1.toInt.toNat)).toInt ≤ 7)  : ∀ (n : Nat) (v2 : Int32), ∀ (P : mP), Typ P → KW [1107, 1108, 1109, 1664, 1728, 1792, 1856] Po P → ((fv P 301 20).toInt ≤ 7) → (0 ≤ v2.toInt) → (2147483647 - v2.toInt).toNat = n → MEvP 12 none q_200 17 [(0, .ref 301), (1, .int t1), (2, .int v2)] [] P 0 0 (fun r P' => (∃ x : Int32, r = some (.int x) ∧ (True)) ∧ Typ P' ∧ KW [1107, 1108, 1109, 1664, 1728, 1792, 1856] Po P' ∧ True) := by
  intro n
  induction n using Nat.strongRecOn with | _ n ih => ?_
  intro v2 P hT hK i_0 i_1 hm
  have w_t1 := ti_full t1
  have w_v2 := ti_full v2
  have g1 : (0 : Int) ≤ (fv P 301 20).toInt ∧ (fv P 301 20).toInt ≤ 8 := Typ.rng hT rl_301 (by decide) (by decide) rfl
  have g2 : (0 : Int) ≤ (fv P 301 20).toInt ∧ (fv P 301 20).toInt ≤ 8 := Typ.rng hT rl_301 (by decide) (by decide) rfl
  refine mp_a (a_iload_n dX7_ordersOf_17 rfl) (mpp 18 rfl ?_)
  refine mp_a (a_aload_n dX7_ordersOf_18 rfl) (mpp 19 rfl ?_)
  refine mt_getI (i := 255) (k := 20) hT dX7_ordersOf_19 rfl rl_301 (by decide) rfl (by decide) rfl (fun g3 g4 => mpp 22 rfl ?_)
  refine mp_Tb (t := 43) (j_icmp_gt dX7_ordersOf_22) (by decide) (fun c5 => ?_) (fun c5 => mpp 25 rfl ?_)
  · have c5 : v2.toInt > (fv P 301 20).toInt := ti_gt c5
    refine mp_a (a_aload_n dX7_ordersOf_43 rfl) (mpp 44 rfl ?_)
    refine mp_a (a_iconst (v := 0) dX7_ordersOf_44 rfl) (mpp 45 rfl ?_)
    refine mt_putI (i := 270) (k := 21) (x := 0) hT dX7_ordersOf_45 rfl rl_301 (by decide) rfl (by decide) rfl (by decide) rfl rfl (fun P6 hT7 f8 f9 f10 => mpp 48 rfl ?_)
    have k11 : KW [1107, 1108, 1109, 1664, 1728, 1792, 1856] Po P6 := KW.step hK rl_301 rfl f9 f10
    have e12 : (fv P6 301 21).toInt = 0 := congrArg Int32.toInt f8
    refine mp_a (a_aload_n dX7_ordersOf_48 rfl) (mpp 49 rfl ?_)
    refine mp_a (a_iconst (v := 0) dX7_ordersOf_49 rfl) (mpp 50 rfl ?_)
    have e14 : (fv P6 301 20).toInt = (fv P 301 20).toInt := congrArg Int32.toInt (f9 301 20 (ne_k rfl))
    have c13 : (fv P6 301 20).toInt = 0 ∨ (fv P6 301 20).toInt = 1 ∨ (fv P6 301 20).toInt = 2 ∨ (fv P6 301 20).toInt = 3 ∨ (fv P6 301 20).toInt = 4 ∨ (fv P6 301 20).toInt = 5 ∨ (fv P6 301 20).toInt = 6 ∨ (fv P6 301 20).toInt = 7 := by omega
    rcases c13 with c13 | c13 | c13 | c13 | c13 | c13 | c13 | c13
    · have p15 : 0 ≤ (0 : Int) := by omega
      have p16 : (fv P6 301 20).toInt = (0 : Int) + 0 := by omega
      have p17 : (fv P6 301 20).toInt ≤ 7 := by omega
      refine mt_callv (i := 276) (q' := q_201) (As := [.int 0]) (rest := []) hT7 dX7_ordersOf_50 rfl qm_201 (by decide) rfl rl_301 (by decide) rfl (Nat.le_of_ble_eq_true rfl) rfl ⟨rfl, rfl⟩ ⟨Nat.le_of_ble_eq_true rfl, Nat.le_of_ble_eq_true rfl⟩ (EvP.mono (by decide) (c_M_gives_r0 hT7 p15 p16 p17 )) (fun r18 P19 g20 => mpp 53 rfl ?_)
      obtain ⟨⟨rfl, g22⟩, hT23, k24, R25⟩ := g20
      have k26 : KW [1107, 1108, 1109, 1664, 1728, 1792, 1856] Po P19 := KW.trans k11 k24 rfl
      show MEvP _ none q_200 53 [(0, .ref 301), (1, .int t1), (2, .int v2)] [] _ _ _ _
      refine mp_a (a_aload_n dX7_ordersOf_53 rfl) (mpp 54 rfl ?_)
      have g28 := ti_full (fv P19 301 21)
      refine mt_getI (i := 270) (k := 21) hT23 dX7_ordersOf_54 rfl rl_301 (by decide) rfl (by decide) rfl (fun g29 g30 => mpp 57 rfl ?_)
      exact mp_iret ⟨⟨_, rfl, trivial⟩, hT23, k26, trivial⟩ dX7_ordersOf_57 (Or.inl rfl)
    · have p31 : 0 ≤ (0 : Int) := by omega
      have p32 : (fv P6 301 20).toInt = (0 : Int) + 1 := by omega
      have p33 : (fv P6 301 20).toInt ≤ 7 := by omega
      refine mt_callv (i := 276) (q' := q_201) (As := [.int 0]) (rest := []) hT7 dX7_ordersOf_50 rfl qm_201 (by decide) rfl rl_301 (by decide) rfl (Nat.le_of_ble_eq_true rfl) rfl ⟨rfl, rfl⟩ ⟨Nat.le_of_ble_eq_true rfl, Nat.le_of_ble_eq_true rfl⟩ (EvP.mono (by decide) (c_M_gives_r1 hT7 p31 p32 p33 )) (fun r34 P35 g36 => mpp 53 rfl ?_)
      obtain ⟨⟨rfl, g38⟩, hT39, k40, R41⟩ := g36
      have k42 : KW [1107, 1108, 1109, 1664, 1728, 1792, 1856] Po P35 := KW.trans k11 k40 rfl
      show MEvP _ none q_200 53 [(0, .ref 301), (1, .int t1), (2, .int v2)] [] _ _ _ _
      refine mp_a (a_aload_n dX7_ordersOf_53 rfl) (mpp 54 rfl ?_)
      have g44 := ti_full (fv P35 301 21)
      refine mt_getI (i := 270) (k := 21) hT39 dX7_ordersOf_54 rfl rl_301 (by decide) rfl (by decide) rfl (fun g45 g46 => mpp 57 rfl ?_)
      exact mp_iret ⟨⟨_, rfl, trivial⟩, hT39, k42, trivial⟩ dX7_ordersOf_57 (Or.inl rfl)
    · have p47 : 0 ≤ (0 : Int) := by omega
      have p48 : (fv P6 301 20).toInt = (0 : Int) + 2 := by omega
      have p49 : (fv P6 301 20).toInt ≤ 7 := by omega
      refine mt_callv (i := 276) (q' := q_201) (As := [.int 0]) (rest := []) hT7 dX7_ordersOf_50 rfl qm_201 (by decide) rfl rl_301 (by decide) rfl (Nat.le_of_ble_eq_true rfl) rfl ⟨rfl, rfl⟩ ⟨Nat.le_of_ble_eq_true rfl, Nat.le_of_ble_eq_true rfl⟩ (EvP.mono (by decide) (c_M_gives_r2 hT7 p47 p48 p49 )) (fun r50 P51 g52 => mpp 53 rfl ?_)
      obtain ⟨⟨rfl, g54⟩, hT55, k56, R57⟩ := g52
      have k58 : KW [1107, 1108, 1109, 1664, 1728, 1792, 1856] Po P51 := KW.trans k11 k56 rfl
      show MEvP _ none q_200 53 [(0, .ref 301), (1, .int t1), (2, .int v2)] [] _ _ _ _
      refine mp_a (a_aload_n dX7_ordersOf_53 rfl) (mpp 54 rfl ?_)
      have g60 := ti_full (fv P51 301 21)
      refine mt_getI (i := 270) (k := 21) hT55 dX7_ordersOf_54 rfl rl_301 (by decide) rfl (by decide) rfl (fun g61 g62 => mpp 57 rfl ?_)
      exact mp_iret ⟨⟨_, rfl, trivial⟩, hT55, k58, trivial⟩ dX7_ordersOf_57 (Or.inl rfl)
    · have p63 : 0 ≤ (0 : Int) := by omega
      have p64 : (fv P6 301 20).toInt = (0 : Int) + 3 := by omega
      have p65 : (fv P6 301 20).toInt ≤ 7 := by omega
      refine mt_callv (i := 276) (q' := q_201) (As := [.int 0]) (rest := []) hT7 dX7_ordersOf_50 rfl qm_201 (by decide) rfl rl_301 (by decide) rfl (Nat.le_of_ble_eq_true rfl) rfl ⟨rfl, rfl⟩ ⟨Nat.le_of_ble_eq_true rfl, Nat.le_of_ble_eq_true rfl⟩ (EvP.mono (by decide) (c_M_gives_r3 hT7 p63 p64 p65 )) (fun r66 P67 g68 => mpp 53 rfl ?_)
      obtain ⟨⟨rfl, g70⟩, hT71, k72, R73⟩ := g68
      have k74 : KW [1107, 1108, 1109, 1664, 1728, 1792, 1856] Po P67 := KW.trans k11 k72 rfl
      show MEvP _ none q_200 53 [(0, .ref 301), (1, .int t1), (2, .int v2)] [] _ _ _ _
      refine mp_a (a_aload_n dX7_ordersOf_53 rfl) (mpp 54 rfl ?_)
      have g76 := ti_full (fv P67 301 21)
      refine mt_getI (i := 270) (k := 21) hT71 dX7_ordersOf_54 rfl rl_301 (by decide) rfl (by decide) rfl (fun g77 g78 => mpp 57 rfl ?_)
      exact mp_iret ⟨⟨_, rfl, trivial⟩, hT71, k74, trivial⟩ dX7_ordersOf_57 (Or.inl rfl)
    · have p79 : 0 ≤ (0 : Int) := by omega
      have p80 : (fv P6 301 20).toInt = (0 : Int) + 4 := by omega
      have p81 : (fv P6 301 20).toInt ≤ 7 := by omega
      refine mt_callv (i := 276) (q' := q_201) (As := [.int 0]) (rest := []) hT7 dX7_ordersOf_50 rfl qm_201 (by decide) rfl rl_301 (by decide) rfl (Nat.le_of_ble_eq_true rfl) rfl ⟨rfl, rfl⟩ ⟨Nat.le_of_ble_eq_true rfl, Nat.le_of_ble_eq_true rfl⟩ (EvP.mono (by decide) (c_M_gives_r4 hT7 p79 p80 p81 )) (fun r82 P83 g84 => mpp 53 rfl ?_)
      obtain ⟨⟨rfl, g86⟩, hT87, k88, R89⟩ := g84
      have k90 : KW [1107, 1108, 1109, 1664, 1728, 1792, 1856] Po P83 := KW.trans k11 k88 rfl
      show MEvP _ none q_200 53 [(0, .ref 301), (1, .int t1), (2, .int v2)] [] _ _ _ _
      refine mp_a (a_aload_n dX7_ordersOf_53 rfl) (mpp 54 rfl ?_)
      have g92 := ti_full (fv P83 301 21)
      refine mt_getI (i := 270) (k := 21) hT87 dX7_ordersOf_54 rfl rl_301 (by decide) rfl (by decide) rfl (fun g93 g94 => mpp 57 rfl ?_)
      exact mp_iret ⟨⟨_, rfl, trivial⟩, hT87, k90, trivial⟩ dX7_ordersOf_57 (Or.inl rfl)
    · have p95 : 0 ≤ (0 : Int) := by omega
      have p96 : (fv P6 301 20).toInt = (0 : Int) + 5 := by omega
      have p97 : (fv P6 301 20).toInt ≤ 7 := by omega
      refine mt_callv (i := 276) (q' := q_201) (As := [.int 0]) (rest := []) hT7 dX7_ordersOf_50 rfl qm_201 (by decide) rfl rl_301 (by decide) rfl (Nat.le_of_ble_eq_true rfl) rfl ⟨rfl, rfl⟩ ⟨Nat.le_of_ble_eq_true rfl, Nat.le_of_ble_eq_true rfl⟩ (EvP.mono (by decide) (c_M_gives_r5 hT7 p95 p96 p97 )) (fun r98 P99 g100 => mpp 53 rfl ?_)
      obtain ⟨⟨rfl, g102⟩, hT103, k104, R105⟩ := g100
      have k106 : KW [1107, 1108, 1109, 1664, 1728, 1792, 1856] Po P99 := KW.trans k11 k104 rfl
      show MEvP _ none q_200 53 [(0, .ref 301), (1, .int t1), (2, .int v2)] [] _ _ _ _
      refine mp_a (a_aload_n dX7_ordersOf_53 rfl) (mpp 54 rfl ?_)
      have g108 := ti_full (fv P99 301 21)
      refine mt_getI (i := 270) (k := 21) hT103 dX7_ordersOf_54 rfl rl_301 (by decide) rfl (by decide) rfl (fun g109 g110 => mpp 57 rfl ?_)
      exact mp_iret ⟨⟨_, rfl, trivial⟩, hT103, k106, trivial⟩ dX7_ordersOf_57 (Or.inl rfl)
    · have p111 : 0 ≤ (0 : Int) := by omega
      have p112 : (fv P6 301 20).toInt = (0 : Int) + 6 := by omega
      have p113 : (fv P6 301 20).toInt ≤ 7 := by omega
      refine mt_callv (i := 276) (q' := q_201) (As := [.int 0]) (rest := []) hT7 dX7_ordersOf_50 rfl qm_201 (by decide) rfl rl_301 (by decide) rfl (Nat.le_of_ble_eq_true rfl) rfl ⟨rfl, rfl⟩ ⟨Nat.le_of_ble_eq_true rfl, Nat.le_of_ble_eq_true rfl⟩ (EvP.mono (by decide) (c_M_gives_r6 hT7 p111 p112 p113 )) (fun r114 P115 g116 => mpp 53 rfl ?_)
      obtain ⟨⟨rfl, g118⟩, hT119, k120, R121⟩ := g116
      have k122 : KW [1107, 1108, 1109, 1664, 1728, 1792, 1856] Po P115 := KW.trans k11 k120 rfl
      show MEvP _ none q_200 53 [(0, .ref 301), (1, .int t1), (2, .int v2)] [] _ _ _ _
      refine mp_a (a_aload_n dX7_ordersOf_53 rfl) (mpp 54 rfl ?_)
      have g124 := ti_full (fv P115 301 21)
      refine mt_getI (i := 270) (k := 21) hT119 dX7_ordersOf_54 rfl rl_301 (by decide) rfl (by decide) rfl (fun g125 g126 => mpp 57 rfl ?_)
      exact mp_iret ⟨⟨_, rfl, trivial⟩, hT119, k122, trivial⟩ dX7_ordersOf_57 (Or.inl rfl)
    · have p127 : 0 ≤ (0 : Int) := by omega
      have p128 : (fv P6 301 20).toInt = (0 : Int) + 7 := by omega
      have p129 : (fv P6 301 20).toInt ≤ 7 := by omega
      refine mt_callv (i := 276) (q' := q_201) (As := [.int 0]) (rest := []) hT7 dX7_ordersOf_50 rfl qm_201 (by decide) rfl rl_301 (by decide) rfl (Nat.le_of_ble_eq_true rfl) rfl ⟨rfl, rfl⟩ ⟨Nat.le_of_ble_eq_true rfl, Nat.le_of_ble_eq_true rfl⟩ (EvP.mono (by decide) (c_M_gives_r7 hT7 p127 p128 p129 )) (fun r130 P131 g132 => mpp 53 rfl ?_)
      obtain ⟨⟨rfl, g134⟩, hT135, k136, R137⟩ := g132
      have k138 : KW [1107, 1108, 1109, 1664, 1728, 1792, 1856] Po P131 := KW.trans k11 k136 rfl
      show MEvP _ none q_200 53 [(0, .ref 301), (1, .int t1), (2, .int v2)] [] _ _ _ _
      refine mp_a (a_aload_n dX7_ordersOf_53 rfl) (mpp 54 rfl ?_)
      have g140 := ti_full (fv P131 301 21)
      refine mt_getI (i := 270) (k := 21) hT135 dX7_ordersOf_54 rfl rl_301 (by decide) rfl (by decide) rfl (fun g141 g142 => mpp 57 rfl ?_)
      exact mp_iret ⟨⟨_, rfl, trivial⟩, hT135, k138, trivial⟩ dX7_ordersOf_57 (Or.inl rfl)
  · have c5 : v2.toInt ≤ (fv P 301 20).toInt := ti_gt_n c5
    refine mp_a (a_aload_n dX7_ordersOf_25 rfl) (mpp 26 rfl ?_)
    refine mt_getU (i := 40) (k := 17) (A := 312) hT dX7_ordersOf_26 rfl rl_301 (by decide) rfl (by decide) rfl un_28 (mpp 29 rfl ?_)
    refine mp_a (a_iload_n dX7_ordersOf_29 rfl) (mpp 30 rfl ?_)
    refine mp_a (a_aload_n dX7_ordersOf_30 rfl) (mpp 31 rfl ?_)
    refine mp_a (a_iload_n dX7_ordersOf_31 rfl) (mpp 32 rfl ?_)
    refine mp_a (a_iload_n dX7_ordersOf_32 rfl) (mpp 33 rfl ?_)
    have p143 : 0 ≤ t1.toInt := by omega
    have p144 : t1.toInt ≤ 7 := by omega
    have p145 : v2.toInt ≤ 8 := by omega
    refine mt_callv (i := 225) (q' := q_186) (As := [.int t1, .int v2]) (rest := [.int v2, .ref 312]) hT dX7_ordersOf_33 rfl qm_186 (by decide) rfl rl_301 (by decide) rfl (Nat.le_of_ble_eq_true rfl) rfl ⟨rfl, rfl⟩ ⟨Nat.le_of_ble_eq_true rfl, Nat.le_of_ble_eq_true rfl⟩ (EvP.mono (by decide) (c_M_placeOf hT p143 p144 p145 )) (fun r146 P147 g148 => mpp 36 rfl ?_)
    obtain ⟨⟨x149, rfl, g150⟩, e151⟩ := g148
    have e151 := e151.symm
    subst e151
    have wx149 := ti_full x149
    replace g150 : x149.toInt = (plF (fun j : Nat => fv P 302 (6 + 19 * t1.toInt.toNat + j)) v2.toInt.toNat).toInt := g150
    show MEvP _ none q_200 36 [(0, .ref 301), (1, .int t1), (2, .int v2)] [.int x149, .int v2, .ref 312] _ _ _ _
    refine mt_ias (n := 8) hT dX7_ordersOf_36 rl_312 (by decide) rfl rfl (by omega) (by omega) rfl (ti_full x149) (fun P152 hT153 f154 f155 f156 => mpp 37 rfl ?_)
    have k157 : KW [1107, 1108, 1109, 1664, 1728, 1792, 1856] Po P152 := KW.step hK rl_312 rfl f155 f156
    obtain ⟨z158, h159⟩ := ti_ex (v2 + 1 : Int32)
    have wz158 := ti_full z158
    refine mp_a (a_iinc (v := z158) (L' := [(2, .int z158), (0, .ref 301), (1, .int t1)]) dX7_ordersOf_37 (by decide) rfl h159 rfl) (mpp 40 rfl ?_)
    try have e160 : z158.toInt = v2.toInt + 1 := ti_addz h159 rfl rfl (by omega) (by omega)
    refine mp_a (a_goto (t := 17) dX7_ordersOf_40 (by decide)) ?_
    refine MEvP.less (L := [(0, .ref 301), (1, .int t1), (2, .int z158)]) rfl rfl ⟨rfl, rfl, rfl, trivial⟩ ?_
    have e161 : (fv P152 301 20).toInt = (fv P 301 20).toInt := congrArg Int32.toInt (f155 301 20 (ne_r rl_301 rl_312 rfl))
    have i162 : (fv P152 301 20).toInt ≤ 7 := by omega
    have i163 : 0 ≤ z158.toInt := by omega
    exact ih _ (by omega) _ P152 hT153 k157 i162 i163 rfl

set_option maxHeartbeats 4000000 in
theorem c_M_ordersOf {Po : mP} {t1 : Int32} (hT : Typ Po)  (hp0 : 0 ≤ t1.toInt) (hp1 : t1.toInt ≤ 7) (hp2 : (fv Po 302 (4 + 19 * t1.toInt.toNat)).toInt ≤ 7)  : EvP 13 200 [.ref 301, .int t1] Po (fun r P' => (∃ x : Int32, r = some (.int x) ∧ (True)) ∧ Typ P' ∧ KW [1107, 1108, 1109, 1664, 1728, 1792, 1856] Po P' ∧ True) := by
  refine EvP.of qm_200 (Nat.le_of_ble_eq_true rfl) rfl ?_
  show MEvP _ none q_200 0 [(0, .ref 301), (1, .int t1)] [] _ 0 0 _
  have w_t1 := ti_full t1
  try have g1 : (0 : Int) ≤ (fv Po 302 (4 + 19 * t1.toInt.toNat)).toInt ∧ (fv Po 302 (4 + 19 * t1.toInt.toNat)).toInt ≤ 8 := s4_rng hT (by omega)
  refine mp_a (a_aload_n dX7_ordersOf_0 rfl) (mpp 1 rfl ?_)
  refine mp_a (a_iload_n dX7_ordersOf_1 rfl) (mpp 2 rfl ?_)
  refine mt_putI (i := 252) (k := 19) (x := t1) hT dX7_ordersOf_2 rfl rl_301 (by decide) rfl (by decide) rfl ⟨by omega, by omega⟩ rfl rfl (fun P2 hT3 f4 f5 f6 => mpp 5 rfl ?_)
  have k7 : KW [1107, 1108, 1109, 1664, 1728, 1792, 1856] Po P2 := KW.step KW.refl rl_301 rfl f5 f6
  have e8 : (fv P2 301 19).toInt = t1.toInt := congrArg Int32.toInt f4
  refine mp_a (a_aload_n dX7_ordersOf_5 rfl) (mpp 6 rfl ?_)
  refine mp_a (a_aload_n dX7_ordersOf_6 rfl) (mpp 7 rfl ?_)
  refine mp_a (a_iload_n dX7_ordersOf_7 rfl) (mpp 8 rfl ?_)
  refine mp_a (a_iconst (v := 1) dX7_ordersOf_8 rfl) (mpp 9 rfl ?_)
  have p9 : 0 ≤ t1.toInt := by omega
  have p10 : t1.toInt ≤ 7 := by omega
  have p11 : 0 ≤ (1 : Int) := by omega
  have p12 : (1 : Int) ≤ 18 := by omega
  refine mt_callv (i := 78) (q' := q_137) (As := [.int t1, .int 1]) (rest := [.ref 301]) hT3 dX7_ordersOf_9 rfl qm_137 (by decide) rfl rl_301 (by decide) rfl (Nat.le_of_ble_eq_true rfl) rfl ⟨rfl, rfl⟩ ⟨Nat.le_of_ble_eq_true rfl, Nat.le_of_ble_eq_true rfl⟩ (EvP.mono (by decide) (c_M_of_c1 hT3 p9 p10 p11 p12 )) (fun r13 P14 g15 => mpp 12 rfl ?_)
  obtain ⟨⟨x16, rfl, g17⟩, e18⟩ := g15
  have e18 := e18.symm
  subst e18
  have wx16 := ti_full x16
  replace g17 : x16.toInt = (fv P2 302 (4 + 19 * t1.toInt.toNat)).toInt ∧ 0 ≤ x16.toInt ∧ x16.toInt ≤ 8 := g17
  have e19 : (fv P2 302 (4 + 19 * t1.toInt.toNat)).toInt = (fv Po 302 (4 + 19 * t1.toInt.toNat)).toInt := congrArg Int32.toInt (f5 302 (4 + 19 * t1.toInt.toNat) (ne_r rl_302 rl_301 rfl))
  show MEvP _ none q_200 12 [(0, .ref 301), (1, .int t1)] [.int x16, .ref 301] _ _ _ _
  refine mt_putI (i := 255) (k := 20) (x := x16) hT3 dX7_ordersOf_12 rfl rl_301 (by decide) rfl (by decide) rfl ⟨by omega, by omega⟩ rfl rfl (fun P20 hT21 f22 f23 f24 => mpp 15 rfl ?_)
  have k25 : KW [1107, 1108, 1109, 1664, 1728, 1792, 1856] Po P20 := KW.step k7 rl_301 rfl f23 f24
  have e26 : (fv P20 301 20).toInt = x16.toInt := congrArg Int32.toInt f22
  refine mp_a (a_iconst (v := 0) dX7_ordersOf_15 rfl) (mpp 16 rfl ?_)
  refine mp_a (a_istore_n (L' := [(2, .int 0), (0, .ref 301), (1, .int t1)]) dX7_ordersOf_16 (by decide) rfl) (mpp 17 rfl ?_)
  refine MEvP.less (L := [(0, .ref 301), (1, .int t1), (2, .int 0)]) rfl rfl ⟨rfl, rfl, rfl, trivial⟩ ?_
  have i27 : (fv P20 301 20).toInt ≤ 7 := by omega
  have i28 : 0 ≤ (0 : Int) := by omega
  exact c_M_ordersOf_l17   hp0 hp1 hp2 _ _ P20 hT21 k25 i27 i28 rfl

