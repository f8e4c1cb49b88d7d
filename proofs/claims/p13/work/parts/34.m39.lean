/-! methods on typed pools, 39 (written by a program) -/
set_option maxHeartbeats 4000000 in
theorem c_M_gives_r2_l63 {Po : mP} {t1 : Int32} (hp0 : 0 ≤ t1.toInt) (hp1 : (fv Po 301 20).toInt = t1.toInt + 2) (hp2 : (fv Po 301 20).toInt ≤ 7)  : ∀ (n : Nat) (v2 : Int32), ∀ (P : mP), Typ P → KW [1109, 1664, 1728, 1856] Po P → (0 ≤ v2.toInt) → (2147483647 - v2.toInt).toNat = n → MEvP 6 none q_201 63 [(0, .ref 301), (1, .int t1), (2, .int v2)] [] P 0 0 (fun r P' => (r = none ∧ (True)) ∧ Typ P' ∧ KW [1109, 1664, 1728, 1856] Po P' ∧ True) := by
  intro n
  induction n using Nat.strongRecOn with | _ n ih => ?_
  intro v2 P hT hK i_0 hm
  have w_t1 := ti_full t1
  have w_v2 := ti_full v2
  refine mp_a (a_iload_n dX7_gives_63 rfl) (mpp 64 rfl ?_)
  refine mp_a (a_aload_n dX7_gives_64 rfl) (mpp 65 rfl ?_)
  have e1 : (fv P 301 20).toInt = (fv Po 301 20).toInt := congrArg Int32.toInt (KW.at hK 20 rl_301 rfl)
  refine mt_getI (i := 255) (k := 20) hT dX7_gives_65 rfl rl_301 (by decide) rfl (by decide) rfl (fun g2 g3 => mpp 68 rfl ?_)
  refine mp_Tb (t := 148) (j_icmp_ge dX7_gives_68) (by decide) (fun c4 => ?_) (fun c4 => mpp 71 rfl ?_)
  · have c4 : v2.toInt ≥ (fv P 301 20).toInt := ti_ge c4
    exact mp_ret ⟨⟨rfl, trivial⟩, hT, hK, trivial⟩ dX7_gives_148 rfl
  · have c4 : v2.toInt < (fv P 301 20).toInt := ti_ge_n c4
    refine mp_a (a_aload_n dX7_gives_71 rfl) (mpp 72 rfl ?_)
    refine mt_getU (i := 43) (k := 18) (A := 313) hT dX7_gives_72 rfl rl_301 (by decide) rfl (by decide) rfl un_29 (mpp 75 rfl ?_)
    refine mp_a (a_iload_n dX7_gives_75 rfl) (mpp 76 rfl ?_)
    refine mt_bal (n := 7) hT dX7_gives_76 rl_313 (by decide) rfl rfl (by omega) (by omega) rfl (fun g5 g6 => mpp 77 rfl ?_)
    refine mp_Tb (t := 142) (j_if_ne dX7_gives_77) (by decide) (fun c7 => ?_) (fun c7 => mpp 80 rfl ?_)
    · have c7 : (fv P 313 v2.toInt.toNat).toInt ≠ 0 := ti_ne c7
      obtain ⟨z8, h9⟩ := ti_ex (v2 + 1 : Int32)
      have wz8 := ti_full z8
      refine mp_a (a_iinc (v := z8) (L' := [(2, .int z8), (0, .ref 301), (1, .int t1)]) dX7_gives_142 (by decide) rfl h9 rfl) (mpp 145 rfl ?_)
      try have e10 : z8.toInt = v2.toInt + 1 := ti_addz h9 rfl rfl (by omega) (by omega)
      refine mp_a (a_goto (t := 63) dX7_gives_145 (by decide)) ?_
      refine MEvP.less (L := [(0, .ref 301), (1, .int t1), (2, .int z8)]) rfl rfl ⟨rfl, rfl, rfl, trivial⟩ ?_
      have i11 : 0 ≤ z8.toInt := by omega
      exact ih _ (by omega) _ P hT hK i11 rfl
    · have c7 : (fv P 313 v2.toInt.toNat).toInt = 0 := ti_ne_n c7
      refine mp_a (a_iload_n dX7_gives_80 rfl) (mpp 81 rfl ?_)
      refine mp_Tb (t := 114) (j_if_le dX7_gives_81) (by decide) (fun c12 => ?_) (fun c12 => mpp 84 rfl ?_)
      · have c12 : t1.toInt ≤ 0 := ti_le c12
        refine mp_a (a_aload_n dX7_gives_114 rfl) (mpp 115 rfl ?_)
        refine mt_getU (i := 43) (k := 18) (A := 313) hT dX7_gives_115 rfl rl_301 (by decide) rfl (by decide) rfl un_29 (mpp 118 rfl ?_)
        refine mp_a (a_iload_n dX7_gives_118 rfl) (mpp 119 rfl ?_)
        refine mp_a (a_iconst (v := 1) dX7_gives_119 rfl) (mpp 120 rfl ?_)
        refine mt_bas (n := 7) hT dX7_gives_120 rl_313 (by decide) rfl rfl (by omega) (by omega) rfl (by decide) (fun P13 hT14 f15 f16 f17 => mpp 121 rfl ?_)
        have k18 : KW [1109, 1664, 1728, 1856] Po P13 := KW.step hK rl_313 rfl f16 f17
        refine mp_a (a_aload_n dX7_gives_121 rfl) (mpp 122 rfl ?_)
        refine mt_getU (i := 34) (k := 15) (A := 310) hT14 dX7_gives_122 rfl rl_301 (by decide) rfl (by decide) rfl un_26 (mpp 125 rfl ?_)
        refine mp_a (a_iload_n dX7_gives_125 rfl) (mpp 126 rfl ?_)
        refine mp_a (a_iload_n dX7_gives_126 rfl) (mpp 127 rfl ?_)
        refine mt_ias (n := 7) hT14 dX7_gives_127 rl_310 (by decide) rfl rfl (by omega) (by omega) rfl (ti_full v2) (fun P19 hT20 f21 f22 f23 => mpp 128 rfl ?_)
        have k24 : KW [1109, 1664, 1728, 1856] Po P19 := KW.step k18 rl_310 rfl f22 f23
        refine mp_a (a_aload_n dX7_gives_128 rfl) (mpp 129 rfl ?_)
        refine mp_a (a_iload_n dX7_gives_129 rfl) (mpp 130 rfl ?_)
        refine mp_a (a_iconst (v := 1) dX7_gives_130 rfl) (mpp 131 rfl ?_)
        obtain ⟨z25, h26⟩ := ti_ex (t1 + 1 : Int32)
        have wz25 := ti_full z25
        refine mp_t (s_iadd (v := z25) dX7_gives_131 h26) (mpp 132 rfl ?_)
        try have e27 : z25.toInt = t1.toInt + 1 := ti_addz h26 rfl rfl (by omega) (by omega)
        have e28 : (fv P19 301 20).toInt = (fv P 301 20).toInt := congrArg Int32.toInt ((f22 301 20 (ne_r rl_301 rl_310 rfl)).trans (f16 301 20 (ne_r rl_301 rl_313 rfl)))
        have p29 : 0 ≤ z25.toInt := by omega
        have p30 : (fv P19 301 20).toInt = z25.toInt + 1 := by omega
        have p31 : (fv P19 301 20).toInt ≤ 7 := by omega
        refine mt_callv (i := 276) (q' := q_201) (As := [.int z25]) (rest := []) hT20 dX7_gives_132 rfl qm_201 (by decide) rfl rl_301 (by decide) rfl (Nat.le_of_ble_eq_true rfl) rfl ⟨rfl, rfl⟩ ⟨Nat.le_of_ble_eq_true rfl, Nat.le_of_ble_eq_true rfl⟩ (EvP.mono (by decide) (c_M_gives_r1 hT20 p29 p30 p31 )) (fun r32 P33 g34 => mpp 135 rfl ?_)
        obtain ⟨⟨rfl, g36⟩, hT37, k38, R39⟩ := g34
        have k40 : KW [1109, 1664, 1728, 1856] Po P33 := KW.trans k24 k38 rfl
        show MEvP _ none q_201 135 [(0, .ref 301), (1, .int t1), (2, .int v2)] [] _ _ _ _
        refine mp_a (a_aload_n dX7_gives_135 rfl) (mpp 136 rfl ?_)
        refine mt_getU (i := 43) (k := 18) (A := 313) hT37 dX7_gives_136 rfl rl_301 (by decide) rfl (by decide) rfl un_29 (mpp 139 rfl ?_)
        refine mp_a (a_iload_n dX7_gives_139 rfl) (mpp 140 rfl ?_)
        refine mp_a (a_iconst (v := 0) dX7_gives_140 rfl) (mpp 141 rfl ?_)
        refine mt_bas (n := 7) hT37 dX7_gives_141 rl_313 (by decide) rfl rfl (by omega) (by omega) rfl (by decide) (fun P42 hT43 f44 f45 f46 => mpp 142 rfl ?_)
        have k47 : KW [1109, 1664, 1728, 1856] Po P42 := KW.step k40 rl_313 rfl f45 f46
        obtain ⟨z48, h49⟩ := ti_ex (v2 + 1 : Int32)
        have wz48 := ti_full z48
        refine mp_a (a_iinc (v := z48) (L' := [(2, .int z48), (0, .ref 301), (1, .int t1)]) dX7_gives_142 (by decide) rfl h49 rfl) (mpp 145 rfl ?_)
        try have e50 : z48.toInt = v2.toInt + 1 := ti_addz h49 rfl rfl (by omega) (by omega)
        refine mp_a (a_goto (t := 63) dX7_gives_145 (by decide)) ?_
        refine MEvP.less (L := [(0, .ref 301), (1, .int t1), (2, .int z48)]) rfl rfl ⟨rfl, rfl, rfl, trivial⟩ ?_
        have i51 : 0 ≤ z48.toInt := by omega
        exact ih _ (by omega) _ P42 hT43 k47 i51 rfl
      · have c12 : t1.toInt > 0 := ti_le_n c12
        refine mp_a (a_iload_n dX7_gives_84 rfl) (mpp 85 rfl ?_)
        refine mp_a (a_aload_n dX7_gives_85 rfl) (mpp 86 rfl ?_)
        refine mt_getU (i := 34) (k := 15) (A := 310) hT dX7_gives_86 rfl rl_301 (by decide) rfl (by decide) rfl un_26 (mpp 89 rfl ?_)
        refine mp_a (a_iload_n dX7_gives_89 rfl) (mpp 90 rfl ?_)
        refine mp_a (a_iconst (v := 1) dX7_gives_90 rfl) (mpp 91 rfl ?_)
        obtain ⟨z52, h53⟩ := ti_ex (t1 - 1 : Int32)
        have wz52 := ti_full z52
        refine mp_t (s_isub (v := z52) dX7_gives_91 h53) (mpp 92 rfl ?_)
        try have e54 : z52.toInt = t1.toInt - 1 := ti_subz h53 rfl rfl (by omega) (by omega)
        refine mt_ial (n := 7) hT dX7_gives_92 rl_310 (by decide) rfl rfl (by omega) (by omega) rfl (fun g55 g56 => mpp 93 rfl ?_)
        refine mp_Tb (t := 100) (j_icmp_le dX7_gives_93) (by decide) (fun c57 => ?_) (fun c57 => mpp 96 rfl ?_)
        · have c57 : v2.toInt ≤ (fv P 310 z52.toInt.toNat).toInt := ti_le c57
          refine mp_a (a_iconst (v := 0) dX7_gives_100 rfl) (mpp 101 rfl ?_)
          refine mp_a (a_aload_n dX7_gives_101 rfl) (mpp 102 rfl ?_)
          refine mp_a (a_iload_n dX7_gives_102 rfl) (mpp 103 rfl ?_)
          refine mp_a (a_iconst (v := 1) dX7_gives_103 rfl) (mpp 104 rfl ?_)
          obtain ⟨z58, h59⟩ := ti_ex (t1 - 1 : Int32)
          have wz58 := ti_full z58
          refine mp_t (s_isub (v := z58) dX7_gives_104 h59) (mpp 105 rfl ?_)
          try have e60 : z58.toInt = t1.toInt - 1 := ti_subz h59 rfl rfl (by omega) (by omega)
          have p61 : 0 ≤ z58.toInt := by omega
          have p62 : z58.toInt ≤ 7 := by omega
          refine mt_callv (i := 273) (q' := q_206) (As := [.int z58]) (rest := [.int 0]) hT dX7_gives_105 rfl qm_206 (by decide) rfl rl_301 (by decide) rfl (Nat.le_of_ble_eq_true rfl) rfl ⟨rfl, rfl⟩ ⟨Nat.le_of_ble_eq_true rfl, Nat.le_of_ble_eq_true rfl⟩ (EvP.mono (by decide) (c_M_isAbove hT p61 p62 )) (fun r63 P64 g65 => mpp 108 rfl ?_)
          obtain ⟨⟨x66, rfl, g67⟩, e68⟩ := g65
          have e68 := e68.symm
          subst e68
          have wx66 := ti_full x66
          replace g67 : 0 ≤ x66.toInt ∧ x66.toInt ≤ 1 := g67
          show MEvP _ none q_201 108 [(0, .ref 301), (1, .int t1), (2, .int v2)] [.int x66, .int 0] _ _ _ _
          refine mp_Tb (t := 114) (j_icmp_eq dX7_gives_108) (by decide) (fun c69 => ?_) (fun c69 => mpp 111 rfl ?_)
          · have c69 : 0 = x66.toInt := ti_eq c69
            refine mp_a (a_aload_n dX7_gives_114 rfl) (mpp 115 rfl ?_)
            refine mt_getU (i := 43) (k := 18) (A := 313) hT dX7_gives_115 rfl rl_301 (by decide) rfl (by decide) rfl un_29 (mpp 118 rfl ?_)
            refine mp_a (a_iload_n dX7_gives_118 rfl) (mpp 119 rfl ?_)
            refine mp_a (a_iconst (v := 1) dX7_gives_119 rfl) (mpp 120 rfl ?_)
            refine mt_bas (n := 7) hT dX7_gives_120 rl_313 (by decide) rfl rfl (by omega) (by omega) rfl (by decide) (fun P70 hT71 f72 f73 f74 => mpp 121 rfl ?_)
            have k75 : KW [1109, 1664, 1728, 1856] Po P70 := KW.step hK rl_313 rfl f73 f74
            refine mp_a (a_aload_n dX7_gives_121 rfl) (mpp 122 rfl ?_)
            refine mt_getU (i := 34) (k := 15) (A := 310) hT71 dX7_gives_122 rfl rl_301 (by decide) rfl (by decide) rfl un_26 (mpp 125 rfl ?_)
            refine mp_a (a_iload_n dX7_gives_125 rfl) (mpp 126 rfl ?_)
            refine mp_a (a_iload_n dX7_gives_126 rfl) (mpp 127 rfl ?_)
            refine mt_ias (n := 7) hT71 dX7_gives_127 rl_310 (by decide) rfl rfl (by omega) (by omega) rfl (ti_full v2) (fun P76 hT77 f78 f79 f80 => mpp 128 rfl ?_)
            have k81 : KW [1109, 1664, 1728, 1856] Po P76 := KW.step k75 rl_310 rfl f79 f80
            refine mp_a (a_aload_n dX7_gives_128 rfl) (mpp 129 rfl ?_)
            refine mp_a (a_iload_n dX7_gives_129 rfl) (mpp 130 rfl ?_)
            refine mp_a (a_iconst (v := 1) dX7_gives_130 rfl) (mpp 131 rfl ?_)
            obtain ⟨z82, h83⟩ := ti_ex (t1 + 1 : Int32)
            have wz82 := ti_full z82
            refine mp_t (s_iadd (v := z82) dX7_gives_131 h83) (mpp 132 rfl ?_)
            try have e84 : z82.toInt = t1.toInt + 1 := ti_addz h83 rfl rfl (by omega) (by omega)
            have e85 : (fv P76 301 20).toInt = (fv P 301 20).toInt := congrArg Int32.toInt ((f79 301 20 (ne_r rl_301 rl_310 rfl)).trans (f73 301 20 (ne_r rl_301 rl_313 rfl)))
            have p86 : 0 ≤ z82.toInt := by omega
            have p87 : (fv P76 301 20).toInt = z82.toInt + 1 := by omega
            have p88 : (fv P76 301 20).toInt ≤ 7 := by omega
            refine mt_callv (i := 276) (q' := q_201) (As := [.int z82]) (rest := []) hT77 dX7_gives_132 rfl qm_201 (by decide) rfl rl_301 (by decide) rfl (Nat.le_of_ble_eq_true rfl) rfl ⟨rfl, rfl⟩ ⟨Nat.le_of_ble_eq_true rfl, Nat.le_of_ble_eq_true rfl⟩ (EvP.mono (by decide) (c_M_gives_r1 hT77 p86 p87 p88 )) (fun r89 P90 g91 => mpp 135 rfl ?_)
            obtain ⟨⟨rfl, g93⟩, hT94, k95, R96⟩ := g91
            have k97 : KW [1109, 1664, 1728, 1856] Po P90 := KW.trans k81 k95 rfl
            show MEvP _ none q_201 135 [(0, .ref 301), (1, .int t1), (2, .int v2)] [] _ _ _ _
            refine mp_a (a_aload_n dX7_gives_135 rfl) (mpp 136 rfl ?_)
            refine mt_getU (i := 43) (k := 18) (A := 313) hT94 dX7_gives_136 rfl rl_301 (by decide) rfl (by decide) rfl un_29 (mpp 139 rfl ?_)
            refine mp_a (a_iload_n dX7_gives_139 rfl) (mpp 140 rfl ?_)
            refine mp_a (a_iconst (v := 0) dX7_gives_140 rfl) (mpp 141 rfl ?_)
            refine mt_bas (n := 7) hT94 dX7_gives_141 rl_313 (by decide) rfl rfl (by omega) (by omega) rfl (by decide) (fun P99 hT100 f101 f102 f103 => mpp 142 rfl ?_)
            have k104 : KW [1109, 1664, 1728, 1856] Po P99 := KW.step k97 rl_313 rfl f102 f103
            obtain ⟨z105, h106⟩ := ti_ex (v2 + 1 : Int32)
            have wz105 := ti_full z105
            refine mp_a (a_iinc (v := z105) (L' := [(2, .int z105), (0, .ref 301), (1, .int t1)]) dX7_gives_142 (by decide) rfl h106 rfl) (mpp 145 rfl ?_)
            try have e107 : z105.toInt = v2.toInt + 1 := ti_addz h106 rfl rfl (by omega) (by omega)
            refine mp_a (a_goto (t := 63) dX7_gives_145 (by decide)) ?_
            refine MEvP.less (L := [(0, .ref 301), (1, .int t1), (2, .int z105)]) rfl rfl ⟨rfl, rfl, rfl, trivial⟩ ?_
            have i108 : 0 ≤ z105.toInt := by omega
            exact ih _ (by omega) _ P99 hT100 k104 i108 rfl
          · have c69 : 0 ≠ x66.toInt := ti_eq_n c69
            refine mp_a (a_goto (t := 142) dX7_gives_111 (by decide)) ?_
            obtain ⟨z109, h110⟩ := ti_ex (v2 + 1 : Int32)
            have wz109 := ti_full z109
            refine mp_a (a_iinc (v := z109) (L' := [(2, .int z109), (0, .ref 301), (1, .int t1)]) dX7_gives_142 (by decide) rfl h110 rfl) (mpp 145 rfl ?_)
            try have e111 : z109.toInt = v2.toInt + 1 := ti_addz h110 rfl rfl (by omega) (by omega)
            refine mp_a (a_goto (t := 63) dX7_gives_145 (by decide)) ?_
            refine MEvP.less (L := [(0, .ref 301), (1, .int t1), (2, .int z109)]) rfl rfl ⟨rfl, rfl, rfl, trivial⟩ ?_
            have i112 : 0 ≤ z109.toInt := by omega
            exact ih _ (by omega) _ P hT hK i112 rfl
        · have c57 : v2.toInt > (fv P 310 z52.toInt.toNat).toInt := ti_le_n c57
          refine mp_a (a_iconst (v := 1) dX7_gives_96 rfl) (mpp 97 rfl ?_)
          refine mp_a (a_goto (t := 101) dX7_gives_97 (by decide)) ?_
          refine mp_a (a_aload_n dX7_gives_101 rfl) (mpp 102 rfl ?_)
          refine mp_a (a_iload_n dX7_gives_102 rfl) (mpp 103 rfl ?_)
          refine mp_a (a_iconst (v := 1) dX7_gives_103 rfl) (mpp 104 rfl ?_)
          obtain ⟨z113, h114⟩ := ti_ex (t1 - 1 : Int32)
          have wz113 := ti_full z113
          refine mp_t (s_isub (v := z113) dX7_gives_104 h114) (mpp 105 rfl ?_)
          try have e115 : z113.toInt = t1.toInt - 1 := ti_subz h114 rfl rfl (by omega) (by omega)
          have p116 : 0 ≤ z113.toInt := by omega
          have p117 : z113.toInt ≤ 7 := by omega
          refine mt_callv (i := 273) (q' := q_206) (As := [.int z113]) (rest := [.int 1]) hT dX7_gives_105 rfl qm_206 (by decide) rfl rl_301 (by decide) rfl (Nat.le_of_ble_eq_true rfl) rfl ⟨rfl, rfl⟩ ⟨Nat.le_of_ble_eq_true rfl, Nat.le_of_ble_eq_true rfl⟩ (EvP.mono (by decide) (c_M_isAbove hT p116 p117 )) (fun r118 P119 g120 => mpp 108 rfl ?_)
          obtain ⟨⟨x121, rfl, g122⟩, e123⟩ := g120
          have e123 := e123.symm
          subst e123
          have wx121 := ti_full x121
          replace g122 : 0 ≤ x121.toInt ∧ x121.toInt ≤ 1 := g122
          show MEvP _ none q_201 108 [(0, .ref 301), (1, .int t1), (2, .int v2)] [.int x121, .int 1] _ _ _ _
          refine mp_Tb (t := 114) (j_icmp_eq dX7_gives_108) (by decide) (fun c124 => ?_) (fun c124 => mpp 111 rfl ?_)
          · have c124 : 1 = x121.toInt := ti_eq c124
            refine mp_a (a_aload_n dX7_gives_114 rfl) (mpp 115 rfl ?_)
            refine mt_getU (i := 43) (k := 18) (A := 313) hT dX7_gives_115 rfl rl_301 (by decide) rfl (by decide) rfl un_29 (mpp 118 rfl ?_)
            refine mp_a (a_iload_n dX7_gives_118 rfl) (mpp 119 rfl ?_)
            refine mp_a (a_iconst (v := 1) dX7_gives_119 rfl) (mpp 120 rfl ?_)
            refine mt_bas (n := 7) hT dX7_gives_120 rl_313 (by decide) rfl rfl (by omega) (by omega) rfl (by decide) (fun P125 hT126 f127 f128 f129 => mpp 121 rfl ?_)
            have k130 : KW [1109, 1664, 1728, 1856] Po P125 := KW.step hK rl_313 rfl f128 f129
            refine mp_a (a_aload_n dX7_gives_121 rfl) (mpp 122 rfl ?_)
            refine mt_getU (i := 34) (k := 15) (A := 310) hT126 dX7_gives_122 rfl rl_301 (by decide) rfl (by decide) rfl un_26 (mpp 125 rfl ?_)
            refine mp_a (a_iload_n dX7_gives_125 rfl) (mpp 126 rfl ?_)
            refine mp_a (a_iload_n dX7_gives_126 rfl) (mpp 127 rfl ?_)
            refine mt_ias (n := 7) hT126 dX7_gives_127 rl_310 (by decide) rfl rfl (by omega) (by omega) rfl (ti_full v2) (fun P131 hT132 f133 f134 f135 => mpp 128 rfl ?_)
            have k136 : KW [1109, 1664, 1728, 1856] Po P131 := KW.step k130 rl_310 rfl f134 f135
            refine mp_a (a_aload_n dX7_gives_128 rfl) (mpp 129 rfl ?_)
            refine mp_a (a_iload_n dX7_gives_129 rfl) (mpp 130 rfl ?_)
            refine mp_a (a_iconst (v := 1) dX7_gives_130 rfl) (mpp 131 rfl ?_)
            obtain ⟨z137, h138⟩ := ti_ex (t1 + 1 : Int32)
            have wz137 := ti_full z137
            refine mp_t (s_iadd (v := z137) dX7_gives_131 h138) (mpp 132 rfl ?_)
            try have e139 : z137.toInt = t1.toInt + 1 := ti_addz h138 rfl rfl (by omega) (by omega)
            have e140 : (fv P131 301 20).toInt = (fv P 301 20).toInt := congrArg Int32.toInt ((f134 301 20 (ne_r rl_301 rl_310 rfl)).trans (f128 301 20 (ne_r rl_301 rl_313 rfl)))
            have p141 : 0 ≤ z137.toInt := by omega
            have p142 : (fv P131 301 20).toInt = z137.toInt + 1 := by omega
            have p143 : (fv P131 301 20).toInt ≤ 7 := by omega
            refine mt_callv (i := 276) (q' := q_201) (As := [.int z137]) (rest := []) hT132 dX7_gives_132 rfl qm_201 (by decide) rfl rl_301 (by decide) rfl (Nat.le_of_ble_eq_true rfl) rfl ⟨rfl, rfl⟩ ⟨Nat.le_of_ble_eq_true rfl, Nat.le_of_ble_eq_true rfl⟩ (EvP.mono (by decide) (c_M_gives_r1 hT132 p141 p142 p143 )) (fun r144 P145 g146 => mpp 135 rfl ?_)
            obtain ⟨⟨rfl, g148⟩, hT149, k150, R151⟩ := g146
            have k152 : KW [1109, 1664, 1728, 1856] Po P145 := KW.trans k136 k150 rfl
            show MEvP _ none q_201 135 [(0, .ref 301), (1, .int t1), (2, .int v2)] [] _ _ _ _
            refine mp_a (a_aload_n dX7_gives_135 rfl) (mpp 136 rfl ?_)
            refine mt_getU (i := 43) (k := 18) (A := 313) hT149 dX7_gives_136 rfl rl_301 (by decide) rfl (by decide) rfl un_29 (mpp 139 rfl ?_)
            refine mp_a (a_iload_n dX7_gives_139 rfl) (mpp 140 rfl ?_)
            refine mp_a (a_iconst (v := 0) dX7_gives_140 rfl) (mpp 141 rfl ?_)
            refine mt_bas (n := 7) hT149 dX7_gives_141 rl_313 (by decide) rfl rfl (by omega) (by omega) rfl (by decide) (fun P154 hT155 f156 f157 f158 => mpp 142 rfl ?_)
            have k159 : KW [1109, 1664, 1728, 1856] Po P154 := KW.step k152 rl_313 rfl f157 f158
            obtain ⟨z160, h161⟩ := ti_ex (v2 + 1 : Int32)
            have wz160 := ti_full z160
            refine mp_a (a_iinc (v := z160) (L' := [(2, .int z160), (0, .ref 301), (1, .int t1)]) dX7_gives_142 (by decide) rfl h161 rfl) (mpp 145 rfl ?_)
            try have e162 : z160.toInt = v2.toInt + 1 := ti_addz h161 rfl rfl (by omega) (by omega)
            refine mp_a (a_goto (t := 63) dX7_gives_145 (by decide)) ?_
            refine MEvP.less (L := [(0, .ref 301), (1, .int t1), (2, .int z160)]) rfl rfl ⟨rfl, rfl, rfl, trivial⟩ ?_
            have i163 : 0 ≤ z160.toInt := by omega
            exact ih _ (by omega) _ P154 hT155 k159 i163 rfl
          · have c124 : 1 ≠ x121.toInt := ti_eq_n c124
            refine mp_a (a_goto (t := 142) dX7_gives_111 (by decide)) ?_
            obtain ⟨z164, h165⟩ := ti_ex (v2 + 1 : Int32)
            have wz164 := ti_full z164
            refine mp_a (a_iinc (v := z164) (L' := [(2, .int z164), (0, .ref 301), (1, .int t1)]) dX7_gives_142 (by decide) rfl h165 rfl) (mpp 145 rfl ?_)
            try have e166 : z164.toInt = v2.toInt + 1 := ti_addz h165 rfl rfl (by omega) (by omega)
            refine mp_a (a_goto (t := 63) dX7_gives_145 (by decide)) ?_
            refine MEvP.less (L := [(0, .ref 301), (1, .int t1), (2, .int z164)]) rfl rfl ⟨rfl, rfl, rfl, trivial⟩ ?_
            have i167 : 0 ≤ z164.toInt := by omega
            exact ih _ (by omega) _ P hT hK i167 rfl

set_option maxHeartbeats 4000000 in
theorem c_M_gives_r2 {Po : mP} {t1 : Int32} (hT : Typ Po)  (hp0 : 0 ≤ t1.toInt) (hp1 : (fv Po 301 20).toInt = t1.toInt + 2) (hp2 : (fv Po 301 20).toInt ≤ 7)  : EvP 7 201 [.ref 301, .int t1] Po (fun r P' => (r = none ∧ (True)) ∧ Typ P' ∧ KW [1109, 1664, 1728, 1856] Po P' ∧ True) := by
  refine EvP.of qm_201 (Nat.le_of_ble_eq_true rfl) rfl ?_
  show MEvP _ none q_201 0 [(0, .ref 301), (1, .int t1)] [] _ 0 0 _
  have w_t1 := ti_full t1
  have g1 : (0 : Int) ≤ (fv Po 301 20).toInt ∧ (fv Po 301 20).toInt ≤ 8 := Typ.rng hT rl_301 (by decide) (by decide) rfl
  refine mp_a (a_iload_n dX7_gives_0 rfl) (mpp 1 rfl ?_)
  refine mp_a (a_aload_n dX7_gives_1 rfl) (mpp 2 rfl ?_)
  refine mt_getI (i := 255) (k := 20) hT dX7_gives_2 rfl rl_301 (by decide) rfl (by decide) rfl (fun g2 g3 => mpp 5 rfl ?_)
  refine mp_Tb (t := 61) (j_icmp_ne dX7_gives_5) (by decide) (fun c4 => ?_) (fun c4 => mpp 8 rfl ?_)
  · have c4 : t1.toInt ≠ (fv Po 301 20).toInt := ti_ne c4
    refine mp_a (a_iconst (v := 0) dX7_gives_61 rfl) (mpp 62 rfl ?_)
    refine mp_a (a_istore_n (L' := [(2, .int 0), (0, .ref 301), (1, .int t1)]) dX7_gives_62 (by decide) rfl) (mpp 63 rfl ?_)
    refine MEvP.less (L := [(0, .ref 301), (1, .int t1), (2, .int 0)]) rfl rfl ⟨rfl, rfl, rfl, trivial⟩ ?_
    have i5 : 0 ≤ (0 : Int) := by omega
    exact c_M_gives_r2_l63   hp0 hp1 hp2 _ _ Po hT KW.refl i5 rfl
  · have c4 : t1.toInt = (fv Po 301 20).toInt := ti_ne_n c4
    exfalso
    omega

set_option maxHeartbeats 4000000 in
theorem c_M_gives_r3_l63 {Po : mP} {t1 : Int32} (hp0 : 0 ≤ t1.toInt) (hp1 : (fv Po 301 20).toInt = t1.toInt + 3) (hp2 : (fv Po 301 20).toInt ≤ 7)  : ∀ (n : Nat) (v2 : Int32), ∀ (P : mP), Typ P → KW [1109, 1664, 1728, 1856] Po P → (0 ≤ v2.toInt) → (2147483647 - v2.toInt).toNat = n → MEvP 7 none q_201 63 [(0, .ref 301), (1, .int t1), (2, .int v2)] [] P 0 0 (fun r P' => (r = none ∧ (True)) ∧ Typ P' ∧ KW [1109, 1664, 1728, 1856] Po P' ∧ True) := by
  intro n
  induction n using Nat.strongRecOn with | _ n ih => ?_
  intro v2 P hT hK i_0 hm
  have w_t1 := ti_full t1
  have w_v2 := ti_full v2
  refine mp_a (a_iload_n dX7_gives_63 rfl) (mpp 64 rfl ?_)
  refine mp_a (a_aload_n dX7_gives_64 rfl) (mpp 65 rfl ?_)
  have e1 : (fv P 301 20).toInt = (fv Po 301 20).toInt := congrArg Int32.toInt (KW.at hK 20 rl_301 rfl)
  refine mt_getI (i := 255) (k := 20) hT dX7_gives_65 rfl rl_301 (by decide) rfl (by decide) rfl (fun g2 g3 => mpp 68 rfl ?_)
  refine mp_Tb (t := 148) (j_icmp_ge dX7_gives_68) (by decide) (fun c4 => ?_) (fun c4 => mpp 71 rfl ?_)
  · have c4 : v2.toInt ≥ (fv P 301 20).toInt := ti_ge c4
    exact mp_ret ⟨⟨rfl, trivial⟩, hT, hK, trivial⟩ dX7_gives_148 rfl
  · have c4 : v2.toInt < (fv P 301 20).toInt := ti_ge_n c4
    refine mp_a (a_aload_n dX7_gives_71 rfl) (mpp 72 rfl ?_)
    refine mt_getU (i := 43) (k := 18) (A := 313) hT dX7_gives_72 rfl rl_301 (by decide) rfl (by decide) rfl un_29 (mpp 75 rfl ?_)
    refine mp_a (a_iload_n dX7_gives_75 rfl) (mpp 76 rfl ?_)
    refine mt_bal (n := 7) hT dX7_gives_76 rl_313 (by decide) rfl rfl (by omega) (by omega) rfl (fun g5 g6 => mpp 77 rfl ?_)
    refine mp_Tb (t := 142) (j_if_ne dX7_gives_77) (by decide) (fun c7 => ?_) (fun c7 => mpp 80 rfl ?_)
    · have c7 : (fv P 313 v2.toInt.toNat).toInt ≠ 0 := ti_ne c7
      obtain ⟨z8, h9⟩ := ti_ex (v2 + 1 : Int32)
      have wz8 := ti_full z8
      refine mp_a (a_iinc (v := z8) (L' := [(2, .int z8), (0, .ref 301), (1, .int t1)]) dX7_gives_142 (by decide) rfl h9 rfl) (mpp 145 rfl ?_)
      try have e10 : z8.toInt = v2.toInt + 1 := ti_addz h9 rfl rfl (by omega) (by omega)
      refine mp_a (a_goto (t := 63) dX7_gives_145 (by decide)) ?_
      refine MEvP.less (L := [(0, .ref 301), (1, .int t1), (2, .int z8)]) rfl rfl ⟨rfl, rfl, rfl, trivial⟩ ?_
      have i11 : 0 ≤ z8.toInt := by omega
      exact ih _ (by omega) _ P hT hK i11 rfl
    · have c7 : (fv P 313 v2.toInt.toNat).toInt = 0 := ti_ne_n c7
      refine mp_a (a_iload_n dX7_gives_80 rfl) (mpp 81 rfl ?_)
      refine mp_Tb (t := 114) (j_if_le dX7_gives_81) (by decide) (fun c12 => ?_) (fun c12 => mpp 84 rfl ?_)
      · have c12 : t1.toInt ≤ 0 := ti_le c12
        refine mp_a (a_aload_n dX7_gives_114 rfl) (mpp 115 rfl ?_)
        refine mt_getU (i := 43) (k := 18) (A := 313) hT dX7_gives_115 rfl rl_301 (by decide) rfl (by decide) rfl un_29 (mpp 118 rfl ?_)
        refine mp_a (a_iload_n dX7_gives_118 rfl) (mpp 119 rfl ?_)
        refine mp_a (a_iconst (v := 1) dX7_gives_119 rfl) (mpp 120 rfl ?_)
        refine mt_bas (n := 7) hT dX7_gives_120 rl_313 (by decide) rfl rfl (by omega) (by omega) rfl (by decide) (fun P13 hT14 f15 f16 f17 => mpp 121 rfl ?_)
        have k18 : KW [1109, 1664, 1728, 1856] Po P13 := KW.step hK rl_313 rfl f16 f17
        refine mp_a (a_aload_n dX7_gives_121 rfl) (mpp 122 rfl ?_)
        refine mt_getU (i := 34) (k := 15) (A := 310) hT14 dX7_gives_122 rfl rl_301 (by decide) rfl (by decide) rfl un_26 (mpp 125 rfl ?_)
        refine mp_a (a_iload_n dX7_gives_125 rfl) (mpp 126 rfl ?_)
        refine mp_a (a_iload_n dX7_gives_126 rfl) (mpp 127 rfl ?_)
        refine mt_ias (n := 7) hT14 dX7_gives_127 rl_310 (by decide) rfl rfl (by omega) (by omega) rfl (ti_full v2) (fun P19 hT20 f21 f22 f23 => mpp 128 rfl ?_)
        have k24 : KW [1109, 1664, 1728, 1856] Po P19 := KW.step k18 rl_310 rfl f22 f23
        refine mp_a (a_aload_n dX7_gives_128 rfl) (mpp 129 rfl ?_)
        refine mp_a (a_iload_n dX7_gives_129 rfl) (mpp 130 rfl ?_)
        refine mp_a (a_iconst (v := 1) dX7_gives_130 rfl) (mpp 131 rfl ?_)
        obtain ⟨z25, h26⟩ := ti_ex (t1 + 1 : Int32)
        have wz25 := ti_full z25
        refine mp_t (s_iadd (v := z25) dX7_gives_131 h26) (mpp 132 rfl ?_)
        try have e27 : z25.toInt = t1.toInt + 1 := ti_addz h26 rfl rfl (by omega) (by omega)
        have e28 : (fv P19 301 20).toInt = (fv P 301 20).toInt := congrArg Int32.toInt ((f22 301 20 (ne_r rl_301 rl_310 rfl)).trans (f16 301 20 (ne_r rl_301 rl_313 rfl)))
        have p29 : 0 ≤ z25.toInt := by omega
        have p30 : (fv P19 301 20).toInt = z25.toInt + 2 := by omega
        have p31 : (fv P19 301 20).toInt ≤ 7 := by omega
        refine mt_callv (i := 276) (q' := q_201) (As := [.int z25]) (rest := []) hT20 dX7_gives_132 rfl qm_201 (by decide) rfl rl_301 (by decide) rfl (Nat.le_of_ble_eq_true rfl) rfl ⟨rfl, rfl⟩ ⟨Nat.le_of_ble_eq_true rfl, Nat.le_of_ble_eq_true rfl⟩ (EvP.mono (by decide) (c_M_gives_r2 hT20 p29 p30 p31 )) (fun r32 P33 g34 => mpp 135 rfl ?_)
        obtain ⟨⟨rfl, g36⟩, hT37, k38, R39⟩ := g34
        have k40 : KW [1109, 1664, 1728, 1856] Po P33 := KW.trans k24 k38 rfl
        show MEvP _ none q_201 135 [(0, .ref 301), (1, .int t1), (2, .int v2)] [] _ _ _ _
        refine mp_a (a_aload_n dX7_gives_135 rfl) (mpp 136 rfl ?_)
        refine mt_getU (i := 43) (k := 18) (A := 313) hT37 dX7_gives_136 rfl rl_301 (by decide) rfl (by decide) rfl un_29 (mpp 139 rfl ?_)
        refine mp_a (a_iload_n dX7_gives_139 rfl) (mpp 140 rfl ?_)
        refine mp_a (a_iconst (v := 0) dX7_gives_140 rfl) (mpp 141 rfl ?_)
        refine mt_bas (n := 7) hT37 dX7_gives_141 rl_313 (by decide) rfl rfl (by omega) (by omega) rfl (by decide) (fun P42 hT43 f44 f45 f46 => mpp 142 rfl ?_)
        have k47 : KW [1109, 1664, 1728, 1856] Po P42 := KW.step k40 rl_313 rfl f45 f46
        obtain ⟨z48, h49⟩ := ti_ex (v2 + 1 : Int32)
        have wz48 := ti_full z48
        refine mp_a (a_iinc (v := z48) (L' := [(2, .int z48), (0, .ref 301), (1, .int t1)]) dX7_gives_142 (by decide) rfl h49 rfl) (mpp 145 rfl ?_)
        try have e50 : z48.toInt = v2.toInt + 1 := ti_addz h49 rfl rfl (by omega) (by omega)
        refine mp_a (a_goto (t := 63) dX7_gives_145 (by decide)) ?_
        refine MEvP.less (L := [(0, .ref 301), (1, .int t1), (2, .int z48)]) rfl rfl ⟨rfl, rfl, rfl, trivial⟩ ?_
        have i51 : 0 ≤ z48.toInt := by omega
        exact ih _ (by omega) _ P42 hT43 k47 i51 rfl
      · have c12 : t1.toInt > 0 := ti_le_n c12
        refine mp_a (a_iload_n dX7_gives_84 rfl) (mpp 85 rfl ?_)
        refine mp_a (a_aload_n dX7_gives_85 rfl) (mpp 86 rfl ?_)
        refine mt_getU (i := 34) (k := 15) (A := 310) hT dX7_gives_86 rfl rl_301 (by decide) rfl (by decide) rfl un_26 (mpp 89 rfl ?_)
        refine mp_a (a_iload_n dX7_gives_89 rfl) (mpp 90 rfl ?_)
        refine mp_a (a_iconst (v := 1) dX7_gives_90 rfl) (mpp 91 rfl ?_)
        obtain ⟨z52, h53⟩ := ti_ex (t1 - 1 : Int32)
        have wz52 := ti_full z52
        refine mp_t (s_isub (v := z52) dX7_gives_91 h53) (mpp 92 rfl ?_)
        try have e54 : z52.toInt = t1.toInt - 1 := ti_subz h53 rfl rfl (by omega) (by omega)
        refine mt_ial (n := 7) hT dX7_gives_92 rl_310 (by decide) rfl rfl (by omega) (by omega) rfl (fun g55 g56 => mpp 93 rfl ?_)
        refine mp_Tb (t := 100) (j_icmp_le dX7_gives_93) (by decide) (fun c57 => ?_) (fun c57 => mpp 96 rfl ?_)
        · have c57 : v2.toInt ≤ (fv P 310 z52.toInt.toNat).toInt := ti_le c57
          refine mp_a (a_iconst (v := 0) dX7_gives_100 rfl) (mpp 101 rfl ?_)
          refine mp_a (a_aload_n dX7_gives_101 rfl) (mpp 102 rfl ?_)
          refine mp_a (a_iload_n dX7_gives_102 rfl) (mpp 103 rfl ?_)
          refine mp_a (a_iconst (v := 1) dX7_gives_103 rfl) (mpp 104 rfl ?_)
          obtain ⟨z58, h59⟩ := ti_ex (t1 - 1 : Int32)
          have wz58 := ti_full z58
          refine mp_t (s_isub (v := z58) dX7_gives_104 h59) (mpp 105 rfl ?_)
          try have e60 : z58.toInt = t1.toInt - 1 := ti_subz h59 rfl rfl (by omega) (by omega)
          have p61 : 0 ≤ z58.toInt := by omega
          have p62 : z58.toInt ≤ 7 := by omega
          refine mt_callv (i := 273) (q' := q_206) (As := [.int z58]) (rest := [.int 0]) hT dX7_gives_105 rfl qm_206 (by decide) rfl rl_301 (by decide) rfl (Nat.le_of_ble_eq_true rfl) rfl ⟨rfl, rfl⟩ ⟨Nat.le_of_ble_eq_true rfl, Nat.le_of_ble_eq_true rfl⟩ (EvP.mono (by decide) (c_M_isAbove hT p61 p62 )) (fun r63 P64 g65 => mpp 108 rfl ?_)
          obtain ⟨⟨x66, rfl, g67⟩, e68⟩ := g65
          have e68 := e68.symm
          subst e68
          have wx66 := ti_full x66
          replace g67 : 0 ≤ x66.toInt ∧ x66.toInt ≤ 1 := g67
          show MEvP _ none q_201 108 [(0, .ref 301), (1, .int t1), (2, .int v2)] [.int x66, .int 0] _ _ _ _
          refine mp_Tb (t := 114) (j_icmp_eq dX7_gives_108) (by decide) (fun c69 => ?_) (fun c69 => mpp 111 rfl ?_)
          · have c69 : 0 = x66.toInt := ti_eq c69
            refine mp_a (a_aload_n dX7_gives_114 rfl) (mpp 115 rfl ?_)
            refine mt_getU (i := 43) (k := 18) (A := 313) hT dX7_gives_115 rfl rl_301 (by decide) rfl (by decide) rfl un_29 (mpp 118 rfl ?_)
            refine mp_a (a_iload_n dX7_gives_118 rfl) (mpp 119 rfl ?_)
            refine mp_a (a_iconst (v := 1) dX7_gives_119 rfl) (mpp 120 rfl ?_)
            refine mt_bas (n := 7) hT dX7_gives_120 rl_313 (by decide) rfl rfl (by omega) (by omega) rfl (by decide) (fun P70 hT71 f72 f73 f74 => mpp 121 rfl ?_)
            have k75 : KW [1109, 1664, 1728, 1856] Po P70 := KW.step hK rl_313 rfl f73 f74
            refine mp_a (a_aload_n dX7_gives_121 rfl) (mpp 122 rfl ?_)
            refine mt_getU (i := 34) (k := 15) (A := 310) hT71 dX7_gives_122 rfl rl_301 (by decide) rfl (by decide) rfl un_26 (mpp 125 rfl ?_)
            refine mp_a (a_iload_n dX7_gives_125 rfl) (mpp 126 rfl ?_)
            refine mp_a (a_iload_n dX7_gives_126 rfl) (mpp 127 rfl ?_)
            refine mt_ias (n := 7) hT71 dX7_gives_127 rl_310 (by decide) rfl rfl (by omega) (by omega) rfl (ti_full v2) (fun P76 hT77 f78 f79 f80 => mpp 128 rfl ?_)
            have k81 : KW [1109, 1664, 1728, 1856] Po P76 := KW.step k75 rl_310 rfl f79 f80
            refine mp_a (a_aload_n dX7_gives_128 rfl) (mpp 129 rfl ?_)
            refine mp_a (a_iload_n dX7_gives_129 rfl) (mpp 130 rfl ?_)
            refine mp_a (a_iconst (v := 1) dX7_gives_130 rfl) (mpp 131 rfl ?_)
            obtain ⟨z82, h83⟩ := ti_ex (t1 + 1 : Int32)
            have wz82 := ti_full z82
            refine mp_t (s_iadd (v := z82) dX7_gives_131 h83) (mpp 132 rfl ?_)
            try have e84 : z82.toInt = t1.toInt + 1 := ti_addz h83 rfl rfl (by omega) (by omega)
            have e85 : (fv P76 301 20).toInt = (fv P 301 20).toInt := congrArg Int32.toInt ((f79 301 20 (ne_r rl_301 rl_310 rfl)).trans (f73 301 20 (ne_r rl_301 rl_313 rfl)))
            have p86 : 0 ≤ z82.toInt := by omega
            have p87 : (fv P76 301 20).toInt = z82.toInt + 2 := by omega
            have p88 : (fv P76 301 20).toInt ≤ 7 := by omega
            refine mt_callv (i := 276) (q' := q_201) (As := [.int z82]) (rest := []) hT77 dX7_gives_132 rfl qm_201 (by decide) rfl rl_301 (by decide) rfl (Nat.le_of_ble_eq_true rfl) rfl ⟨rfl, rfl⟩ ⟨Nat.le_of_ble_eq_true rfl, Nat.le_of_ble_eq_true rfl⟩ (EvP.mono (by decide) (c_M_gives_r2 hT77 p86 p87 p88 )) (fun r89 P90 g91 => mpp 135 rfl ?_)
            obtain ⟨⟨rfl, g93⟩, hT94, k95, R96⟩ := g91
            have k97 : KW [1109, 1664, 1728, 1856] Po P90 := KW.trans k81 k95 rfl
            show MEvP _ none q_201 135 [(0, .ref 301), (1, .int t1), (2, .int v2)] [] _ _ _ _
            refine mp_a (a_aload_n dX7_gives_135 rfl) (mpp 136 rfl ?_)
            refine mt_getU (i := 43) (k := 18) (A := 313) hT94 dX7_gives_136 rfl rl_301 (by decide) rfl (by decide) rfl un_29 (mpp 139 rfl ?_)
            refine mp_a (a_iload_n dX7_gives_139 rfl) (mpp 140 rfl ?_)
            refine mp_a (a_iconst (v := 0) dX7_gives_140 rfl) (mpp 141 rfl ?_)
            refine mt_bas (n := 7) hT94 dX7_gives_141 rl_313 (by decide) rfl rfl (by omega) (by omega) rfl (by decide) (fun P99 hT100 f101 f102 f103 => mpp 142 rfl ?_)
            have k104 : KW [1109, 1664, 1728, 1856] Po P99 := KW.step k97 rl_313 rfl f102 f103
            obtain ⟨z105, h106⟩ := ti_ex (v2 + 1 : Int32)
            have wz105 := ti_full z105
            refine mp_a (a_iinc (v := z105) (L' := [(2, .int z105), (0, .ref 301), (1, .int t1)]) dX7_gives_142 (by decide) rfl h106 rfl) (mpp 145 rfl ?_)
            try have e107 : z105.toInt = v2.toInt + 1 := ti_addz h106 rfl rfl (by omega) (by omega)
            refine mp_a (a_goto (t := 63) dX7_gives_145 (by decide)) ?_
            refine MEvP.less (L := [(0, .ref 301), (1, .int t1), (2, .int z105)]) rfl rfl ⟨rfl, rfl, rfl, trivial⟩ ?_
            have i108 : 0 ≤ z105.toInt := by omega
            exact ih _ (by omega) _ P99 hT100 k104 i108 rfl
          · have c69 : 0 ≠ x66.toInt := ti_eq_n c69
            refine mp_a (a_goto (t := 142) dX7_gives_111 (by decide)) ?_
            obtain ⟨z109, h110⟩ := ti_ex (v2 + 1 : Int32)
            have wz109 := ti_full z109
            refine mp_a (a_iinc (v := z109) (L' := [(2, .int z109), (0, .ref 301), (1, .int t1)]) dX7_gives_142 (by decide) rfl h110 rfl) (mpp 145 rfl ?_)
            try have e111 : z109.toInt = v2.toInt + 1 := ti_addz h110 rfl rfl (by omega) (by omega)
            refine mp_a (a_goto (t := 63) dX7_gives_145 (by decide)) ?_
            refine MEvP.less (L := [(0, .ref 301), (1, .int t1), (2, .int z109)]) rfl rfl ⟨rfl, rfl, rfl, trivial⟩ ?_
            have i112 : 0 ≤ z109.toInt := by omega
            exact ih _ (by omega) _ P hT hK i112 rfl
        · have c57 : v2.toInt > (fv P 310 z52.toInt.toNat).toInt := ti_le_n c57
          refine mp_a (a_iconst (v := 1) dX7_gives_96 rfl) (mpp 97 rfl ?_)
          refine mp_a (a_goto (t := 101) dX7_gives_97 (by decide)) ?_
          refine mp_a (a_aload_n dX7_gives_101 rfl) (mpp 102 rfl ?_)
          refine mp_a (a_iload_n dX7_gives_102 rfl) (mpp 103 rfl ?_)
          refine mp_a (a_iconst (v := 1) dX7_gives_103 rfl) (mpp 104 rfl ?_)
          obtain ⟨z113, h114⟩ := ti_ex (t1 - 1 : Int32)
          have wz113 := ti_full z113
          refine mp_t (s_isub (v := z113) dX7_gives_104 h114) (mpp 105 rfl ?_)
          try have e115 : z113.toInt = t1.toInt - 1 := ti_subz h114 rfl rfl (by omega) (by omega)
          have p116 : 0 ≤ z113.toInt := by omega
          have p117 : z113.toInt ≤ 7 := by omega
          refine mt_callv (i := 273) (q' := q_206) (As := [.int z113]) (rest := [.int 1]) hT dX7_gives_105 rfl qm_206 (by decide) rfl rl_301 (by decide) rfl (Nat.le_of_ble_eq_true rfl) rfl ⟨rfl, rfl⟩ ⟨Nat.le_of_ble_eq_true rfl, Nat.le_of_ble_eq_true rfl⟩ (EvP.mono (by decide) (c_M_isAbove hT p116 p117 )) (fun r118 P119 g120 => mpp 108 rfl ?_)
          obtain ⟨⟨x121, rfl, g122⟩, e123⟩ := g120
          have e123 := e123.symm
          subst e123
          have wx121 := ti_full x121
          replace g122 : 0 ≤ x121.toInt ∧ x121.toInt ≤ 1 := g122
          show MEvP _ none q_201 108 [(0, .ref 301), (1, .int t1), (2, .int v2)] [.int x121, .int 1] _ _ _ _
          refine mp_Tb (t := 114) (j_icmp_eq dX7_gives_108) (by decide) (fun c124 => ?_) (fun c124 => mpp 111 rfl ?_)
          · have c124 : 1 = x121.toInt := ti_eq c124
            refine mp_a (a_aload_n dX7_gives_114 rfl) (mpp 115 rfl ?_)
            refine mt_getU (i := 43) (k := 18) (A := 313) hT dX7_gives_115 rfl rl_301 (by decide) rfl (by decide) rfl un_29 (mpp 118 rfl ?_)
            refine mp_a (a_iload_n dX7_gives_118 rfl) (mpp 119 rfl ?_)
            refine mp_a (a_iconst (v := 1) dX7_gives_119 rfl) (mpp 120 rfl ?_)
            refine mt_bas (n := 7) hT dX7_gives_120 rl_313 (by decide) rfl rfl (by omega) (by omega) rfl (by decide) (fun P125 hT126 f127 f128 f129 => mpp 121 rfl ?_)
            have k130 : KW [1109, 1664, 1728, 1856] Po P125 := KW.step hK rl_313 rfl f128 f129
            refine mp_a (a_aload_n dX7_gives_121 rfl) (mpp 122 rfl ?_)
            refine mt_getU (i := 34) (k := 15) (A := 310) hT126 dX7_gives_122 rfl rl_301 (by decide) rfl (by decide) rfl un_26 (mpp 125 rfl ?_)
            refine mp_a (a_iload_n dX7_gives_125 rfl) (mpp 126 rfl ?_)
            refine mp_a (a_iload_n dX7_gives_126 rfl) (mpp 127 rfl ?_)
            refine mt_ias (n := 7) hT126 dX7_gives_127 rl_310 (by decide) rfl rfl (by omega) (by omega) rfl (ti_full v2) (fun P131 hT132 f133 f134 f135 => mpp 128 rfl ?_)
            have k136 : KW [1109, 1664, 1728, 1856] Po P131 := KW.step k130 rl_310 rfl f134 f135
            refine mp_a (a_aload_n dX7_gives_128 rfl) (mpp 129 rfl ?_)
            refine mp_a (a_iload_n dX7_gives_129 rfl) (mpp 130 rfl ?_)
            refine mp_a (a_iconst (v := 1) dX7_gives_130 rfl) (mpp 131 rfl ?_)
            obtain ⟨z137, h138⟩ := ti_ex (t1 + 1 : Int32)
            have wz137 := ti_full z137
            refine mp_t (s_iadd (v := z137) dX7_gives_131 h138) (mpp 132 rfl ?_)
            try have e139 : z137.toInt = t1.toInt + 1 := ti_addz h138 rfl rfl (by omega) (by omega)
            have e140 : (fv P131 301 20).toInt = (fv P 301 20).toInt := congrArg Int32.toInt ((f134 301 20 (ne_r rl_301 rl_310 rfl)).trans (f128 301 20 (ne_r rl_301 rl_313 rfl)))
            have p141 : 0 ≤ z137.toInt := by omega
            have p142 : (fv P131 301 20).toInt = z137.toInt + 2 := by omega
            have p143 : (fv P131 301 20).toInt ≤ 7 := by omega
            refine mt_callv (i := 276) (q' := q_201) (As := [.int z137]) (rest := []) hT132 dX7_gives_132 rfl qm_201 (by decide) rfl rl_301 (by decide) rfl (Nat.le_of_ble_eq_true rfl) rfl ⟨rfl, rfl⟩ ⟨Nat.le_of_ble_eq_true rfl, Nat.le_of_ble_eq_true rfl⟩ (EvP.mono (by decide) (c_M_gives_r2 hT132 p141 p142 p143 )) (fun r144 P145 g146 => mpp 135 rfl ?_)
            obtain ⟨⟨rfl, g148⟩, hT149, k150, R151⟩ := g146
            have k152 : KW [1109, 1664, 1728, 1856] Po P145 := KW.trans k136 k150 rfl
            show MEvP _ none q_201 135 [(0, .ref 301), (1, .int t1), (2, .int v2)] [] _ _ _ _
            refine mp_a (a_aload_n dX7_gives_135 rfl) (mpp 136 rfl ?_)
            refine mt_getU (i := 43) (k := 18) (A := 313) hT149 dX7_gives_136 rfl rl_301 (by decide) rfl (by decide) rfl un_29 (mpp 139 rfl ?_)
            refine mp_a (a_iload_n dX7_gives_139 rfl) (mpp 140 rfl ?_)
            refine mp_a (a_iconst (v := 0) dX7_gives_140 rfl) (mpp 141 rfl ?_)
            refine mt_bas (n := 7) hT149 dX7_gives_141 rl_313 (by decide) rfl rfl (by omega) (by omega) rfl (by decide) (fun P154 hT155 f156 f157 f158 => mpp 142 rfl ?_)
            have k159 : KW [1109, 1664, 1728, 1856] Po P154 := KW.step k152 rl_313 rfl f157 f158
            obtain ⟨z160, h161⟩ := ti_ex (v2 + 1 : Int32)
            have wz160 := ti_full z160
            refine mp_a (a_iinc (v := z160) (L' := [(2, .int z160), (0, .ref 301), (1, .int t1)]) dX7_gives_142 (by decide) rfl h161 rfl) (mpp 145 rfl ?_)
            try have e162 : z160.toInt = v2.toInt + 1 := ti_addz h161 rfl rfl (by omega) (by omega)
            refine mp_a (a_goto (t := 63) dX7_gives_145 (by decide)) ?_
            refine MEvP.less (L := [(0, .ref 301), (1, .int t1), (2, .int z160)]) rfl rfl ⟨rfl, rfl, rfl, trivial⟩ ?_
            have i163 : 0 ≤ z160.toInt := by omega
            exact ih _ (by omega) _ P154 hT155 k159 i163 rfl
          · have c124 : 1 ≠ x121.toInt := ti_eq_n c124
            refine mp_a (a_goto (t := 142) dX7_gives_111 (by decide)) ?_
            obtain ⟨z164, h165⟩ := ti_ex (v2 + 1 : Int32)
            have wz164 := ti_full z164
            refine mp_a (a_iinc (v := z164) (L' := [(2, .int z164), (0, .ref 301), (1, .int t1)]) dX7_gives_142 (by decide) rfl h165 rfl) (mpp 145 rfl ?_)
            try have e166 : z164.toInt = v2.toInt + 1 := ti_addz h165 rfl rfl (by omega) (by omega)
            refine mp_a (a_goto (t := 63) dX7_gives_145 (by decide)) ?_
            refine MEvP.less (L := [(0, .ref 301), (1, .int t1), (2, .int z164)]) rfl rfl ⟨rfl, rfl, rfl, trivial⟩ ?_
            have i167 : 0 ≤ z164.toInt := by omega
            exact ih _ (by omega) _ P hT hK i167 rfl

set_option maxHeartbeats 4000000 in
theorem c_M_gives_r3 {Po : mP} {t1 : Int32} (hT : Typ Po)  (hp0 : 0 ≤ t1.toInt) (hp1 : (fv Po 301 20).toInt = t1.toInt + 3) (hp2 : (fv Po 301 20).toInt ≤ 7)  : EvP 8 201 [.ref 301, .int t1] Po (fun r P' => (r = none ∧ (True)) ∧ Typ P' ∧ KW [1109, 1664, 1728, 1856] Po P' ∧ True) := by
  refine EvP.of qm_201 (Nat.le_of_ble_eq_true rfl) rfl ?_
  show MEvP _ none q_201 0 [(0, .ref 301), (1, .int t1)] [] _ 0 0 _
  have w_t1 := ti_full t1
  have g1 : (0 : Int) ≤ (fv Po 301 20).toInt ∧ (fv Po 301 20).toInt ≤ 8 := Typ.rng hT rl_301 (by decide) (by decide) rfl
  refine mp_a (a_iload_n dX7_gives_0 rfl) (mpp 1 rfl ?_)
  refine mp_a (a_aload_n dX7_gives_1 rfl) (mpp 2 rfl ?_)
  refine mt_getI (i := 255) (k := 20) hT dX7_gives_2 rfl rl_301 (by decide) rfl (by decide) rfl (fun g2 g3 => mpp 5 rfl ?_)
  refine mp_Tb (t := 61) (j_icmp_ne dX7_gives_5) (by decide) (fun c4 => ?_) (fun c4 => mpp 8 rfl ?_)
  · have c4 : t1.toInt ≠ (fv Po 301 20).toInt := ti_ne c4
    refine mp_a (a_iconst (v := 0) dX7_gives_61 rfl) (mpp 62 rfl ?_)
    refine mp_a (a_istore_n (L' := [(2, .int 0), (0, .ref 301), (1, .int t1)]) dX7_gives_62 (by decide) rfl) (mpp 63 rfl ?_)
    refine MEvP.less (L := [(0, .ref 301), (1, .int t1), (2, .int 0)]) rfl rfl ⟨rfl, rfl, rfl, trivial⟩ ?_
    have i5 : 0 ≤ (0 : Int) := by omega
    exact c_M_gives_r3_l63   hp0 hp1 hp2 _ _ Po hT KW.refl i5 rfl
  · have c4 : t1.toInt = (fv Po 301 20).toInt := ti_ne_n c4
    exfalso
    omega

