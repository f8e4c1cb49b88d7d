/-! methods on typed pools, 28 (written by a program) -/
set_option maxHeartbeats 4000000 in
theorem c_M_foldsOnStage {Po : mP} {t1 : Int32} (hT : Typ Po) (hR : Rel Po)  : EvP 8 188 [.ref 301, .int t1] Po (fun r P' => (∃ x : Int32, r = some (.int x) ∧ (True)) ∧ Typ P' ∧ KW [1093, 1094, 1101, 1102, 1152, 1536, 1600] Po P' ∧ Rel P') := by
  refine EvP.of qm_188 (Nat.le_of_ble_eq_true rfl) rfl ?_
  show MEvP _ none q_188 0 [(0, .ref 301), (1, .int t1)] [] _ 0 0 _
  refine mp_a (a_aload_n dX7_foldsOnStage_0 rfl) (mpp 1 rfl ?_)
  refine mp_a (a_iload_n dX7_foldsOnStage_1 rfl) (mpp 2 rfl ?_)
  refine mt_callv (i := 85) (q' := q_144) (As := [.int t1]) (rest := []) hT dX7_foldsOnStage_2 rfl qm_144 (by decide) rfl rl_301 (by decide) rfl (Nat.le_of_ble_eq_true rfl) rfl ⟨rfl, rfl⟩ ⟨Nat.le_of_ble_eq_true rfl, Nat.le_of_ble_eq_true rfl⟩ (EvP.mono (by decide) (c_M_isPiece hT )) (fun r1 P2 g3 => mpp 5 rfl ?_)
  obtain ⟨⟨x4, rfl, g5⟩, e6⟩ := g3
  have e6 := e6.symm
  subst e6
  have wx4 := ti_full x4
  have g5 : 0 ≤ x4.toInt ∧ x4.toInt ≤ 1 ∧ ((x4.toInt = 1 ∧ 0 ≤ t1.toInt ∧ t1.toInt + 1 ≤ (fv Po 302 0).toInt ∧ t1.toInt ≤ 7) ∨ (x4.toInt = 0 ∧ (t1.toInt < 0 ∨ (fv Po 302 0).toInt ≤ t1.toInt))) := g5
  have g7 : (0 : Int) ≤ (fv Po 302 0).toInt ∧ (fv Po 302 0).toInt ≤ 8 := Typ.rng hT rl_302 (by decide) (by decide) rfl
  show MEvP _ none q_188 5 [(0, .ref 301), (1, .int t1)] [.int x4] _ _ _ _
  refine mp_Tb (t := 12) (j_if_ne dX7_foldsOnStage_5) (by decide) (fun c8 => ?_) (fun c8 => mpp 8 rfl ?_)
  · have c8 : x4.toInt ≠ 0 := ti_ne c8
    refine mp_a (a_aload_n dX7_foldsOnStage_12 rfl) (mpp 13 rfl ?_)
    refine mp_a (a_iload_n dX7_foldsOnStage_13 rfl) (mpp 14 rfl ?_)
    have p9 : 0 ≤ t1.toInt := by omega
    have p10 : t1.toInt ≤ 7 := by omega
    refine mt_callv (i := 130) (q' := q_145) (As := [.int t1]) (rest := []) hT dX7_foldsOnStage_14 rfl qm_145 (by decide) rfl rl_301 (by decide) rfl (Nat.le_of_ble_eq_true rfl) rfl ⟨rfl, rfl⟩ ⟨Nat.le_of_ble_eq_true rfl, Nat.le_of_ble_eq_true rfl⟩ (EvP.mono (by decide) (c_M_isFolded hT p9 p10 )) (fun r11 P12 g13 => mpp 17 rfl ?_)
    obtain ⟨⟨x14, rfl, g15⟩, e16⟩ := g13
    have e16 := e16.symm
    subst e16
    have wx14 := ti_full x14
    have g15 : 0 ≤ x14.toInt ∧ x14.toInt ≤ 1 ∧ ((x14.toInt = 1 ∧ (fv Po 302 (5 + 19 * t1.toInt.toNat)).toInt = 1) ∨ (x14.toInt = 0 ∧ (fv Po 302 (5 + 19 * t1.toInt.toNat)).toInt ≠ 1)) := g15
    have g17 := ti_full (fv Po 302 (5 + 19 * t1.toInt.toNat))
    show MEvP _ none q_188 17 [(0, .ref 301), (1, .int t1)] [.int x14] _ _ _ _
    refine mp_Tb (t := 27) (j_if_eq dX7_foldsOnStage_17) (by decide) (fun c18 => ?_) (fun c18 => mpp 20 rfl ?_)
    · have c18 : x14.toInt = 0 := ti_eq c18
      refine mp_a (a_aload_n dX7_foldsOnStage_27 rfl) (mpp 28 rfl ?_)
      refine mp_a (a_iload_n dX7_foldsOnStage_28 rfl) (mpp 29 rfl ?_)
      have p19 : 0 ≤ t1.toInt := by omega
      have p20 : t1.toInt ≤ 7 := by omega
      refine mt_callv (i := 212) (q' := q_160) (As := [.int t1]) (rest := []) hT dX7_foldsOnStage_29 rfl qm_160 (by decide) rfl rl_301 (by decide) rfl (Nat.le_of_ble_eq_true rfl) rfl ⟨rfl, rfl⟩ ⟨Nat.le_of_ble_eq_true rfl, Nat.le_of_ble_eq_true rfl⟩ (EvP.mono (by decide) (c_M_whyNot hT p19 p20 )) (fun r21 P22 g23 => mpp 32 rfl ?_)
      obtain ⟨⟨x24, rfl, g25⟩, hT26, k27, R28⟩ := g23
      have k29 : KW [1093, 1094, 1101, 1102, 1152, 1536, 1600] Po P22 := KW.trans KW.refl k27 rfl
      have R31 := Rel.kw hR k27 rfl
      have wx24 := ti_full x24
      have g25 : x24.toInt ≠ 4 ∨ UD Po t1.toInt.toNat 0 := g25
      show MEvP _ none q_188 32 [(0, .ref 301), (1, .int t1)] [.int x24] _ _ _ _
      refine mp_a (a_istore_n (L' := [(2, .int x24), (0, .ref 301), (1, .int t1)]) dX7_foldsOnStage_32 (by decide) rfl) (mpp 33 rfl ?_)
      refine mp_a (a_iload_n dX7_foldsOnStage_33 rfl) (mpp 34 rfl ?_)
      refine mp_a (a_iconst (v := 4) dX7_foldsOnStage_34 rfl) (mpp 35 rfl ?_)
      refine mp_Tb (t := 49) (j_icmp_ne dX7_foldsOnStage_35) (by decide) (fun c32 => ?_) (fun c32 => mpp 38 rfl ?_)
      · have c32 : x24.toInt ≠ 4 := ti_ne c32
        refine mp_a (a_iload_n dX7_foldsOnStage_49 rfl) (mpp 50 rfl ?_)
        refine mp_Tb (t := 60) (j_if_eq dX7_foldsOnStage_50) (by decide) (fun c33 => ?_) (fun c33 => mpp 53 rfl ?_)
        · have c33 : x24.toInt = 0 := ti_eq c33
          refine mp_a (a_aload_n dX7_foldsOnStage_60 rfl) (mpp 61 rfl ?_)
          refine mt_callv (i := 231) (q' := q_184) (As := []) (rest := []) hT26 dX7_foldsOnStage_61 rfl qm_184 (by decide) rfl rl_301 (by decide) rfl (Nat.le_of_ble_eq_true rfl) rfl ⟨rfl, rfl⟩ ⟨Nat.le_of_ble_eq_true rfl, Nat.le_of_ble_eq_true rfl⟩ (EvP.mono (by decide) (c_M_used hT26 )) (fun r34 P35 g36 => mpp 64 rfl ?_)
          obtain ⟨⟨x37, rfl, g38⟩, e39⟩ := g36
          have e39 := e39.symm
          subst e39
          have wx37 := ti_full x37
          show MEvP _ none q_188 64 [(2, .int x24), (0, .ref 301), (1, .int t1)] [.int x37] _ _ _ _
          refine mp_a (a_aload_n dX7_foldsOnStage_64 rfl) (mpp 65 rfl ?_)
          refine mp_a (a_iload_n dX7_foldsOnStage_65 rfl) (mpp 66 rfl ?_)
          have p40 : 0 ≤ t1.toInt := by omega
          have p41 : t1.toInt ≤ 7 := by omega
          refine mt_callv (i := 228) (q' := q_185) (As := [.int t1]) (rest := [.int x37]) hT26 dX7_foldsOnStage_66 rfl qm_185 (by decide) rfl rl_301 (by decide) rfl (Nat.le_of_ble_eq_true rfl) rfl ⟨rfl, rfl⟩ ⟨Nat.le_of_ble_eq_true rfl, Nat.le_of_ble_eq_true rfl⟩ (EvP.mono (by decide) (c_M_widthOf hT26 p40 p41 )) (fun r42 P43 g44 => mpp 69 rfl ?_)
          obtain ⟨⟨x45, rfl, g46⟩, e47⟩ := g44
          have e47 := e47.symm
          subst e47
          have wx45 := ti_full x45
          show MEvP _ none q_188 69 [(2, .int x24), (0, .ref 301), (1, .int t1)] [.int x45, .int x37] _ _ _ _
          obtain ⟨z48, h49⟩ := ti_ex (x37 + x45 : Int32)
          have wz48 := ti_full z48
          refine mp_t (s_iadd (v := z48) dX7_foldsOnStage_69 h49) (mpp 70 rfl ?_)
          try have e50 : z48.toInt = x37.toInt + x45.toInt := ti_addz h49 rfl rfl (by omega) (by omega)
          refine mp_a (a_aload_n dX7_foldsOnStage_70 rfl) (mpp 71 rfl ?_)
          refine mt_getU (i := 9) (k := 0) (A := 302) hT26 dX7_foldsOnStage_71 rfl rl_301 (by decide) rfl (by decide) rfl un_18 (mpp 74 rfl ?_)
          refine mp_a (a_iconst (v := 1) dX7_foldsOnStage_74 rfl) (mpp 75 rfl ?_)
          have g53 := ti_full (fv P22 302 1)
          refine mt_ialX (n := 155) hT26 dX7_foldsOnStage_75 rl_302 (by decide) rfl rfl (by decide) (by decide) ssp_0 (fun g51 => mpp 76 rfl ?_)
          have we54 := ti_full (fv P22 302 1)
          obtain ⟨z55, h56⟩ := ti_ex (z48 - (fv P22 302 1) : Int32)
          have wz55 := ti_full z55
          refine mp_t (s_isub (v := z55) dX7_foldsOnStage_76 h56) (mpp 77 rfl ?_)
          try have e57 : z55.toInt = z48.toInt - (fv P22 302 1).toInt := ti_subz h56 rfl rfl (by omega) (by omega)
          refine mp_a (a_istore_n (L' := [(3, .int z55), (2, .int x24), (0, .ref 301), (1, .int t1)]) dX7_foldsOnStage_77 (by decide) rfl) (mpp 78 rfl ?_)
          refine mp_a (a_iload_n dX7_foldsOnStage_78 rfl) (mpp 79 rfl ?_)
          refine mp_Tb (t := 90) (j_if_le dX7_foldsOnStage_79) (by decide) (fun c58 => ?_) (fun c58 => mpp 82 rfl ?_)
          · have c58 : z55.toInt ≤ 0 := ti_le c58
            refine mp_a (a_aload_n dX7_foldsOnStage_90 rfl) (mpp 91 rfl ?_)
            refine mt_getU (i := 9) (k := 0) (A := 302) hT26 dX7_foldsOnStage_91 rfl rl_301 (by decide) rfl (by decide) rfl un_18 (mpp 94 rfl ?_)
            refine mp_a (a_iload_n dX7_foldsOnStage_94 rfl) (mpp 95 rfl ?_)
            refine mp_a (a_iconst (v := 2) dX7_foldsOnStage_95 rfl) (mpp 96 rfl ?_)
            have p59 : 0 ≤ t1.toInt := by omega
            have p60 : t1.toInt ≤ 8 := by omega
            have p61 : 0 ≤ (2 : Int) := by omega
            have p62 : (2 : Int) ≤ 20 := by omega
            refine mp_calls (i := 74) (q' := q_135) (As := [.int t1, .int 2]) (rest := [.ref 302]) dX7_foldsOnStage_96 rfl qm_135 (by decide) rfl (Nat.le_of_ble_eq_true rfl) rfl ⟨rfl, rfl⟩ ⟨Nat.le_of_ble_eq_true rfl, Nat.le_of_ble_eq_true rfl⟩ (EvP.mono (by decide) (c_M_at hT26 p59 p60 p61 p62 )) (fun r63 P64 g65 => mpp 99 rfl ?_)
            obtain ⟨⟨x66, rfl, g67⟩, e68⟩ := g65
            have e68 := e68.symm
            subst e68
            have wx66 := ti_full x66
            have g67 : x66.toInt = 3 + 19 * t1.toInt + (2 : Int) := g67
            show MEvP _ none q_188 99 [(3, .int z55), (2, .int x24), (0, .ref 301), (1, .int t1)] [.int x66, .ref 302] _ _ _ _
            refine mp_a (a_iconst (v := 1) dX7_foldsOnStage_99 rfl) (mpp 100 rfl ?_)
            refine mt_iasX (n := 155) hT26 dX7_foldsOnStage_100 rl_302 (by decide) rfl rfl (by omega) (by omega) ssp_0 (okS_mk (by omega) (fun _ => ⟨by omega, by omega⟩) (fun _ => ⟨by omega, by omega⟩)) (fun P69 hT70 f71 f72 f73 => mpp 101 rfl ?_)
            have k74 : KW [1093, 1094, 1101, 1102, 1152, 1536, 1600] Po P69 := KW.step k29 rl_302 rfl f72 f73
            have R75 := Rel.oth R31 f72 (by omega)
            refine mp_a (a_aload_n dX7_foldsOnStage_101 rfl) (mpp 102 rfl ?_)
            refine mt_getU (i := 9) (k := 0) (A := 302) hT70 dX7_foldsOnStage_102 rfl rl_301 (by decide) rfl (by decide) rfl un_18 (mpp 105 rfl ?_)
            refine mp_a (a_iconst (v := 2) dX7_foldsOnStage_105 rfl) (mpp 106 rfl ?_)
            refine mp_t (s_dup2 dX7_foldsOnStage_106 ⟨rfl, rfl⟩) (mpp 107 rfl ?_)
            have g78 := ti_full (fv P69 302 2)
            refine mt_ialX (n := 155) hT70 dX7_foldsOnStage_107 rl_302 (by decide) rfl rfl (by decide) (by decide) ssp_0 (fun g76 => mpp 108 rfl ?_)
            have we79 := ti_full (fv P69 302 2)
            refine mp_a (a_iconst (v := 1) dX7_foldsOnStage_108 rfl) (mpp 109 rfl ?_)
            obtain ⟨z80, h81⟩ := ti_ex ((fv P69 302 2) + 1 : Int32)
            have wz80 := ti_full z80
            refine mp_t (s_iadd (v := z80) dX7_foldsOnStage_109 h81) (mpp 110 rfl ?_)
            try have e82 : z80.toInt = (fv P69 302 2).toInt + 1 := ti_addz h81 rfl rfl (by omega) (by omega)
            refine mt_iasX (n := 155) hT70 dX7_foldsOnStage_110 rl_302 (by decide) rfl rfl (by decide) (by decide) ssp_0 okS_c2 (fun P83 hT84 f85 f86 f87 => mpp 111 rfl ?_)
            have f85 : fv P83 302 2 = _ := f85
            have f86 : ∀ b j : Nat, ¬ (b = 302 ∧ j = 2) → fv P83 b j = fv P69 b j := f86
            have k88 : KW [1093, 1094, 1101, 1102, 1152, 1536, 1600] Po P83 := KW.step k74 rl_302 rfl f86 f87
            have R89 := Rel.oth R75 f86 (by decide)
            have e90 : (fv P83 302 2).toInt = z80.toInt := congrArg Int32.toInt f85
            refine mp_a (a_aload_n dX7_foldsOnStage_111 rfl) (mpp 112 rfl ?_)
            refine mp_a (a_iload_n dX7_foldsOnStage_112 rfl) (mpp 113 rfl ?_)
            have p91 : 0 ≤ t1.toInt := by omega
            have p92 : t1.toInt ≤ 7 := by omega
            refine mt_callv (i := 228) (q' := q_185) (As := [.int t1]) (rest := []) hT84 dX7_foldsOnStage_113 rfl qm_185 (by decide) rfl rl_301 (by decide) rfl (Nat.le_of_ble_eq_true rfl) rfl ⟨rfl, rfl⟩ ⟨Nat.le_of_ble_eq_true rfl, Nat.le_of_ble_eq_true rfl⟩ (EvP.mono (by decide) (c_M_widthOf hT84 p91 p92 )) (fun r93 P94 g95 => mpp 116 rfl ?_)
            obtain ⟨⟨x96, rfl, g97⟩, e98⟩ := g95
            have e98 := e98.symm
            subst e98
            have wx96 := ti_full x96
            show MEvP _ none q_188 116 [(3, .int z55), (2, .int x24), (0, .ref 301), (1, .int t1)] [.int x96] _ _ _ _
            exact mp_iret ⟨⟨_, rfl, trivial⟩, hT84, k88, R89⟩ dX7_foldsOnStage_116 (Or.inl rfl)
          · have c58 : z55.toInt > 0 := ti_le_n c58
            refine mp_a (a_aload_n dX7_foldsOnStage_82 rfl) (mpp 83 rfl ?_)
            refine mp_a (a_bipush (v := 7) dX7_foldsOnStage_83 rfl) (mpp 85 rfl ?_)
            refine mp_a (a_iload_n dX7_foldsOnStage_85 rfl) (mpp 86 rfl ?_)
            refine mt_callv (i := 101) (q' := q_134) (As := [.int 7, .int z55]) (rest := []) hT26 dX7_foldsOnStage_86 rfl qm_134 (by decide) rfl rl_301 (by decide) rfl (Nat.le_of_ble_eq_true rfl) rfl ⟨rfl, rfl⟩ ⟨Nat.le_of_ble_eq_true rfl, Nat.le_of_ble_eq_true rfl⟩ (EvP.mono (by decide) (c_M_refuses hT26 )) (fun r99 P100 g101 => mpp 89 rfl ?_)
            obtain ⟨⟨x102, rfl, g103⟩, hT104, k105, R106⟩ := g101
            have k107 : KW [1093, 1094, 1101, 1102, 1152, 1536, 1600] Po P100 := KW.trans k29 k105 rfl
            have R109 := Rel.kw R31 k105 rfl
            have wx102 := ti_full x102
            have g103 : x102.toInt = -1003 := g103
            show MEvP _ none q_188 89 [(3, .int z55), (2, .int x24), (0, .ref 301), (1, .int t1)] [.int x102] _ _ _ _
            exact mp_iret ⟨⟨_, rfl, trivial⟩, hT104, k107, R109⟩ dX7_foldsOnStage_89 (Or.inl rfl)
        · have c33 : x24.toInt ≠ 0 := ti_eq_n c33
          refine mp_a (a_aload_n dX7_foldsOnStage_53 rfl) (mpp 54 rfl ?_)
          refine mp_a (a_iconst (v := 5) dX7_foldsOnStage_54 rfl) (mpp 55 rfl ?_)
          refine mp_a (a_iload_n dX7_foldsOnStage_55 rfl) (mpp 56 rfl ?_)
          refine mt_callv (i := 101) (q' := q_134) (As := [.int 5, .int x24]) (rest := []) hT26 dX7_foldsOnStage_56 rfl qm_134 (by decide) rfl rl_301 (by decide) rfl (Nat.le_of_ble_eq_true rfl) rfl ⟨rfl, rfl⟩ ⟨Nat.le_of_ble_eq_true rfl, Nat.le_of_ble_eq_true rfl⟩ (EvP.mono (by decide) (c_M_refuses hT26 )) (fun r110 P111 g112 => mpp 59 rfl ?_)
          obtain ⟨⟨x113, rfl, g114⟩, hT115, k116, R117⟩ := g112
          have k118 : KW [1093, 1094, 1101, 1102, 1152, 1536, 1600] Po P111 := KW.trans k29 k116 rfl
          have R120 := Rel.kw R31 k116 rfl
          have wx113 := ti_full x113
          have g114 : x113.toInt = -1003 := g114
          show MEvP _ none q_188 59 [(2, .int x24), (0, .ref 301), (1, .int t1)] [.int x113] _ _ _ _
          exact mp_iret ⟨⟨_, rfl, trivial⟩, hT115, k118, R120⟩ dX7_foldsOnStage_59 (Or.inl rfl)
      · have c32 : x24.toInt = 4 := ti_ne_n c32
        refine mp_a (a_aload_n dX7_foldsOnStage_38 rfl) (mpp 39 rfl ?_)
        refine mp_a (a_iconst (v := 4) dX7_foldsOnStage_39 rfl) (mpp 40 rfl ?_)
        refine mp_a (a_aload_n dX7_foldsOnStage_40 rfl) (mpp 41 rfl ?_)
        refine mp_a (a_iload_n dX7_foldsOnStage_41 rfl) (mpp 42 rfl ?_)
        have p121 : 0 ≤ t1.toInt := by omega
        have p122 : t1.toInt ≤ 7 := by omega
        have p123 : UD P22 t1.toInt.toNat 0 := UD.kw (g25.resolve_left (by omega)) k27 rfl
        refine mt_callv (i := 237) (q' := q_189) (As := [.int t1]) (rest := [.int 4, .ref 301]) hT26 dX7_foldsOnStage_42 rfl qm_189 (by decide) rfl rl_301 (by decide) rfl (Nat.le_of_ble_eq_true rfl) rfl ⟨rfl, rfl⟩ ⟨Nat.le_of_ble_eq_true rfl, Nat.le_of_ble_eq_true rfl⟩ (EvP.mono (by decide) (c_M_lowestOpen hT26 p121 p122 p123 )) (fun r124 P125 g126 => mpp 45 rfl ?_)
        obtain ⟨⟨x127, rfl, g128⟩, e129⟩ := g126
        have e129 := e129.symm
        subst e129
        have wx127 := ti_full x127
        show MEvP _ none q_188 45 [(2, .int x24), (0, .ref 301), (1, .int t1)] [.int x127, .int 4, .ref 301] _ _ _ _
        refine mt_callv (i := 101) (q' := q_134) (As := [.int 4, .int x127]) (rest := []) hT26 dX7_foldsOnStage_45 rfl qm_134 (by decide) rfl rl_301 (by decide) rfl (Nat.le_of_ble_eq_true rfl) rfl ⟨rfl, rfl⟩ ⟨Nat.le_of_ble_eq_true rfl, Nat.le_of_ble_eq_true rfl⟩ (EvP.mono (by decide) (c_M_refuses hT26 )) (fun r130 P131 g132 => mpp 48 rfl ?_)
        obtain ⟨⟨x133, rfl, g134⟩, hT135, k136, R137⟩ := g132
        have k138 : KW [1093, 1094, 1101, 1102, 1152, 1536, 1600] Po P131 := KW.trans k29 k136 rfl
        have R140 := Rel.kw R31 k136 rfl
        have wx133 := ti_full x133
        have g134 : x133.toInt = -1003 := g134
        show MEvP _ none q_188 48 [(2, .int x24), (0, .ref 301), (1, .int t1)] [.int x133] _ _ _ _
        exact mp_iret ⟨⟨_, rfl, trivial⟩, hT135, k138, R140⟩ dX7_foldsOnStage_48 (Or.inl rfl)
    · have c18 : x14.toInt ≠ 0 := ti_eq_n c18
      refine mp_a (a_aload_n dX7_foldsOnStage_20 rfl) (mpp 21 rfl ?_)
      refine mp_a (a_iconst (v := 2) dX7_foldsOnStage_21 rfl) (mpp 22 rfl ?_)
      refine mp_a (a_iload_n dX7_foldsOnStage_22 rfl) (mpp 23 rfl ?_)
      refine mt_callv (i := 101) (q' := q_134) (As := [.int 2, .int t1]) (rest := []) hT dX7_foldsOnStage_23 rfl qm_134 (by decide) rfl rl_301 (by decide) rfl (Nat.le_of_ble_eq_true rfl) rfl ⟨rfl, rfl⟩ ⟨Nat.le_of_ble_eq_true rfl, Nat.le_of_ble_eq_true rfl⟩ (EvP.mono (by decide) (c_M_refuses hT )) (fun r141 P142 g143 => mpp 26 rfl ?_)
      obtain ⟨⟨x144, rfl, g145⟩, hT146, k147, R148⟩ := g143
      have k149 : KW [1093, 1094, 1101, 1102, 1152, 1536, 1600] Po P142 := KW.trans KW.refl k147 rfl
      have R151 := Rel.kw hR k147 rfl
      have wx144 := ti_full x144
      have g145 : x144.toInt = -1003 := g145
      show MEvP _ none q_188 26 [(0, .ref 301), (1, .int t1)] [.int x144] _ _ _ _
      exact mp_iret ⟨⟨_, rfl, trivial⟩, hT146, k149, R151⟩ dX7_foldsOnStage_26 (Or.inl rfl)
  · have c8 : x4.toInt = 0 := ti_ne_n c8
    refine mp_a (a_sipush (v := -1001) dX7_foldsOnStage_8 rfl) (mpp 11 rfl ?_)
    exact mp_iret ⟨⟨_, rfl, trivial⟩, hT, KW.refl, hR⟩ dX7_foldsOnStage_11 (Or.inl rfl)

set_option maxHeartbeats 4000000 in
theorem c_M_fold {Po : mP} {t1 : Int32} (hT : Typ Po) (hR : Rel Po)  : EvP 9 187 [.ref 301, .int t1] Po (fun r P' => (∃ x : Int32, r = some (.int x) ∧ (True)) ∧ Typ P' ∧ KW [1092, 1093, 1094, 1095, 1101, 1102, 1152, 1216, 1344, 1536, 1600] Po P' ∧ Rel P') := by
  refine EvP.of qm_187 (Nat.le_of_ble_eq_true rfl) rfl ?_
  show MEvP _ none q_187 0 [(0, .ref 301), (1, .int t1)] [] _ 0 0 _
  refine mp_a (a_aload_n dX7_fold_0 rfl) (mpp 1 rfl ?_)
  refine mt_callv (i := 117) (q' := q_124) (As := []) (rest := []) hT dX7_fold_1 rfl qm_124 (by decide) rfl rl_301 (by decide) rfl (Nat.le_of_ble_eq_true rfl) rfl ⟨rfl, rfl⟩ ⟨Nat.le_of_ble_eq_true rfl, Nat.le_of_ble_eq_true rfl⟩ (EvP.mono (by decide) (c_M_keeps hT hR )) (fun r1 P2 g3 => mpp 4 rfl ?_)
  obtain ⟨⟨rfl, g5⟩, hT6, k7, R8r, R8⟩ := g3
  have k9 : KW [1092, 1093, 1094, 1095, 1101, 1102, 1152, 1216, 1344, 1536, 1600] Po P2 := KW.trans KW.refl k7 rfl
  show MEvP _ none q_187 4 [(0, .ref 301), (1, .int t1)] [] _ _ _ _
  refine mp_a (a_aload_n dX7_fold_4 rfl) (mpp 5 rfl ?_)
  refine mp_a (a_aload_n dX7_fold_5 rfl) (mpp 6 rfl ?_)
  refine mp_a (a_iload_n dX7_fold_6 rfl) (mpp 7 rfl ?_)
  refine mt_callv (i := 240) (q' := q_188) (As := [.int t1]) (rest := [.ref 301]) hT6 dX7_fold_7 rfl qm_188 (by decide) rfl rl_301 (by decide) rfl (Nat.le_of_ble_eq_true rfl) rfl ⟨rfl, rfl⟩ ⟨Nat.le_of_ble_eq_true rfl, Nat.le_of_ble_eq_true rfl⟩ (EvP.mono (by decide) (c_M_foldsOnStage hT6 R8r )) (fun r11 P12 g13 => mpp 10 rfl ?_)
  obtain ⟨⟨x14, rfl, g15⟩, hT16, k17, R18⟩ := g13
  have k19 : KW [1092, 1093, 1094, 1095, 1101, 1102, 1152, 1216, 1344, 1536, 1600] Po P12 := KW.trans k9 k17 rfl
  have wx14 := ti_full x14
  show MEvP _ none q_187 10 [(0, .ref 301), (1, .int t1)] [.int x14, .ref 301] _ _ _ _
  refine mt_callv (i := 124) (q' := q_139) (As := [.int x14]) (rest := []) hT16 dX7_fold_10 rfl qm_139 (by decide) rfl rl_301 (by decide) rfl (Nat.le_of_ble_eq_true rfl) rfl ⟨rfl, rfl⟩ ⟨Nat.le_of_ble_eq_true rfl, Nat.le_of_ble_eq_true rfl⟩ (EvP.mono (by decide) (c_M_ends hT16 R18 )) (fun r21 P22 g23 => mpp 13 rfl ?_)
  obtain ⟨⟨x24, rfl, g25⟩, hT26, k27, R28r, R28⟩ := g23
  have k29 : KW [1092, 1093, 1094, 1095, 1101, 1102, 1152, 1216, 1344, 1536, 1600] Po P22 := KW.trans k19 k27 rfl
  have wx24 := ti_full x24
  have g25 : x24.toInt = x14.toInt := g25
  show MEvP _ none q_187 13 [(0, .ref 301), (1, .int t1)] [.int x24] _ _ _ _
  exact mp_iret ⟨⟨_, rfl, trivial⟩, hT26, k29, R28r⟩ dX7_fold_13 (Or.inl rfl)

set_option maxHeartbeats 4000000 in
theorem c_M_unfolds {Po : mP} {t1 : Int32} (hT : Typ Po) (hR : Rel Po)  : EvP 7 191 [.ref 301, .int t1] Po (fun r P' => (∃ x : Int32, r = some (.int x) ∧ (True)) ∧ Typ P' ∧ KW [1093, 1094, 1152] Po P' ∧ Rel P') := by
  refine EvP.of qm_191 (Nat.le_of_ble_eq_true rfl) rfl ?_
  show MEvP _ none q_191 0 [(0, .ref 301), (1, .int t1)] [] _ 0 0 _
  refine mp_a (a_aload_n dX7_unfolds_0 rfl) (mpp 1 rfl ?_)
  refine mp_a (a_iload_n dX7_unfolds_1 rfl) (mpp 2 rfl ?_)
  refine mt_callv (i := 85) (q' := q_144) (As := [.int t1]) (rest := []) hT dX7_unfolds_2 rfl qm_144 (by decide) rfl rl_301 (by decide) rfl (Nat.le_of_ble_eq_true rfl) rfl ⟨rfl, rfl⟩ ⟨Nat.le_of_ble_eq_true rfl, Nat.le_of_ble_eq_true rfl⟩ (EvP.mono (by decide) (c_M_isPiece hT )) (fun r1 P2 g3 => mpp 5 rfl ?_)
  obtain ⟨⟨x4, rfl, g5⟩, e6⟩ := g3
  have e6 := e6.symm
  subst e6
  have wx4 := ti_full x4
  have g5 : 0 ≤ x4.toInt ∧ x4.toInt ≤ 1 ∧ ((x4.toInt = 1 ∧ 0 ≤ t1.toInt ∧ t1.toInt + 1 ≤ (fv Po 302 0).toInt ∧ t1.toInt ≤ 7) ∨ (x4.toInt = 0 ∧ (t1.toInt < 0 ∨ (fv Po 302 0).toInt ≤ t1.toInt))) := g5
  have g7 : (0 : Int) ≤ (fv Po 302 0).toInt ∧ (fv Po 302 0).toInt ≤ 8 := Typ.rng hT rl_302 (by decide) (by decide) rfl
  show MEvP _ none q_191 5 [(0, .ref 301), (1, .int t1)] [.int x4] _ _ _ _
  refine mp_Tb (t := 12) (j_if_ne dX7_unfolds_5) (by decide) (fun c8 => ?_) (fun c8 => mpp 8 rfl ?_)
  · have c8 : x4.toInt ≠ 0 := ti_ne c8
    refine mp_a (a_aload_n dX7_unfolds_12 rfl) (mpp 13 rfl ?_)
    refine mp_a (a_iload_n dX7_unfolds_13 rfl) (mpp 14 rfl ?_)
    have p9 : 0 ≤ t1.toInt := by omega
    have p10 : t1.toInt ≤ 7 := by omega
    refine mt_callv (i := 130) (q' := q_145) (As := [.int t1]) (rest := []) hT dX7_unfolds_14 rfl qm_145 (by decide) rfl rl_301 (by decide) rfl (Nat.le_of_ble_eq_true rfl) rfl ⟨rfl, rfl⟩ ⟨Nat.le_of_ble_eq_true rfl, Nat.le_of_ble_eq_true rfl⟩ (EvP.mono (by decide) (c_M_isFolded hT p9 p10 )) (fun r11 P12 g13 => mpp 17 rfl ?_)
    obtain ⟨⟨x14, rfl, g15⟩, e16⟩ := g13
    have e16 := e16.symm
    subst e16
    have wx14 := ti_full x14
    have g15 : 0 ≤ x14.toInt ∧ x14.toInt ≤ 1 ∧ ((x14.toInt = 1 ∧ (fv Po 302 (5 + 19 * t1.toInt.toNat)).toInt = 1) ∨ (x14.toInt = 0 ∧ (fv Po 302 (5 + 19 * t1.toInt.toNat)).toInt ≠ 1)) := g15
    have g17 := ti_full (fv Po 302 (5 + 19 * t1.toInt.toNat))
    show MEvP _ none q_191 17 [(0, .ref 301), (1, .int t1)] [.int x14] _ _ _ _
    refine mp_Tb (t := 27) (j_if_ne dX7_unfolds_17) (by decide) (fun c18 => ?_) (fun c18 => mpp 20 rfl ?_)
    · have c18 : x14.toInt ≠ 0 := ti_ne c18
      refine mp_a (a_aload_n dX7_unfolds_27 rfl) (mpp 28 rfl ?_)
      refine mt_getU (i := 9) (k := 0) (A := 302) hT dX7_unfolds_28 rfl rl_301 (by decide) rfl (by decide) rfl un_18 (mpp 31 rfl ?_)
      refine mp_a (a_iload_n dX7_unfolds_31 rfl) (mpp 32 rfl ?_)
      refine mp_a (a_iconst (v := 2) dX7_unfolds_32 rfl) (mpp 33 rfl ?_)
      have p19 : 0 ≤ t1.toInt := by omega
      have p20 : t1.toInt ≤ 8 := by omega
      have p21 : 0 ≤ (2 : Int) := by omega
      have p22 : (2 : Int) ≤ 20 := by omega
      refine mp_calls (i := 74) (q' := q_135) (As := [.int t1, .int 2]) (rest := [.ref 302]) dX7_unfolds_33 rfl qm_135 (by decide) rfl (Nat.le_of_ble_eq_true rfl) rfl ⟨rfl, rfl⟩ ⟨Nat.le_of_ble_eq_true rfl, Nat.le_of_ble_eq_true rfl⟩ (EvP.mono (by decide) (c_M_at hT p19 p20 p21 p22 )) (fun r23 P24 g25 => mpp 36 rfl ?_)
      obtain ⟨⟨x26, rfl, g27⟩, e28⟩ := g25
      have e28 := e28.symm
      subst e28
      have wx26 := ti_full x26
      have g27 : x26.toInt = 3 + 19 * t1.toInt + (2 : Int) := g27
      show MEvP _ none q_191 36 [(0, .ref 301), (1, .int t1)] [.int x26, .ref 302] _ _ _ _
      refine mp_a (a_iconst (v := 0) dX7_unfolds_36 rfl) (mpp 37 rfl ?_)
      refine mt_iasX (n := 155) hT dX7_unfolds_37 rl_302 (by decide) rfl rfl (by omega) (by omega) ssp_0 (okS_mk (by omega) (fun _ => ⟨by omega, by omega⟩) (fun _ => ⟨by omega, by omega⟩)) (fun P29 hT30 f31 f32 f33 => mpp 38 rfl ?_)
      have k34 : KW [1093, 1094, 1152] Po P29 := KW.step KW.refl rl_302 rfl f32 f33
      have R35 := Rel.oth hR f32 (by omega)
      refine mp_a (a_aload_n dX7_unfolds_38 rfl) (mpp 39 rfl ?_)
      refine mt_getU (i := 9) (k := 0) (A := 302) hT30 dX7_unfolds_39 rfl rl_301 (by decide) rfl (by decide) rfl un_18 (mpp 42 rfl ?_)
      refine mp_a (a_iconst (v := 1) dX7_unfolds_42 rfl) (mpp 43 rfl ?_)
      have g38 := ti_full (fv P29 302 1)
      refine mt_ialX (n := 155) hT30 dX7_unfolds_43 rl_302 (by decide) rfl rfl (by decide) (by decide) ssp_0 (fun g36 => mpp 44 rfl ?_)
      have we39 := ti_full (fv P29 302 1)
      refine mp_a (a_aload_n dX7_unfolds_44 rfl) (mpp 45 rfl ?_)
      refine mt_callv (i := 231) (q' := q_184) (As := []) (rest := [.int (fv P29 302 1)]) hT30 dX7_unfolds_45 rfl qm_184 (by decide) rfl rl_301 (by decide) rfl (Nat.le_of_ble_eq_true rfl) rfl ⟨rfl, rfl⟩ ⟨Nat.le_of_ble_eq_true rfl, Nat.le_of_ble_eq_true rfl⟩ (EvP.mono (by decide) (c_M_used hT30 )) (fun r40 P41 g42 => mpp 48 rfl ?_)
      obtain ⟨⟨x43, rfl, g44⟩, e45⟩ := g42
      have e45 := e45.symm
      subst e45
      have wx43 := ti_full x43
      show MEvP _ none q_191 48 [(0, .ref 301), (1, .int t1)] [.int x43, .int (fv P29 302 1)] _ _ _ _
      obtain ⟨z46, h47⟩ := ti_ex ((fv P29 302 1) - x43 : Int32)
      have wz46 := ti_full z46
      refine mp_t (s_isub (v := z46) dX7_unfolds_48 h47) (mpp 49 rfl ?_)
      try have e48 : z46.toInt = (fv P29 302 1).toInt - x43.toInt := ti_subz h47 rfl rfl (by omega) (by omega)
      exact mp_iret ⟨⟨_, rfl, trivial⟩, hT30, k34, R35⟩ dX7_unfolds_49 (Or.inl rfl)
    · have c18 : x14.toInt = 0 := ti_ne_n c18
      refine mp_a (a_aload_n dX7_unfolds_20 rfl) (mpp 21 rfl ?_)
      refine mp_a (a_iconst (v := 2) dX7_unfolds_21 rfl) (mpp 22 rfl ?_)
      refine mp_a (a_iload_n dX7_unfolds_22 rfl) (mpp 23 rfl ?_)
      refine mt_callv (i := 101) (q' := q_134) (As := [.int 2, .int t1]) (rest := []) hT dX7_unfolds_23 rfl qm_134 (by decide) rfl rl_301 (by decide) rfl (Nat.le_of_ble_eq_true rfl) rfl ⟨rfl, rfl⟩ ⟨Nat.le_of_ble_eq_true rfl, Nat.le_of_ble_eq_true rfl⟩ (EvP.mono (by decide) (c_M_refuses hT )) (fun r49 P50 g51 => mpp 26 rfl ?_)
      obtain ⟨⟨x52, rfl, g53⟩, hT54, k55, R56⟩ := g51
      have k57 : KW [1093, 1094, 1152] Po P50 := KW.trans KW.refl k55 rfl
      have R59 := Rel.kw hR k55 rfl
      have wx52 := ti_full x52
      have g53 : x52.toInt = -1003 := g53
      show MEvP _ none q_191 26 [(0, .ref 301), (1, .int t1)] [.int x52] _ _ _ _
      exact mp_iret ⟨⟨_, rfl, trivial⟩, hT54, k57, R59⟩ dX7_unfolds_26 (Or.inl rfl)
  · have c8 : x4.toInt = 0 := ti_ne_n c8
    refine mp_a (a_sipush (v := -1001) dX7_unfolds_8 rfl) (mpp 11 rfl ?_)
    exact mp_iret ⟨⟨_, rfl, trivial⟩, hT, KW.refl, hR⟩ dX7_unfolds_11 (Or.inl rfl)

set_option maxHeartbeats 4000000 in
theorem c_M_unfold {Po : mP} {t1 : Int32} (hT : Typ Po) (hR : Rel Po)  : EvP 8 190 [.ref 301, .int t1] Po (fun r P' => (∃ x : Int32, r = some (.int x) ∧ (True)) ∧ Typ P' ∧ KW [1092, 1093, 1094, 1095, 1152, 1216, 1344] Po P' ∧ Rel P') := by
  refine EvP.of qm_190 (Nat.le_of_ble_eq_true rfl) rfl ?_
  show MEvP _ none q_190 0 [(0, .ref 301), (1, .int t1)] [] _ 0 0 _
  refine mp_a (a_aload_n dX7_unfold_0 rfl) (mpp 1 rfl ?_)
  refine mt_callv (i := 117) (q' := q_124) (As := []) (rest := []) hT dX7_unfold_1 rfl qm_124 (by decide) rfl rl_301 (by decide) rfl (Nat.le_of_ble_eq_true rfl) rfl ⟨rfl, rfl⟩ ⟨Nat.le_of_ble_eq_true rfl, Nat.le_of_ble_eq_true rfl⟩ (EvP.mono (by decide) (c_M_keeps hT hR )) (fun r1 P2 g3 => mpp 4 rfl ?_)
  obtain ⟨⟨rfl, g5⟩, hT6, k7, R8r, R8⟩ := g3
  have k9 : KW [1092, 1093, 1094, 1095, 1152, 1216, 1344] Po P2 := KW.trans KW.refl k7 rfl
  show MEvP _ none q_190 4 [(0, .ref 301), (1, .int t1)] [] _ _ _ _
  refine mp_a (a_aload_n dX7_unfold_4 rfl) (mpp 5 rfl ?_)
  refine mp_a (a_aload_n dX7_unfold_5 rfl) (mpp 6 rfl ?_)
  refine mp_a (a_iload_n dX7_unfold_6 rfl) (mpp 7 rfl ?_)
  refine mt_callv (i := 243) (q' := q_191) (As := [.int t1]) (rest := [.ref 301]) hT6 dX7_unfold_7 rfl qm_191 (by decide) rfl rl_301 (by decide) rfl (Nat.le_of_ble_eq_true rfl) rfl ⟨rfl, rfl⟩ ⟨Nat.le_of_ble_eq_true rfl, Nat.le_of_ble_eq_true rfl⟩ (EvP.mono (by decide) (c_M_unfolds hT6 R8r )) (fun r11 P12 g13 => mpp 10 rfl ?_)
  obtain ⟨⟨x14, rfl, g15⟩, hT16, k17, R18⟩ := g13
  have k19 : KW [1092, 1093, 1094, 1095, 1152, 1216, 1344] Po P12 := KW.trans k9 k17 rfl
  have wx14 := ti_full x14
  show MEvP _ none q_190 10 [(0, .ref 301), (1, .int t1)] [.int x14, .ref 301] _ _ _ _
  refine mt_callv (i := 124) (q' := q_139) (As := [.int x14]) (rest := []) hT16 dX7_unfold_10 rfl qm_139 (by decide) rfl rl_301 (by decide) rfl (Nat.le_of_ble_eq_true rfl) rfl ⟨rfl, rfl⟩ ⟨Nat.le_of_ble_eq_true rfl, Nat.le_of_ble_eq_true rfl⟩ (EvP.mono (by decide) (c_M_ends hT16 R18 )) (fun r21 P22 g23 => mpp 13 rfl ?_)
  obtain ⟨⟨x24, rfl, g25⟩, hT26, k27, R28r, R28⟩ := g23
  have k29 : KW [1092, 1093, 1094, 1095, 1152, 1216, 1344] Po P22 := KW.trans k19 k27 rfl
  have wx24 := ti_full x24
  have g25 : x24.toInt = x14.toInt := g25
  show MEvP _ none q_190 13 [(0, .ref 301), (1, .int t1)] [.int x24] _ _ _ _
  exact mp_iret ⟨⟨_, rfl, trivial⟩, hT26, k29, R28r⟩ dX7_unfold_13 (Or.inl rfl)

set_option maxHeartbeats 4000000 in
theorem c_M_drops {Po : mP} {t1 : Int32} (hT : Typ Po) (hR : Rel Po)  : EvP 3 193 [.ref 301, .int t1] Po (fun r P' => (∃ x : Int32, r = some (.int x) ∧ (True)) ∧ Typ P' ∧ KW [1152] Po P' ∧ Rel P') := by
  refine EvP.of qm_193 (Nat.le_of_ble_eq_true rfl) rfl ?_
  show MEvP _ none q_193 0 [(0, .ref 301), (1, .int t1)] [] _ 0 0 _
  refine mp_a (a_aload_n dX7_drops_0 rfl) (mpp 1 rfl ?_)
  refine mp_a (a_iload_n dX7_drops_1 rfl) (mpp 2 rfl ?_)
  refine mt_callv (i := 85) (q' := q_144) (As := [.int t1]) (rest := []) hT dX7_drops_2 rfl qm_144 (by decide) rfl rl_301 (by decide) rfl (Nat.le_of_ble_eq_true rfl) rfl ⟨rfl, rfl⟩ ⟨Nat.le_of_ble_eq_true rfl, Nat.le_of_ble_eq_true rfl⟩ (EvP.mono (by decide) (c_M_isPiece hT )) (fun r1 P2 g3 => mpp 5 rfl ?_)
  obtain ⟨⟨x4, rfl, g5⟩, e6⟩ := g3
  have e6 := e6.symm
  subst e6
  have wx4 := ti_full x4
  have g5 : 0 ≤ x4.toInt ∧ x4.toInt ≤ 1 ∧ ((x4.toInt = 1 ∧ 0 ≤ t1.toInt ∧ t1.toInt + 1 ≤ (fv Po 302 0).toInt ∧ t1.toInt ≤ 7) ∨ (x4.toInt = 0 ∧ (t1.toInt < 0 ∨ (fv Po 302 0).toInt ≤ t1.toInt))) := g5
  have g7 : (0 : Int) ≤ (fv Po 302 0).toInt ∧ (fv Po 302 0).toInt ≤ 8 := Typ.rng hT rl_302 (by decide) (by decide) rfl
  show MEvP _ none q_193 5 [(0, .ref 301), (1, .int t1)] [.int x4] _ _ _ _
  refine mp_Tb (t := 12) (j_if_ne dX7_drops_5) (by decide) (fun c8 => ?_) (fun c8 => mpp 8 rfl ?_)
  · have c8 : x4.toInt ≠ 0 := ti_ne c8
    refine mp_a (a_aload_n dX7_drops_12 rfl) (mpp 13 rfl ?_)
    refine mp_a (a_iload_n dX7_drops_13 rfl) (mpp 14 rfl ?_)
    have p9 : 0 ≤ t1.toInt := by omega
    have p10 : t1.toInt + 1 ≤ (fv Po 302 0).toInt := by omega
    refine mt_callv (i := 148) (q' := q_155) (As := [.int t1]) (rest := []) hT dX7_drops_14 rfl qm_155 (by decide) rfl rl_301 (by decide) rfl (Nat.le_of_ble_eq_true rfl) rfl ⟨rfl, rfl⟩ ⟨Nat.le_of_ble_eq_true rfl, Nat.le_of_ble_eq_true rfl⟩ (EvP.mono (by decide) (c_M_goes hT hR p9 p10 )) (fun r11 P12 g13 => mpp 17 rfl ?_)
    obtain ⟨⟨rfl, g15⟩, hT16, k17, R18r, R18⟩ := g13
    have k19 : KW [1152] Po P12 := KW.trans KW.refl k17 rfl
    show MEvP _ none q_193 17 [(0, .ref 301), (1, .int t1)] [] _ _ _ _
    refine mp_a (a_aload_n dX7_drops_17 rfl) (mpp 18 rfl ?_)
    refine mt_getU (i := 9) (k := 0) (A := 302) hT16 dX7_drops_18 rfl rl_301 (by decide) rfl (by decide) rfl un_18 (mpp 21 rfl ?_)
    refine mp_a (a_iconst (v := 0) dX7_drops_21 rfl) (mpp 22 rfl ?_)
    have g23 : (0 : Int) ≤ (fv P12 302 0).toInt ∧ (fv P12 302 0).toInt ≤ 8 := Typ.rng hT16 rl_302 (by decide) (by decide) rfl
    refine mt_ialX (n := 155) hT16 dX7_drops_22 rl_302 (by decide) rfl rfl (by decide) (by decide) ssp_0 (fun g21 => mpp 23 rfl ?_)
    have we24 := ti_full (fv P12 302 0)
    exact mp_iret ⟨⟨_, rfl, trivial⟩, hT16, k19, R18r⟩ dX7_drops_23 (Or.inl rfl)
  · have c8 : x4.toInt = 0 := ti_ne_n c8
    refine mp_a (a_sipush (v := -1001) dX7_drops_8 rfl) (mpp 11 rfl ?_)
    exact mp_iret ⟨⟨_, rfl, trivial⟩, hT, KW.refl, hR⟩ dX7_drops_11 (Or.inl rfl)

set_option maxHeartbeats 4000000 in
theorem c_M_drop {Po : mP} {t1 : Int32} (hT : Typ Po) (hR : Rel Po)  : EvP 4 192 [.ref 301, .int t1] Po (fun r P' => (∃ x : Int32, r = some (.int x) ∧ (True)) ∧ Typ P' ∧ KW [1092, 1095, 1152, 1216, 1344] Po P' ∧ Rel P') := by
  refine EvP.of qm_192 (Nat.le_of_ble_eq_true rfl) rfl ?_
  show MEvP _ none q_192 0 [(0, .ref 301), (1, .int t1)] [] _ 0 0 _
  refine mp_a (a_aload_n dX7_drop_0 rfl) (mpp 1 rfl ?_)
  refine mt_callv (i := 117) (q' := q_124) (As := []) (rest := []) hT dX7_drop_1 rfl qm_124 (by decide) rfl rl_301 (by decide) rfl (Nat.le_of_ble_eq_true rfl) rfl ⟨rfl, rfl⟩ ⟨Nat.le_of_ble_eq_true rfl, Nat.le_of_ble_eq_true rfl⟩ (EvP.mono (by decide) (c_M_keeps hT hR )) (fun r1 P2 g3 => mpp 4 rfl ?_)
  obtain ⟨⟨rfl, g5⟩, hT6, k7, R8r, R8⟩ := g3
  have k9 : KW [1092, 1095, 1152, 1216, 1344] Po P2 := KW.trans KW.refl k7 rfl
  show MEvP _ none q_192 4 [(0, .ref 301), (1, .int t1)] [] _ _ _ _
  refine mp_a (a_aload_n dX7_drop_4 rfl) (mpp 5 rfl ?_)
  refine mp_a (a_aload_n dX7_drop_5 rfl) (mpp 6 rfl ?_)
  refine mp_a (a_iload_n dX7_drop_6 rfl) (mpp 7 rfl ?_)
  refine mt_callv (i := 246) (q' := q_193) (As := [.int t1]) (rest := [.ref 301]) hT6 dX7_drop_7 rfl qm_193 (by decide) rfl rl_301 (by decide) rfl (Nat.le_of_ble_eq_true rfl) rfl ⟨rfl, rfl⟩ ⟨Nat.le_of_ble_eq_true rfl, Nat.le_of_ble_eq_true rfl⟩ (EvP.mono (by decide) (c_M_drops hT6 R8r )) (fun r11 P12 g13 => mpp 10 rfl ?_)
  obtain ⟨⟨x14, rfl, g15⟩, hT16, k17, R18⟩ := g13
  have k19 : KW [1092, 1095, 1152, 1216, 1344] Po P12 := KW.trans k9 k17 rfl
  have wx14 := ti_full x14
  show MEvP _ none q_192 10 [(0, .ref 301), (1, .int t1)] [.int x14, .ref 301] _ _ _ _
  refine mt_callv (i := 124) (q' := q_139) (As := [.int x14]) (rest := []) hT16 dX7_drop_10 rfl qm_139 (by decide) rfl rl_301 (by decide) rfl (Nat.le_of_ble_eq_true rfl) rfl ⟨rfl, rfl⟩ ⟨Nat.le_of_ble_eq_true rfl, Nat.le_of_ble_eq_true rfl⟩ (EvP.mono (by decide) (c_M_ends hT16 R18 )) (fun r21 P22 g23 => mpp 13 rfl ?_)
  obtain ⟨⟨x24, rfl, g25⟩, hT26, k27, R28r, R28⟩ := g23
  have k29 : KW [1092, 1095, 1152, 1216, 1344] Po P22 := KW.trans k19 k27 rfl
  have wx24 := ti_full x24
  have g25 : x24.toInt = x14.toInt := g25
  show MEvP _ none q_192 13 [(0, .ref 301), (1, .int t1)] [.int x24] _ _ _ _
  exact mp_iret ⟨⟨_, rfl, trivial⟩, hT26, k29, R28r⟩ dX7_drop_13 (Or.inl rfl)

set_option maxHeartbeats 4000000 in
theorem c_M_sumOf_l4 {Po : mP} {t1 : Int32} (hT : Typ Po)  (hp0 : 0 ≤ t1.toInt) (hp1 : t1.toInt ≤ 7)  : ∀ (n : Nat) (v2 : Int32) (v3 : Int32), (0 ≤ v3.toInt) → (2147483647 - v3.toInt).toNat = n → MEvP 3 none q_195 4 [(0, .ref 301), (1, .int t1), (2, .int v2), (3, .int v3)] [] Po 0 0 (fun r P' => (∃ x : Int32, r = some (.int x) ∧ (True)) ∧ P' = Po) := by
  intro n
  induction n using Nat.strongRecOn with | _ n ih => ?_
  intro v2 v3 i_0 hm
  have w_t1 := ti_full t1
  have w_v2 := ti_full v2
  have w_v3 := ti_full v3
  refine mp_a (a_iload_n dX7_sumOf_4 rfl) (mpp 5 rfl ?_)
  refine mp_a (a_aload_n dX7_sumOf_5 rfl) (mpp 6 rfl ?_)
  refine mp_a (a_iload_n dX7_sumOf_6 rfl) (mpp 7 rfl ?_)
  refine mp_a (a_iconst (v := 1) dX7_sumOf_7 rfl) (mpp 8 rfl ?_)
  have p1 : 0 ≤ t1.toInt := by omega
  have p2 : t1.toInt ≤ 7 := by omega
  have p3 : 0 ≤ (1 : Int) := by omega
  have p4 : (1 : Int) ≤ 18 := by omega
  refine mt_callv (i := 78) (q' := q_137) (As := [.int t1, .int 1]) (rest := [.int v3]) hT dX7_sumOf_8 rfl qm_137 (by decide) rfl rl_301 (by decide) rfl (Nat.le_of_ble_eq_true rfl) rfl ⟨rfl, rfl⟩ ⟨Nat.le_of_ble_eq_true rfl, Nat.le_of_ble_eq_true rfl⟩ (EvP.mono (by decide) (c_M_of_c1 hT p1 p2 p3 p4 )) (fun r5 P6 g7 => mpp 11 rfl ?_)
  obtain ⟨⟨x8, rfl, g9⟩, e10⟩ := g7
  have e10 := e10.symm
  subst e10
  have wx8 := ti_full x8
  have g9 : x8.toInt = (fv Po 302 (4 + 19 * t1.toInt.toNat)).toInt ∧ 0 ≤ x8.toInt ∧ x8.toInt ≤ 8 := g9
  have g11 := ti_full (fv Po 302 (4 + 19 * t1.toInt.toNat))
  show MEvP _ none q_195 11 [(0, .ref 301), (1, .int t1), (2, .int v2), (3, .int v3)] [.int x8, .int v3] _ _ _ _
  refine mp_Tb (t := 29) (j_icmp_ge dX7_sumOf_11) (by decide) (fun c12 => ?_) (fun c12 => mpp 14 rfl ?_)
  · have c12 : v3.toInt ≥ x8.toInt := ti_ge c12
    refine mp_a (a_iload_n dX7_sumOf_29 rfl) (mpp 30 rfl ?_)
    exact mp_iret ⟨⟨_, rfl, trivial⟩, rfl⟩ dX7_sumOf_30 (Or.inl rfl)
  · have c12 : v3.toInt < x8.toInt := ti_ge_n c12
    refine mp_a (a_iload_n dX7_sumOf_14 rfl) (mpp 15 rfl ?_)
    refine mp_a (a_aload_n dX7_sumOf_15 rfl) (mpp 16 rfl ?_)
    refine mp_a (a_iload_n dX7_sumOf_16 rfl) (mpp 17 rfl ?_)
    refine mp_a (a_iload_n dX7_sumOf_17 rfl) (mpp 18 rfl ?_)
    have p13 : 0 ≤ t1.toInt := by omega
    have p14 : t1.toInt ≤ 7 := by omega
    have p15 : 0 ≤ v3.toInt := by omega
    have p16 : v3.toInt ≤ 7 := by omega
    refine mt_callv (i := 142) (q' := q_152) (As := [.int t1, .int v3]) (rest := [.int v2]) hT dX7_sumOf_18 rfl qm_152 (by decide) rfl rl_301 (by decide) rfl (Nat.le_of_ble_eq_true rfl) rfl ⟨rfl, rfl⟩ ⟨Nat.le_of_ble_eq_true rfl, Nat.le_of_ble_eq_true rfl⟩ (EvP.mono (by decide) (c_M_sizeOf hT p13 p14 p15 p16 )) (fun r17 P18 g19 => mpp 21 rfl ?_)
    obtain ⟨⟨x20, rfl, g21⟩, e22⟩ := g19
    have e22 := e22.symm
    subst e22
    have wx20 := ti_full x20
    show MEvP _ none q_195 21 [(0, .ref 301), (1, .int t1), (2, .int v2), (3, .int v3)] [.int x20, .int v2] _ _ _ _
    obtain ⟨z23, h24⟩ := ti_ex (v2 + x20 : Int32)
    have wz23 := ti_full z23
    refine mp_t (s_iadd (v := z23) dX7_sumOf_21 h24) (mpp 22 rfl ?_)
    try have e25 : z23.toInt = v2.toInt + x20.toInt := ti_addz h24 rfl rfl (by omega) (by omega)
    refine mp_a (a_istore_n (L' := [(2, .int z23), (0, .ref 301), (1, .int t1), (3, .int v3)]) dX7_sumOf_22 (by decide) rfl) (mpp 23 rfl ?_)
    obtain ⟨z26, h27⟩ := ti_ex (v3 + 1 : Int32)
    have wz26 := ti_full z26
    refine mp_a (a_iinc (v := z26) (L' := [(3, .int z26), (2, .int z23), (0, .ref 301), (1, .int t1)]) dX7_sumOf_23 (by decide) rfl h27 rfl) (mpp 26 rfl ?_)
    try have e28 : z26.toInt = v3.toInt + 1 := ti_addz h27 rfl rfl (by omega) (by omega)
    refine mp_a (a_goto (t := 4) dX7_sumOf_26 (by decide)) ?_
    refine MEvP.less (L := [(0, .ref 301), (1, .int t1), (2, .int z23), (3, .int z26)]) rfl rfl ⟨rfl, rfl, rfl, rfl, trivial⟩ ?_
    have i29 : 0 ≤ z26.toInt := by omega
    exact ih _ (by omega) _ _ i29 rfl

set_option maxHeartbeats 4000000 in
theorem c_M_sumOf {Po : mP} {t1 : Int32} (hT : Typ Po)  (hp0 : 0 ≤ t1.toInt) (hp1 : t1.toInt ≤ 7)  : EvP 4 195 [.ref 301, .int t1] Po (fun r P' => (∃ x : Int32, r = some (.int x) ∧ (True)) ∧ P' = Po) := by
  refine EvP.of qm_195 (Nat.le_of_ble_eq_true rfl) rfl ?_
  show MEvP _ none q_195 0 [(0, .ref 301), (1, .int t1)] [] _ 0 0 _
  refine mp_a (a_iconst (v := 0) dX7_sumOf_0 rfl) (mpp 1 rfl ?_)
  refine mp_a (a_istore_n (L' := [(2, .int 0), (0, .ref 301), (1, .int t1)]) dX7_sumOf_1 (by decide) rfl) (mpp 2 rfl ?_)
  refine mp_a (a_iconst (v := 0) dX7_sumOf_2 rfl) (mpp 3 rfl ?_)
  refine mp_a (a_istore_n (L' := [(3, .int 0), (2, .int 0), (0, .ref 301), (1, .int t1)]) dX7_sumOf_3 (by decide) rfl) (mpp 4 rfl ?_)
  refine MEvP.less (L := [(0, .ref 301), (1, .int t1), (2, .int 0), (3, .int 0)]) rfl rfl ⟨rfl, rfl, rfl, rfl, trivial⟩ ?_
  have i1 : 0 ≤ (0 : Int) := by omega
  exact c_M_sumOf_l4 hT  hp0 hp1 _ _ _ i1 rfl

set_option maxHeartbeats 4000000 in
theorem c_M_piece {Po : mP} {t1 : Int32} {t2 : Int32} (hT : Typ Po)   : EvP 6 194 [.ref 301, .int t1, .int t2] Po (fun r P' => (∃ x : Int32, r = some (.int x) ∧ (True)) ∧ P' = Po) := by
  refine EvP.of qm_194 (Nat.le_of_ble_eq_true rfl) rfl ?_
  show MEvP _ none q_194 0 [(0, .ref 301), (1, .int t1), (2, .int t2)] [] _ 0 0 _
  refine mp_a (a_aload_n dX7_piece_0 rfl) (mpp 1 rfl ?_)
  refine mp_a (a_iload_n dX7_piece_1 rfl) (mpp 2 rfl ?_)
  refine mt_callv (i := 85) (q' := q_144) (As := [.int t1]) (rest := []) hT dX7_piece_2 rfl qm_144 (by decide) rfl rl_301 (by decide) rfl (Nat.le_of_ble_eq_true rfl) rfl ⟨rfl, rfl⟩ ⟨Nat.le_of_ble_eq_true rfl, Nat.le_of_ble_eq_true rfl⟩ (EvP.mono (by decide) (c_M_isPiece hT )) (fun r1 P2 g3 => mpp 5 rfl ?_)
  obtain ⟨⟨x4, rfl, g5⟩, e6⟩ := g3
  have e6 := e6.symm
  subst e6
  have wx4 := ti_full x4
  have g5 : 0 ≤ x4.toInt ∧ x4.toInt ≤ 1 ∧ ((x4.toInt = 1 ∧ 0 ≤ t1.toInt ∧ t1.toInt + 1 ≤ (fv Po 302 0).toInt ∧ t1.toInt ≤ 7) ∨ (x4.toInt = 0 ∧ (t1.toInt < 0 ∨ (fv Po 302 0).toInt ≤ t1.toInt))) := g5
  have g7 : (0 : Int) ≤ (fv Po 302 0).toInt ∧ (fv Po 302 0).toInt ≤ 8 := Typ.rng hT rl_302 (by decide) (by decide) rfl
  show MEvP _ none q_194 5 [(0, .ref 301), (1, .int t1), (2, .int t2)] [.int x4] _ _ _ _
  refine mp_Tb (t := 12) (j_if_ne dX7_piece_5) (by decide) (fun c8 => ?_) (fun c8 => mpp 8 rfl ?_)
  · have c8 : x4.toInt ≠ 0 := ti_ne c8
    refine mp_a (a_iload_n dX7_piece_12 rfl) (mpp 13 rfl ?_)
    have c9 : (t2.toInt < 0 ∨ 8 < t2.toInt) ∨ t2.toInt = 0 ∨ t2.toInt = 1 ∨ t2.toInt = 2 ∨ t2.toInt = 3 ∨ t2.toInt = 4 ∨ t2.toInt = 5 ∨ t2.toInt = 6 ∨ t2.toInt = 7 ∨ t2.toInt = 8 := by omega
    rcases c9 with c9 | c9 | c9 | c9 | c9 | c9 | c9 | c9 | c9 | c9
    · refine mp_t (s_tabOut (t := 124) dX7_piece_13 c9 (by decide)) ?_
      refine mp_a (a_sipush (v := -1002) dX7_piece_124 rfl) (mpp 127 rfl ?_)
      exact mp_iret ⟨⟨_, rfl, trivial⟩, rfl⟩ dX7_piece_127 (Or.inl rfl)
    · refine mp_t (s_tabIn (t := 64) (off := 51) dX7_piece_13 (by omega) (by rw [c9]; rfl) (by decide)) ?_
      refine mp_a (a_aload_n dX7_piece_64 rfl) (mpp 65 rfl ?_)
      refine mp_a (a_iload_n dX7_piece_65 rfl) (mpp 66 rfl ?_)
      refine mp_a (a_iconst (v := 0) dX7_piece_66 rfl) (mpp 67 rfl ?_)
      have p10 : 0 ≤ t1.toInt := by omega
      have p11 : t1.toInt ≤ 7 := by omega
      have p12 : 0 ≤ (0 : Int) := by omega
      have p13 : (0 : Int) ≤ 18 := by omega
      refine mt_callv (i := 78) (q' := q_137) (As := [.int t1, .int 0]) (rest := []) hT dX7_piece_67 rfl qm_137 (by decide) rfl rl_301 (by decide) rfl (Nat.le_of_ble_eq_true rfl) rfl ⟨rfl, rfl⟩ ⟨Nat.le_of_ble_eq_true rfl, Nat.le_of_ble_eq_true rfl⟩ (EvP.mono (by decide) (c_M_of_c0 hT p10 p11 p12 p13 )) (fun r14 P15 g16 => mpp 70 rfl ?_)
      obtain ⟨⟨x17, rfl, g18⟩, e19⟩ := g16
      have e19 := e19.symm
      subst e19
      have wx17 := ti_full x17
      have g18 : x17.toInt = (fv Po 302 (3 + 19 * t1.toInt.toNat)).toInt ∧ 0 ≤ x17.toInt ∧ x17.toInt ≤ 1 := g18
      have g20 := ti_full (fv Po 302 (3 + 19 * t1.toInt.toNat))
      show MEvP _ none q_194 70 [(0, .ref 301), (1, .int t1), (2, .int t2)] [.int x17] _ _ _ _
      exact mp_iret ⟨⟨_, rfl, trivial⟩, rfl⟩ dX7_piece_70 (Or.inl rfl)
    · refine mp_t (s_tabIn (t := 71) (off := 58) dX7_piece_13 (by omega) (by rw [c9]; rfl) (by decide)) ?_
      refine mp_a (a_aload_n dX7_piece_71 rfl) (mpp 72 rfl ?_)
      refine mp_a (a_iload_n dX7_piece_72 rfl) (mpp 73 rfl ?_)
      refine mp_a (a_iconst (v := 1) dX7_piece_73 rfl) (mpp 74 rfl ?_)
      have p21 : 0 ≤ t1.toInt := by omega
      have p22 : t1.toInt ≤ 7 := by omega
      have p23 : 0 ≤ (1 : Int) := by omega
      have p24 : (1 : Int) ≤ 18 := by omega
      refine mt_callv (i := 78) (q' := q_137) (As := [.int t1, .int 1]) (rest := []) hT dX7_piece_74 rfl qm_137 (by decide) rfl rl_301 (by decide) rfl (Nat.le_of_ble_eq_true rfl) rfl ⟨rfl, rfl⟩ ⟨Nat.le_of_ble_eq_true rfl, Nat.le_of_ble_eq_true rfl⟩ (EvP.mono (by decide) (c_M_of_c1 hT p21 p22 p23 p24 )) (fun r25 P26 g27 => mpp 77 rfl ?_)
      obtain ⟨⟨x28, rfl, g29⟩, e30⟩ := g27
      have e30 := e30.symm
      subst e30
      have wx28 := ti_full x28
      have g29 : x28.toInt = (fv Po 302 (4 + 19 * t1.toInt.toNat)).toInt ∧ 0 ≤ x28.toInt ∧ x28.toInt ≤ 8 := g29
      have g31 := ti_full (fv Po 302 (4 + 19 * t1.toInt.toNat))
      show MEvP _ none q_194 77 [(0, .ref 301), (1, .int t1), (2, .int t2)] [.int x28] _ _ _ _
      exact mp_iret ⟨⟨_, rfl, trivial⟩, rfl⟩ dX7_piece_77 (Or.inl rfl)
    · refine mp_t (s_tabIn (t := 78) (off := 65) dX7_piece_13 (by omega) (by rw [c9]; rfl) (by decide)) ?_
      refine mp_a (a_aload_n dX7_piece_78 rfl) (mpp 79 rfl ?_)
      refine mp_a (a_iload_n dX7_piece_79 rfl) (mpp 80 rfl ?_)
      have p32 : 0 ≤ t1.toInt := by omega
      have p33 : t1.toInt ≤ 7 := by omega
      refine mt_callv (i := 88) (q' := q_136) (As := [.int t1]) (rest := []) hT dX7_piece_80 rfl qm_136 (by decide) rfl rl_301 (by decide) rfl (Nat.le_of_ble_eq_true rfl) rfl ⟨rfl, rfl⟩ ⟨Nat.le_of_ble_eq_true rfl, Nat.le_of_ble_eq_true rfl⟩ (EvP.mono (by decide) (c_M_creases hT p32 p33 )) (fun r34 P35 g36 => mpp 83 rfl ?_)
      obtain ⟨⟨x37, rfl, g38⟩, e39⟩ := g36
      have e39 := e39.symm
      subst e39
      have wx37 := ti_full x37
      have g38 : -1 ≤ x37.toInt ∧ x37.toInt ≤ 8 ∧ (((fv Po 302 (3 + 19 * t1.toInt.toNat)).toInt = 1 ∧ x37.toInt = (fv Po 302 (4 + 19 * t1.toInt.toNat)).toInt) ∨ ((fv Po 302 (3 + 19 * t1.toInt.toNat)).toInt = 0 ∧ x37.toInt = (fv Po 302 (4 + 19 * t1.toInt.toNat)).toInt - 1)) := g38
      have g40 := ti_full (fv Po 302 (3 + 19 * t1.toInt.toNat))
      have g41 := ti_full (fv Po 302 (4 + 19 * t1.toInt.toNat))
      show MEvP _ none q_194 83 [(0, .ref 301), (1, .int t1), (2, .int t2)] [.int x37] _ _ _ _
      exact mp_iret ⟨⟨_, rfl, trivial⟩, rfl⟩ dX7_piece_83 (Or.inl rfl)
    · refine mp_t (s_tabIn (t := 84) (off := 71) dX7_piece_13 (by omega) (by rw [c9]; rfl) (by decide)) ?_
      refine mp_a (a_aload_n dX7_piece_84 rfl) (mpp 85 rfl ?_)
      refine mp_a (a_iload_n dX7_piece_85 rfl) (mpp 86 rfl ?_)
      refine mp_a (a_iconst (v := 1) dX7_piece_86 rfl) (mpp 87 rfl ?_)
      have p42 : 0 ≤ t1.toInt := by omega
      have p43 : t1.toInt ≤ 7 := by omega
      refine mt_callv (i := 136) (q' := q_149) (As := [.int t1, .int 1]) (rest := []) hT dX7_piece_87 rfl qm_149 (by decide) rfl rl_301 (by decide) rfl (Nat.le_of_ble_eq_true rfl) rfl ⟨rfl, rfl⟩ ⟨Nat.le_of_ble_eq_true rfl, Nat.le_of_ble_eq_true rfl⟩ (EvP.mono (by decide) (c_M_countOf hT p42 p43 )) (fun r44 P45 g46 => mpp 90 rfl ?_)
      obtain ⟨⟨x47, rfl, g48⟩, e49⟩ := g46
      have e49 := e49.symm
      subst e49
      have wx47 := ti_full x47
      have g48 : (x47.toInt ≤ 0 ∨ UD Po t1.toInt.toNat (1 : Int)) ∧ 0 ≤ x47.toInt ∧ x47.toInt ≤ 8 := g48
      show MEvP _ none q_194 90 [(0, .ref 301), (1, .int t1), (2, .int t2)] [.int x47] _ _ _ _
      exact mp_iret ⟨⟨_, rfl, trivial⟩, rfl⟩ dX7_piece_90 (Or.inl rfl)
    · refine mp_t (s_tabIn (t := 91) (off := 78) dX7_piece_13 (by omega) (by rw [c9]; rfl) (by decide)) ?_
      refine mp_a (a_aload_n dX7_piece_91 rfl) (mpp 92 rfl ?_)
      refine mp_a (a_iload_n dX7_piece_92 rfl) (mpp 93 rfl ?_)
      refine mp_a (a_iconst (v := 2) dX7_piece_93 rfl) (mpp 94 rfl ?_)
      have p50 : 0 ≤ t1.toInt := by omega
      have p51 : t1.toInt ≤ 7 := by omega
      refine mt_callv (i := 136) (q' := q_149) (As := [.int t1, .int 2]) (rest := []) hT dX7_piece_94 rfl qm_149 (by decide) rfl rl_301 (by decide) rfl (Nat.le_of_ble_eq_true rfl) rfl ⟨rfl, rfl⟩ ⟨Nat.le_of_ble_eq_true rfl, Nat.le_of_ble_eq_true rfl⟩ (EvP.mono (by decide) (c_M_countOf hT p50 p51 )) (fun r52 P53 g54 => mpp 97 rfl ?_)
      obtain ⟨⟨x55, rfl, g56⟩, e57⟩ := g54
      have e57 := e57.symm
      subst e57
      have wx55 := ti_full x55
      have g56 : (x55.toInt ≤ 0 ∨ UD Po t1.toInt.toNat (2 : Int)) ∧ 0 ≤ x55.toInt ∧ x55.toInt ≤ 8 := g56
      show MEvP _ none q_194 97 [(0, .ref 301), (1, .int t1), (2, .int t2)] [.int x55] _ _ _ _
      exact mp_iret ⟨⟨_, rfl, trivial⟩, rfl⟩ dX7_piece_97 (Or.inl rfl)
    · refine mp_t (s_tabIn (t := 98) (off := 85) dX7_piece_13 (by omega) (by rw [c9]; rfl) (by decide)) ?_
      refine mp_a (a_aload_n dX7_piece_98 rfl) (mpp 99 rfl ?_)
      refine mp_a (a_iload_n dX7_piece_99 rfl) (mpp 100 rfl ?_)
      refine mp_a (a_iconst (v := 0) dX7_piece_100 rfl) (mpp 101 rfl ?_)
      have p58 : 0 ≤ t1.toInt := by omega
      have p59 : t1.toInt ≤ 7 := by omega
      refine mt_callv (i := 136) (q' := q_149) (As := [.int t1, .int 0]) (rest := []) hT dX7_piece_101 rfl qm_149 (by decide) rfl rl_301 (by decide) rfl (Nat.le_of_ble_eq_true rfl) rfl ⟨rfl, rfl⟩ ⟨Nat.le_of_ble_eq_true rfl, Nat.le_of_ble_eq_true rfl⟩ (EvP.mono (by decide) (c_M_countOf hT p58 p59 )) (fun r60 P61 g62 => mpp 104 rfl ?_)
      obtain ⟨⟨x63, rfl, g64⟩, e65⟩ := g62
      have e65 := e65.symm
      subst e65
      have wx63 := ti_full x63
      have g64 : (x63.toInt ≤ 0 ∨ UD Po t1.toInt.toNat (0 : Int)) ∧ 0 ≤ x63.toInt ∧ x63.toInt ≤ 8 := g64
      show MEvP _ none q_194 104 [(0, .ref 301), (1, .int t1), (2, .int t2)] [.int x63] _ _ _ _
      exact mp_iret ⟨⟨_, rfl, trivial⟩, rfl⟩ dX7_piece_104 (Or.inl rfl)
    · refine mp_t (s_tabIn (t := 105) (off := 92) dX7_piece_13 (by omega) (by rw [c9]; rfl) (by decide)) ?_
      refine mp_a (a_aload_n dX7_piece_105 rfl) (mpp 106 rfl ?_)
      refine mp_a (a_iload_n dX7_piece_106 rfl) (mpp 107 rfl ?_)
      have p66 : 0 ≤ t1.toInt := by omega
      have p67 : t1.toInt ≤ 7 := by omega
      refine mt_callv (i := 249) (q' := q_195) (As := [.int t1]) (rest := []) hT dX7_piece_107 rfl qm_195 (by decide) rfl rl_301 (by decide) rfl (Nat.le_of_ble_eq_true rfl) rfl ⟨rfl, rfl⟩ ⟨Nat.le_of_ble_eq_true rfl, Nat.le_of_ble_eq_true rfl⟩ (EvP.mono (by decide) (c_M_sumOf hT p66 p67 )) (fun r68 P69 g70 => mpp 110 rfl ?_)
      obtain ⟨⟨x71, rfl, g72⟩, e73⟩ := g70
      have e73 := e73.symm
      subst e73
      have wx71 := ti_full x71
      show MEvP _ none q_194 110 [(0, .ref 301), (1, .int t1), (2, .int t2)] [.int x71] _ _ _ _
      exact mp_iret ⟨⟨_, rfl, trivial⟩, rfl⟩ dX7_piece_110 (Or.inl rfl)
    · refine mp_t (s_tabIn (t := 111) (off := 98) dX7_piece_13 (by omega) (by rw [c9]; rfl) (by decide)) ?_
      refine mp_a (a_aload_n dX7_piece_111 rfl) (mpp 112 rfl ?_)
      refine mp_a (a_iload_n dX7_piece_112 rfl) (mpp 113 rfl ?_)
      refine mp_a (a_iconst (v := 2) dX7_piece_113 rfl) (mpp 114 rfl ?_)
      have p74 : 0 ≤ t1.toInt := by omega
      have p75 : t1.toInt ≤ 7 := by omega
      have p76 : 0 ≤ (2 : Int) := by omega
      have p77 : (2 : Int) ≤ 18 := by omega
      refine mt_callv (i := 78) (q' := q_137) (As := [.int t1, .int 2]) (rest := []) hT dX7_piece_114 rfl qm_137 (by decide) rfl rl_301 (by decide) rfl (Nat.le_of_ble_eq_true rfl) rfl ⟨rfl, rfl⟩ ⟨Nat.le_of_ble_eq_true rfl, Nat.le_of_ble_eq_true rfl⟩ (EvP.mono (by decide) (c_M_of_c2 hT p74 p75 p76 p77 )) (fun r78 P79 g80 => mpp 117 rfl ?_)
      obtain ⟨⟨x81, rfl, g82⟩, e83⟩ := g80
      have e83 := e83.symm
      subst e83
      have wx81 := ti_full x81
      have g82 : x81.toInt = (fv Po 302 (5 + 19 * t1.toInt.toNat)).toInt := g82
      have g84 := ti_full (fv Po 302 (5 + 19 * t1.toInt.toNat))
      show MEvP _ none q_194 117 [(0, .ref 301), (1, .int t1), (2, .int t2)] [.int x81] _ _ _ _
      exact mp_iret ⟨⟨_, rfl, trivial⟩, rfl⟩ dX7_piece_117 (Or.inl rfl)
    · refine mp_t (s_tabIn (t := 118) (off := 105) dX7_piece_13 (by omega) (by rw [c9]; rfl) (by decide)) ?_
      refine mp_a (a_aload_n dX7_piece_118 rfl) (mpp 119 rfl ?_)
      refine mp_a (a_iload_n dX7_piece_119 rfl) (mpp 120 rfl ?_)
      have p85 : 0 ≤ t1.toInt := by omega
      have p86 : t1.toInt ≤ 7 := by omega
      refine mt_callv (i := 228) (q' := q_185) (As := [.int t1]) (rest := []) hT dX7_piece_120 rfl qm_185 (by decide) rfl rl_301 (by decide) rfl (Nat.le_of_ble_eq_true rfl) rfl ⟨rfl, rfl⟩ ⟨Nat.le_of_ble_eq_true rfl, Nat.le_of_ble_eq_true rfl⟩ (EvP.mono (by decide) (c_M_widthOf hT p85 p86 )) (fun r87 P88 g89 => mpp 123 rfl ?_)
      obtain ⟨⟨x90, rfl, g91⟩, e92⟩ := g89
      have e92 := e92.symm
      subst e92
      have wx90 := ti_full x90
      show MEvP _ none q_194 123 [(0, .ref 301), (1, .int t1), (2, .int t2)] [.int x90] _ _ _ _
      exact mp_iret ⟨⟨_, rfl, trivial⟩, rfl⟩ dX7_piece_123 (Or.inl rfl)
  · have c8 : x4.toInt = 0 := ti_ne_n c8
    refine mp_a (a_sipush (v := -1001) dX7_piece_8 rfl) (mpp 11 rfl ?_)
    exact mp_iret ⟨⟨_, rfl, trivial⟩, rfl⟩ dX7_piece_11 (Or.inl rfl)

set_option maxHeartbeats 4000000 in
theorem c_M_size {Po : mP} {t1 : Int32} {t2 : Int32} (hT : Typ Po)   : EvP 4 196 [.ref 301, .int t1, .int t2] Po (fun r P' => (∃ x : Int32, r = some (.int x) ∧ (True)) ∧ P' = Po) := by
  refine EvP.of qm_196 (Nat.le_of_ble_eq_true rfl) rfl ?_
  show MEvP _ none q_196 0 [(0, .ref 301), (1, .int t1), (2, .int t2)] [] _ 0 0 _
  refine mp_a (a_aload_n dX7_size_0 rfl) (mpp 1 rfl ?_)
  refine mp_a (a_iload_n dX7_size_1 rfl) (mpp 2 rfl ?_)
  refine mt_callv (i := 85) (q' := q_144) (As := [.int t1]) (rest := []) hT dX7_size_2 rfl qm_144 (by decide) rfl rl_301 (by decide) rfl (Nat.le_of_ble_eq_true rfl) rfl ⟨rfl, rfl⟩ ⟨Nat.le_of_ble_eq_true rfl, Nat.le_of_ble_eq_true rfl⟩ (EvP.mono (by decide) (c_M_isPiece hT )) (fun r1 P2 g3 => mpp 5 rfl ?_)
  obtain ⟨⟨x4, rfl, g5⟩, e6⟩ := g3
  have e6 := e6.symm
  subst e6
  have wx4 := ti_full x4
  have g5 : 0 ≤ x4.toInt ∧ x4.toInt ≤ 1 ∧ ((x4.toInt = 1 ∧ 0 ≤ t1.toInt ∧ t1.toInt + 1 ≤ (fv Po 302 0).toInt ∧ t1.toInt ≤ 7) ∨ (x4.toInt = 0 ∧ (t1.toInt < 0 ∨ (fv Po 302 0).toInt ≤ t1.toInt))) := g5
  have g7 : (0 : Int) ≤ (fv Po 302 0).toInt ∧ (fv Po 302 0).toInt ≤ 8 := Typ.rng hT rl_302 (by decide) (by decide) rfl
  show MEvP _ none q_196 5 [(0, .ref 301), (1, .int t1), (2, .int t2)] [.int x4] _ _ _ _
  refine mp_Tb (t := 33) (j_if_eq dX7_size_5) (by decide) (fun c8 => ?_) (fun c8 => mpp 8 rfl ?_)
  · have c8 : x4.toInt = 0 := ti_eq c8
    refine mp_a (a_sipush (v := -1001) dX7_size_33 rfl) (mpp 36 rfl ?_)
    exact mp_iret ⟨⟨_, rfl, trivial⟩, rfl⟩ dX7_size_36 (Or.inl rfl)
  · have c8 : x4.toInt ≠ 0 := ti_eq_n c8
    refine mp_a (a_iload_n dX7_size_8 rfl) (mpp 9 rfl ?_)
    refine mp_a (a_iconst (v := 0) dX7_size_9 rfl) (mpp 10 rfl ?_)
    refine mp_a (a_aload_n dX7_size_10 rfl) (mpp 11 rfl ?_)
    refine mp_a (a_iload_n dX7_size_11 rfl) (mpp 12 rfl ?_)
    refine mp_a (a_iconst (v := 1) dX7_size_12 rfl) (mpp 13 rfl ?_)
    have p9 : 0 ≤ t1.toInt := by omega
    have p10 : t1.toInt ≤ 7 := by omega
    have p11 : 0 ≤ (1 : Int) := by omega
    have p12 : (1 : Int) ≤ 18 := by omega
    refine mt_callv (i := 78) (q' := q_137) (As := [.int t1, .int 1]) (rest := [.int 0, .int t2]) hT dX7_size_13 rfl qm_137 (by decide) rfl rl_301 (by decide) rfl (Nat.le_of_ble_eq_true rfl) rfl ⟨rfl, rfl⟩ ⟨Nat.le_of_ble_eq_true rfl, Nat.le_of_ble_eq_true rfl⟩ (EvP.mono (by decide) (c_M_of_c1 hT p9 p10 p11 p12 )) (fun r13 P14 g15 => mpp 16 rfl ?_)
    obtain ⟨⟨x16, rfl, g17⟩, e18⟩ := g15
    have e18 := e18.symm
    subst e18
    have wx16 := ti_full x16
    have g17 : x16.toInt = (fv Po 302 (4 + 19 * t1.toInt.toNat)).toInt ∧ 0 ≤ x16.toInt ∧ x16.toInt ≤ 8 := g17
    have g19 := ti_full (fv Po 302 (4 + 19 * t1.toInt.toNat))
    show MEvP _ none q_196 16 [(0, .ref 301), (1, .int t1), (2, .int t2)] [.int x16, .int 0, .int t2] _ _ _ _
    refine mp_a (a_iconst (v := 1) dX7_size_16 rfl) (mpp 17 rfl ?_)
    obtain ⟨z20, h21⟩ := ti_ex (x16 - 1 : Int32)
    have wz20 := ti_full z20
    refine mp_t (s_isub (v := z20) dX7_size_17 h21) (mpp 18 rfl ?_)
    try have e22 : z20.toInt = x16.toInt - 1 := ti_subz h21 rfl rfl (by omega) (by omega)
    refine mp_calls (i := 61) (q' := q_127) (As := [.int t2, .int 0, .int z20]) (rest := []) dX7_size_18 rfl qm_127 (by decide) rfl (Nat.le_of_ble_eq_true rfl) rfl ⟨rfl, rfl⟩ ⟨Nat.le_of_ble_eq_true rfl, Nat.le_of_ble_eq_true rfl⟩ (EvP.mono (by decide) (c_M_isIn hT )) (fun r23 P24 g25 => mpp 21 rfl ?_)
    obtain ⟨⟨x26, rfl, g27⟩, e28⟩ := g25
    have e28 := e28.symm
    subst e28
    have wx26 := ti_full x26
    have g27 : 0 ≤ x26.toInt ∧ x26.toInt ≤ 1 ∧ ((x26.toInt = 1 ∧ (0 : Int) ≤ t2.toInt ∧ t2.toInt ≤ z20.toInt) ∨ (x26.toInt = 0 ∧ (t2.toInt < (0 : Int) ∨ z20.toInt < t2.toInt))) := g27
    show MEvP _ none q_196 21 [(0, .ref 301), (1, .int t1), (2, .int t2)] [.int x26] _ _ _ _
    refine mp_Tb (t := 33) (j_if_eq dX7_size_21) (by decide) (fun c29 => ?_) (fun c29 => mpp 24 rfl ?_)
    · have c29 : x26.toInt = 0 := ti_eq c29
      refine mp_a (a_sipush (v := -1001) dX7_size_33 rfl) (mpp 36 rfl ?_)
      exact mp_iret ⟨⟨_, rfl, trivial⟩, rfl⟩ dX7_size_36 (Or.inl rfl)
    · have c29 : x26.toInt ≠ 0 := ti_eq_n c29
      refine mp_a (a_aload_n dX7_size_24 rfl) (mpp 25 rfl ?_)
      refine mp_a (a_iload_n dX7_size_25 rfl) (mpp 26 rfl ?_)
      refine mp_a (a_iload_n dX7_size_26 rfl) (mpp 27 rfl ?_)
      have p30 : 0 ≤ t1.toInt := by omega
      have p31 : t1.toInt ≤ 7 := by omega
      have p32 : 0 ≤ t2.toInt := by omega
      have p33 : t2.toInt ≤ 7 := by omega
      refine mt_callv (i := 142) (q' := q_152) (As := [.int t1, .int t2]) (rest := []) hT dX7_size_27 rfl qm_152 (by decide) rfl rl_301 (by decide) rfl (Nat.le_of_ble_eq_true rfl) rfl ⟨rfl, rfl⟩ ⟨Nat.le_of_ble_eq_true rfl, Nat.le_of_ble_eq_true rfl⟩ (EvP.mono (by decide) (c_M_sizeOf hT p30 p31 p32 p33 )) (fun r34 P35 g36 => mpp 30 rfl ?_)
      obtain ⟨⟨x37, rfl, g38⟩, e39⟩ := g36
      have e39 := e39.symm
      subst e39
      have wx37 := ti_full x37
      show MEvP _ none q_196 30 [(0, .ref 301), (1, .int t1), (2, .int t2)] [.int x37] _ _ _ _
      refine mp_a (a_goto (t := 36) dX7_size_30 (by decide)) ?_
      exact mp_iret ⟨⟨_, rfl, trivial⟩, rfl⟩ dX7_size_36 (Or.inl rfl)

