/-! methods on typed pools, 22 (written by a program) -/
set_option maxHeartbeats 4000000 in
theorem c_M_joins {Po : mP} {t1 : Int32} {t2 : Int32} {t3 : Int32} (hT : Typ Po) (hR : Rel Po)  : EvP 4 154 [.ref 301, .int t1, .int t2, .int t3] Po (fun r P' => (∃ x : Int32, r = some (.int x) ∧ (True)) ∧ Typ P' ∧ KW [1093, 1094, 1152] Po P' ∧ Rel P') := by
  refine EvP.of qm_154 (Nat.le_of_ble_eq_true rfl) rfl ?_
  show MEvP _ none q_154 0 [(0, .ref 301), (1, .int t1), (2, .int t2), (3, .int t3)] [] _ 0 0 _
  refine mp_a (a_aload_n dX7_joins_0 rfl) (mpp 1 rfl ?_)
  refine mp_a (a_iload_n dX7_joins_1 rfl) (mpp 2 rfl ?_)
  refine mt_callv (i := 85) (q' := q_144) (As := [.int t1]) (rest := []) hT dX7_joins_2 rfl qm_144 (by decide) rfl rl_301 (by decide) rfl (Nat.le_of_ble_eq_true rfl) rfl ⟨rfl, rfl⟩ ⟨Nat.le_of_ble_eq_true rfl, Nat.le_of_ble_eq_true rfl⟩ (EvP.mono (by decide) (c_M_isPiece hT )) (fun r1 P2 g3 => mpp 5 rfl ?_)
  obtain ⟨⟨x4, rfl, g5⟩, e6⟩ := g3
  have e6 := e6.symm
  subst e6
  have wx4 := ti_full x4
  have g5 : 0 ≤ x4.toInt ∧ x4.toInt ≤ 1 ∧ ((x4.toInt = 1 ∧ 0 ≤ t1.toInt ∧ t1.toInt + 1 ≤ (fv Po 302 0).toInt ∧ t1.toInt ≤ 7) ∨ (x4.toInt = 0 ∧ (t1.toInt < 0 ∨ (fv Po 302 0).toInt ≤ t1.toInt))) := g5
  have g7 : (0 : Int) ≤ (fv Po 302 0).toInt ∧ (fv Po 302 0).toInt ≤ 8 := Typ.rng hT rl_302 (by decide) (by decide) rfl
  show MEvP _ none q_154 5 [(0, .ref 301), (1, .int t1), (2, .int t2), (3, .int t3)] [.int x4] _ _ _ _
  refine mp_Tb (t := 21) (j_if_eq dX7_joins_5) (by decide) (fun c8 => ?_) (fun c8 => mpp 8 rfl ?_)
  · have c8 : x4.toInt = 0 := ti_eq c8
    refine mp_a (a_sipush (v := -1001) dX7_joins_21 rfl) (mpp 24 rfl ?_)
    exact mp_iret ⟨⟨_, rfl, trivial⟩, hT, KW.refl, hR⟩ dX7_joins_24 (Or.inl rfl)
  · have c8 : x4.toInt ≠ 0 := ti_eq_n c8
    refine mp_a (a_aload_n dX7_joins_8 rfl) (mpp 9 rfl ?_)
    refine mp_a (a_iload_n dX7_joins_9 rfl) (mpp 10 rfl ?_)
    refine mt_callv (i := 85) (q' := q_144) (As := [.int t2]) (rest := []) hT dX7_joins_10 rfl qm_144 (by decide) rfl rl_301 (by decide) rfl (Nat.le_of_ble_eq_true rfl) rfl ⟨rfl, rfl⟩ ⟨Nat.le_of_ble_eq_true rfl, Nat.le_of_ble_eq_true rfl⟩ (EvP.mono (by decide) (c_M_isPiece hT )) (fun r9 P10 g11 => mpp 13 rfl ?_)
    obtain ⟨⟨x12, rfl, g13⟩, e14⟩ := g11
    have e14 := e14.symm
    subst e14
    have wx12 := ti_full x12
    have g13 : 0 ≤ x12.toInt ∧ x12.toInt ≤ 1 ∧ ((x12.toInt = 1 ∧ 0 ≤ t2.toInt ∧ t2.toInt + 1 ≤ (fv Po 302 0).toInt ∧ t2.toInt ≤ 7) ∨ (x12.toInt = 0 ∧ (t2.toInt < 0 ∨ (fv Po 302 0).toInt ≤ t2.toInt))) := g13
    show MEvP _ none q_154 13 [(0, .ref 301), (1, .int t1), (2, .int t2), (3, .int t3)] [.int x12] _ _ _ _
    refine mp_Tb (t := 21) (j_if_eq dX7_joins_13) (by decide) (fun c15 => ?_) (fun c15 => mpp 16 rfl ?_)
    · have c15 : x12.toInt = 0 := ti_eq c15
      refine mp_a (a_sipush (v := -1001) dX7_joins_21 rfl) (mpp 24 rfl ?_)
      exact mp_iret ⟨⟨_, rfl, trivial⟩, hT, KW.refl, hR⟩ dX7_joins_24 (Or.inl rfl)
    · have c15 : x12.toInt ≠ 0 := ti_eq_n c15
      refine mp_a (a_iload_n dX7_joins_16 rfl) (mpp 17 rfl ?_)
      refine mp_a (a_iload_n dX7_joins_17 rfl) (mpp 18 rfl ?_)
      refine mp_Tb (t := 25) (j_icmp_ne dX7_joins_18) (by decide) (fun c16 => ?_) (fun c16 => mpp 21 rfl ?_)
      · have c16 : t1.toInt ≠ t2.toInt := ti_ne c16
        refine mp_a (a_iload_n dX7_joins_25 rfl) (mpp 26 rfl ?_)
        refine mp_a (a_iconst (v := 0) dX7_joins_26 rfl) (mpp 27 rfl ?_)
        refine mp_a (a_iconst (v := 2) dX7_joins_27 rfl) (mpp 28 rfl ?_)
        refine mp_calls (i := 61) (q' := q_127) (As := [.int t3, .int 0, .int 2]) (rest := []) dX7_joins_28 rfl qm_127 (by decide) rfl (Nat.le_of_ble_eq_true rfl) rfl ⟨rfl, rfl⟩ ⟨Nat.le_of_ble_eq_true rfl, Nat.le_of_ble_eq_true rfl⟩ (EvP.mono (by decide) (c_M_isIn hT )) (fun r17 P18 g19 => mpp 31 rfl ?_)
        obtain ⟨⟨x20, rfl, g21⟩, e22⟩ := g19
        have e22 := e22.symm
        subst e22
        have wx20 := ti_full x20
        have g21 : 0 ≤ x20.toInt ∧ x20.toInt ≤ 1 ∧ ((x20.toInt = 1 ∧ (0 : Int) ≤ t3.toInt ∧ t3.toInt ≤ (2 : Int)) ∨ (x20.toInt = 0 ∧ (t3.toInt < (0 : Int) ∨ (2 : Int) < t3.toInt))) := g21
        show MEvP _ none q_154 31 [(0, .ref 301), (1, .int t1), (2, .int t2), (3, .int t3)] [.int x20] _ _ _ _
        refine mp_Tb (t := 38) (j_if_ne dX7_joins_31) (by decide) (fun c23 => ?_) (fun c23 => mpp 34 rfl ?_)
        · have c23 : x20.toInt ≠ 0 := ti_ne c23
          refine mp_a (a_aload_n dX7_joins_38 rfl) (mpp 39 rfl ?_)
          refine mp_a (a_iload_n dX7_joins_39 rfl) (mpp 40 rfl ?_)
          have p24 : 0 ≤ t1.toInt := by omega
          have p25 : t1.toInt ≤ 7 := by omega
          refine mt_callv (i := 130) (q' := q_145) (As := [.int t1]) (rest := []) hT dX7_joins_40 rfl qm_145 (by decide) rfl rl_301 (by decide) rfl (Nat.le_of_ble_eq_true rfl) rfl ⟨rfl, rfl⟩ ⟨Nat.le_of_ble_eq_true rfl, Nat.le_of_ble_eq_true rfl⟩ (EvP.mono (by decide) (c_M_isFolded hT p24 p25 )) (fun r26 P27 g28 => mpp 43 rfl ?_)
          obtain ⟨⟨x29, rfl, g30⟩, e31⟩ := g28
          have e31 := e31.symm
          subst e31
          have wx29 := ti_full x29
          have g30 : 0 ≤ x29.toInt ∧ x29.toInt ≤ 1 := g30
          show MEvP _ none q_154 43 [(0, .ref 301), (1, .int t1), (2, .int t2), (3, .int t3)] [.int x29] _ _ _ _
          refine mp_Tb (t := 54) (j_if_ne dX7_joins_43) (by decide) (fun c32 => ?_) (fun c32 => mpp 46 rfl ?_)
          · have c32 : x29.toInt ≠ 0 := ti_ne c32
            refine mp_a (a_aload_n dX7_joins_54 rfl) (mpp 55 rfl ?_)
            refine mp_a (a_iconst (v := 2) dX7_joins_55 rfl) (mpp 56 rfl ?_)
            refine mp_a (a_aload_n dX7_joins_56 rfl) (mpp 57 rfl ?_)
            refine mp_a (a_iload_n dX7_joins_57 rfl) (mpp 58 rfl ?_)
            have p33 : 0 ≤ t1.toInt := by omega
            have p34 : t1.toInt ≤ 7 := by omega
            refine mt_callv (i := 130) (q' := q_145) (As := [.int t1]) (rest := [.int 2, .ref 301]) hT dX7_joins_58 rfl qm_145 (by decide) rfl rl_301 (by decide) rfl (Nat.le_of_ble_eq_true rfl) rfl ⟨rfl, rfl⟩ ⟨Nat.le_of_ble_eq_true rfl, Nat.le_of_ble_eq_true rfl⟩ (EvP.mono (by decide) (c_M_isFolded hT p33 p34 )) (fun r35 P36 g37 => mpp 61 rfl ?_)
            obtain ⟨⟨x38, rfl, g39⟩, e40⟩ := g37
            have e40 := e40.symm
            subst e40
            have wx38 := ti_full x38
            have g39 : 0 ≤ x38.toInt ∧ x38.toInt ≤ 1 := g39
            show MEvP _ none q_154 61 [(0, .ref 301), (1, .int t1), (2, .int t2), (3, .int t3)] [.int x38, .int 2, .ref 301] _ _ _ _
            refine mp_Tb (t := 68) (j_if_eq dX7_joins_61) (by decide) (fun c41 => ?_) (fun c41 => mpp 64 rfl ?_)
            · have c41 : x38.toInt = 0 := ti_eq c41
              refine mp_a (a_iload_n dX7_joins_68 rfl) (mpp 69 rfl ?_)
              refine mt_callv (i := 101) (q' := q_134) (As := [.int 2, .int t2]) (rest := []) hT dX7_joins_69 rfl qm_134 (by decide) rfl rl_301 (by decide) rfl (Nat.le_of_ble_eq_true rfl) rfl ⟨rfl, rfl⟩ ⟨Nat.le_of_ble_eq_true rfl, Nat.le_of_ble_eq_true rfl⟩ (EvP.mono (by decide) (c_M_refuses hT )) (fun r42 P43 g44 => mpp 72 rfl ?_)
              obtain ⟨⟨x45, rfl, g46⟩, hT47, k48, R49⟩ := g44
              have k50 : KW [1093, 1094, 1152] Po P43 := KW.trans KW.refl k48 rfl
              have R51 := Rel.kw hR k48 rfl
              have wx45 := ti_full x45
              show MEvP _ none q_154 72 [(0, .ref 301), (1, .int t1), (2, .int t2), (3, .int t3)] [.int x45] _ _ _ _
              exact mp_iret ⟨⟨_, rfl, trivial⟩, hT47, k50, R51⟩ dX7_joins_72 (Or.inl rfl)
            · have c41 : x38.toInt ≠ 0 := ti_eq_n c41
              refine mp_a (a_iload_n dX7_joins_64 rfl) (mpp 65 rfl ?_)
              refine mp_a (a_goto (t := 69) dX7_joins_65 (by decide)) ?_
              refine mt_callv (i := 101) (q' := q_134) (As := [.int 2, .int t1]) (rest := []) hT dX7_joins_69 rfl qm_134 (by decide) rfl rl_301 (by decide) rfl (Nat.le_of_ble_eq_true rfl) rfl ⟨rfl, rfl⟩ ⟨Nat.le_of_ble_eq_true rfl, Nat.le_of_ble_eq_true rfl⟩ (EvP.mono (by decide) (c_M_refuses hT )) (fun r52 P53 g54 => mpp 72 rfl ?_)
              obtain ⟨⟨x55, rfl, g56⟩, hT57, k58, R59⟩ := g54
              have k60 : KW [1093, 1094, 1152] Po P53 := KW.trans KW.refl k58 rfl
              have R61 := Rel.kw hR k58 rfl
              have wx55 := ti_full x55
              show MEvP _ none q_154 72 [(0, .ref 301), (1, .int t1), (2, .int t2), (3, .int t3)] [.int x55] _ _ _ _
              exact mp_iret ⟨⟨_, rfl, trivial⟩, hT57, k60, R61⟩ dX7_joins_72 (Or.inl rfl)
          · have c32 : x29.toInt = 0 := ti_ne_n c32
            refine mp_a (a_aload_n dX7_joins_46 rfl) (mpp 47 rfl ?_)
            refine mp_a (a_iload_n dX7_joins_47 rfl) (mpp 48 rfl ?_)
            have p62 : 0 ≤ t2.toInt := by omega
            have p63 : t2.toInt ≤ 7 := by omega
            refine mt_callv (i := 130) (q' := q_145) (As := [.int t2]) (rest := []) hT dX7_joins_48 rfl qm_145 (by decide) rfl rl_301 (by decide) rfl (Nat.le_of_ble_eq_true rfl) rfl ⟨rfl, rfl⟩ ⟨Nat.le_of_ble_eq_true rfl, Nat.le_of_ble_eq_true rfl⟩ (EvP.mono (by decide) (c_M_isFolded hT p62 p63 )) (fun r64 P65 g66 => mpp 51 rfl ?_)
            obtain ⟨⟨x67, rfl, g68⟩, e69⟩ := g66
            have e69 := e69.symm
            subst e69
            have wx67 := ti_full x67
            have g68 : 0 ≤ x67.toInt ∧ x67.toInt ≤ 1 := g68
            show MEvP _ none q_154 51 [(0, .ref 301), (1, .int t1), (2, .int t2), (3, .int t3)] [.int x67] _ _ _ _
            refine mp_Tb (t := 73) (j_if_eq dX7_joins_51) (by decide) (fun c70 => ?_) (fun c70 => mpp 54 rfl ?_)
            · have c70 : x67.toInt = 0 := ti_eq c70
              refine mp_a (a_aload_n dX7_joins_73 rfl) (mpp 74 rfl ?_)
              refine mp_a (a_iload_n dX7_joins_74 rfl) (mpp 75 rfl ?_)
              have p71 : 0 ≤ t1.toInt := by omega
              have p72 : t1.toInt ≤ 7 := by omega
              refine mt_callv (i := 81) (q' := q_138) (As := [.int t1]) (rest := []) hT dX7_joins_75 rfl qm_138 (by decide) rfl rl_301 (by decide) rfl (Nat.le_of_ble_eq_true rfl) rfl ⟨rfl, rfl⟩ ⟨Nat.le_of_ble_eq_true rfl, Nat.le_of_ble_eq_true rfl⟩ (EvP.mono (by decide) (c_M_isCorner hT p71 p72 )) (fun r73 P74 g75 => mpp 78 rfl ?_)
              obtain ⟨⟨x76, rfl, g77⟩, e78⟩ := g75
              have e78 := e78.symm
              subst e78
              have wx76 := ti_full x76
              have g77 : 0 ≤ x76.toInt ∧ x76.toInt ≤ 1 ∧ ((x76.toInt = 1 ∧ (fv Po 302 (3 + 19 * t1.toInt.toNat)).toInt = 1) ∨ (x76.toInt = 0 ∧ (fv Po 302 (3 + 19 * t1.toInt.toNat)).toInt = 0)) := g77
              have g79 := ti_full (fv Po 302 (3 + 19 * t1.toInt.toNat))
              show MEvP _ none q_154 78 [(0, .ref 301), (1, .int t1), (2, .int t2), (3, .int t3)] [.int x76] _ _ _ _
              refine mp_Tb (t := 89) (j_if_ne dX7_joins_78) (by decide) (fun c80 => ?_) (fun c80 => mpp 81 rfl ?_)
              · have c80 : x76.toInt ≠ 0 := ti_ne c80
                refine mp_a (a_aload_n dX7_joins_89 rfl) (mpp 90 rfl ?_)
                refine mp_a (a_iconst (v := 3) dX7_joins_90 rfl) (mpp 91 rfl ?_)
                refine mp_a (a_aload_n dX7_joins_91 rfl) (mpp 92 rfl ?_)
                refine mp_a (a_iload_n dX7_joins_92 rfl) (mpp 93 rfl ?_)
                have p81 : 0 ≤ t1.toInt := by omega
                have p82 : t1.toInt ≤ 7 := by omega
                refine mt_callv (i := 81) (q' := q_138) (As := [.int t1]) (rest := [.int 3, .ref 301]) hT dX7_joins_93 rfl qm_138 (by decide) rfl rl_301 (by decide) rfl (Nat.le_of_ble_eq_true rfl) rfl ⟨rfl, rfl⟩ ⟨Nat.le_of_ble_eq_true rfl, Nat.le_of_ble_eq_true rfl⟩ (EvP.mono (by decide) (c_M_isCorner hT p81 p82 )) (fun r83 P84 g85 => mpp 96 rfl ?_)
                obtain ⟨⟨x86, rfl, g87⟩, e88⟩ := g85
                have e88 := e88.symm
                subst e88
                have wx86 := ti_full x86
                have g87 : 0 ≤ x86.toInt ∧ x86.toInt ≤ 1 ∧ ((x86.toInt = 1 ∧ (fv Po 302 (3 + 19 * t1.toInt.toNat)).toInt = 1) ∨ (x86.toInt = 0 ∧ (fv Po 302 (3 + 19 * t1.toInt.toNat)).toInt = 0)) := g87
                show MEvP _ none q_154 96 [(0, .ref 301), (1, .int t1), (2, .int t2), (3, .int t3)] [.int x86, .int 3, .ref 301] _ _ _ _
                refine mp_Tb (t := 103) (j_if_eq dX7_joins_96) (by decide) (fun c89 => ?_) (fun c89 => mpp 99 rfl ?_)
                · have c89 : x86.toInt = 0 := ti_eq c89
                  refine mp_a (a_iload_n dX7_joins_103 rfl) (mpp 104 rfl ?_)
                  refine mt_callv (i := 101) (q' := q_134) (As := [.int 3, .int t2]) (rest := []) hT dX7_joins_104 rfl qm_134 (by decide) rfl rl_301 (by decide) rfl (Nat.le_of_ble_eq_true rfl) rfl ⟨rfl, rfl⟩ ⟨Nat.le_of_ble_eq_true rfl, Nat.le_of_ble_eq_true rfl⟩ (EvP.mono (by decide) (c_M_refuses hT )) (fun r90 P91 g92 => mpp 107 rfl ?_)
                  obtain ⟨⟨x93, rfl, g94⟩, hT95, k96, R97⟩ := g92
                  have k98 : KW [1093, 1094, 1152] Po P91 := KW.trans KW.refl k96 rfl
                  have R99 := Rel.kw hR k96 rfl
                  have wx93 := ti_full x93
                  show MEvP _ none q_154 107 [(0, .ref 301), (1, .int t1), (2, .int t2), (3, .int t3)] [.int x93] _ _ _ _
                  exact mp_iret ⟨⟨_, rfl, trivial⟩, hT95, k98, R99⟩ dX7_joins_107 (Or.inl rfl)
                · have c89 : x86.toInt ≠ 0 := ti_eq_n c89
                  refine mp_a (a_iload_n dX7_joins_99 rfl) (mpp 100 rfl ?_)
                  refine mp_a (a_goto (t := 104) dX7_joins_100 (by decide)) ?_
                  refine mt_callv (i := 101) (q' := q_134) (As := [.int 3, .int t1]) (rest := []) hT dX7_joins_104 rfl qm_134 (by decide) rfl rl_301 (by decide) rfl (Nat.le_of_ble_eq_true rfl) rfl ⟨rfl, rfl⟩ ⟨Nat.le_of_ble_eq_true rfl, Nat.le_of_ble_eq_true rfl⟩ (EvP.mono (by decide) (c_M_refuses hT )) (fun r100 P101 g102 => mpp 107 rfl ?_)
                  obtain ⟨⟨x103, rfl, g104⟩, hT105, k106, R107⟩ := g102
                  have k108 : KW [1093, 1094, 1152] Po P101 := KW.trans KW.refl k106 rfl
                  have R109 := Rel.kw hR k106 rfl
                  have wx103 := ti_full x103
                  show MEvP _ none q_154 107 [(0, .ref 301), (1, .int t1), (2, .int t2), (3, .int t3)] [.int x103] _ _ _ _
                  exact mp_iret ⟨⟨_, rfl, trivial⟩, hT105, k108, R109⟩ dX7_joins_107 (Or.inl rfl)
              · have c80 : x76.toInt = 0 := ti_ne_n c80
                refine mp_a (a_aload_n dX7_joins_81 rfl) (mpp 82 rfl ?_)
                refine mp_a (a_iload_n dX7_joins_82 rfl) (mpp 83 rfl ?_)
                have p110 : 0 ≤ t2.toInt := by omega
                have p111 : t2.toInt ≤ 7 := by omega
                refine mt_callv (i := 81) (q' := q_138) (As := [.int t2]) (rest := []) hT dX7_joins_83 rfl qm_138 (by decide) rfl rl_301 (by decide) rfl (Nat.le_of_ble_eq_true rfl) rfl ⟨rfl, rfl⟩ ⟨Nat.le_of_ble_eq_true rfl, Nat.le_of_ble_eq_true rfl⟩ (EvP.mono (by decide) (c_M_isCorner hT p110 p111 )) (fun r112 P113 g114 => mpp 86 rfl ?_)
                obtain ⟨⟨x115, rfl, g116⟩, e117⟩ := g114
                have e117 := e117.symm
                subst e117
                have wx115 := ti_full x115
                have g116 : 0 ≤ x115.toInt ∧ x115.toInt ≤ 1 ∧ ((x115.toInt = 1 ∧ (fv Po 302 (3 + 19 * t2.toInt.toNat)).toInt = 1) ∨ (x115.toInt = 0 ∧ (fv Po 302 (3 + 19 * t2.toInt.toNat)).toInt = 0)) := g116
                have g118 := ti_full (fv Po 302 (3 + 19 * t2.toInt.toNat))
                show MEvP _ none q_154 86 [(0, .ref 301), (1, .int t1), (2, .int t2), (3, .int t3)] [.int x115] _ _ _ _
                refine mp_Tb (t := 108) (j_if_eq dX7_joins_86) (by decide) (fun c119 => ?_) (fun c119 => mpp 89 rfl ?_)
                · have c119 : x115.toInt = 0 := ti_eq c119
                  refine mp_a (a_aload_n dX7_joins_108 rfl) (mpp 109 rfl ?_)
                  refine mp_a (a_iload_n dX7_joins_109 rfl) (mpp 110 rfl ?_)
                  refine mp_a (a_iconst (v := 1) dX7_joins_110 rfl) (mpp 111 rfl ?_)
                  have p120 : 0 ≤ t1.toInt := by omega
                  have p121 : t1.toInt ≤ 7 := by omega
                  have p122 : 0 ≤ (1 : Int) := by omega
                  have p123 : (1 : Int) ≤ 18 := by omega
                  refine mt_callv (i := 78) (q' := q_137) (As := [.int t1, .int 1]) (rest := []) hT dX7_joins_111 rfl qm_137 (by decide) rfl rl_301 (by decide) rfl (Nat.le_of_ble_eq_true rfl) rfl ⟨rfl, rfl⟩ ⟨Nat.le_of_ble_eq_true rfl, Nat.le_of_ble_eq_true rfl⟩ (EvP.mono (by decide) (c_M_of_c1 hT p120 p121 p122 p123 )) (fun r124 P125 g126 => mpp 114 rfl ?_)
                  obtain ⟨⟨x127, rfl, g128⟩, e129⟩ := g126
                  have e129 := e129.symm
                  subst e129
                  have wx127 := ti_full x127
                  have g128 : x127.toInt = (fv Po 302 (4 + 19 * t1.toInt.toNat)).toInt ∧ 0 ≤ x127.toInt ∧ x127.toInt ≤ 8 := g128
                  have g130 := ti_full (fv Po 302 (4 + 19 * t1.toInt.toNat))
                  show MEvP _ none q_154 114 [(0, .ref 301), (1, .int t1), (2, .int t2), (3, .int t3)] [.int x127] _ _ _ _
                  refine mp_a (a_istore (L' := [(4, .int x127), (0, .ref 301), (1, .int t1), (2, .int t2), (3, .int t3)]) dX7_joins_114 (by decide) rfl) (mpp 116 rfl ?_)
                  refine mp_a (a_aload_n dX7_joins_116 rfl) (mpp 117 rfl ?_)
                  refine mp_a (a_iload_n dX7_joins_117 rfl) (mpp 118 rfl ?_)
                  refine mp_a (a_iconst (v := 1) dX7_joins_118 rfl) (mpp 119 rfl ?_)
                  have p131 : 0 ≤ t2.toInt := by omega
                  have p132 : t2.toInt ≤ 7 := by omega
                  have p133 : 0 ≤ (1 : Int) := by omega
                  have p134 : (1 : Int) ≤ 18 := by omega
                  refine mt_callv (i := 78) (q' := q_137) (As := [.int t2, .int 1]) (rest := []) hT dX7_joins_119 rfl qm_137 (by decide) rfl rl_301 (by decide) rfl (Nat.le_of_ble_eq_true rfl) rfl ⟨rfl, rfl⟩ ⟨Nat.le_of_ble_eq_true rfl, Nat.le_of_ble_eq_true rfl⟩ (EvP.mono (by decide) (c_M_of_c1 hT p131 p132 p133 p134 )) (fun r135 P136 g137 => mpp 122 rfl ?_)
                  obtain ⟨⟨x138, rfl, g139⟩, e140⟩ := g137
                  have e140 := e140.symm
                  subst e140
                  have wx138 := ti_full x138
                  have g139 : x138.toInt = (fv Po 302 (4 + 19 * t2.toInt.toNat)).toInt ∧ 0 ≤ x138.toInt ∧ x138.toInt ≤ 8 := g139
                  have g141 := ti_full (fv Po 302 (4 + 19 * t2.toInt.toNat))
                  show MEvP _ none q_154 122 [(4, .int x127), (0, .ref 301), (1, .int t1), (2, .int t2), (3, .int t3)] [.int x138] _ _ _ _
                  refine mp_a (a_istore (L' := [(5, .int x138), (4, .int x127), (0, .ref 301), (1, .int t1), (2, .int t2), (3, .int t3)]) dX7_joins_122 (by decide) rfl) (mpp 124 rfl ?_)
                  have q142 := Rel.two hR (p := t1.toInt.toNat) (by omega) (by omega)
                  refine mp_a (a_iload dX7_joins_124 rfl) (mpp 126 rfl ?_)
                  refine mp_a (a_iload dX7_joins_126 rfl) (mpp 128 rfl ?_)
                  obtain ⟨z143, h144⟩ := ti_ex (x127 + x138 : Int32)
                  have wz143 := ti_full z143
                  refine mp_t (s_iadd (v := z143) dX7_joins_128 h144) (mpp 129 rfl ?_)
                  try have e145 : z143.toInt = x127.toInt + x138.toInt := ti_addz h144 rfl rfl (by omega) (by omega)
                  refine mp_a (a_bipush (v := 7) dX7_joins_129 rfl) (mpp 131 rfl ?_)
                  refine mp_Tb (t := 146) (j_icmp_le dX7_joins_131) (by decide) (fun c146 => ?_) (fun c146 => mpp 134 rfl ?_)
                  · have c146 : z143.toInt ≤ 7 := ti_le c146
                    refine mp_a (a_aload_n dX7_joins_146 rfl) (mpp 147 rfl ?_)
                    refine mt_getU (i := 9) (k := 0) (A := 302) hT dX7_joins_147 rfl rl_301 (by decide) rfl (by decide) rfl un_18 (mpp 150 rfl ?_)
                    refine mp_a (a_iload_n dX7_joins_150 rfl) (mpp 151 rfl ?_)
                    refine mp_a (a_bipush (v := 11) dX7_joins_151 rfl) (mpp 153 rfl ?_)
                    refine mp_a (a_iload dX7_joins_153 rfl) (mpp 155 rfl ?_)
                    obtain ⟨z147, h148⟩ := ti_ex (11 + x127 : Int32)
                    have wz147 := ti_full z147
                    refine mp_t (s_iadd (v := z147) dX7_joins_155 h148) (mpp 156 rfl ?_)
                    try have e149 : z147.toInt = 11 + x127.toInt := ti_addz h148 rfl rfl (by omega) (by omega)
                    refine mp_a (a_iconst (v := 1) dX7_joins_156 rfl) (mpp 157 rfl ?_)
                    obtain ⟨z150, h151⟩ := ti_ex (z147 - 1 : Int32)
                    have wz150 := ti_full z150
                    refine mp_t (s_isub (v := z150) dX7_joins_157 h151) (mpp 158 rfl ?_)
                    try have e152 : z150.toInt = z147.toInt - 1 := ti_subz h151 rfl rfl (by omega) (by omega)
                    have p153 : 0 ≤ t1.toInt := by omega
                    have p154 : t1.toInt ≤ 8 := by omega
                    have p155 : 0 ≤ z150.toInt := by omega
                    have p156 : z150.toInt ≤ 20 := by omega
                    refine mp_calls (i := 74) (q' := q_135) (As := [.int t1, .int z150]) (rest := [.ref 302]) dX7_joins_158 rfl qm_135 (by decide) rfl (Nat.le_of_ble_eq_true rfl) rfl ⟨rfl, rfl⟩ ⟨Nat.le_of_ble_eq_true rfl, Nat.le_of_ble_eq_true rfl⟩ (EvP.mono (by decide) (c_M_at hT p153 p154 p155 p156 )) (fun r157 P158 g159 => mpp 161 rfl ?_)
                    obtain ⟨⟨x160, rfl, g161⟩, e162⟩ := g159
                    have e162 := e162.symm
                    subst e162
                    have wx160 := ti_full x160
                    have g161 : x160.toInt = 3 + 19 * t1.toInt + z150.toInt := g161
                    show MEvP _ none q_154 161 [(5, .int x138), (4, .int x127), (0, .ref 301), (1, .int t1), (2, .int t2), (3, .int t3)] [.int x160, .ref 302] _ _ _ _
                    refine mp_a (a_iload_n dX7_joins_161 rfl) (mpp 162 rfl ?_)
                    refine mt_iasX (n := 155) hT dX7_joins_162 rl_302 (by decide) rfl rfl (by omega) (by omega) (okS_mk (by omega) (fun _ => ⟨by omega, by omega⟩) (fun _ => ⟨by omega, by omega⟩)) (fun P163 hT164 f165 f166 => mpp 163 rfl ?_)
                    have k167 : KW [1093, 1094, 1152] Po P163 := KW.step KW.refl rl_302 rfl f166
                    have R168 := Rel.oth hR f166 (by omega)
                    refine mp_a (a_iconst (v := 0) dX7_joins_163 rfl) (mpp 164 rfl ?_)
                    refine mp_a (a_istore (L' := [(6, .int 0), (5, .int x138), (4, .int x127), (0, .ref 301), (1, .int t1), (2, .int t2), (3, .int t3)]) dX7_joins_164 (by decide) rfl) (mpp 166 rfl ?_)
                    refine MEvP.less (L := [(0, .ref 301), (1, .int t1), (2, .int t2), (3, .int t3), (4, .int x127), (5, .int x138), (6, .int 0)]) rfl rfl ⟨rfl, rfl, rfl, rfl, rfl, rfl, rfl, trivial⟩ ?_
                    have i169 : 0 ≤ t1.toInt := by omega
                    have i170 : t1.toInt ≤ 7 := by omega
                    have i171 : 0 ≤ t2.toInt := by omega
                    have i172 : t2.toInt ≤ 7 := by omega
                    have i173 : 0 ≤ x127.toInt := by omega
                    have i174 : 0 ≤ x138.toInt := by omega
                    have i175 : x127.toInt + x138.toInt ≤ 7 := by omega
                    have i176 : 2 ≤ x127.toInt := by omega
                    have e177 : (fv P163 302 0).toInt = (fv Po 302 0).toInt := congrArg Int32.toInt (f166 302 0 (ne_i (by omega)))
                    have i178 : (fv P163 302 0).toInt = (fv Po 302 0).toInt := by omega
                    have i179 : t2.toInt + 1 ≤ (fv Po 302 0).toInt := by omega
                    have i180 : 0 ≤ (0 : Int) := by omega
                    exact c_M_joins_l166   _ _ _ _ P163 hT164 k167 R168 i169 i170 i171 i172 i173 i174 i175 i176 i178 i179 i180 rfl
                  · have c146 : z143.toInt > 7 := ti_le_n c146
                    refine mp_a (a_aload_n dX7_joins_134 rfl) (mpp 135 rfl ?_)
                    refine mp_a (a_bipush (v := 6) dX7_joins_135 rfl) (mpp 137 rfl ?_)
                    refine mp_a (a_iload dX7_joins_137 rfl) (mpp 139 rfl ?_)
                    refine mp_a (a_iload dX7_joins_139 rfl) (mpp 141 rfl ?_)
                    obtain ⟨z181, h182⟩ := ti_ex (x127 + x138 : Int32)
                    have wz181 := ti_full z181
                    refine mp_t (s_iadd (v := z181) dX7_joins_141 h182) (mpp 142 rfl ?_)
                    try have e183 : z181.toInt = x127.toInt + x138.toInt := ti_addz h182 rfl rfl (by omega) (by omega)
                    refine mt_callv (i := 101) (q' := q_134) (As := [.int 6, .int z181]) (rest := []) hT dX7_joins_142 rfl qm_134 (by decide) rfl rl_301 (by decide) rfl (Nat.le_of_ble_eq_true rfl) rfl ⟨rfl, rfl⟩ ⟨Nat.le_of_ble_eq_true rfl, Nat.le_of_ble_eq_true rfl⟩ (EvP.mono (by decide) (c_M_refuses hT )) (fun r184 P185 g186 => mpp 145 rfl ?_)
                    obtain ⟨⟨x187, rfl, g188⟩, hT189, k190, R191⟩ := g186
                    have k192 : KW [1093, 1094, 1152] Po P185 := KW.trans KW.refl k190 rfl
                    have R193 := Rel.kw hR k190 rfl
                    have wx187 := ti_full x187
                    show MEvP _ none q_154 145 [(5, .int x138), (4, .int x127), (0, .ref 301), (1, .int t1), (2, .int t2), (3, .int t3)] [.int x187] _ _ _ _
                    exact mp_iret ⟨⟨_, rfl, trivial⟩, hT189, k192, R193⟩ dX7_joins_145 (Or.inl rfl)
                · have c119 : x115.toInt ≠ 0 := ti_eq_n c119
                  refine mp_a (a_aload_n dX7_joins_89 rfl) (mpp 90 rfl ?_)
                  refine mp_a (a_iconst (v := 3) dX7_joins_90 rfl) (mpp 91 rfl ?_)
                  refine mp_a (a_aload_n dX7_joins_91 rfl) (mpp 92 rfl ?_)
                  refine mp_a (a_iload_n dX7_joins_92 rfl) (mpp 93 rfl ?_)
                  have p194 : 0 ≤ t1.toInt := by omega
                  have p195 : t1.toInt ≤ 7 := by omega
                  refine mt_callv (i := 81) (q' := q_138) (As := [.int t1]) (rest := [.int 3, .ref 301]) hT dX7_joins_93 rfl qm_138 (by decide) rfl rl_301 (by decide) rfl (Nat.le_of_ble_eq_true rfl) rfl ⟨rfl, rfl⟩ ⟨Nat.le_of_ble_eq_true rfl, Nat.le_of_ble_eq_true rfl⟩ (EvP.mono (by decide) (c_M_isCorner hT p194 p195 )) (fun r196 P197 g198 => mpp 96 rfl ?_)
                  obtain ⟨⟨x199, rfl, g200⟩, e201⟩ := g198
                  have e201 := e201.symm
                  subst e201
                  have wx199 := ti_full x199
                  have g200 : 0 ≤ x199.toInt ∧ x199.toInt ≤ 1 ∧ ((x199.toInt = 1 ∧ (fv Po 302 (3 + 19 * t1.toInt.toNat)).toInt = 1) ∨ (x199.toInt = 0 ∧ (fv Po 302 (3 + 19 * t1.toInt.toNat)).toInt = 0)) := g200
                  show MEvP _ none q_154 96 [(0, .ref 301), (1, .int t1), (2, .int t2), (3, .int t3)] [.int x199, .int 3, .ref 301] _ _ _ _
                  refine mp_Tb (t := 103) (j_if_eq dX7_joins_96) (by decide) (fun c202 => ?_) (fun c202 => mpp 99 rfl ?_)
                  · have c202 : x199.toInt = 0 := ti_eq c202
                    refine mp_a (a_iload_n dX7_joins_103 rfl) (mpp 104 rfl ?_)
                    refine mt_callv (i := 101) (q' := q_134) (As := [.int 3, .int t2]) (rest := []) hT dX7_joins_104 rfl qm_134 (by decide) rfl rl_301 (by decide) rfl (Nat.le_of_ble_eq_true rfl) rfl ⟨rfl, rfl⟩ ⟨Nat.le_of_ble_eq_true rfl, Nat.le_of_ble_eq_true rfl⟩ (EvP.mono (by decide) (c_M_refuses hT )) (fun r203 P204 g205 => mpp 107 rfl ?_)
                    obtain ⟨⟨x206, rfl, g207⟩, hT208, k209, R210⟩ := g205
                    have k211 : KW [1093, 1094, 1152] Po P204 := KW.trans KW.refl k209 rfl
                    have R212 := Rel.kw hR k209 rfl
                    have wx206 := ti_full x206
                    show MEvP _ none q_154 107 [(0, .ref 301), (1, .int t1), (2, .int t2), (3, .int t3)] [.int x206] _ _ _ _
                    exact mp_iret ⟨⟨_, rfl, trivial⟩, hT208, k211, R212⟩ dX7_joins_107 (Or.inl rfl)
                  · have c202 : x199.toInt ≠ 0 := ti_eq_n c202
                    refine mp_a (a_iload_n dX7_joins_99 rfl) (mpp 100 rfl ?_)
                    refine mp_a (a_goto (t := 104) dX7_joins_100 (by decide)) ?_
                    refine mt_callv (i := 101) (q' := q_134) (As := [.int 3, .int t1]) (rest := []) hT dX7_joins_104 rfl qm_134 (by decide) rfl rl_301 (by decide) rfl (Nat.le_of_ble_eq_true rfl) rfl ⟨rfl, rfl⟩ ⟨Nat.le_of_ble_eq_true rfl, Nat.le_of_ble_eq_true rfl⟩ (EvP.mono (by decide) (c_M_refuses hT )) (fun r213 P214 g215 => mpp 107 rfl ?_)
                    obtain ⟨⟨x216, rfl, g217⟩, hT218, k219, R220⟩ := g215
                    have k221 : KW [1093, 1094, 1152] Po P214 := KW.trans KW.refl k219 rfl
                    have R222 := Rel.kw hR k219 rfl
                    have wx216 := ti_full x216
                    show MEvP _ none q_154 107 [(0, .ref 301), (1, .int t1), (2, .int t2), (3, .int t3)] [.int x216] _ _ _ _
                    exact mp_iret ⟨⟨_, rfl, trivial⟩, hT218, k221, R222⟩ dX7_joins_107 (Or.inl rfl)
            · have c70 : x67.toInt ≠ 0 := ti_eq_n c70
              refine mp_a (a_aload_n dX7_joins_54 rfl) (mpp 55 rfl ?_)
              refine mp_a (a_iconst (v := 2) dX7_joins_55 rfl) (mpp 56 rfl ?_)
              refine mp_a (a_aload_n dX7_joins_56 rfl) (mpp 57 rfl ?_)
              refine mp_a (a_iload_n dX7_joins_57 rfl) (mpp 58 rfl ?_)
              have p223 : 0 ≤ t1.toInt := by omega
              have p224 : t1.toInt ≤ 7 := by omega
              refine mt_callv (i := 130) (q' := q_145) (As := [.int t1]) (rest := [.int 2, .ref 301]) hT dX7_joins_58 rfl qm_145 (by decide) rfl rl_301 (by decide) rfl (Nat.le_of_ble_eq_true rfl) rfl ⟨rfl, rfl⟩ ⟨Nat.le_of_ble_eq_true rfl, Nat.le_of_ble_eq_true rfl⟩ (EvP.mono (by decide) (c_M_isFolded hT p223 p224 )) (fun r225 P226 g227 => mpp 61 rfl ?_)
              obtain ⟨⟨x228, rfl, g229⟩, e230⟩ := g227
              have e230 := e230.symm
              subst e230
              have wx228 := ti_full x228
              have g229 : 0 ≤ x228.toInt ∧ x228.toInt ≤ 1 := g229
              show MEvP _ none q_154 61 [(0, .ref 301), (1, .int t1), (2, .int t2), (3, .int t3)] [.int x228, .int 2, .ref 301] _ _ _ _
              refine mp_Tb (t := 68) (j_if_eq dX7_joins_61) (by decide) (fun c231 => ?_) (fun c231 => mpp 64 rfl ?_)
              · have c231 : x228.toInt = 0 := ti_eq c231
                refine mp_a (a_iload_n dX7_joins_68 rfl) (mpp 69 rfl ?_)
                refine mt_callv (i := 101) (q' := q_134) (As := [.int 2, .int t2]) (rest := []) hT dX7_joins_69 rfl qm_134 (by decide) rfl rl_301 (by decide) rfl (Nat.le_of_ble_eq_true rfl) rfl ⟨rfl, rfl⟩ ⟨Nat.le_of_ble_eq_true rfl, Nat.le_of_ble_eq_true rfl⟩ (EvP.mono (by decide) (c_M_refuses hT )) (fun r232 P233 g234 => mpp 72 rfl ?_)
                obtain ⟨⟨x235, rfl, g236⟩, hT237, k238, R239⟩ := g234
                have k240 : KW [1093, 1094, 1152] Po P233 := KW.trans KW.refl k238 rfl
                have R241 := Rel.kw hR k238 rfl
                have wx235 := ti_full x235
                show MEvP _ none q_154 72 [(0, .ref 301), (1, .int t1), (2, .int t2), (3, .int t3)] [.int x235] _ _ _ _
                exact mp_iret ⟨⟨_, rfl, trivial⟩, hT237, k240, R241⟩ dX7_joins_72 (Or.inl rfl)
              · have c231 : x228.toInt ≠ 0 := ti_eq_n c231
                refine mp_a (a_iload_n dX7_joins_64 rfl) (mpp 65 rfl ?_)
                refine mp_a (a_goto (t := 69) dX7_joins_65 (by decide)) ?_
                refine mt_callv (i := 101) (q' := q_134) (As := [.int 2, .int t1]) (rest := []) hT dX7_joins_69 rfl qm_134 (by decide) rfl rl_301 (by decide) rfl (Nat.le_of_ble_eq_true rfl) rfl ⟨rfl, rfl⟩ ⟨Nat.le_of_ble_eq_true rfl, Nat.le_of_ble_eq_true rfl⟩ (EvP.mono (by decide) (c_M_refuses hT )) (fun r242 P243 g244 => mpp 72 rfl ?_)
                obtain ⟨⟨x245, rfl, g246⟩, hT247, k248, R249⟩ := g244
                have k250 : KW [1093, 1094, 1152] Po P243 := KW.trans KW.refl k248 rfl
                have R251 := Rel.kw hR k248 rfl
                have wx245 := ti_full x245
                show MEvP _ none q_154 72 [(0, .ref 301), (1, .int t1), (2, .int t2), (3, .int t3)] [.int x245] _ _ _ _
                exact mp_iret ⟨⟨_, rfl, trivial⟩, hT247, k250, R251⟩ dX7_joins_72 (Or.inl rfl)
        · have c23 : x20.toInt = 0 := ti_ne_n c23
          refine mp_a (a_sipush (v := -1002) dX7_joins_34 rfl) (mpp 37 rfl ?_)
          exact mp_iret ⟨⟨_, rfl, trivial⟩, hT, KW.refl, hR⟩ dX7_joins_37 (Or.inl rfl)
      · have c16 : t1.toInt = t2.toInt := ti_ne_n c16
        refine mp_a (a_sipush (v := -1001) dX7_joins_21 rfl) (mpp 24 rfl ?_)
        exact mp_iret ⟨⟨_, rfl, trivial⟩, hT, KW.refl, hR⟩ dX7_joins_24 (Or.inl rfl)

set_option maxHeartbeats 4000000 in
theorem c_M_join {Po : mP} {t1 : Int32} {t2 : Int32} {t3 : Int32} (hT : Typ Po) (hR : Rel Po)  : EvP 5 153 [.ref 301, .int t1, .int t2, .int t3] Po (fun r P' => (∃ x : Int32, r = some (.int x) ∧ (True)) ∧ Typ P' ∧ KW [1092, 1093, 1094, 1095, 1152, 1216, 1344] Po P' ∧ Rel P') := by
  refine EvP.of qm_153 (Nat.le_of_ble_eq_true rfl) rfl ?_
  show MEvP _ none q_153 0 [(0, .ref 301), (1, .int t1), (2, .int t2), (3, .int t3)] [] _ 0 0 _
  refine mp_a (a_aload_n dX7_join_0 rfl) (mpp 1 rfl ?_)
  refine mt_callv (i := 117) (q' := q_124) (As := []) (rest := []) hT dX7_join_1 rfl qm_124 (by decide) rfl rl_301 (by decide) rfl (Nat.le_of_ble_eq_true rfl) rfl ⟨rfl, rfl⟩ ⟨Nat.le_of_ble_eq_true rfl, Nat.le_of_ble_eq_true rfl⟩ (EvP.mono (by decide) (c_M_keeps hT hR )) (fun r1 P2 g3 => mpp 4 rfl ?_)
  obtain ⟨⟨rfl, g5⟩, hT6, k7, R8⟩ := g3
  have k9 : KW [1092, 1093, 1094, 1095, 1152, 1216, 1344] Po P2 := KW.trans KW.refl k7 rfl
  show MEvP _ none q_153 4 [(0, .ref 301), (1, .int t1), (2, .int t2), (3, .int t3)] [] _ _ _ _
  refine mp_a (a_aload_n dX7_join_4 rfl) (mpp 5 rfl ?_)
  refine mp_a (a_aload_n dX7_join_5 rfl) (mpp 6 rfl ?_)
  refine mp_a (a_iload_n dX7_join_6 rfl) (mpp 7 rfl ?_)
  refine mp_a (a_iload_n dX7_join_7 rfl) (mpp 8 rfl ?_)
  refine mp_a (a_iload_n dX7_join_8 rfl) (mpp 9 rfl ?_)
  refine mt_callv (i := 152) (q' := q_154) (As := [.int t1, .int t2, .int t3]) (rest := [.ref 301]) hT6 dX7_join_9 rfl qm_154 (by decide) rfl rl_301 (by decide) rfl (Nat.le_of_ble_eq_true rfl) rfl ⟨rfl, rfl⟩ ⟨Nat.le_of_ble_eq_true rfl, Nat.le_of_ble_eq_true rfl⟩ (EvP.mono (by decide) (c_M_joins hT6 R8 )) (fun r10 P11 g12 => mpp 12 rfl ?_)
  obtain ⟨⟨x13, rfl, g14⟩, hT15, k16, R17⟩ := g12
  have k18 : KW [1092, 1093, 1094, 1095, 1152, 1216, 1344] Po P11 := KW.trans k9 k16 rfl
  have wx13 := ti_full x13
  show MEvP _ none q_153 12 [(0, .ref 301), (1, .int t1), (2, .int t2), (3, .int t3)] [.int x13, .ref 301] _ _ _ _
  refine mt_callv (i := 124) (q' := q_139) (As := [.int x13]) (rest := []) hT15 dX7_join_12 rfl qm_139 (by decide) rfl rl_301 (by decide) rfl (Nat.le_of_ble_eq_true rfl) rfl ⟨rfl, rfl⟩ ⟨Nat.le_of_ble_eq_true rfl, Nat.le_of_ble_eq_true rfl⟩ (EvP.mono (by decide) (c_M_ends hT15 R17 )) (fun r19 P20 g21 => mpp 15 rfl ?_)
  obtain ⟨⟨x22, rfl, g23⟩, hT24, k25, R26⟩ := g21
  have k27 : KW [1092, 1093, 1094, 1095, 1152, 1216, 1344] Po P20 := KW.trans k18 k25 rfl
  have wx22 := ti_full x22
  show MEvP _ none q_153 15 [(0, .ref 301), (1, .int t1), (2, .int t2), (3, .int t3)] [.int x22] _ _ _ _
  exact mp_iret ⟨⟨_, rfl, trivial⟩, hT24, k27, R26⟩ dX7_join_15 (Or.inl rfl)

set_option maxHeartbeats 4000000 in
theorem c_M_cuts_l108 {Po : mP} {t1 : Int32} {t2 : Int32}  : ∀ (n : Nat) (v3 : Int32) (v4 : Int32) (v5 : Int32) (v6 : Int32), ∀ (P : mP), Typ P → KW [1093, 1094, 1152, 1408, 1472] Po P → Rel P → (0 ≤ t1.toInt) → (t1.toInt ≤ 7) → (0 ≤ v4.toInt) → (2 ≤ v5.toInt) → (2 ≤ v4.toInt) → (v4.toInt + v5.toInt ≤ 8) → (0 ≤ v6.toInt) → (2147483647 - v6.toInt).toNat = n → MEvP 5 none q_157 108 [(0, .ref 301), (1, .int t1), (2, .int t2), (3, .int v3), (4, .int v4), (5, .int v5), (6, .int v6)] [] P 0 0 (fun r P' => (∃ x : Int32, r = some (.int x) ∧ (True)) ∧ Typ P' ∧ KW [1093, 1094, 1152, 1408, 1472] Po P' ∧ Rel P') := by
  intro n
  induction n using Nat.strongRecOn with | _ n ih => ?_
  intro v3 v4 v5 v6 P hT hK hR i_0 i_1 i_2 i_3 i_4 i_5 i_6 hm
  have w_t1 := ti_full t1
  have w_t2 := ti_full t2
  have w_v3 := ti_full v3
  have w_v4 := ti_full v4
  have w_v5 := ti_full v5
  have w_v6 := ti_full v6
  refine mp_a (a_iload dX7_cuts_108 rfl) (mpp 110 rfl ?_)
  refine mp_a (a_iload dX7_cuts_110 rfl) (mpp 112 rfl ?_)
  refine mp_Tb (t := 168) (j_icmp_ge dX7_cuts_112) (by decide) (fun c1 => ?_) (fun c1 => mpp 115 rfl ?_)
  · have c1 : v6.toInt ≥ v5.toInt := ti_ge c1
    refine mp_a (a_aload_n dX7_cuts_168 rfl) (mpp 169 rfl ?_)
    refine mt_getU (i := 9) (k := 0) (A := 302) hT dX7_cuts_169 rfl rl_301 (by decide) rfl (by decide) rfl un_18 (mpp 172 rfl ?_)
    refine mp_a (a_iload_n dX7_cuts_172 rfl) (mpp 173 rfl ?_)
    refine mp_a (a_iconst (v := 1) dX7_cuts_173 rfl) (mpp 174 rfl ?_)
    have p2 : 0 ≤ t1.toInt := by omega
    have p3 : t1.toInt ≤ 8 := by omega
    have p4 : 0 ≤ (1 : Int) := by omega
    have p5 : (1 : Int) ≤ 20 := by omega
    refine mp_calls (i := 74) (q' := q_135) (As := [.int t1, .int 1]) (rest := [.ref 302]) dX7_cuts_174 rfl qm_135 (by decide) rfl (Nat.le_of_ble_eq_true rfl) rfl ⟨rfl, rfl⟩ ⟨Nat.le_of_ble_eq_true rfl, Nat.le_of_ble_eq_true rfl⟩ (EvP.mono (by decide) (c_M_at hT p2 p3 p4 p5 )) (fun r6 P7 g8 => mpp 177 rfl ?_)
    obtain ⟨⟨x9, rfl, g10⟩, e11⟩ := g8
    have e11 := e11.symm
    subst e11
    have wx9 := ti_full x9
    have g10 : x9.toInt = 3 + 19 * t1.toInt + (1 : Int) := g10
    show MEvP _ none q_157 177 [(0, .ref 301), (1, .int t1), (2, .int t2), (3, .int v3), (4, .int v4), (5, .int v5), (6, .int v6)] [.int x9, .ref 302] _ _ _ _
    refine mp_a (a_iload dX7_cuts_177 rfl) (mpp 179 rfl ?_)
    refine mt_iasX (n := 155) hT dX7_cuts_179 rl_302 (by decide) rfl rfl (by omega) (by omega) (okS_mk (by omega) (fun _ => ⟨by omega, by omega⟩) (fun _ => ⟨by omega, by omega⟩)) (fun P12 hT13 f14 f15 => mpp 180 rfl ?_)
    have k16 : KW [1093, 1094, 1152, 1408, 1472] Po P12 := KW.step hK rl_302 rfl f15
    have R17 := Rel.siz hR (p := t1.toInt.toNat) f15 f14 (by omega) (by omega) ⟨by omega, by omega⟩
    refine mp_a (a_aload_n dX7_cuts_180 rfl) (mpp 181 rfl ?_)
    refine mp_a (a_iconst (v := 0) dX7_cuts_181 rfl) (mpp 182 rfl ?_)
    refine mp_a (a_iload dX7_cuts_182 rfl) (mpp 184 rfl ?_)
    have p18 : 0 ≤ (0 : Int) := by omega
    have p19 : (0 : Int) ≤ 1 := by omega
    have p20 : 2 ≤ v5.toInt := by omega
    have p21 : v5.toInt ≤ 8 := by omega
    have p22 : (0 : Int) ≠ 0 ∨ v5.toInt ≤ 7 := by omega
    refine mt_callv (i := 114) (q' := q_133) (As := [.int 0, .int v5]) (rest := []) hT13 dX7_cuts_184 rfl qm_133 (by decide) rfl rl_301 (by decide) rfl (Nat.le_of_ble_eq_true rfl) rfl ⟨rfl, rfl⟩ ⟨Nat.le_of_ble_eq_true rfl, Nat.le_of_ble_eq_true rfl⟩ (EvP.mono (by decide) (c_M_adds hT13 R17 p18 p19 p20 p21 p22 )) (fun r23 P24 g25 => mpp 187 rfl ?_)
    obtain ⟨⟨x26, rfl, g27⟩, hT28, k29, R30⟩ := g25
    have k31 : KW [1093, 1094, 1152, 1408, 1472] Po P24 := KW.trans k16 k29 rfl
    have wx26 := ti_full x26
    show MEvP _ none q_157 187 [(0, .ref 301), (1, .int t1), (2, .int t2), (3, .int v3), (4, .int v4), (5, .int v5), (6, .int v6)] [.int x26] _ _ _ _
    exact mp_iret ⟨⟨_, rfl, trivial⟩, hT28, k31, R30⟩ dX7_cuts_187 (Or.inl rfl)
  · have c1 : v6.toInt < v5.toInt := ti_ge_n c1
    refine mp_a (a_aload_n dX7_cuts_115 rfl) (mpp 116 rfl ?_)
    refine mt_getU (i := 22) (k := 9) (A := 306) hT dX7_cuts_116 rfl rl_301 (by decide) rfl (by decide) rfl un_22 (mpp 119 rfl ?_)
    refine mp_a (a_iload dX7_cuts_119 rfl) (mpp 121 rfl ?_)
    refine mp_a (a_aload_n dX7_cuts_121 rfl) (mpp 122 rfl ?_)
    refine mp_a (a_iload_n dX7_cuts_122 rfl) (mpp 123 rfl ?_)
    refine mp_a (a_iload dX7_cuts_123 rfl) (mpp 125 rfl ?_)
    refine mp_a (a_iload dX7_cuts_125 rfl) (mpp 127 rfl ?_)
    obtain ⟨z32, h33⟩ := ti_ex (v4 + v6 : Int32)
    have wz32 := ti_full z32
    refine mp_t (s_iadd (v := z32) dX7_cuts_127 h33) (mpp 128 rfl ?_)
    try have e34 : z32.toInt = v4.toInt + v6.toInt := ti_addz h33 rfl rfl (by omega) (by omega)
    have p35 : 0 ≤ t1.toInt := by omega
    have p36 : t1.toInt ≤ 7 := by omega
    have p37 : 0 ≤ z32.toInt := by omega
    have p38 : z32.toInt ≤ 7 := by omega
    refine mt_callv (i := 142) (q' := q_152) (As := [.int t1, .int z32]) (rest := [.int v6, .ref 306]) hT dX7_cuts_128 rfl qm_152 (by decide) rfl rl_301 (by decide) rfl (Nat.le_of_ble_eq_true rfl) rfl ⟨rfl, rfl⟩ ⟨Nat.le_of_ble_eq_true rfl, Nat.le_of_ble_eq_true rfl⟩ (EvP.mono (by decide) (c_M_sizeOf hT p35 p36 p37 p38 )) (fun r39 P40 g41 => mpp 131 rfl ?_)
    obtain ⟨⟨x42, rfl, g43⟩, e44⟩ := g41
    have e44 := e44.symm
    subst e44
    have wx42 := ti_full x42
    show MEvP _ none q_157 131 [(0, .ref 301), (1, .int t1), (2, .int t2), (3, .int v3), (4, .int v4), (5, .int v5), (6, .int v6)] [.int x42, .int v6, .ref 306] _ _ _ _
    refine mt_ias (n := 8) hT dX7_cuts_131 rl_306 (by decide) rfl rfl (by omega) (by omega) rfl (ti_full x42) (fun P45 hT46 f47 f48 => mpp 132 rfl ?_)
    have k49 : KW [1093, 1094, 1152, 1408, 1472] Po P45 := KW.step hK rl_306 rfl f48
    have R50 := Rel.ne hR rl_306 rfl f48
    refine mp_a (a_aload_n dX7_cuts_132 rfl) (mpp 133 rfl ?_)
    refine mt_getU (i := 25) (k := 10) (A := 307) hT46 dX7_cuts_133 rfl rl_301 (by decide) rfl (by decide) rfl un_23 (mpp 136 rfl ?_)
    refine mp_a (a_iload dX7_cuts_136 rfl) (mpp 138 rfl ?_)
    refine mp_a (a_iload dX7_cuts_138 rfl) (mpp 140 rfl ?_)
    refine mp_a (a_iload dX7_cuts_140 rfl) (mpp 142 rfl ?_)
    refine mp_a (a_iconst (v := 1) dX7_cuts_142 rfl) (mpp 143 rfl ?_)
    obtain ⟨z51, h52⟩ := ti_ex (v5 - 1 : Int32)
    have wz51 := ti_full z51
    refine mp_t (s_isub (v := z51) dX7_cuts_143 h52) (mpp 144 rfl ?_)
    try have e53 : z51.toInt = v5.toInt - 1 := ti_subz h52 rfl rfl (by omega) (by omega)
    refine mp_Tb (t := 160) (j_icmp_ge dX7_cuts_144) (by decide) (fun c54 => ?_) (fun c54 => mpp 147 rfl ?_)
    · have c54 : v6.toInt ≥ z51.toInt := ti_ge c54
      refine mp_a (a_iconst (v := 0) dX7_cuts_160 rfl) (mpp 161 rfl ?_)
      refine mt_ias (n := 8) hT46 dX7_cuts_161 rl_307 (by decide) rfl rfl (by omega) (by omega) rfl (by decide) (fun P55 hT56 f57 f58 => mpp 162 rfl ?_)
      have k59 : KW [1093, 1094, 1152, 1408, 1472] Po P55 := KW.step k49 rl_307 rfl f58
      have R60 := Rel.ne R50 rl_307 rfl f58
      obtain ⟨z61, h62⟩ := ti_ex (v6 + 1 : Int32)
      have wz61 := ti_full z61
      refine mp_a (a_iinc (v := z61) (L' := [(6, .int z61), (0, .ref 301), (1, .int t1), (2, .int t2), (3, .int v3), (4, .int v4), (5, .int v5)]) dX7_cuts_162 (by decide) rfl h62 rfl) (mpp 165 rfl ?_)
      try have e63 : z61.toInt = v6.toInt + 1 := ti_addz h62 rfl rfl (by omega) (by omega)
      refine mp_a (a_goto (t := 108) dX7_cuts_165 (by decide)) ?_
      refine MEvP.less (L := [(0, .ref 301), (1, .int t1), (2, .int t2), (3, .int v3), (4, .int v4), (5, .int v5), (6, .int z61)]) rfl rfl ⟨rfl, rfl, rfl, rfl, rfl, rfl, rfl, trivial⟩ ?_
      have i64 : 0 ≤ t1.toInt := by omega
      have i65 : t1.toInt ≤ 7 := by omega
      have i66 : 0 ≤ v4.toInt := by omega
      have i67 : 2 ≤ v5.toInt := by omega
      have i68 : 2 ≤ v4.toInt := by omega
      have i69 : v4.toInt + v5.toInt ≤ 8 := by omega
      have i70 : 0 ≤ z61.toInt := by omega
      exact ih _ (by omega) _ _ _ _ P55 hT56 k59 R60 i64 i65 i66 i67 i68 i69 i70 rfl
    · have c54 : v6.toInt < z51.toInt := ti_ge_n c54
      refine mp_a (a_aload_n dX7_cuts_147 rfl) (mpp 148 rfl ?_)
      refine mp_a (a_iload_n dX7_cuts_148 rfl) (mpp 149 rfl ?_)
      refine mp_a (a_iload dX7_cuts_149 rfl) (mpp 151 rfl ?_)
      refine mp_a (a_iload dX7_cuts_151 rfl) (mpp 153 rfl ?_)
      obtain ⟨z71, h72⟩ := ti_ex (v4 + v6 : Int32)
      have wz71 := ti_full z71
      refine mp_t (s_iadd (v := z71) dX7_cuts_153 h72) (mpp 154 rfl ?_)
      try have e73 : z71.toInt = v4.toInt + v6.toInt := ti_addz h72 rfl rfl (by omega) (by omega)
      have p74 : 0 ≤ t1.toInt := by omega
      have p75 : t1.toInt ≤ 7 := by omega
      have p76 : 0 ≤ z71.toInt := by omega
      have p77 : z71.toInt ≤ 7 := by omega
      refine mt_callv (i := 92) (q' := q_146) (As := [.int t1, .int z71]) (rest := [.int v6, .ref 307]) hT46 dX7_cuts_154 rfl qm_146 (by decide) rfl rl_301 (by decide) rfl (Nat.le_of_ble_eq_true rfl) rfl ⟨rfl, rfl⟩ ⟨Nat.le_of_ble_eq_true rfl, Nat.le_of_ble_eq_true rfl⟩ (EvP.mono (by decide) (c_M_creaseOf hT46 p74 p75 p76 p77 )) (fun r78 P79 g80 => mpp 157 rfl ?_)
      obtain ⟨⟨x81, rfl, g82⟩, e83⟩ := g80
      have e83 := e83.symm
      subst e83
      have wx81 := ti_full x81
      have g82 : x81.toInt = (fv P45 302 (14 + 19 * t1.toInt.toNat + z71.toInt.toNat)).toInt := g82
      show MEvP _ none q_157 157 [(0, .ref 301), (1, .int t1), (2, .int t2), (3, .int v3), (4, .int v4), (5, .int v5), (6, .int v6)] [.int x81, .int v6, .ref 307] _ _ _ _
      refine mp_a (a_goto (t := 161) dX7_cuts_157 (by decide)) ?_
      refine mt_ias (n := 8) hT46 dX7_cuts_161 rl_307 (by decide) rfl rfl (by omega) (by omega) rfl (ti_full x81) (fun P84 hT85 f86 f87 => mpp 162 rfl ?_)
      have k88 : KW [1093, 1094, 1152, 1408, 1472] Po P84 := KW.step k49 rl_307 rfl f87
      have R89 := Rel.ne R50 rl_307 rfl f87
      obtain ⟨z90, h91⟩ := ti_ex (v6 + 1 : Int32)
      have wz90 := ti_full z90
      refine mp_a (a_iinc (v := z90) (L' := [(6, .int z90), (0, .ref 301), (1, .int t1), (2, .int t2), (3, .int v3), (4, .int v4), (5, .int v5)]) dX7_cuts_162 (by decide) rfl h91 rfl) (mpp 165 rfl ?_)
      try have e92 : z90.toInt = v6.toInt + 1 := ti_addz h91 rfl rfl (by omega) (by omega)
      refine mp_a (a_goto (t := 108) dX7_cuts_165 (by decide)) ?_
      refine MEvP.less (L := [(0, .ref 301), (1, .int t1), (2, .int t2), (3, .int v3), (4, .int v4), (5, .int v5), (6, .int z90)]) rfl rfl ⟨rfl, rfl, rfl, rfl, rfl, rfl, rfl, trivial⟩ ?_
      have i93 : 0 ≤ t1.toInt := by omega
      have i94 : t1.toInt ≤ 7 := by omega
      have i95 : 0 ≤ v4.toInt := by omega
      have i96 : 2 ≤ v5.toInt := by omega
      have i97 : 2 ≤ v4.toInt := by omega
      have i98 : v4.toInt + v5.toInt ≤ 8 := by omega
      have i99 : 0 ≤ z90.toInt := by omega
      exact ih _ (by omega) _ _ _ _ P84 hT85 k88 R89 i93 i94 i95 i96 i97 i98 i99 rfl

set_option maxHeartbeats 4000000 in
theorem c_M_cuts {Po : mP} {t1 : Int32} {t2 : Int32} (hT : Typ Po) (hR : Rel Po)  : EvP 6 157 [.ref 301, .int t1, .int t2] Po (fun r P' => (∃ x : Int32, r = some (.int x) ∧ (True)) ∧ Typ P' ∧ KW [1093, 1094, 1152, 1408, 1472] Po P' ∧ Rel P') := by
  refine EvP.of qm_157 (Nat.le_of_ble_eq_true rfl) rfl ?_
  show MEvP _ none q_157 0 [(0, .ref 301), (1, .int t1), (2, .int t2)] [] _ 0 0 _
  refine mp_a (a_aload_n dX7_cuts_0 rfl) (mpp 1 rfl ?_)
  refine mp_a (a_iload_n dX7_cuts_1 rfl) (mpp 2 rfl ?_)
  refine mp_a (a_iload_n dX7_cuts_2 rfl) (mpp 3 rfl ?_)
  refine mt_callv (i := 127) (q' := q_143) (As := [.int t1, .int t2]) (rest := []) hT dX7_cuts_3 rfl qm_143 (by decide) rfl rl_301 (by decide) rfl (Nat.le_of_ble_eq_true rfl) rfl ⟨rfl, rfl⟩ ⟨Nat.le_of_ble_eq_true rfl, Nat.le_of_ble_eq_true rfl⟩ (EvP.mono (by decide) (c_M_isCrease hT )) (fun r1 P2 g3 => mpp 6 rfl ?_)
  obtain ⟨⟨x4, rfl, g5⟩, e6⟩ := g3
  have e6 := e6.symm
  subst e6
  have wx4 := ti_full x4
  have g5 : 0 ≤ x4.toInt ∧ x4.toInt ≤ 1 ∧ (x4.toInt = 0 ∨ (0 ≤ t1.toInt ∧ t1.toInt + 1 ≤ (fv Po 302 0).toInt ∧ t1.toInt ≤ 7 ∧ 0 ≤ t2.toInt ∧ t2.toInt ≤ 7 ∧ t2.toInt + 1 ≤ (fv Po 302 (4 + 19 * t1.toInt.toNat)).toInt)) := g5
  have g7 : (0 : Int) ≤ (fv Po 302 0).toInt ∧ (fv Po 302 0).toInt ≤ 8 := Typ.rng hT rl_302 (by decide) (by decide) rfl
  have g8 := ti_full (fv Po 302 (4 + 19 * t1.toInt.toNat))
  show MEvP _ none q_157 6 [(0, .ref 301), (1, .int t1), (2, .int t2)] [.int x4] _ _ _ _
  refine mp_Tb (t := 13) (j_if_ne dX7_cuts_6) (by decide) (fun c9 => ?_) (fun c9 => mpp 9 rfl ?_)
  · have c9 : x4.toInt ≠ 0 := ti_ne c9
    refine mp_a (a_aload_n dX7_cuts_13 rfl) (mpp 14 rfl ?_)
    refine mt_getU (i := 9) (k := 0) (A := 302) hT dX7_cuts_14 rfl rl_301 (by decide) rfl (by decide) rfl un_18 (mpp 17 rfl ?_)
    refine mp_a (a_iconst (v := 0) dX7_cuts_17 rfl) (mpp 18 rfl ?_)
    refine mt_ialX (n := 155) hT dX7_cuts_18 rl_302 (by decide) rfl rfl (by decide) (by decide) ssp_0 (fun g10 => mpp 19 rfl ?_)
    have we12 := ti_full (fv Po 302 0)
    refine mp_a (a_bipush (v := 8) dX7_cuts_19 rfl) (mpp 21 rfl ?_)
    refine mp_Tb (t := 32) (j_icmp_ne dX7_cuts_21) (by decide) (fun c13 => ?_) (fun c13 => mpp 24 rfl ?_)
    · have c13 : (fv Po 302 0).toInt ≠ 8 := ti_ne c13
      refine mp_a (a_aload_n dX7_cuts_32 rfl) (mpp 33 rfl ?_)
      refine mp_a (a_iload_n dX7_cuts_33 rfl) (mpp 34 rfl ?_)
      have p14 : 0 ≤ t1.toInt := by omega
      have p15 : t1.toInt ≤ 7 := by omega
      refine mt_callv (i := 130) (q' := q_145) (As := [.int t1]) (rest := []) hT dX7_cuts_34 rfl qm_145 (by decide) rfl rl_301 (by decide) rfl (Nat.le_of_ble_eq_true rfl) rfl ⟨rfl, rfl⟩ ⟨Nat.le_of_ble_eq_true rfl, Nat.le_of_ble_eq_true rfl⟩ (EvP.mono (by decide) (c_M_isFolded hT p14 p15 )) (fun r16 P17 g18 => mpp 37 rfl ?_)
      obtain ⟨⟨x19, rfl, g20⟩, e21⟩ := g18
      have e21 := e21.symm
      subst e21
      have wx19 := ti_full x19
      have g20 : 0 ≤ x19.toInt ∧ x19.toInt ≤ 1 := g20
      show MEvP _ none q_157 37 [(0, .ref 301), (1, .int t1), (2, .int t2)] [.int x19] _ _ _ _
      refine mp_Tb (t := 47) (j_if_eq dX7_cuts_37) (by decide) (fun c22 => ?_) (fun c22 => mpp 40 rfl ?_)
      · have c22 : x19.toInt = 0 := ti_eq c22
        refine mp_a (a_aload_n dX7_cuts_47 rfl) (mpp 48 rfl ?_)
        refine mp_a (a_iload_n dX7_cuts_48 rfl) (mpp 49 rfl ?_)
        have p23 : 0 ≤ t1.toInt := by omega
        have p24 : t1.toInt ≤ 7 := by omega
        refine mt_callv (i := 81) (q' := q_138) (As := [.int t1]) (rest := []) hT dX7_cuts_49 rfl qm_138 (by decide) rfl rl_301 (by decide) rfl (Nat.le_of_ble_eq_true rfl) rfl ⟨rfl, rfl⟩ ⟨Nat.le_of_ble_eq_true rfl, Nat.le_of_ble_eq_true rfl⟩ (EvP.mono (by decide) (c_M_isCorner hT p23 p24 )) (fun r25 P26 g27 => mpp 52 rfl ?_)
        obtain ⟨⟨x28, rfl, g29⟩, e30⟩ := g27
        have e30 := e30.symm
        subst e30
        have wx28 := ti_full x28
        have g29 : 0 ≤ x28.toInt ∧ x28.toInt ≤ 1 ∧ ((x28.toInt = 1 ∧ (fv Po 302 (3 + 19 * t1.toInt.toNat)).toInt = 1) ∨ (x28.toInt = 0 ∧ (fv Po 302 (3 + 19 * t1.toInt.toNat)).toInt = 0)) := g29
        have g31 := ti_full (fv Po 302 (3 + 19 * t1.toInt.toNat))
        show MEvP _ none q_157 52 [(0, .ref 301), (1, .int t1), (2, .int t2)] [.int x28] _ _ _ _
        refine mp_Tb (t := 62) (j_if_eq dX7_cuts_52) (by decide) (fun c32 => ?_) (fun c32 => mpp 55 rfl ?_)
        · have c32 : x28.toInt = 0 := ti_eq c32
          refine mp_a (a_aload_n dX7_cuts_62 rfl) (mpp 63 rfl ?_)
          refine mp_a (a_iload_n dX7_cuts_63 rfl) (mpp 64 rfl ?_)
          refine mp_a (a_iconst (v := 1) dX7_cuts_64 rfl) (mpp 65 rfl ?_)
          have p33 : 0 ≤ t1.toInt := by omega
          have p34 : t1.toInt ≤ 7 := by omega
          have p35 : 0 ≤ (1 : Int) := by omega
          have p36 : (1 : Int) ≤ 18 := by omega
          refine mt_callv (i := 78) (q' := q_137) (As := [.int t1, .int 1]) (rest := []) hT dX7_cuts_65 rfl qm_137 (by decide) rfl rl_301 (by decide) rfl (Nat.le_of_ble_eq_true rfl) rfl ⟨rfl, rfl⟩ ⟨Nat.le_of_ble_eq_true rfl, Nat.le_of_ble_eq_true rfl⟩ (EvP.mono (by decide) (c_M_of_c1 hT p33 p34 p35 p36 )) (fun r37 P38 g39 => mpp 68 rfl ?_)
          obtain ⟨⟨x40, rfl, g41⟩, e42⟩ := g39
          have e42 := e42.symm
          subst e42
          have wx40 := ti_full x40
          have g41 : x40.toInt = (fv Po 302 (4 + 19 * t1.toInt.toNat)).toInt ∧ 0 ≤ x40.toInt ∧ x40.toInt ≤ 8 := g41
          show MEvP _ none q_157 68 [(0, .ref 301), (1, .int t1), (2, .int t2)] [.int x40] _ _ _ _
          refine mp_a (a_istore_n (L' := [(3, .int x40), (0, .ref 301), (1, .int t1), (2, .int t2)]) dX7_cuts_68 (by decide) rfl) (mpp 69 rfl ?_)
          refine mp_a (a_iload_n dX7_cuts_69 rfl) (mpp 70 rfl ?_)
          refine mp_a (a_iconst (v := 1) dX7_cuts_70 rfl) (mpp 71 rfl ?_)
          obtain ⟨z43, h44⟩ := ti_ex (t2 + 1 : Int32)
          have wz43 := ti_full z43
          refine mp_t (s_iadd (v := z43) dX7_cuts_71 h44) (mpp 72 rfl ?_)
          try have e45 : z43.toInt = t2.toInt + 1 := ti_addz h44 rfl rfl (by omega) (by omega)
          refine mp_a (a_istore (L' := [(4, .int z43), (3, .int x40), (0, .ref 301), (1, .int t1), (2, .int t2)]) dX7_cuts_72 (by decide) rfl) (mpp 74 rfl ?_)
          refine mp_a (a_iload_n dX7_cuts_74 rfl) (mpp 75 rfl ?_)
          refine mp_a (a_iload dX7_cuts_75 rfl) (mpp 77 rfl ?_)
          obtain ⟨z46, h47⟩ := ti_ex (x40 - z43 : Int32)
          have wz46 := ti_full z46
          refine mp_t (s_isub (v := z46) dX7_cuts_77 h47) (mpp 78 rfl ?_)
          try have e48 : z46.toInt = x40.toInt - z43.toInt := ti_subz h47 rfl rfl (by omega) (by omega)
          refine mp_a (a_istore (L' := [(5, .int z46), (4, .int z43), (3, .int x40), (0, .ref 301), (1, .int t1), (2, .int t2)]) dX7_cuts_78 (by decide) rfl) (mpp 80 rfl ?_)
          refine mp_a (a_iload dX7_cuts_80 rfl) (mpp 82 rfl ?_)
          refine mp_a (a_iload dX7_cuts_82 rfl) (mpp 84 rfl ?_)
          refine mp_calls (i := 155) (q' := q_158) (As := [.int z43, .int z46]) (rest := []) dX7_cuts_84 rfl qm_158 (by decide) rfl (Nat.le_of_ble_eq_true rfl) rfl ⟨rfl, rfl⟩ ⟨Nat.le_of_ble_eq_true rfl, Nat.le_of_ble_eq_true rfl⟩ (EvP.mono (by decide) (c_M_lesser hT )) (fun r49 P50 g51 => mpp 87 rfl ?_)
          obtain ⟨⟨x52, rfl, g53⟩, e54⟩ := g51
          have e54 := e54.symm
          subst e54
          have wx52 := ti_full x52
          have g53 : (x52.toInt = z43.toInt ∧ z43.toInt ≤ z46.toInt) ∨ (x52.toInt = z46.toInt ∧ z46.toInt ≤ z43.toInt) := g53
          show MEvP _ none q_157 87 [(5, .int z46), (4, .int z43), (3, .int x40), (0, .ref 301), (1, .int t1), (2, .int t2)] [.int x52] _ _ _ _
          refine mp_a (a_iconst (v := 2) dX7_cuts_87 rfl) (mpp 88 rfl ?_)
          refine mp_Tb (t := 105) (j_icmp_ge dX7_cuts_88) (by decide) (fun c55 => ?_) (fun c55 => mpp 91 rfl ?_)
          · have c55 : x52.toInt ≥ 2 := ti_ge c55
            refine mp_a (a_iconst (v := 0) dX7_cuts_105 rfl) (mpp 106 rfl ?_)
            refine mp_a (a_istore (L' := [(6, .int 0), (5, .int z46), (4, .int z43), (3, .int x40), (0, .ref 301), (1, .int t1), (2, .int t2)]) dX7_cuts_106 (by decide) rfl) (mpp 108 rfl ?_)
            refine MEvP.less (L := [(0, .ref 301), (1, .int t1), (2, .int t2), (3, .int x40), (4, .int z43), (5, .int z46), (6, .int 0)]) rfl rfl ⟨rfl, rfl, rfl, rfl, rfl, rfl, rfl, trivial⟩ ?_
            have i56 : 0 ≤ t1.toInt := by omega
            have i57 : t1.toInt ≤ 7 := by omega
            have i58 : 0 ≤ z43.toInt := by omega
            have i59 : 2 ≤ z46.toInt := by omega
            have i60 : 2 ≤ z43.toInt := by omega
            have i61 : z43.toInt + z46.toInt ≤ 8 := by omega
            have i62 : 0 ≤ (0 : Int) := by omega
            exact c_M_cuts_l108   _ _ _ _ _ Po hT KW.refl hR i56 i57 i58 i59 i60 i61 i62 rfl
          · have c55 : x52.toInt < 2 := ti_ge_n c55
            refine mp_a (a_aload_n dX7_cuts_91 rfl) (mpp 92 rfl ?_)
            refine mp_a (a_bipush (v := 6) dX7_cuts_92 rfl) (mpp 94 rfl ?_)
            refine mp_a (a_iload dX7_cuts_94 rfl) (mpp 96 rfl ?_)
            refine mp_a (a_iload dX7_cuts_96 rfl) (mpp 98 rfl ?_)
            refine mp_calls (i := 155) (q' := q_158) (As := [.int z43, .int z46]) (rest := [.int 6, .ref 301]) dX7_cuts_98 rfl qm_158 (by decide) rfl (Nat.le_of_ble_eq_true rfl) rfl ⟨rfl, rfl⟩ ⟨Nat.le_of_ble_eq_true rfl, Nat.le_of_ble_eq_true rfl⟩ (EvP.mono (by decide) (c_M_lesser hT )) (fun r63 P64 g65 => mpp 101 rfl ?_)
            obtain ⟨⟨x66, rfl, g67⟩, e68⟩ := g65
            have e68 := e68.symm
            subst e68
            have wx66 := ti_full x66
            have g67 : (x66.toInt = z43.toInt ∧ z43.toInt ≤ z46.toInt) ∨ (x66.toInt = z46.toInt ∧ z46.toInt ≤ z43.toInt) := g67
            show MEvP _ none q_157 101 [(5, .int z46), (4, .int z43), (3, .int x40), (0, .ref 301), (1, .int t1), (2, .int t2)] [.int x66, .int 6, .ref 301] _ _ _ _
            refine mt_callv (i := 101) (q' := q_134) (As := [.int 6, .int x66]) (rest := []) hT dX7_cuts_101 rfl qm_134 (by decide) rfl rl_301 (by decide) rfl (Nat.le_of_ble_eq_true rfl) rfl ⟨rfl, rfl⟩ ⟨Nat.le_of_ble_eq_true rfl, Nat.le_of_ble_eq_true rfl⟩ (EvP.mono (by decide) (c_M_refuses hT )) (fun r69 P70 g71 => mpp 104 rfl ?_)
            obtain ⟨⟨x72, rfl, g73⟩, hT74, k75, R76⟩ := g71
            have k77 : KW [1093, 1094, 1152, 1408, 1472] Po P70 := KW.trans KW.refl k75 rfl
            have R78 := Rel.kw hR k75 rfl
            have wx72 := ti_full x72
            show MEvP _ none q_157 104 [(5, .int z46), (4, .int z43), (3, .int x40), (0, .ref 301), (1, .int t1), (2, .int t2)] [.int x72] _ _ _ _
            exact mp_iret ⟨⟨_, rfl, trivial⟩, hT74, k77, R78⟩ dX7_cuts_104 (Or.inl rfl)
        · have c32 : x28.toInt ≠ 0 := ti_eq_n c32
          refine mp_a (a_aload_n dX7_cuts_55 rfl) (mpp 56 rfl ?_)
          refine mp_a (a_iconst (v := 3) dX7_cuts_56 rfl) (mpp 57 rfl ?_)
          refine mp_a (a_iload_n dX7_cuts_57 rfl) (mpp 58 rfl ?_)
          refine mt_callv (i := 101) (q' := q_134) (As := [.int 3, .int t1]) (rest := []) hT dX7_cuts_58 rfl qm_134 (by decide) rfl rl_301 (by decide) rfl (Nat.le_of_ble_eq_true rfl) rfl ⟨rfl, rfl⟩ ⟨Nat.le_of_ble_eq_true rfl, Nat.le_of_ble_eq_true rfl⟩ (EvP.mono (by decide) (c_M_refuses hT )) (fun r79 P80 g81 => mpp 61 rfl ?_)
          obtain ⟨⟨x82, rfl, g83⟩, hT84, k85, R86⟩ := g81
          have k87 : KW [1093, 1094, 1152, 1408, 1472] Po P80 := KW.trans KW.refl k85 rfl
          have R88 := Rel.kw hR k85 rfl
          have wx82 := ti_full x82
          show MEvP _ none q_157 61 [(0, .ref 301), (1, .int t1), (2, .int t2)] [.int x82] _ _ _ _
          exact mp_iret ⟨⟨_, rfl, trivial⟩, hT84, k87, R88⟩ dX7_cuts_61 (Or.inl rfl)
      · have c22 : x19.toInt ≠ 0 := ti_eq_n c22
        refine mp_a (a_aload_n dX7_cuts_40 rfl) (mpp 41 rfl ?_)
        refine mp_a (a_iconst (v := 2) dX7_cuts_41 rfl) (mpp 42 rfl ?_)
        refine mp_a (a_iload_n dX7_cuts_42 rfl) (mpp 43 rfl ?_)
        refine mt_callv (i := 101) (q' := q_134) (As := [.int 2, .int t1]) (rest := []) hT dX7_cuts_43 rfl qm_134 (by decide) rfl rl_301 (by decide) rfl (Nat.le_of_ble_eq_true rfl) rfl ⟨rfl, rfl⟩ ⟨Nat.le_of_ble_eq_true rfl, Nat.le_of_ble_eq_true rfl⟩ (EvP.mono (by decide) (c_M_refuses hT )) (fun r89 P90 g91 => mpp 46 rfl ?_)
        obtain ⟨⟨x92, rfl, g93⟩, hT94, k95, R96⟩ := g91
        have k97 : KW [1093, 1094, 1152, 1408, 1472] Po P90 := KW.trans KW.refl k95 rfl
        have R98 := Rel.kw hR k95 rfl
        have wx92 := ti_full x92
        show MEvP _ none q_157 46 [(0, .ref 301), (1, .int t1), (2, .int t2)] [.int x92] _ _ _ _
        exact mp_iret ⟨⟨_, rfl, trivial⟩, hT94, k97, R98⟩ dX7_cuts_46 (Or.inl rfl)
    · have c13 : (fv Po 302 0).toInt = 8 := ti_ne_n c13
      refine mp_a (a_aload_n dX7_cuts_24 rfl) (mpp 25 rfl ?_)
      refine mp_a (a_iconst (v := 1) dX7_cuts_25 rfl) (mpp 26 rfl ?_)
      refine mp_a (a_bipush (v := 8) dX7_cuts_26 rfl) (mpp 28 rfl ?_)
      refine mt_callv (i := 101) (q' := q_134) (As := [.int 1, .int 8]) (rest := []) hT dX7_cuts_28 rfl qm_134 (by decide) rfl rl_301 (by decide) rfl (Nat.le_of_ble_eq_true rfl) rfl ⟨rfl, rfl⟩ ⟨Nat.le_of_ble_eq_true rfl, Nat.le_of_ble_eq_true rfl⟩ (EvP.mono (by decide) (c_M_refuses hT )) (fun r99 P100 g101 => mpp 31 rfl ?_)
      obtain ⟨⟨x102, rfl, g103⟩, hT104, k105, R106⟩ := g101
      have k107 : KW [1093, 1094, 1152, 1408, 1472] Po P100 := KW.trans KW.refl k105 rfl
      have R108 := Rel.kw hR k105 rfl
      have wx102 := ti_full x102
      show MEvP _ none q_157 31 [(0, .ref 301), (1, .int t1), (2, .int t2)] [.int x102] _ _ _ _
      exact mp_iret ⟨⟨_, rfl, trivial⟩, hT104, k107, R108⟩ dX7_cuts_31 (Or.inl rfl)
  · have c9 : x4.toInt = 0 := ti_ne_n c9
    refine mp_a (a_sipush (v := -1001) dX7_cuts_9 rfl) (mpp 12 rfl ?_)
    exact mp_iret ⟨⟨_, rfl, trivial⟩, hT, KW.refl, hR⟩ dX7_cuts_12 (Or.inl rfl)

set_option maxHeartbeats 4000000 in
theorem c_M_cut {Po : mP} {t1 : Int32} {t2 : Int32} (hT : Typ Po) (hR : Rel Po)  : EvP 7 156 [.ref 301, .int t1, .int t2] Po (fun r P' => (∃ x : Int32, r = some (.int x) ∧ (True)) ∧ Typ P' ∧ KW [1092, 1093, 1094, 1095, 1152, 1216, 1344, 1408, 1472] Po P' ∧ Rel P') := by
  refine EvP.of qm_156 (Nat.le_of_ble_eq_true rfl) rfl ?_
  show MEvP _ none q_156 0 [(0, .ref 301), (1, .int t1), (2, .int t2)] [] _ 0 0 _
  refine mp_a (a_aload_n dX7_cut_0 rfl) (mpp 1 rfl ?_)
  refine mt_callv (i := 117) (q' := q_124) (As := []) (rest := []) hT dX7_cut_1 rfl qm_124 (by decide) rfl rl_301 (by decide) rfl (Nat.le_of_ble_eq_true rfl) rfl ⟨rfl, rfl⟩ ⟨Nat.le_of_ble_eq_true rfl, Nat.le_of_ble_eq_true rfl⟩ (EvP.mono (by decide) (c_M_keeps hT hR )) (fun r1 P2 g3 => mpp 4 rfl ?_)
  obtain ⟨⟨rfl, g5⟩, hT6, k7, R8⟩ := g3
  have k9 : KW [1092, 1093, 1094, 1095, 1152, 1216, 1344, 1408, 1472] Po P2 := KW.trans KW.refl k7 rfl
  show MEvP _ none q_156 4 [(0, .ref 301), (1, .int t1), (2, .int t2)] [] _ _ _ _
  refine mp_a (a_aload_n dX7_cut_4 rfl) (mpp 5 rfl ?_)
  refine mp_a (a_aload_n dX7_cut_5 rfl) (mpp 6 rfl ?_)
  refine mp_a (a_iload_n dX7_cut_6 rfl) (mpp 7 rfl ?_)
  refine mp_a (a_iload_n dX7_cut_7 rfl) (mpp 8 rfl ?_)
  refine mt_callv (i := 158) (q' := q_157) (As := [.int t1, .int t2]) (rest := [.ref 301]) hT6 dX7_cut_8 rfl qm_157 (by decide) rfl rl_301 (by decide) rfl (Nat.le_of_ble_eq_true rfl) rfl ⟨rfl, rfl⟩ ⟨Nat.le_of_ble_eq_true rfl, Nat.le_of_ble_eq_true rfl⟩ (EvP.mono (by decide) (c_M_cuts hT6 R8 )) (fun r10 P11 g12 => mpp 11 rfl ?_)
  obtain ⟨⟨x13, rfl, g14⟩, hT15, k16, R17⟩ := g12
  have k18 : KW [1092, 1093, 1094, 1095, 1152, 1216, 1344, 1408, 1472] Po P11 := KW.trans k9 k16 rfl
  have wx13 := ti_full x13
  show MEvP _ none q_156 11 [(0, .ref 301), (1, .int t1), (2, .int t2)] [.int x13, .ref 301] _ _ _ _
  refine mt_callv (i := 124) (q' := q_139) (As := [.int x13]) (rest := []) hT15 dX7_cut_11 rfl qm_139 (by decide) rfl rl_301 (by decide) rfl (Nat.le_of_ble_eq_true rfl) rfl ⟨rfl, rfl⟩ ⟨Nat.le_of_ble_eq_true rfl, Nat.le_of_ble_eq_true rfl⟩ (EvP.mono (by decide) (c_M_ends hT15 R17 )) (fun r19 P20 g21 => mpp 14 rfl ?_)
  obtain ⟨⟨x22, rfl, g23⟩, hT24, k25, R26⟩ := g21
  have k27 : KW [1092, 1093, 1094, 1095, 1152, 1216, 1344, 1408, 1472] Po P20 := KW.trans k18 k25 rfl
  have wx22 := ti_full x22
  show MEvP _ none q_156 14 [(0, .ref 301), (1, .int t1), (2, .int t2)] [.int x22] _ _ _ _
  exact mp_iret ⟨⟨_, rfl, trivial⟩, hT24, k27, R26⟩ dX7_cut_14 (Or.inl rfl)

