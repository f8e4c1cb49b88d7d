/-! methods on typed pools, 23 (written by a program) -/
set_option maxHeartbeats 4000000 in
theorem c_M_joins {Po : mP} {t1 : Int32} {t2 : Int32} {t3 : Int32} (hT : Typ Po) (hR : Rel Po)  : EvP 4 154 [.ref 301, .int t1, .int t2, .int t3] Po (fun r P' => (∃ x : Int32, r = some (.int x) ∧ (True)) ∧ Typ P' ∧ KW [1093, 1094, 1152] Po P' ∧ Rel P') := by
  refine EvP.of qm_154 (Nat.le_of_ble_eq_true rfl) rfl ?_
  show MEvP _ none q_154 0 [(0, .ref 301), (1, .int t1), (2, .int t2), (3, .int t3)] [] _ 0 0 _
  refine mp_a (a_aload_n dX7_joins_0 rfl) (mpp 1 rfl ?_)
  refine mp_a (a_iload_n dX7_joins_1 rfl) (mpp 2 rfl ?_)
  refine mt_callv (i := 85) (q' := q_144) (As := [.int t1]) (rest := []) hT dX7_joins_2 rfl qm_144 (by decide) rfl rl_301 (by decide) rfl (Nat.le_of_ble_eq_true rfl) rfl ⟨rfl, rfl⟩ ⟨Nat.le_of_ble_eq_true rfl, Nat.le_of_ble_eq_true rfl⟩ (EvP.mono (by decide) (c_M_isPiece hT )) (fun r1 P2 g3 => mpp 5 rfl ?_)
  obtain ⟨⟨x4, rfl, g5⟩, e6⟩ := g3
  have e6 := e6.symm
  subst e6
  have wx4 := ti_full x4
  have g5 : 0 ≤ x4.toInt ∧ x4.toInt ≤ 1 ∧ ((x4.toInt = 1 ∧ 0 ≤ t1.toInt ∧ t1.toInt + 1 ≤ (fv Po 302 0).toInt ∧ t1.toInt ≤ 7) ∨ (x4.toInt = 0 ∧ (t1.toInt < 0 ∨ (fv Po 302 0).toInt ≤ t1.toInt))) := g5
  have g7 : (0 : Int) ≤ (fv Po 302 0).toInt ∧ (fv Po 302 0).toInt ≤ 8 := Typ.rng hT rl_302 (by decide) (by decide) rfl
  show MEvP _ none q_154 5 [(0, .ref 301), (1, .int t1), (2, .int t2), (3, .int t3)] [.int x4] _ _ _ _
  refine mp_Tb (t := 21) (j_if_eq dX7_joins_5) (by decide) (fun c8 => ?_) (fun c8 => mpp 8 rfl ?_)
  · have c8 : x4.toInt = 0 := ti_eq c8
    refine mp_a (a_sipush (v := -1001) dX7_joins_21 rfl) (mpp 24 rfl ?_)
    exact mp_iret ⟨⟨_, rfl, trivial⟩, hT, KW.refl, hR⟩ dX7_joins_24 (Or.inl rfl)
  · have c8 : x4.toInt ≠ 0 := ti_eq_n c8
    refine mp_a (a_aload_n dX7_joins_8 rfl) (mpp 9 rfl ?_)
    refine mp_a (a_iload_n dX7_joins_9 rfl) (mpp 10 rfl ?_)
    refine mt_callv (i := 85) (q' := q_144) (As := [.int t2]) (rest := []) hT dX7_joins_10 rfl qm_144 (by decide) rfl rl_301 (by decide) rfl (Nat.le_of_ble_eq_true rfl) rfl ⟨rfl, rfl⟩ ⟨Nat.le_of_ble_eq_true rfl, Nat.le_of_ble_eq_true rfl⟩ (EvP.mono (by decide) (c_M_isPiece hT )) (fun r9 P10 g11 => mpp 13 rfl ?_)
    obtain ⟨⟨x12, rfl, g13⟩, e14⟩ := g11
    have e14 := e14.symm
    subst e14
    have wx12 := ti_full x12
    have g13 : 0 ≤ x12.toInt ∧ x12.toInt ≤ 1 ∧ ((x12.toInt = 1 ∧ 0 ≤ t2.toInt ∧ t2.toInt + 1 ≤ (fv Po 302 0).toInt ∧ t2.toInt ≤ 7) ∨ (x12.toInt = 0 ∧ (t2.toInt < 0 ∨ (fv Po 302 0).toInt ≤ t2.toInt))) := g13
    show MEvP _ none q_154 13 [(0, .ref 301), (1, .int t1), (2, .int t2), (3, .int t3)] [.int x12] _ _ _ _
    refine mp_Tb (t := 21) (j_if_eq dX7_joins_13) (by decide) (fun c15 => ?_) (fun c15 => mpp 16 rfl ?_)
    · have c15 : x12.toInt = 0 := ti_eq c15
      refine mp_a (a_sipush (v := -1001) dX7_joins_21 rfl) (mpp 24 rfl ?_)
      exact mp_iret ⟨⟨_, rfl, trivial⟩, hT, KW.refl, hR⟩ dX7_joins_24 (Or.inl rfl)
    · have c15 : x12.toInt ≠ 0 := ti_eq_n c15
      refine mp_a (a_iload_n dX7_joins_16 rfl) (mpp 17 rfl ?_)
      refine mp_a (a_iload_n dX7_joins_17 rfl) (mpp 18 rfl ?_)
      refine mp_Tb (t := 25) (j_icmp_ne dX7_joins_18) (by decide) (fun c16 => ?_) (fun c16 => mpp 21 rfl ?_)
      · have c16 : t1.toInt ≠ t2.toInt := ti_ne c16
        refine mp_a (a_iload_n dX7_joins_25 rfl) (mpp 26 rfl ?_)
        refine mp_a (a_iconst (v := 0) dX7_joins_26 rfl) (mpp 27 rfl ?_)
        refine mp_a (a_iconst (v := 2) dX7_joins_27 rfl) (mpp 28 rfl ?_)
        refine mp_calls (i := 61) (q' := q_127) (As := [.int t3, .int 0, .int 2]) (rest := []) dX7_joins_28 rfl qm_127 (by decide) rfl (Nat.le_of_ble_eq_true rfl) rfl ⟨rfl, rfl⟩ ⟨Nat.le_of_ble_eq_true rfl, Nat.le_of_ble_eq_true rfl⟩ (EvP.mono (by decide) (c_M_isIn hT )) (fun r17 P18 g19 => mpp 31 rfl ?_)
        obtain ⟨⟨x20, rfl, g21⟩, e22⟩ := g19
        have e22 := e22.symm
        subst e22
        have wx20 := ti_full x20
        have g21 : 0 ≤ x20.toInt ∧ x20.toInt ≤ 1 ∧ ((x20.toInt = 1 ∧ (0 : Int) ≤ t3.toInt ∧ t3.toInt ≤ (2 : Int)) ∨ (x20.toInt = 0 ∧ (t3.toInt < (0 : Int) ∨ (2 : Int) < t3.toInt))) := g21
        show MEvP _ none q_154 31 [(0, .ref 301), (1, .int t1), (2, .int t2), (3, .int t3)] [.int x20] _ _ _ _
        refine mp_Tb (t := 38) (j_if_ne dX7_joins_31) (by decide) (fun c23 => ?_) (fun c23 => mpp 34 rfl ?_)
        · have c23 : x20.toInt ≠ 0 := ti_ne c23
          refine mp_a (a_aload_n dX7_joins_38 rfl) (mpp 39 rfl ?_)
          refine mp_a (a_iload_n dX7_joins_39 rfl) (mpp 40 rfl ?_)
          have p24 : 0 ≤ t1.toInt := by omega
          have p25 : t1.toInt ≤ 7 := by omega
          refine mt_callv (i := 130) (q' := q_145) (As := [.int t1]) (rest := []) hT dX7_joins_40 rfl qm_145 (by decide) rfl rl_301 (by decide) rfl (Nat.le_of_ble_eq_true rfl) rfl ⟨rfl, rfl⟩ ⟨Nat.le_of_ble_eq_true rfl, Nat.le_of_ble_eq_true rfl⟩ (EvP.mono (by decide) (c_M_isFolded hT p24 p25 )) (fun r26 P27 g28 => mpp 43 rfl ?_)
          obtain ⟨⟨x29, rfl, g30⟩, e31⟩ := g28
          have e31 := e31.symm
          subst e31
          have wx29 := ti_full x29
          have g30 : 0 ≤ x29.toInt ∧ x29.toInt ≤ 1 := g30
          show MEvP _ none q_154 43 [(0, .ref 301), (1, .int t1), (2, .int t2), (3, .int t3)] [.int x29] _ _ _ _
          refine mp_Tb (t := 54) (j_if_ne dX7_joins_43) (by decide) (fun c32 => ?_) (fun c32 => mpp 46 rfl ?_)
          · have c32 : x29.toInt ≠ 0 := ti_ne c32
            refine mp_a (a_aload_n dX7_joins_54 rfl) (mpp 55 rfl ?_)
            refine mp_a (a_iconst (v := 2) dX7_joins_55 rfl) (mpp 56 rfl ?_)
            refine mp_a (a_aload_n dX7_joins_56 rfl) (mpp 57 rfl ?_)
            refine mp_a (a_iload_n dX7_joins_57 rfl) (mpp 58 rfl ?_)
            have p33 : 0 ≤ t1.toInt := by omega
            have p34 : t1.toInt ≤ 7 := by omega
            refine mt_callv (i := 130) (q' := q_145) (As := [.int t1]) (rest := [.int 2, .ref 301]) hT dX7_joins_58 rfl qm_145 (by decide) rfl rl_301 (by decide) rfl (Nat.le_of_ble_eq_true rfl) rfl ⟨rfl, rfl⟩ ⟨Nat.le_of_ble_eq_true rfl, Nat.le_of_ble_eq_true rfl⟩ (EvP.mono (by decide) (c_M_isFolded hT p33 p34 )) (fun r35 P36 g37 => mpp 61 rfl ?_)
            obtain ⟨⟨x38, rfl, g39⟩, e40⟩ := g37
            have e40 := e40.symm
            subst e40
            have wx38 := ti_full x38
            have g39 : 0 ≤ x38.toInt ∧ x38.toInt ≤ 1 := g39
            show MEvP _ none q_154 61 [(0, .ref 301), (1, .int t1), (2, .int t2), (3, .int t3)] [.int x38, .int 2, .ref 301] _ _ _ _
            refine mp_Tb (t := 68) (j_if_eq dX7_joins_61) (by decide) (fun c41 => ?_) (fun c41 => mpp 64 rfl ?_)
            · have c41 : x38.toInt = 0 := ti_eq c41
              refine mp_a (a_iload_n dX7_joins_68 rfl) (mpp 69 rfl ?_)
              refine mt_callv (i := 101) (q' := q_134) (As := [.int 2, .int t2]) (rest := []) hT dX7_joins_69 rfl qm_134 (by decide) rfl rl_301 (by decide) rfl (Nat.le_of_ble_eq_true rfl) rfl ⟨rfl, rfl⟩ ⟨Nat.le_of_ble_eq_true rfl, Nat.le_of_ble_eq_true rfl⟩ (EvP.mono (by decide) (c_M_refuses hT )) (fun r42 P43 g44 => mpp 72 rfl ?_)
              obtain ⟨⟨x45, rfl, g46⟩, hT47, k48, R49⟩ := g44
              have k50 : KW [1093, 1094, 1152] Po P43 := KW.trans KW.refl k48 rfl
              have R52 := Rel.kw hR k48 rfl
              have wx45 := ti_full x45
              show MEvP _ none q_154 72 [(0, .ref 301), (1, .int t1), (2, .int t2), (3, .int t3)] [.int x45] _ _ _ _
              exact mp_iret ⟨⟨_, rfl, trivial⟩, hT47, k50, R52⟩ dX7_joins_72 (Or.inl rfl)
            · have c41 : x38.toInt ≠ 0 := ti_eq_n c41
              refine mp_a (a_iload_n dX7_joins_64 rfl) (mpp 65 rfl ?_)
              refine mp_a (a_goto (t := 69) dX7_joins_65 (by decide)) ?_
              refine mt_callv (i := 101) (q' := q_134) (As := [.int 2, .int t1]) (rest := []) hT dX7_joins_69 rfl qm_134 (by decide) rfl rl_301 (by decide) rfl (Nat.le_of_ble_eq_true rfl) rfl ⟨rfl, rfl⟩ ⟨Nat.le_of_ble_eq_true rfl, Nat.le_of_ble_eq_true rfl⟩ (EvP.mono (by decide) (c_M_refuses hT )) (fun r53 P54 g55 => mpp 72 rfl ?_)
              obtain ⟨⟨x56, rfl, g57⟩, hT58, k59, R60⟩ := g55
              have k61 : KW [1093, 1094, 1152] Po P54 := KW.trans KW.refl k59 rfl
              have R63 := Rel.kw hR k59 rfl
              have wx56 := ti_full x56
              show MEvP _ none q_154 72 [(0, .ref 301), (1, .int t1), (2, .int t2), (3, .int t3)] [.int x56] _ _ _ _
              exact mp_iret ⟨⟨_, rfl, trivial⟩, hT58, k61, R63⟩ dX7_joins_72 (Or.inl rfl)
          · have c32 : x29.toInt = 0 := ti_ne_n c32
            refine mp_a (a_aload_n dX7_joins_46 rfl) (mpp 47 rfl ?_)
            refine mp_a (a_iload_n dX7_joins_47 rfl) (mpp 48 rfl ?_)
            have p64 : 0 ≤ t2.toInt := by omega
            have p65 : t2.toInt ≤ 7 := by omega
            refine mt_callv (i := 130) (q' := q_145) (As := [.int t2]) (rest := []) hT dX7_joins_48 rfl qm_145 (by decide) rfl rl_301 (by decide) rfl (Nat.le_of_ble_eq_true rfl) rfl ⟨rfl, rfl⟩ ⟨Nat.le_of_ble_eq_true rfl, Nat.le_of_ble_eq_true rfl⟩ (EvP.mono (by decide) (c_M_isFolded hT p64 p65 )) (fun r66 P67 g68 => mpp 51 rfl ?_)
            obtain ⟨⟨x69, rfl, g70⟩, e71⟩ := g68
            have e71 := e71.symm
            subst e71
            have wx69 := ti_full x69
            have g70 : 0 ≤ x69.toInt ∧ x69.toInt ≤ 1 := g70
            show MEvP _ none q_154 51 [(0, .ref 301), (1, .int t1), (2, .int t2), (3, .int t3)] [.int x69] _ _ _ _
            refine mp_Tb (t := 73) (j_if_eq dX7_joins_51) (by decide) (fun c72 => ?_) (fun c72 => mpp 54 rfl ?_)
            · have c72 : x69.toInt = 0 := ti_eq c72
              refine mp_a (a_aload_n dX7_joins_73 rfl) (mpp 74 rfl ?_)
              refine mp_a (a_iload_n dX7_joins_74 rfl) (mpp 75 rfl ?_)
              have p73 : 0 ≤ t1.toInt := by omega
              have p74 : t1.toInt ≤ 7 := by omega
              refine mt_callv (i := 81) (q' := q_138) (As := [.int t1]) (rest := []) hT dX7_joins_75 rfl qm_138 (by decide) rfl rl_301 (by decide) rfl (Nat.le_of_ble_eq_true rfl) rfl ⟨rfl, rfl⟩ ⟨Nat.le_of_ble_eq_true rfl, Nat.le_of_ble_eq_true rfl⟩ (EvP.mono (by decide) (c_M_isCorner hT p73 p74 )) (fun r75 P76 g77 => mpp 78 rfl ?_)
              obtain ⟨⟨x78, rfl, g79⟩, e80⟩ := g77
              have e80 := e80.symm
              subst e80
              have wx78 := ti_full x78
              have g79 : 0 ≤ x78.toInt ∧ x78.toInt ≤ 1 ∧ ((x78.toInt = 1 ∧ (fv Po 302 (3 + 19 * t1.toInt.toNat)).toInt = 1) ∨ (x78.toInt = 0 ∧ (fv Po 302 (3 + 19 * t1.toInt.toNat)).toInt = 0)) := g79
              have g81 := ti_full (fv Po 302 (3 + 19 * t1.toInt.toNat))
              show MEvP _ none q_154 78 [(0, .ref 301), (1, .int t1), (2, .int t2), (3, .int t3)] [.int x78] _ _ _ _
              refine mp_Tb (t := 89) (j_if_ne dX7_joins_78) (by decide) (fun c82 => ?_) (fun c82 => mpp 81 rfl ?_)
              · have c82 : x78.toInt ≠ 0 := ti_ne c82
                refine mp_a (a_aload_n dX7_joins_89 rfl) (mpp 90 rfl ?_)
                refine mp_a (a_iconst (v := 3) dX7_joins_90 rfl) (mpp 91 rfl ?_)
                refine mp_a (a_aload_n dX7_joins_91 rfl) (mpp 92 rfl ?_)
                refine mp_a (a_iload_n dX7_joins_92 rfl) (mpp 93 rfl ?_)
                have p83 : 0 ≤ t1.toInt := by omega
                have p84 : t1.toInt ≤ 7 := by omega
                refine mt_callv (i := 81) (q' := q_138) (As := [.int t1]) (rest := [.int 3, .ref 301]) hT dX7_joins_93 rfl qm_138 (by decide) rfl rl_301 (by decide) rfl (Nat.le_of_ble_eq_true rfl) rfl ⟨rfl, rfl⟩ ⟨Nat.le_of_ble_eq_true rfl, Nat.le_of_ble_eq_true rfl⟩ (EvP.mono (by decide) (c_M_isCorner hT p83 p84 )) (fun r85 P86 g87 => mpp 96 rfl ?_)
                obtain ⟨⟨x88, rfl, g89⟩, e90⟩ := g87
                have e90 := e90.symm
                subst e90
                have wx88 := ti_full x88
                have g89 : 0 ≤ x88.toInt ∧ x88.toInt ≤ 1 ∧ ((x88.toInt = 1 ∧ (fv Po 302 (3 + 19 * t1.toInt.toNat)).toInt = 1) ∨ (x88.toInt = 0 ∧ (fv Po 302 (3 + 19 * t1.toInt.toNat)).toInt = 0)) := g89
                show MEvP _ none q_154 96 [(0, .ref 301), (1, .int t1), (2, .int t2), (3, .int t3)] [.int x88, .int 3, .ref 301] _ _ _ _
                refine mp_Tb (t := 103) (j_if_eq dX7_joins_96) (by decide) (fun c91 => ?_) (fun c91 => mpp 99 rfl ?_)
                · have c91 : x88.toInt = 0 := ti_eq c91
                  refine mp_a (a_iload_n dX7_joins_103 rfl) (mpp 104 rfl ?_)
                  refine mt_callv (i := 101) (q' := q_134) (As := [.int 3, .int t2]) (rest := []) hT dX7_joins_104 rfl qm_134 (by decide) rfl rl_301 (by decide) rfl (Nat.le_of_ble_eq_true rfl) rfl ⟨rfl, rfl⟩ ⟨Nat.le_of_ble_eq_true rfl, Nat.le_of_ble_eq_true rfl⟩ (EvP.mono (by decide) (c_M_refuses hT )) (fun r92 P93 g94 => mpp 107 rfl ?_)
                  obtain ⟨⟨x95, rfl, g96⟩, hT97, k98, R99⟩ := g94
                  have k100 : KW [1093, 1094, 1152] Po P93 := KW.trans KW.refl k98 rfl
                  have R102 := Rel.kw hR k98 rfl
                  have wx95 := ti_full x95
                  show MEvP _ none q_154 107 [(0, .ref 301), (1, .int t1), (2, .int t2), (3, .int t3)] [.int x95] _ _ _ _
                  exact mp_iret ⟨⟨_, rfl, trivial⟩, hT97, k100, R102⟩ dX7_joins_107 (Or.inl rfl)
                · have c91 : x88.toInt ≠ 0 := ti_eq_n c91
                  refine mp_a (a_iload_n dX7_joins_99 rfl) (mpp 100 rfl ?_)
                  refine mp_a (a_goto (t := 104) dX7_joins_100 (by decide)) ?_
                  refine mt_callv (i := 101) (q' := q_134) (As := [.int 3, .int t1]) (rest := []) hT dX7_joins_104 rfl qm_134 (by decide) rfl rl_301 (by decide) rfl (Nat.le_of_ble_eq_true rfl) rfl ⟨rfl, rfl⟩ ⟨Nat.le_of_ble_eq_true rfl, Nat.le_of_ble_eq_true rfl⟩ (EvP.mono (by decide) (c_M_refuses hT )) (fun r103 P104 g105 => mpp 107 rfl ?_)
                  obtain ⟨⟨x106, rfl, g107⟩, hT108, k109, R110⟩ := g105
                  have k111 : KW [1093, 1094, 1152] Po P104 := KW.trans KW.refl k109 rfl
                  have R113 := Rel.kw hR k109 rfl
                  have wx106 := ti_full x106
                  show MEvP _ none q_154 107 [(0, .ref 301), (1, .int t1), (2, .int t2), (3, .int t3)] [.int x106] _ _ _ _
                  exact mp_iret ⟨⟨_, rfl, trivial⟩, hT108, k111, R113⟩ dX7_joins_107 (Or.inl rfl)
              · have c82 : x78.toInt = 0 := ti_ne_n c82
                refine mp_a (a_aload_n dX7_joins_81 rfl) (mpp 82 rfl ?_)
                refine mp_a (a_iload_n dX7_joins_82 rfl) (mpp 83 rfl ?_)
                have p114 : 0 ≤ t2.toInt := by omega
                have p115 : t2.toInt ≤ 7 := by omega
                refine mt_callv (i := 81) (q' := q_138) (As := [.int t2]) (rest := []) hT dX7_joins_83 rfl qm_138 (by decide) rfl rl_301 (by decide) rfl (Nat.le_of_ble_eq_true rfl) rfl ⟨rfl, rfl⟩ ⟨Nat.le_of_ble_eq_true rfl, Nat.le_of_ble_eq_true rfl⟩ (EvP.mono (by decide) (c_M_isCorner hT p114 p115 )) (fun r116 P117 g118 => mpp 86 rfl ?_)
                obtain ⟨⟨x119, rfl, g120⟩, e121⟩ := g118
                have e121 := e121.symm
                subst e121
                have wx119 := ti_full x119
                have g120 : 0 ≤ x119.toInt ∧ x119.toInt ≤ 1 ∧ ((x119.toInt = 1 ∧ (fv Po 302 (3 + 19 * t2.toInt.toNat)).toInt = 1) ∨ (x119.toInt = 0 ∧ (fv Po 302 (3 + 19 * t2.toInt.toNat)).toInt = 0)) := g120
                have g122 := ti_full (fv Po 302 (3 + 19 * t2.toInt.toNat))
                show MEvP _ none q_154 86 [(0, .ref 301), (1, .int t1), (2, .int t2), (3, .int t3)] [.int x119] _ _ _ _
                refine mp_Tb (t := 108) (j_if_eq dX7_joins_86) (by decide) (fun c123 => ?_) (fun c123 => mpp 89 rfl ?_)
                · have c123 : x119.toInt = 0 := ti_eq c123
                  refine mp_a (a_aload_n dX7_joins_108 rfl) (mpp 109 rfl ?_)
                  refine mp_a (a_iload_n dX7_joins_109 rfl) (mpp 110 rfl ?_)
                  refine mp_a (a_iconst (v := 1) dX7_joins_110 rfl) (mpp 111 rfl ?_)
                  have p124 : 0 ≤ t1.toInt := by omega
                  have p125 : t1.toInt ≤ 7 := by omega
                  have p126 : 0 ≤ (1 : Int) := by omega
                  have p127 : (1 : Int) ≤ 18 := by omega
                  refine mt_callv (i := 78) (q' := q_137) (As := [.int t1, .int 1]) (rest := []) hT dX7_joins_111 rfl qm_137 (by decide) rfl rl_301 (by decide) rfl (Nat.le_of_ble_eq_true rfl) rfl ⟨rfl, rfl⟩ ⟨Nat.le_of_ble_eq_true rfl, Nat.le_of_ble_eq_true rfl⟩ (EvP.mono (by decide) (c_M_of_c1 hT p124 p125 p126 p127 )) (fun r128 P129 g130 => mpp 114 rfl ?_)
                  obtain ⟨⟨x131, rfl, g132⟩, e133⟩ := g130
                  have e133 := e133.symm
                  subst e133
                  have wx131 := ti_full x131
                  have g132 : x131.toInt = (fv Po 302 (4 + 19 * t1.toInt.toNat)).toInt ∧ 0 ≤ x131.toInt ∧ x131.toInt ≤ 8 := g132
                  have g134 := ti_full (fv Po 302 (4 + 19 * t1.toInt.toNat))
                  show MEvP _ none q_154 114 [(0, .ref 301), (1, .int t1), (2, .int t2), (3, .int t3)] [.int x131] _ _ _ _
                  refine mp_a (a_istore (L' := [(4, .int x131), (0, .ref 301), (1, .int t1), (2, .int t2), (3, .int t3)]) dX7_joins_114 (by decide) rfl) (mpp 116 rfl ?_)
                  refine mp_a (a_aload_n dX7_joins_116 rfl) (mpp 117 rfl ?_)
                  refine mp_a (a_iload_n dX7_joins_117 rfl) (mpp 118 rfl ?_)
                  refine mp_a (a_iconst (v := 1) dX7_joins_118 rfl) (mpp 119 rfl ?_)
                  have p135 : 0 ≤ t2.toInt := by omega
                  have p136 : t2.toInt ≤ 7 := by omega
                  have p137 : 0 ≤ (1 : Int) := by omega
                  have p138 : (1 : Int) ≤ 18 := by omega
                  refine mt_callv (i := 78) (q' := q_137) (As := [.int t2, .int 1]) (rest := []) hT dX7_joins_119 rfl qm_137 (by decide) rfl rl_301 (by decide) rfl (Nat.le_of_ble_eq_true rfl) rfl ⟨rfl, rfl⟩ ⟨Nat.le_of_ble_eq_true rfl, Nat.le_of_ble_eq_true rfl⟩ (EvP.mono (by decide) (c_M_of_c1 hT p135 p136 p137 p138 )) (fun r139 P140 g141 => mpp 122 rfl ?_)
                  obtain ⟨⟨x142, rfl, g143⟩, e144⟩ := g141
                  have e144 := e144.symm
                  subst e144
                  have wx142 := ti_full x142
                  have g143 : x142.toInt = (fv Po 302 (4 + 19 * t2.toInt.toNat)).toInt ∧ 0 ≤ x142.toInt ∧ x142.toInt ≤ 8 := g143
                  have g145 := ti_full (fv Po 302 (4 + 19 * t2.toInt.toNat))
                  show MEvP _ none q_154 122 [(4, .int x131), (0, .ref 301), (1, .int t1), (2, .int t2), (3, .int t3)] [.int x142] _ _ _ _
                  refine mp_a (a_istore (L' := [(5, .int x142), (4, .int x131), (0, .ref 301), (1, .int t1), (2, .int t2), (3, .int t3)]) dX7_joins_122 (by decide) rfl) (mpp 124 rfl ?_)
                  have q146 := Rel.two hR (p := t1.toInt.toNat) (by omega) (by omega)
                  refine mp_a (a_iload dX7_joins_124 rfl) (mpp 126 rfl ?_)
                  refine mp_a (a_iload dX7_joins_126 rfl) (mpp 128 rfl ?_)
                  obtain ⟨z147, h148⟩ := ti_ex (x131 + x142 : Int32)
                  have wz147 := ti_full z147
                  refine mp_t (s_iadd (v := z147) dX7_joins_128 h148) (mpp 129 rfl ?_)
                  try have e149 : z147.toInt = x131.toInt + x142.toInt := ti_addz h148 rfl rfl (by omega) (by omega)
                  refine mp_a (a_bipush (v := 7) dX7_joins_129 rfl) (mpp 131 rfl ?_)
                  refine mp_Tb (t := 146) (j_icmp_le dX7_joins_131) (by decide) (fun c150 => ?_) (fun c150 => mpp 134 rfl ?_)
                  · have c150 : z147.toInt ≤ 7 := ti_le c150
                    refine mp_a (a_aload_n dX7_joins_146 rfl) (mpp 147 rfl ?_)
                    refine mt_getU (i := 9) (k := 0) (A := 302) hT dX7_joins_147 rfl rl_301 (by decide) rfl (by decide) rfl un_18 (mpp 150 rfl ?_)
                    refine mp_a (a_iload_n dX7_joins_150 rfl) (mpp 151 rfl ?_)
                    refine mp_a (a_bipush (v := 11) dX7_joins_151 rfl) (mpp 153 rfl ?_)
                    refine mp_a (a_iload dX7_joins_153 rfl) (mpp 155 rfl ?_)
                    obtain ⟨z151, h152⟩ := ti_ex (11 + x131 : Int32)
                    have wz151 := ti_full z151
                    refine mp_t (s_iadd (v := z151) dX7_joins_155 h152) (mpp 156 rfl ?_)
                    try have e153 : z151.toInt = 11 + x131.toInt := ti_addz h152 rfl rfl (by omega) (by omega)
                    refine mp_a (a_iconst (v := 1) dX7_joins_156 rfl) (mpp 157 rfl ?_)
                    obtain ⟨z154, h155⟩ := ti_ex (z151 - 1 : Int32)
                    have wz154 := ti_full z154
                    refine mp_t (s_isub (v := z154) dX7_joins_157 h155) (mpp 158 rfl ?_)
                    try have e156 : z154.toInt = z151.toInt - 1 := ti_subz h155 rfl rfl (by omega) (by omega)
                    have p157 : 0 ≤ t1.toInt := by omega
                    have p158 : t1.toInt ≤ 8 := by omega
                    have p159 : 0 ≤ z154.toInt := by omega
                    have p160 : z154.toInt ≤ 20 := by omega
                    refine mp_calls (i := 74) (q' := q_135) (As := [.int t1, .int z154]) (rest := [.ref 302]) dX7_joins_158 rfl qm_135 (by decide) rfl (Nat.le_of_ble_eq_true rfl) rfl ⟨rfl, rfl⟩ ⟨Nat.le_of_ble_eq_true rfl, Nat.le_of_ble_eq_true rfl⟩ (EvP.mono (by decide) (c_M_at hT p157 p158 p159 p160 )) (fun r161 P162 g163 => mpp 161 rfl ?_)
                    obtain ⟨⟨x164, rfl, g165⟩, e166⟩ := g163
                    have e166 := e166.symm
                    subst e166
                    have wx164 := ti_full x164
                    have g165 : x164.toInt = 3 + 19 * t1.toInt + z154.toInt := g165
                    show MEvP _ none q_154 161 [(5, .int x142), (4, .int x131), (0, .ref 301), (1, .int t1), (2, .int t2), (3, .int t3)] [.int x164, .ref 302] _ _ _ _
                    refine mp_a (a_iload_n dX7_joins_161 rfl) (mpp 162 rfl ?_)
                    refine mt_iasX (n := 155) hT dX7_joins_162 rl_302 (by decide) rfl rfl (by omega) (by omega) ssp_0 (okS_mk (by omega) (fun _ => ⟨by omega, by omega⟩) (fun _ => ⟨by omega, by omega⟩)) (fun P167 hT168 f169 f170 f171 => mpp 163 rfl ?_)
                    have k172 : KW [1093, 1094, 1152] Po P167 := KW.step KW.refl rl_302 rfl f170 f171
                    have R173 := Rel.oth hR f170 (by omega)
                    refine mp_a (a_iconst (v := 0) dX7_joins_163 rfl) (mpp 164 rfl ?_)
                    refine mp_a (a_istore (L' := [(6, .int 0), (5, .int x142), (4, .int x131), (0, .ref 301), (1, .int t1), (2, .int t2), (3, .int t3)]) dX7_joins_164 (by decide) rfl) (mpp 166 rfl ?_)
                    refine MEvP.less (L := [(0, .ref 301), (1, .int t1), (2, .int t2), (3, .int t3), (4, .int x131), (5, .int x142), (6, .int 0)]) rfl rfl ⟨rfl, rfl, rfl, rfl, rfl, rfl, rfl, trivial⟩ ?_
                    have i174 : 0 ≤ t1.toInt := by omega
                    have i175 : t1.toInt ≤ 7 := by omega
                    have i176 : 0 ≤ t2.toInt := by omega
                    have i177 : t2.toInt ≤ 7 := by omega
                    have i178 : 0 ≤ x131.toInt := by omega
                    have i179 : 0 ≤ x142.toInt := by omega
                    have i180 : x131.toInt + x142.toInt ≤ 7 := by omega
                    have i181 : 2 ≤ x131.toInt := by omega
                    have e182 : (fv P167 302 0).toInt = (fv Po 302 0).toInt := congrArg Int32.toInt (f170 302 0 (ne_i (by omega)))
                    have i183 : (fv P167 302 0).toInt = (fv Po 302 0).toInt := by omega
                    have i184 : t2.toInt + 1 ≤ (fv Po 302 0).toInt := by omega
                    have i185 : 0 ≤ (0 : Int) := by omega
                    exact c_M_joins_l166    _ _ _ _ P167 hT168 k172 R173 i174 i175 i176 i177 i178 i179 i180 i181 i183 i184 i185 rfl
                  · have c150 : z147.toInt > 7 := ti_le_n c150
                    refine mp_a (a_aload_n dX7_joins_134 rfl) (mpp 135 rfl ?_)
                    refine mp_a (a_bipush (v := 6) dX7_joins_135 rfl) (mpp 137 rfl ?_)
                    refine mp_a (a_iload dX7_joins_137 rfl) (mpp 139 rfl ?_)
                    refine mp_a (a_iload dX7_joins_139 rfl) (mpp 141 rfl ?_)
                    obtain ⟨z186, h187⟩ := ti_ex (x131 + x142 : Int32)
                    have wz186 := ti_full z186
                    refine mp_t (s_iadd (v := z186) dX7_joins_141 h187) (mpp 142 rfl ?_)
                    try have e188 : z186.toInt = x131.toInt + x142.toInt := ti_addz h187 rfl rfl (by omega) (by omega)
                    refine mt_callv (i := 101) (q' := q_134) (As := [.int 6, .int z186]) (rest := []) hT dX7_joins_142 rfl qm_134 (by decide) rfl rl_301 (by decide) rfl (Nat.le_of_ble_eq_true rfl) rfl ⟨rfl, rfl⟩ ⟨Nat.le_of_ble_eq_true rfl, Nat.le_of_ble_eq_true rfl⟩ (EvP.mono (by decide) (c_M_refuses hT )) (fun r189 P190 g191 => mpp 145 rfl ?_)
                    obtain ⟨⟨x192, rfl, g193⟩, hT194, k195, R196⟩ := g191
                    have k197 : KW [1093, 1094, 1152] Po P190 := KW.trans KW.refl k195 rfl
                    have R199 := Rel.kw hR k195 rfl
                    have wx192 := ti_full x192
                    show MEvP _ none q_154 145 [(5, .int x142), (4, .int x131), (0, .ref 301), (1, .int t1), (2, .int t2), (3, .int t3)] [.int x192] _ _ _ _
                    exact mp_iret ⟨⟨_, rfl, trivial⟩, hT194, k197, R199⟩ dX7_joins_145 (Or.inl rfl)
                · have c123 : x119.toInt ≠ 0 := ti_eq_n c123
                  refine mp_a (a_aload_n dX7_joins_89 rfl) (mpp 90 rfl ?_)
                  refine mp_a (a_iconst (v := 3) dX7_joins_90 rfl) (mpp 91 rfl ?_)
                  refine mp_a (a_aload_n dX7_joins_91 rfl) (mpp 92 rfl ?_)
                  refine mp_a (a_iload_n dX7_joins_92 rfl) (mpp 93 rfl ?_)
                  have p200 : 0 ≤ t1.toInt := by omega
                  have p201 : t1.toInt ≤ 7 := by omega
                  refine mt_callv (i := 81) (q' := q_138) (As := [.int t1]) (rest := [.int 3, .ref 301]) hT dX7_joins_93 rfl qm_138 (by decide) rfl rl_301 (by decide) rfl (Nat.le_of_ble_eq_true rfl) rfl ⟨rfl, rfl⟩ ⟨Nat.le_of_ble_eq_true rfl, Nat.le_of_ble_eq_true rfl⟩ (EvP.mono (by decide) (c_M_isCorner hT p200 p201 )) (fun r202 P203 g204 => mpp 96 rfl ?_)
                  obtain ⟨⟨x205, rfl, g206⟩, e207⟩ := g204
                  have e207 := e207.symm
                  subst e207
                  have wx205 := ti_full x205
                  have g206 : 0 ≤ x205.toInt ∧ x205.toInt ≤ 1 ∧ ((x205.toInt = 1 ∧ (fv Po 302 (3 + 19 * t1.toInt.toNat)).toInt = 1) ∨ (x205.toInt = 0 ∧ (fv Po 302 (3 + 19 * t1.toInt.toNat)).toInt = 0)) := g206
                  show MEvP _ none q_154 96 [(0, .ref 301), (1, .int t1), (2, .int t2), (3, .int t3)] [.int x205, .int 3, .ref 301] _ _ _ _
                  refine mp_Tb (t := 103) (j_if_eq dX7_joins_96) (by decide) (fun c208 => ?_) (fun c208 => mpp 99 rfl ?_)
                  · have c208 : x205.toInt = 0 := ti_eq c208
                    refine mp_a (a_iload_n dX7_joins_103 rfl) (mpp 104 rfl ?_)
                    refine mt_callv (i := 101) (q' := q_134) (As := [.int 3, .int t2]) (rest := []) hT dX7_joins_104 rfl qm_134 (by decide) rfl rl_301 (by decide) rfl (Nat.le_of_ble_eq_true rfl) rfl ⟨rfl, rfl⟩ ⟨Nat.le_of_ble_eq_true rfl, Nat.le_of_ble_eq_true rfl⟩ (EvP.mono (by decide) (c_M_refuses hT )) (fun r209 P210 g211 => mpp 107 rfl ?_)
                    obtain ⟨⟨x212, rfl, g213⟩, hT214, k215, R216⟩ := g211
                    have k217 : KW [1093, 1094, 1152] Po P210 := KW.trans KW.refl k215 rfl
                    have R219 := Rel.kw hR k215 rfl
                    have wx212 := ti_full x212
                    show MEvP _ none q_154 107 [(0, .ref 301), (1, .int t1), (2, .int t2), (3, .int t3)] [.int x212] _ _ _ _
                    exact mp_iret ⟨⟨_, rfl, trivial⟩, hT214, k217, R219⟩ dX7_joins_107 (Or.inl rfl)
                  · have c208 : x205.toInt ≠ 0 := ti_eq_n c208
                    refine mp_a (a_iload_n dX7_joins_99 rfl) (mpp 100 rfl ?_)
                    refine mp_a (a_goto (t := 104) dX7_joins_100 (by decide)) ?_
                    refine mt_callv (i := 101) (q' := q_134) (As := [.int 3, .int t1]) (rest := []) hT dX7_joins_104 rfl qm_134 (by decide) rfl rl_301 (by decide) rfl (Nat.le_of_ble_eq_true rfl) rfl ⟨rfl, rfl⟩ ⟨Nat.le_of_ble_eq_true rfl, Nat.le_of_ble_eq_true rfl⟩ (EvP.mono (by decide) (c_M_refuses hT )) (fun r220 P221 g222 => mpp 107 rfl ?_)
                    obtain ⟨⟨x223, rfl, g224⟩, hT225, k226, R227⟩ := g222
                    have k228 : KW [1093, 1094, 1152] Po P221 := KW.trans KW.refl k226 rfl
                    have R230 := Rel.kw hR k226 rfl
                    have wx223 := ti_full x223
                    show MEvP _ none q_154 107 [(0, .ref 301), (1, .int t1), (2, .int t2), (3, .int t3)] [.int x223] _ _ _ _
                    exact mp_iret ⟨⟨_, rfl, trivial⟩, hT225, k228, R230⟩ dX7_joins_107 (Or.inl rfl)
            · have c72 : x69.toInt ≠ 0 := ti_eq_n c72
              refine mp_a (a_aload_n dX7_joins_54 rfl) (mpp 55 rfl ?_)
              refine mp_a (a_iconst (v := 2) dX7_joins_55 rfl) (mpp 56 rfl ?_)
              refine mp_a (a_aload_n dX7_joins_56 rfl) (mpp 57 rfl ?_)
              refine mp_a (a_iload_n dX7_joins_57 rfl) (mpp 58 rfl ?_)
              have p231 : 0 ≤ t1.toInt := by omega
              have p232 : t1.toInt ≤ 7 := by omega
              refine mt_callv (i := 130) (q' := q_145) (As := [.int t1]) (rest := [.int 2, .ref 301]) hT dX7_joins_58 rfl qm_145 (by decide) rfl rl_301 (by decide) rfl (Nat.le_of_ble_eq_true rfl) rfl ⟨rfl, rfl⟩ ⟨Nat.le_of_ble_eq_true rfl, Nat.le_of_ble_eq_true rfl⟩ (EvP.mono (by decide) (c_M_isFolded hT p231 p232 )) (fun r233 P234 g235 => mpp 61 rfl ?_)
              obtain ⟨⟨x236, rfl, g237⟩, e238⟩ := g235
              have e238 := e238.symm
              subst e238
              have wx236 := ti_full x236
              have g237 : 0 ≤ x236.toInt ∧ x236.toInt ≤ 1 := g237
              show MEvP _ none q_154 61 [(0, .ref 301), (1, .int t1), (2, .int t2), (3, .int t3)] [.int x236, .int 2, .ref 301] _ _ _ _
              refine mp_Tb (t := 68) (j_if_eq dX7_joins_61) (by decide) (fun c239 => ?_) (fun c239 => mpp 64 rfl ?_)
              · have c239 : x236.toInt = 0 := ti_eq c239
                refine mp_a (a_iload_n dX7_joins_68 rfl) (mpp 69 rfl ?_)
                refine mt_callv (i := 101) (q' := q_134) (As := [.int 2, .int t2]) (rest := []) hT dX7_joins_69 rfl qm_134 (by decide) rfl rl_301 (by decide) rfl (Nat.le_of_ble_eq_true rfl) rfl ⟨rfl, rfl⟩ ⟨Nat.le_of_ble_eq_true rfl, Nat.le_of_ble_eq_true rfl⟩ (EvP.mono (by decide) (c_M_refuses hT )) (fun r240 P241 g242 => mpp 72 rfl ?_)
                obtain ⟨⟨x243, rfl, g244⟩, hT245, k246, R247⟩ := g242
                have k248 : KW [1093, 1094, 1152] Po P241 := KW.trans KW.refl k246 rfl
                have R250 := Rel.kw hR k246 rfl
                have wx243 := ti_full x243
                show MEvP _ none q_154 72 [(0, .ref 301), (1, .int t1), (2, .int t2), (3, .int t3)] [.int x243] _ _ _ _
                exact mp_iret ⟨⟨_, rfl, trivial⟩, hT245, k248, R250⟩ dX7_joins_72 (Or.inl rfl)
              · have c239 : x236.toInt ≠ 0 := ti_eq_n c239
                refine mp_a (a_iload_n dX7_joins_64 rfl) (mpp 65 rfl ?_)
                refine mp_a (a_goto (t := 69) dX7_joins_65 (by decide)) ?_
                refine mt_callv (i := 101) (q' := q_134) (As := [.int 2, .int t1]) (rest := []) hT dX7_joins_69 rfl qm_134 (by decide) rfl rl_301 (by decide) rfl (Nat.le_of_ble_eq_true rfl) rfl ⟨rfl, rfl⟩ ⟨Nat.le_of_ble_eq_true rfl, Nat.le_of_ble_eq_true rfl⟩ (EvP.mono (by decide) (c_M_refuses hT )) (fun r251 P252 g253 => mpp 72 rfl ?_)
                obtain ⟨⟨x254, rfl, g255⟩, hT256, k257, R258⟩ := g253
                have k259 : KW [1093, 1094, 1152] Po P252 := KW.trans KW.refl k257 rfl
                have R261 := Rel.kw hR k257 rfl
                have wx254 := ti_full x254
                show MEvP _ none q_154 72 [(0, .ref 301), (1, .int t1), (2, .int t2), (3, .int t3)] [.int x254] _ _ _ _
                exact mp_iret ⟨⟨_, rfl, trivial⟩, hT256, k259, R261⟩ dX7_joins_72 (Or.inl rfl)
        · have c23 : x20.toInt = 0 := ti_ne_n c23
          refine mp_a (a_sipush (v := -1002) dX7_joins_34 rfl) (mpp 37 rfl ?_)
          exact mp_iret ⟨⟨_, rfl, trivial⟩, hT, KW.refl, hR⟩ dX7_joins_37 (Or.inl rfl)
      · have c16 : t1.toInt = t2.toInt := ti_ne_n c16
        refine mp_a (a_sipush (v := -1001) dX7_joins_21 rfl) (mpp 24 rfl ?_)
        exact mp_iret ⟨⟨_, rfl, trivial⟩, hT, KW.refl, hR⟩ dX7_joins_24 (Or.inl rfl)

set_option maxHeartbeats 4000000 in
theorem c_M_join {Po : mP} {t1 : Int32} {t2 : Int32} {t3 : Int32} (hT : Typ Po) (hR : Rel Po)  : EvP 5 153 [.ref 301, .int t1, .int t2, .int t3] Po (fun r P' => (∃ x : Int32, r = some (.int x) ∧ (True)) ∧ Typ P' ∧ KW [1092, 1093, 1094, 1095, 1152, 1216, 1344] Po P' ∧ Rel P') := by
  refine EvP.of qm_153 (Nat.le_of_ble_eq_true rfl) rfl ?_
  show MEvP _ none q_153 0 [(0, .ref 301), (1, .int t1), (2, .int t2), (3, .int t3)] [] _ 0 0 _
  refine mp_a (a_aload_n dX7_join_0 rfl) (mpp 1 rfl ?_)
  refine mt_callv (i := 117) (q' := q_124) (As := []) (rest := []) hT dX7_join_1 rfl qm_124 (by decide) rfl rl_301 (by decide) rfl (Nat.le_of_ble_eq_true rfl) rfl ⟨rfl, rfl⟩ ⟨Nat.le_of_ble_eq_true rfl, Nat.le_of_ble_eq_true rfl⟩ (EvP.mono (by decide) (c_M_keeps hT hR )) (fun r1 P2 g3 => mpp 4 rfl ?_)
  obtain ⟨⟨rfl, g5⟩, hT6, k7, R8⟩ := g3
  have k9 : KW [1092, 1093, 1094, 1095, 1152, 1216, 1344] Po P2 := KW.trans KW.refl k7 rfl
  show MEvP _ none q_153 4 [(0, .ref 301), (1, .int t1), (2, .int t2), (3, .int t3)] [] _ _ _ _
  refine mp_a (a_aload_n dX7_join_4 rfl) (mpp 5 rfl ?_)
  refine mp_a (a_aload_n dX7_join_5 rfl) (mpp 6 rfl ?_)
  refine mp_a (a_iload_n dX7_join_6 rfl) (mpp 7 rfl ?_)
  refine mp_a (a_iload_n dX7_join_7 rfl) (mpp 8 rfl ?_)
  refine mp_a (a_iload_n dX7_join_8 rfl) (mpp 9 rfl ?_)
  refine mt_callv (i := 152) (q' := q_154) (As := [.int t1, .int t2, .int t3]) (rest := [.ref 301]) hT6 dX7_join_9 rfl qm_154 (by decide) rfl rl_301 (by decide) rfl (Nat.le_of_ble_eq_true rfl) rfl ⟨rfl, rfl⟩ ⟨Nat.le_of_ble_eq_true rfl, Nat.le_of_ble_eq_true rfl⟩ (EvP.mono (by decide) (c_M_joins hT6 R8 )) (fun r11 P12 g13 => mpp 12 rfl ?_)
  obtain ⟨⟨x14, rfl, g15⟩, hT16, k17, R18⟩ := g13
  have k19 : KW [1092, 1093, 1094, 1095, 1152, 1216, 1344] Po P12 := KW.trans k9 k17 rfl
  have wx14 := ti_full x14
  show MEvP _ none q_153 12 [(0, .ref 301), (1, .int t1), (2, .int t2), (3, .int t3)] [.int x14, .ref 301] _ _ _ _
  refine mt_callv (i := 124) (q' := q_139) (As := [.int x14]) (rest := []) hT16 dX7_join_12 rfl qm_139 (by decide) rfl rl_301 (by decide) rfl (Nat.le_of_ble_eq_true rfl) rfl ⟨rfl, rfl⟩ ⟨Nat.le_of_ble_eq_true rfl, Nat.le_of_ble_eq_true rfl⟩ (EvP.mono (by decide) (c_M_ends hT16 R18 )) (fun r21 P22 g23 => mpp 15 rfl ?_)
  obtain ⟨⟨x24, rfl, g25⟩, hT26, k27, R28⟩ := g23
  have k29 : KW [1092, 1093, 1094, 1095, 1152, 1216, 1344] Po P22 := KW.trans k19 k27 rfl
  have wx24 := ti_full x24
  show MEvP _ none q_153 15 [(0, .ref 301), (1, .int t1), (2, .int t2), (3, .int t3)] [.int x24] _ _ _ _
  exact mp_iret ⟨⟨_, rfl, trivial⟩, hT26, k29, R28⟩ dX7_join_15 (Or.inl rfl)

set_option maxHeartbeats 4000000 in
theorem c_M_cuts_l108 {Po : mP} {t1 : Int32} {t2 : Int32}  : ∀ (n : Nat) (v3 : Int32) (v4 : Int32) (v5 : Int32) (v6 : Int32), ∀ (P : mP), Typ P → KW [1093, 1094, 1152, 1408, 1472] Po P → Rel P → (0 ≤ t1.toInt) → (t1.toInt ≤ 7) → (0 ≤ v4.toInt) → (2 ≤ v5.toInt) → (2 ≤ v4.toInt) → (v4.toInt + v5.toInt ≤ 8) → (0 ≤ v6.toInt) → (2147483647 - v6.toInt).toNat = n → MEvP 5 none q_157 108 [(0, .ref 301), (1, .int t1), (2, .int t2), (3, .int v3), (4, .int v4), (5, .int v5), (6, .int v6)] [] P 0 0 (fun r P' => (∃ x : Int32, r = some (.int x) ∧ (True)) ∧ Typ P' ∧ KW [1093, 1094, 1152, 1408, 1472] Po P' ∧ Rel P') := by
  intro n
  induction n using Nat.strongRecOn with | _ n ih => ?_
  intro v3 v4 v5 v6 P hT hK hR i_0 i_1 i_2 i_3 i_4 i_5 i_6 hm
  have w_t1 := ti_full t1
  have w_t2 := ti_full t2
  have w_v3 := ti_full v3
  have w_v4 := ti_full v4
  have w_v5 := ti_full v5
  have w_v6 := ti_full v6
  refine mp_a (a_iload dX7_cuts_108 rfl) (mpp 110 rfl ?_)
  refine mp_a (a_iload dX7_cuts_110 rfl) (mpp 112 rfl ?_)
  refine mp_Tb (t := 168) (j_icmp_ge dX7_cuts_112) (by decide) (fun c1 => ?_) (fun c1 => mpp 115 rfl ?_)
  · have c1 : v6.toInt ≥ v5.toInt := ti_ge c1
    refine mp_a (a_aload_n dX7_cuts_168 rfl) (mpp 169 rfl ?_)
    refine mt_getU (i := 9) (k := 0) (A := 302) hT dX7_cuts_169 rfl rl_301 (by decide) rfl (by decide) rfl un_18 (mpp 172 rfl ?_)
    refine mp_a (a_iload_n dX7_cuts_172 rfl) (mpp 173 rfl ?_)
    refine mp_a (a_iconst (v := 1) dX7_cuts_173 rfl) (mpp 174 rfl ?_)
    have p2 : 0 ≤ t1.toInt := by omega
    have p3 : t1.toInt ≤ 8 := by omega
    have p4 : 0 ≤ (1 : Int) := by omega
    have p5 : (1 : Int) ≤ 20 := by omega
    refine mp_calls (i := 74) (q' := q_135) (As := [.int t1, .int 1]) (rest := [.ref 302]) dX7_cuts_174 rfl qm_135 (by decide) rfl (Nat.le_of_ble_eq_true rfl) rfl ⟨rfl, rfl⟩ ⟨Nat.le_of_ble_eq_true rfl, Nat.le_of_ble_eq_true rfl⟩ (EvP.mono (by decide) (c_M_at hT p2 p3 p4 p5 )) (fun r6 P7 g8 => mpp 177 rfl ?_)
    obtain ⟨⟨x9, rfl, g10⟩, e11⟩ := g8
    have e11 := e11.symm
    subst e11
    have wx9 := ti_full x9
    have g10 : x9.toInt = 3 + 19 * t1.toInt + (1 : Int) := g10
    show MEvP _ none q_157 177 [(0, .ref 301), (1, .int t1), (2, .int t2), (3, .int v3), (4, .int v4), (5, .int v5), (6, .int v6)] [.int x9, .ref 302] _ _ _ _
    refine mp_a (a_iload dX7_cuts_177 rfl) (mpp 179 rfl ?_)
    refine mt_iasX (n := 155) hT dX7_cuts_179 rl_302 (by decide) rfl rfl (by omega) (by omega) ssp_0 (okS_mk (by omega) (fun _ => ⟨by omega, by omega⟩) (fun _ => ⟨by omega, by omega⟩)) (fun P12 hT13 f14 f15 f16 => mpp 180 rfl ?_)
    have k17 : KW [1093, 1094, 1152, 1408, 1472] Po P12 := KW.step hK rl_302 rfl f15 f16
    have R18 := Rel.siz hR (p := t1.toInt.toNat) f15 f14 (by omega) (by omega) ⟨by omega, by omega⟩
    refine mp_a (a_aload_n dX7_cuts_180 rfl) (mpp 181 rfl ?_)
    refine mp_a (a_iconst (v := 0) dX7_cuts_181 rfl) (mpp 182 rfl ?_)
    refine mp_a (a_iload dX7_cuts_182 rfl) (mpp 184 rfl ?_)
    have p19 : 0 ≤ (0 : Int) := by omega
    have p20 : (0 : Int) ≤ 1 := by omega
    have p21 : 2 ≤ v5.toInt := by omega
    have p22 : v5.toInt ≤ 8 := by omega
    have p23 : (0 : Int) ≠ 0 ∨ v5.toInt ≤ 7 := by omega
    refine mt_callv (i := 114) (q' := q_133) (As := [.int 0, .int v5]) (rest := []) hT13 dX7_cuts_184 rfl qm_133 (by decide) rfl rl_301 (by decide) rfl (Nat.le_of_ble_eq_true rfl) rfl ⟨rfl, rfl⟩ ⟨Nat.le_of_ble_eq_true rfl, Nat.le_of_ble_eq_true rfl⟩ (EvP.mono (by decide) (c_M_adds hT13 R18 p19 p20 p21 p22 p23 )) (fun r24 P25 g26 => mpp 187 rfl ?_)
    obtain ⟨⟨x27, rfl, g28⟩, hT29, k30, R31⟩ := g26
    have k32 : KW [1093, 1094, 1152, 1408, 1472] Po P25 := KW.trans k17 k30 rfl
    have wx27 := ti_full x27
    show MEvP _ none q_157 187 [(0, .ref 301), (1, .int t1), (2, .int t2), (3, .int v3), (4, .int v4), (5, .int v5), (6, .int v6)] [.int x27] _ _ _ _
    exact mp_iret ⟨⟨_, rfl, trivial⟩, hT29, k32, R31⟩ dX7_cuts_187 (Or.inl rfl)
  · have c1 : v6.toInt < v5.toInt := ti_ge_n c1
    refine mp_a (a_aload_n dX7_cuts_115 rfl) (mpp 116 rfl ?_)
    refine mt_getU (i := 22) (k := 9) (A := 306) hT dX7_cuts_116 rfl rl_301 (by decide) rfl (by decide) rfl un_22 (mpp 119 rfl ?_)
    refine mp_a (a_iload dX7_cuts_119 rfl) (mpp 121 rfl ?_)
    refine mp_a (a_aload_n dX7_cuts_121 rfl) (mpp 122 rfl ?_)
    refine mp_a (a_iload_n dX7_cuts_122 rfl) (mpp 123 rfl ?_)
    refine mp_a (a_iload dX7_cuts_123 rfl) (mpp 125 rfl ?_)
    refine mp_a (a_iload dX7_cuts_125 rfl) (mpp 127 rfl ?_)
    obtain ⟨z34, h35⟩ := ti_ex (v4 + v6 : Int32)
    have wz34 := ti_full z34
    refine mp_t (s_iadd (v := z34) dX7_cuts_127 h35) (mpp 128 rfl ?_)
    try have e36 : z34.toInt = v4.toInt + v6.toInt := ti_addz h35 rfl rfl (by omega) (by omega)
    have p37 : 0 ≤ t1.toInt := by omega
    have p38 : t1.toInt ≤ 7 := by omega
    have p39 : 0 ≤ z34.toInt := by omega
    have p40 : z34.toInt ≤ 7 := by omega
    refine mt_callv (i := 142) (q' := q_152) (As := [.int t1, .int z34]) (rest := [.int v6, .ref 306]) hT dX7_cuts_128 rfl qm_152 (by decide) rfl rl_301 (by decide) rfl (Nat.le_of_ble_eq_true rfl) rfl ⟨rfl, rfl⟩ ⟨Nat.le_of_ble_eq_true rfl, Nat.le_of_ble_eq_true rfl⟩ (EvP.mono (by decide) (c_M_sizeOf hT p37 p38 p39 p40 )) (fun r41 P42 g43 => mpp 131 rfl ?_)
    obtain ⟨⟨x44, rfl, g45⟩, e46⟩ := g43
    have e46 := e46.symm
    subst e46
    have wx44 := ti_full x44
    show MEvP _ none q_157 131 [(0, .ref 301), (1, .int t1), (2, .int t2), (3, .int v3), (4, .int v4), (5, .int v5), (6, .int v6)] [.int x44, .int v6, .ref 306] _ _ _ _
    refine mt_ias (n := 8) hT dX7_cuts_131 rl_306 (by decide) rfl rfl (by omega) (by omega) rfl (ti_full x44) (fun P47 hT48 f49 f50 f51 => mpp 132 rfl ?_)
    have k52 : KW [1093, 1094, 1152, 1408, 1472] Po P47 := KW.step hK rl_306 rfl f50 f51
    have R53 := Rel.ne hR rl_306 rfl f50
    refine mp_a (a_aload_n dX7_cuts_132 rfl) (mpp 133 rfl ?_)
    refine mt_getU (i := 25) (k := 10) (A := 307) hT48 dX7_cuts_133 rfl rl_301 (by decide) rfl (by decide) rfl un_23 (mpp 136 rfl ?_)
    refine mp_a (a_iload dX7_cuts_136 rfl) (mpp 138 rfl ?_)
    refine mp_a (a_iload dX7_cuts_138 rfl) (mpp 140 rfl ?_)
    refine mp_a (a_iload dX7_cuts_140 rfl) (mpp 142 rfl ?_)
    refine mp_a (a_iconst (v := 1) dX7_cuts_142 rfl) (mpp 143 rfl ?_)
    obtain ⟨z54, h55⟩ := ti_ex (v5 - 1 : Int32)
    have wz54 := ti_full z54
    refine mp_t (s_isub (v := z54) dX7_cuts_143 h55) (mpp 144 rfl ?_)
    try have e56 : z54.toInt = v5.toInt - 1 := ti_subz h55 rfl rfl (by omega) (by omega)
    refine mp_Tb (t := 160) (j_icmp_ge dX7_cuts_144) (by decide) (fun c57 => ?_) (fun c57 => mpp 147 rfl ?_)
    · have c57 : v6.toInt ≥ z54.toInt := ti_ge c57
      refine mp_a (a_iconst (v := 0) dX7_cuts_160 rfl) (mpp 161 rfl ?_)
      refine mt_ias (n := 8) hT48 dX7_cuts_161 rl_307 (by decide) rfl rfl (by omega) (by omega) rfl (by decide) (fun P58 hT59 f60 f61 f62 => mpp 162 rfl ?_)
      have k63 : KW [1093, 1094, 1152, 1408, 1472] Po P58 := KW.step k52 rl_307 rfl f61 f62
      have R64 := Rel.ne R53 rl_307 rfl f61
      obtain ⟨z65, h66⟩ := ti_ex (v6 + 1 : Int32)
      have wz65 := ti_full z65
      refine mp_a (a_iinc (v := z65) (L' := [(6, .int z65), (0, .ref 301), (1, .int t1), (2, .int t2), (3, .int v3), (4, .int v4), (5, .int v5)]) dX7_cuts_162 (by decide) rfl h66 rfl) (mpp 165 rfl ?_)
      try have e67 : z65.toInt = v6.toInt + 1 := ti_addz h66 rfl rfl (by omega) (by omega)
      refine mp_a (a_goto (t := 108) dX7_cuts_165 (by decide)) ?_
      refine MEvP.less (L := [(0, .ref 301), (1, .int t1), (2, .int t2), (3, .int v3), (4, .int v4), (5, .int v5), (6, .int z65)]) rfl rfl ⟨rfl, rfl, rfl, rfl, rfl, rfl, rfl, trivial⟩ ?_
      have i68 : 0 ≤ t1.toInt := by omega
      have i69 : t1.toInt ≤ 7 := by omega
      have i70 : 0 ≤ v4.toInt := by omega
      have i71 : 2 ≤ v5.toInt := by omega
      have i72 : 2 ≤ v4.toInt := by omega
      have i73 : v4.toInt + v5.toInt ≤ 8 := by omega
      have i74 : 0 ≤ z65.toInt := by omega
      exact ih _ (by omega) _ _ _ _ P58 hT59 k63 R64 i68 i69 i70 i71 i72 i73 i74 rfl
    · have c57 : v6.toInt < z54.toInt := ti_ge_n c57
      refine mp_a (a_aload_n dX7_cuts_147 rfl) (mpp 148 rfl ?_)
      refine mp_a (a_iload_n dX7_cuts_148 rfl) (mpp 149 rfl ?_)
      refine mp_a (a_iload dX7_cuts_149 rfl) (mpp 151 rfl ?_)
      refine mp_a (a_iload dX7_cuts_151 rfl) (mpp 153 rfl ?_)
      obtain ⟨z75, h76⟩ := ti_ex (v4 + v6 : Int32)
      have wz75 := ti_full z75
      refine mp_t (s_iadd (v := z75) dX7_cuts_153 h76) (mpp 154 rfl ?_)
      try have e77 : z75.toInt = v4.toInt + v6.toInt := ti_addz h76 rfl rfl (by omega) (by omega)
      have p78 : 0 ≤ t1.toInt := by omega
      have p79 : t1.toInt ≤ 7 := by omega
      have p80 : 0 ≤ z75.toInt := by omega
      have p81 : z75.toInt ≤ 7 := by omega
      refine mt_callv (i := 92) (q' := q_146) (As := [.int t1, .int z75]) (rest := [.int v6, .ref 307]) hT48 dX7_cuts_154 rfl qm_146 (by decide) rfl rl_301 (by decide) rfl (Nat.le_of_ble_eq_true rfl) rfl ⟨rfl, rfl⟩ ⟨Nat.le_of_ble_eq_true rfl, Nat.le_of_ble_eq_true rfl⟩ (EvP.mono (by decide) (c_M_creaseOf hT48 p78 p79 p80 p81 )) (fun r82 P83 g84 => mpp 157 rfl ?_)
      obtain ⟨⟨x85, rfl, g86⟩, e87⟩ := g84
      have e87 := e87.symm
      subst e87
      have wx85 := ti_full x85
      have g86 : x85.toInt = (fv P47 302 (14 + 19 * t1.toInt.toNat + z75.toInt.toNat)).toInt := g86
      show MEvP _ none q_157 157 [(0, .ref 301), (1, .int t1), (2, .int t2), (3, .int v3), (4, .int v4), (5, .int v5), (6, .int v6)] [.int x85, .int v6, .ref 307] _ _ _ _
      refine mp_a (a_goto (t := 161) dX7_cuts_157 (by decide)) ?_
      refine mt_ias (n := 8) hT48 dX7_cuts_161 rl_307 (by decide) rfl rfl (by omega) (by omega) rfl (ti_full x85) (fun P88 hT89 f90 f91 f92 => mpp 162 rfl ?_)
      have k93 : KW [1093, 1094, 1152, 1408, 1472] Po P88 := KW.step k52 rl_307 rfl f91 f92
      have R94 := Rel.ne R53 rl_307 rfl f91
      obtain ⟨z95, h96⟩ := ti_ex (v6 + 1 : Int32)
      have wz95 := ti_full z95
      refine mp_a (a_iinc (v := z95) (L' := [(6, .int z95), (0, .ref 301), (1, .int t1), (2, .int t2), (3, .int v3), (4, .int v4), (5, .int v5)]) dX7_cuts_162 (by decide) rfl h96 rfl) (mpp 165 rfl ?_)
      try have e97 : z95.toInt = v6.toInt + 1 := ti_addz h96 rfl rfl (by omega) (by omega)
      refine mp_a (a_goto (t := 108) dX7_cuts_165 (by decide)) ?_
      refine MEvP.less (L := [(0, .ref 301), (1, .int t1), (2, .int t2), (3, .int v3), (4, .int v4), (5, .int v5), (6, .int z95)]) rfl rfl ⟨rfl, rfl, rfl, rfl, rfl, rfl, rfl, trivial⟩ ?_
      have i98 : 0 ≤ t1.toInt := by omega
      have i99 : t1.toInt ≤ 7 := by omega
      have i100 : 0 ≤ v4.toInt := by omega
      have i101 : 2 ≤ v5.toInt := by omega
      have i102 : 2 ≤ v4.toInt := by omega
      have i103 : v4.toInt + v5.toInt ≤ 8 := by omega
      have i104 : 0 ≤ z95.toInt := by omega
      exact ih _ (by omega) _ _ _ _ P88 hT89 k93 R94 i98 i99 i100 i101 i102 i103 i104 rfl

set_option maxHeartbeats 4000000 in
theorem c_M_cuts {Po : mP} {t1 : Int32} {t2 : Int32} (hT : Typ Po) (hR : Rel Po)  : EvP 6 157 [.ref 301, .int t1, .int t2] Po (fun r P' => (∃ x : Int32, r = some (.int x) ∧ (True)) ∧ Typ P' ∧ KW [1093, 1094, 1152, 1408, 1472] Po P' ∧ Rel P') := by
  refine EvP.of qm_157 (Nat.le_of_ble_eq_true rfl) rfl ?_
  show MEvP _ none q_157 0 [(0, .ref 301), (1, .int t1), (2, .int t2)] [] _ 0 0 _
  refine mp_a (a_aload_n dX7_cuts_0 rfl) (mpp 1 rfl ?_)
  refine mp_a (a_iload_n dX7_cuts_1 rfl) (mpp 2 rfl ?_)
  refine mp_a (a_iload_n dX7_cuts_2 rfl) (mpp 3 rfl ?_)
  refine mt_callv (i := 127) (q' := q_143) (As := [.int t1, .int t2]) (rest := []) hT dX7_cuts_3 rfl qm_143 (by decide) rfl rl_301 (by decide) rfl (Nat.le_of_ble_eq_true rfl) rfl ⟨rfl, rfl⟩ ⟨Nat.le_of_ble_eq_true rfl, Nat.le_of_ble_eq_true rfl⟩ (EvP.mono (by decide) (c_M_isCrease hT )) (fun r1 P2 g3 => mpp 6 rfl ?_)
  obtain ⟨⟨x4, rfl, g5⟩, e6⟩ := g3
  have e6 := e6.symm
  subst e6
  have wx4 := ti_full x4
  have g5 : 0 ≤ x4.toInt ∧ x4.toInt ≤ 1 ∧ (x4.toInt = 0 ∨ (0 ≤ t1.toInt ∧ t1.toInt + 1 ≤ (fv Po 302 0).toInt ∧ t1.toInt ≤ 7 ∧ 0 ≤ t2.toInt ∧ t2.toInt ≤ 7 ∧ t2.toInt + 1 ≤ (fv Po 302 (4 + 19 * t1.toInt.toNat)).toInt)) := g5
  have g7 : (0 : Int) ≤ (fv Po 302 0).toInt ∧ (fv Po 302 0).toInt ≤ 8 := Typ.rng hT rl_302 (by decide) (by decide) rfl
  have g8 := ti_full (fv Po 302 (4 + 19 * t1.toInt.toNat))
  show MEvP _ none q_157 6 [(0, .ref 301), (1, .int t1), (2, .int t2)] [.int x4] _ _ _ _
  refine mp_Tb (t := 13) (j_if_ne dX7_cuts_6) (by decide) (fun c9 => ?_) (fun c9 => mpp 9 rfl ?_)
  · have c9 : x4.toInt ≠ 0 := ti_ne c9
    refine mp_a (a_aload_n dX7_cuts_13 rfl) (mpp 14 rfl ?_)
    refine mt_getU (i := 9) (k := 0) (A := 302) hT dX7_cuts_14 rfl rl_301 (by decide) rfl (by decide) rfl un_18 (mpp 17 rfl ?_)
    refine mp_a (a_iconst (v := 0) dX7_cuts_17 rfl) (mpp 18 rfl ?_)
    refine mt_ialX (n := 155) hT dX7_cuts_18 rl_302 (by decide) rfl rfl (by decide) (by decide) ssp_0 (fun g10 => mpp 19 rfl ?_)
    have we12 := ti_full (fv Po 302 0)
    refine mp_a (a_bipush (v := 8) dX7_cuts_19 rfl) (mpp 21 rfl ?_)
    refine mp_Tb (t := 32) (j_icmp_ne dX7_cuts_21) (by decide) (fun c13 => ?_) (fun c13 => mpp 24 rfl ?_)
    · have c13 : (fv Po 302 0).toInt ≠ 8 := ti_ne c13
      refine mp_a (a_aload_n dX7_cuts_32 rfl) (mpp 33 rfl ?_)
      refine mp_a (a_iload_n dX7_cuts_33 rfl) (mpp 34 rfl ?_)
      have p14 : 0 ≤ t1.toInt := by omega
      have p15 : t1.toInt ≤ 7 := by omega
      refine mt_callv (i := 130) (q' := q_145) (As := [.int t1]) (rest := []) hT dX7_cuts_34 rfl qm_145 (by decide) rfl rl_301 (by decide) rfl (Nat.le_of_ble_eq_true rfl) rfl ⟨rfl, rfl⟩ ⟨Nat.le_of_ble_eq_true rfl, Nat.le_of_ble_eq_true rfl⟩ (EvP.mono (by decide) (c_M_isFolded hT p14 p15 )) (fun r16 P17 g18 => mpp 37 rfl ?_)
      obtain ⟨⟨x19, rfl, g20⟩, e21⟩ := g18
      have e21 := e21.symm
      subst e21
      have wx19 := ti_full x19
      have g20 : 0 ≤ x19.toInt ∧ x19.toInt ≤ 1 := g20
      show MEvP _ none q_157 37 [(0, .ref 301), (1, .int t1), (2, .int t2)] [.int x19] _ _ _ _
      refine mp_Tb (t := 47) (j_if_eq dX7_cuts_37) (by decide) (fun c22 => ?_) (fun c22 => mpp 40 rfl ?_)
      · have c22 : x19.toInt = 0 := ti_eq c22
        refine mp_a (a_aload_n dX7_cuts_47 rfl) (mpp 48 rfl ?_)
        refine mp_a (a_iload_n dX7_cuts_48 rfl) (mpp 49 rfl ?_)
        have p23 : 0 ≤ t1.toInt := by omega
        have p24 : t1.toInt ≤ 7 := by omega
        refine mt_callv (i := 81) (q' := q_138) (As := [.int t1]) (rest := []) hT dX7_cuts_49 rfl qm_138 (by decide) rfl rl_301 (by decide) rfl (Nat.le_of_ble_eq_true rfl) rfl ⟨rfl, rfl⟩ ⟨Nat.le_of_ble_eq_true rfl, Nat.le_of_ble_eq_true rfl⟩ (EvP.mono (by decide) (c_M_isCorner hT p23 p24 )) (fun r25 P26 g27 => mpp 52 rfl ?_)
        obtain ⟨⟨x28, rfl, g29⟩, e30⟩ := g27
        have e30 := e30.symm
        subst e30
        have wx28 := ti_full x28
        have g29 : 0 ≤ x28.toInt ∧ x28.toInt ≤ 1 ∧ ((x28.toInt = 1 ∧ (fv Po 302 (3 + 19 * t1.toInt.toNat)).toInt = 1) ∨ (x28.toInt = 0 ∧ (fv Po 302 (3 + 19 * t1.toInt.toNat)).toInt = 0)) := g29
        have g31 := ti_full (fv Po 302 (3 + 19 * t1.toInt.toNat))
        show MEvP _ none q_157 52 [(0, .ref 301), (1, .int t1), (2, .int t2)] [.int x28] _ _ _ _
        refine mp_Tb (t := 62) (j_if_eq dX7_cuts_52) (by decide) (fun c32 => ?_) (fun c32 => mpp 55 rfl ?_)
        · have c32 : x28.toInt = 0 := ti_eq c32
          refine mp_a (a_aload_n dX7_cuts_62 rfl) (mpp 63 rfl ?_)
          refine mp_a (a_iload_n dX7_cuts_63 rfl) (mpp 64 rfl ?_)
          refine mp_a (a_iconst (v := 1) dX7_cuts_64 rfl) (mpp 65 rfl ?_)
          have p33 : 0 ≤ t1.toInt := by omega
          have p34 : t1.toInt ≤ 7 := by omega
          have p35 : 0 ≤ (1 : Int) := by omega
          have p36 : (1 : Int) ≤ 18 := by omega
          refine mt_callv (i := 78) (q' := q_137) (As := [.int t1, .int 1]) (rest := []) hT dX7_cuts_65 rfl qm_137 (by decide) rfl rl_301 (by decide) rfl (Nat.le_of_ble_eq_true rfl) rfl ⟨rfl, rfl⟩ ⟨Nat.le_of_ble_eq_true rfl, Nat.le_of_ble_eq_true rfl⟩ (EvP.mono (by decide) (c_M_of_c1 hT p33 p34 p35 p36 )) (fun r37 P38 g39 => mpp 68 rfl ?_)
          obtain ⟨⟨x40, rfl, g41⟩, e42⟩ := g39
          have e42 := e42.symm
          subst e42
          have wx40 := ti_full x40
          have g41 : x40.toInt = (fv Po 302 (4 + 19 * t1.toInt.toNat)).toInt ∧ 0 ≤ x40.toInt ∧ x40.toInt ≤ 8 := g41
          show MEvP _ none q_157 68 [(0, .ref 301), (1, .int t1), (2, .int t2)] [.int x40] _ _ _ _
          refine mp_a (a_istore_n (L' := [(3, .int x40), (0, .ref 301), (1, .int t1), (2, .int t2)]) dX7_cuts_68 (by decide) rfl) (mpp 69 rfl ?_)
          refine mp_a (a_iload_n dX7_cuts_69 rfl) (mpp 70 rfl ?_)
          refine mp_a (a_iconst (v := 1) dX7_cuts_70 rfl) (mpp 71 rfl ?_)
          obtain ⟨z43, h44⟩ := ti_ex (t2 + 1 : Int32)
          have wz43 := ti_full z43
          refine mp_t (s_iadd (v := z43) dX7_cuts_71 h44) (mpp 72 rfl ?_)
          try have e45 : z43.toInt = t2.toInt + 1 := ti_addz h44 rfl rfl (by omega) (by omega)
          refine mp_a (a_istore (L' := [(4, .int z43), (3, .int x40), (0, .ref 301), (1, .int t1), (2, .int t2)]) dX7_cuts_72 (by decide) rfl) (mpp 74 rfl ?_)
          refine mp_a (a_iload_n dX7_cuts_74 rfl) (mpp 75 rfl ?_)
          refine mp_a (a_iload dX7_cuts_75 rfl) (mpp 77 rfl ?_)
          obtain ⟨z46, h47⟩ := ti_ex (x40 - z43 : Int32)
          have wz46 := ti_full z46
          refine mp_t (s_isub (v := z46) dX7_cuts_77 h47) (mpp 78 rfl ?_)
          try have e48 : z46.toInt = x40.toInt - z43.toInt := ti_subz h47 rfl rfl (by omega) (by omega)
          refine mp_a (a_istore (L' := [(5, .int z46), (4, .int z43), (3, .int x40), (0, .ref 301), (1, .int t1), (2, .int t2)]) dX7_cuts_78 (by decide) rfl) (mpp 80 rfl ?_)
          refine mp_a (a_iload dX7_cuts_80 rfl) (mpp 82 rfl ?_)
          refine mp_a (a_iload dX7_cuts_82 rfl) (mpp 84 rfl ?_)
          refine mp_calls (i := 155) (q' := q_158) (As := [.int z43, .int z46]) (rest := []) dX7_cuts_84 rfl qm_158 (by decide) rfl (Nat.le_of_ble_eq_true rfl) rfl ⟨rfl, rfl⟩ ⟨Nat.le_of_ble_eq_true rfl, Nat.le_of_ble_eq_true rfl⟩ (EvP.mono (by decide) (c_M_lesser hT )) (fun r49 P50 g51 => mpp 87 rfl ?_)
          obtain ⟨⟨x52, rfl, g53⟩, e54⟩ := g51
          have e54 := e54.symm
          subst e54
          have wx52 := ti_full x52
          have g53 : (x52.toInt = z43.toInt ∧ z43.toInt ≤ z46.toInt) ∨ (x52.toInt = z46.toInt ∧ z46.toInt ≤ z43.toInt) := g53
          show MEvP _ none q_157 87 [(5, .int z46), (4, .int z43), (3, .int x40), (0, .ref 301), (1, .int t1), (2, .int t2)] [.int x52] _ _ _ _
          refine mp_a (a_iconst (v := 2) dX7_cuts_87 rfl) (mpp 88 rfl ?_)
          refine mp_Tb (t := 105) (j_icmp_ge dX7_cuts_88) (by decide) (fun c55 => ?_) (fun c55 => mpp 91 rfl ?_)
          · have c55 : x52.toInt ≥ 2 := ti_ge c55
            refine mp_a (a_iconst (v := 0) dX7_cuts_105 rfl) (mpp 106 rfl ?_)
            refine mp_a (a_istore (L' := [(6, .int 0), (5, .int z46), (4, .int z43), (3, .int x40), (0, .ref 301), (1, .int t1), (2, .int t2)]) dX7_cuts_106 (by decide) rfl) (mpp 108 rfl ?_)
            refine MEvP.less (L := [(0, .ref 301), (1, .int t1), (2, .int t2), (3, .int x40), (4, .int z43), (5, .int z46), (6, .int 0)]) rfl rfl ⟨rfl, rfl, rfl, rfl, rfl, rfl, rfl, trivial⟩ ?_
            have i56 : 0 ≤ t1.toInt := by omega
            have i57 : t1.toInt ≤ 7 := by omega
            have i58 : 0 ≤ z43.toInt := by omega
            have i59 : 2 ≤ z46.toInt := by omega
            have i60 : 2 ≤ z43.toInt := by omega
            have i61 : z43.toInt + z46.toInt ≤ 8 := by omega
            have i62 : 0 ≤ (0 : Int) := by omega
            exact c_M_cuts_l108    _ _ _ _ _ Po hT KW.refl hR i56 i57 i58 i59 i60 i61 i62 rfl
          · have c55 : x52.toInt < 2 := ti_ge_n c55
            refine mp_a (a_aload_n dX7_cuts_91 rfl) (mpp 92 rfl ?_)
            refine mp_a (a_bipush (v := 6) dX7_cuts_92 rfl) (mpp 94 rfl ?_)
            refine mp_a (a_iload dX7_cuts_94 rfl) (mpp 96 rfl ?_)
            refine mp_a (a_iload dX7_cuts_96 rfl) (mpp 98 rfl ?_)
            refine mp_calls (i := 155) (q' := q_158) (As := [.int z43, .int z46]) (rest := [.int 6, .ref 301]) dX7_cuts_98 rfl qm_158 (by decide) rfl (Nat.le_of_ble_eq_true rfl) rfl ⟨rfl, rfl⟩ ⟨Nat.le_of_ble_eq_true rfl, Nat.le_of_ble_eq_true rfl⟩ (EvP.mono (by decide) (c_M_lesser hT )) (fun r63 P64 g65 => mpp 101 rfl ?_)
            obtain ⟨⟨x66, rfl, g67⟩, e68⟩ := g65
            have e68 := e68.symm
            subst e68
            have wx66 := ti_full x66
            have g67 : (x66.toInt = z43.toInt ∧ z43.toInt ≤ z46.toInt) ∨ (x66.toInt = z46.toInt ∧ z46.toInt ≤ z43.toInt) := g67
            show MEvP _ none q_157 101 [(5, .int z46), (4, .int z43), (3, .int x40), (0, .ref 301), (1, .int t1), (2, .int t2)] [.int x66, .int 6, .ref 301] _ _ _ _
            refine mt_callv (i := 101) (q' := q_134) (As := [.int 6, .int x66]) (rest := []) hT dX7_cuts_101 rfl qm_134 (by decide) rfl rl_301 (by decide) rfl (Nat.le_of_ble_eq_true rfl) rfl ⟨rfl, rfl⟩ ⟨Nat.le_of_ble_eq_true rfl, Nat.le_of_ble_eq_true rfl⟩ (EvP.mono (by decide) (c_M_refuses hT )) (fun r69 P70 g71 => mpp 104 rfl ?_)
            obtain ⟨⟨x72, rfl, g73⟩, hT74, k75, R76⟩ := g71
            have k77 : KW [1093, 1094, 1152, 1408, 1472] Po P70 := KW.trans KW.refl k75 rfl
            have R79 := Rel.kw hR k75 rfl
            have wx72 := ti_full x72
            show MEvP _ none q_157 104 [(5, .int z46), (4, .int z43), (3, .int x40), (0, .ref 301), (1, .int t1), (2, .int t2)] [.int x72] _ _ _ _
            exact mp_iret ⟨⟨_, rfl, trivial⟩, hT74, k77, R79⟩ dX7_cuts_104 (Or.inl rfl)
        · have c32 : x28.toInt ≠ 0 := ti_eq_n c32
          refine mp_a (a_aload_n dX7_cuts_55 rfl) (mpp 56 rfl ?_)
          refine mp_a (a_iconst (v := 3) dX7_cuts_56 rfl) (mpp 57 rfl ?_)
          refine mp_a (a_iload_n dX7_cuts_57 rfl) (mpp 58 rfl ?_)
          refine mt_callv (i := 101) (q' := q_134) (As := [.int 3, .int t1]) (rest := []) hT dX7_cuts_58 rfl qm_134 (by decide) rfl rl_301 (by decide) rfl (Nat.le_of_ble_eq_true rfl) rfl ⟨rfl, rfl⟩ ⟨Nat.le_of_ble_eq_true rfl, Nat.le_of_ble_eq_true rfl⟩ (EvP.mono (by decide) (c_M_refuses hT )) (fun r80 P81 g82 => mpp 61 rfl ?_)
          obtain ⟨⟨x83, rfl, g84⟩, hT85, k86, R87⟩ := g82
          have k88 : KW [1093, 1094, 1152, 1408, 1472] Po P81 := KW.trans KW.refl k86 rfl
          have R90 := Rel.kw hR k86 rfl
          have wx83 := ti_full x83
          show MEvP _ none q_157 61 [(0, .ref 301), (1, .int t1), (2, .int t2)] [.int x83] _ _ _ _
          exact mp_iret ⟨⟨_, rfl, trivial⟩, hT85, k88, R90⟩ dX7_cuts_61 (Or.inl rfl)
      · have c22 : x19.toInt ≠ 0 := ti_eq_n c22
        refine mp_a (a_aload_n dX7_cuts_40 rfl) (mpp 41 rfl ?_)
        refine mp_a (a_iconst (v := 2) dX7_cuts_41 rfl) (mpp 42 rfl ?_)
        refine mp_a (a_iload_n dX7_cuts_42 rfl) (mpp 43 rfl ?_)
        refine mt_callv (i := 101) (q' := q_134) (As := [.int 2, .int t1]) (rest := []) hT dX7_cuts_43 rfl qm_134 (by decide) rfl rl_301 (by decide) rfl (Nat.le_of_ble_eq_true rfl) rfl ⟨rfl, rfl⟩ ⟨Nat.le_of_ble_eq_true rfl, Nat.le_of_ble_eq_true rfl⟩ (EvP.mono (by decide) (c_M_refuses hT )) (fun r91 P92 g93 => mpp 46 rfl ?_)
        obtain ⟨⟨x94, rfl, g95⟩, hT96, k97, R98⟩ := g93
        have k99 : KW [1093, 1094, 1152, 1408, 1472] Po P92 := KW.trans KW.refl k97 rfl
        have R101 := Rel.kw hR k97 rfl
        have wx94 := ti_full x94
        show MEvP _ none q_157 46 [(0, .ref 301), (1, .int t1), (2, .int t2)] [.int x94] _ _ _ _
        exact mp_iret ⟨⟨_, rfl, trivial⟩, hT96, k99, R101⟩ dX7_cuts_46 (Or.inl rfl)
    · have c13 : (fv Po 302 0).toInt = 8 := ti_ne_n c13
      refine mp_a (a_aload_n dX7_cuts_24 rfl) (mpp 25 rfl ?_)
      refine mp_a (a_iconst (v := 1) dX7_cuts_25 rfl) (mpp 26 rfl ?_)
      refine mp_a (a_bipush (v := 8) dX7_cuts_26 rfl) (mpp 28 rfl ?_)
      refine mt_callv (i := 101) (q' := q_134) (As := [.int 1, .int 8]) (rest := []) hT dX7_cuts_28 rfl qm_134 (by decide) rfl rl_301 (by decide) rfl (Nat.le_of_ble_eq_true rfl) rfl ⟨rfl, rfl⟩ ⟨Nat.le_of_ble_eq_true rfl, Nat.le_of_ble_eq_true rfl⟩ (EvP.mono (by decide) (c_M_refuses hT )) (fun r102 P103 g104 => mpp 31 rfl ?_)
      obtain ⟨⟨x105, rfl, g106⟩, hT107, k108, R109⟩ := g104
      have k110 : KW [1093, 1094, 1152, 1408, 1472] Po P103 := KW.trans KW.refl k108 rfl
      have R112 := Rel.kw hR k108 rfl
      have wx105 := ti_full x105
      show MEvP _ none q_157 31 [(0, .ref 301), (1, .int t1), (2, .int t2)] [.int x105] _ _ _ _
      exact mp_iret ⟨⟨_, rfl, trivial⟩, hT107, k110, R112⟩ dX7_cuts_31 (Or.inl rfl)
  · have c9 : x4.toInt = 0 := ti_ne_n c9
    refine mp_a (a_sipush (v := -1001) dX7_cuts_9 rfl) (mpp 12 rfl ?_)
    exact mp_iret ⟨⟨_, rfl, trivial⟩, hT, KW.refl, hR⟩ dX7_cuts_12 (Or.inl rfl)

set_option maxHeartbeats 4000000 in
theorem c_M_cut {Po : mP} {t1 : Int32} {t2 : Int32} (hT : Typ Po) (hR : Rel Po)  : EvP 7 156 [.ref 301, .int t1, .int t2] Po (fun r P' => (∃ x : Int32, r = some (.int x) ∧ (True)) ∧ Typ P' ∧ KW [1092, 1093, 1094, 1095, 1152, 1216, 1344, 1408, 1472] Po P' ∧ Rel P') := by
  refine EvP.of qm_156 (Nat.le_of_ble_eq_true rfl) rfl ?_
  show MEvP _ none q_156 0 [(0, .ref 301), (1, .int t1), (2, .int t2)] [] _ 0 0 _
  refine mp_a (a_aload_n dX7_cut_0 rfl) (mpp 1 rfl ?_)
  refine mt_callv (i := 117) (q' := q_124) (As := []) (rest := []) hT dX7_cut_1 rfl qm_124 (by decide) rfl rl_301 (by decide) rfl (Nat.le_of_ble_eq_true rfl) rfl ⟨rfl, rfl⟩ ⟨Nat.le_of_ble_eq_true rfl, Nat.le_of_ble_eq_true rfl⟩ (EvP.mono (by decide) (c_M_keeps hT hR )) (fun r1 P2 g3 => mpp 4 rfl ?_)
  obtain ⟨⟨rfl, g5⟩, hT6, k7, R8⟩ := g3
  have k9 : KW [1092, 1093, 1094, 1095, 1152, 1216, 1344, 1408, 1472] Po P2 := KW.trans KW.refl k7 rfl
  show MEvP _ none q_156 4 [(0, .ref 301), (1, .int t1), (2, .int t2)] [] _ _ _ _
  refine mp_a (a_aload_n dX7_cut_4 rfl) (mpp 5 rfl ?_)
  refine mp_a (a_aload_n dX7_cut_5 rfl) (mpp 6 rfl ?_)
  refine mp_a (a_iload_n dX7_cut_6 rfl) (mpp 7 rfl ?_)
  refine mp_a (a_iload_n dX7_cut_7 rfl) (mpp 8 rfl ?_)
  refine mt_callv (i := 158) (q' := q_157) (As := [.int t1, .int t2]) (rest := [.ref 301]) hT6 dX7_cut_8 rfl qm_157 (by decide) rfl rl_301 (by decide) rfl (Nat.le_of_ble_eq_true rfl) rfl ⟨rfl, rfl⟩ ⟨Nat.le_of_ble_eq_true rfl, Nat.le_of_ble_eq_true rfl⟩ (EvP.mono (by decide) (c_M_cuts hT6 R8 )) (fun r11 P12 g13 => mpp 11 rfl ?_)
  obtain ⟨⟨x14, rfl, g15⟩, hT16, k17, R18⟩ := g13
  have k19 : KW [1092, 1093, 1094, 1095, 1152, 1216, 1344, 1408, 1472] Po P12 := KW.trans k9 k17 rfl
  have wx14 := ti_full x14
  show MEvP _ none q_156 11 [(0, .ref 301), (1, .int t1), (2, .int t2)] [.int x14, .ref 301] _ _ _ _
  refine mt_callv (i := 124) (q' := q_139) (As := [.int x14]) (rest := []) hT16 dX7_cut_11 rfl qm_139 (by decide) rfl rl_301 (by decide) rfl (Nat.le_of_ble_eq_true rfl) rfl ⟨rfl, rfl⟩ ⟨Nat.le_of_ble_eq_true rfl, Nat.le_of_ble_eq_true rfl⟩ (EvP.mono (by decide) (c_M_ends hT16 R18 )) (fun r21 P22 g23 => mpp 14 rfl ?_)
  obtain ⟨⟨x24, rfl, g25⟩, hT26, k27, R28⟩ := g23
  have k29 : KW [1092, 1093, 1094, 1095, 1152, 1216, 1344, 1408, 1472] Po P22 := KW.trans k19 k27 rfl
  have wx24 := ti_full x24
  show MEvP _ none q_156 14 [(0, .ref 301), (1, .int t1), (2, .int t2)] [.int x24] _ _ _ _
  exact mp_iret ⟨⟨_, rfl, trivial⟩, hT26, k29, R28⟩ dX7_cut_14 (Or.inl rfl)

