/-! methods on typed pools, 23 (written by a program) -/
set_option maxHeartbeats 4000000 in
theorem c_M_joins {Po : mP} {t1 : Int32} {t2 : Int32} {t3 : Int32} (hT : Typ Po) (hR : Rel Po)  : EvP 4 154 [.ref 301, .int t1, .int t2, .int t3] Po (fun r P' => (∃ x : Int32, r = some (.int x) ∧ (True)) ∧ Typ P' ∧ KW [1093, 1094, 1152] Po P' ∧ Rel P') := by
  refine EvP.of qm_154 (Nat.le_of_ble_eq_true rfl) rfl ?_
  show MEvP _ none q_154 0 [(0, .ref 301), (1, .int t1), (2, .int t2), (3, .int t3)] [] _ 0 0 _
  refine mp_a (a_aload_n dX7_joins_0 rfl) (mpp 1 rfl ?_)
  refine mp_a (a_iload_n dX7_joins_1 rfl) (mpp 2 rfl ?_)
  refine mt_callv (i := 85) (q' := q_144) (As := [.int t1]) (rest := []) hT dX7_joins_2 rfl qm_144 (by decide) rfl rl_301 (by decide) rfl (Nat.le_of_ble_eq_true rfl) rfl ⟨rfl, rfl⟩ ⟨Nat.le_of_ble_eq_true rfl, Nat.le_of_ble_eq_true rfl⟩ (EvP.mono (by decide) (c_M_isPiece hT )) (fun r1 P2 g3 => mpp 5 rfl ?_)
  obtain ⟨⟨x4, rfl, g5⟩, e6⟩ := g3
  have e6 := e6.symm
  subst e6
  have wx4 := ti_full x4
  have g5 : 0 ≤ x4.toInt ∧ x4.toInt ≤ 1 ∧ ((x4.toInt = 1 ∧ 0 ≤ t1.toInt ∧ t1.toInt + 1 ≤ (fv Po 302 0).toInt ∧ t1.toInt ≤ 7) ∨ (x4.toInt = 0 ∧ (t1.toInt < 0 ∨ (fv Po 302 0).toInt ≤ t1.toInt))) := g5
  have g7 : (0 : Int) ≤ (fv Po 302 0).toInt ∧ (fv Po 302 0).toInt ≤ 8 := Typ.rng hT rl_302 (by decide) (by decide) rfl
  show MEvP _ none q_154 5 [(0, .ref 301), (1, .int t1), (2, .int t2), (3, .int t3)] [.int x4] _ _ _ _
  refine mp_Tb (t := 21) (j_if_eq dX7_joins_5) (by decide) (fun c8 => ?_) (fun c8 => mpp 8 rfl ?_)
  · have c8 : x4.toInt = 0 := ti_eq c8
    refine mp_a (a_sipush (v := -1001) dX7_joins_21 rfl) (mpp 24 rfl ?_)
    exact mp_iret ⟨⟨_, rfl, trivial⟩, hT, KW.refl, hR⟩ dX7_joins_24 (Or.inl rfl)
  · have c8 : x4.toInt ≠ 0 := ti_eq_n c8
    refine mp_a (a_aload_n dX7_joins_8 rfl) (mpp 9 rfl ?_)
    refine mp_a (a_iload_n dX7_joins_9 rfl) (mpp 10 rfl ?_)
    refine mt_callv (i := 85) (q' := q_144) (As := [.int t2]) (rest := []) hT dX7_joins_10 rfl qm_144 (by decide) rfl rl_301 (by decide) rfl (Nat.le_of_ble_eq_true rfl) rfl ⟨rfl, rfl⟩ ⟨Nat.le_of_ble_eq_true rfl, Nat.le_of_ble_eq_true rfl⟩ (EvP.mono (by decide) (c_M_isPiece hT )) (fun r9 P10 g11 => mpp 13 rfl ?_)
    obtain ⟨⟨x12, rfl, g13⟩, e14⟩ := g11
    have e14 := e14.symm
    subst e14
    have wx12 := ti_full x12
    have g13 : 0 ≤ x12.toInt ∧ x12.toInt ≤ 1 ∧ ((x12.toInt = 1 ∧ 0 ≤ t2.toInt ∧ t2.toInt + 1 ≤ (fv Po 302 0).toInt ∧ t2.toInt ≤ 7) ∨ (x12.toInt = 0 ∧ (t2.toInt < 0 ∨ (fv Po 302 0).toInt ≤ t2.toInt))) := g13
    show MEvP _ none q_154 13 [(0, .ref 301), (1, .int t1), (2, .int t2), (3, .int t3)] [.int x12] _ _ _ _
    refine mp_Tb (t := 21) (j_if_eq dX7_joins_13) (by decide) (fun c15 => ?_) (fun c15 => mpp 16 rfl ?_)
    · have c15 : x12.toInt = 0 := ti_eq c15
      refine mp_a (a_sipush (v := -1001) dX7_joins_21 rfl) (mpp 24 rfl ?_)
      exact mp_iret ⟨⟨_, rfl, trivial⟩, hT, KW.refl, hR⟩ dX7_joins_24 (Or.inl rfl)
    · have c15 : x12.toInt ≠ 0 := ti_eq_n c15
      refine mp_a (a_iload_n dX7_joins_16 rfl) (mpp 17 rfl ?_)
      refine mp_a (a_iload_n dX7_joins_17 rfl) (mpp 18 rfl ?_)
      refine mp_Tb (t := 25) (j_icmp_ne dX7_joins_18) (by decide) (fun c16 => ?_) (fun c16 => mpp 21 rfl ?_)
      · have c16 : t1.toInt ≠ t2.toInt := ti_ne c16
        refine mp_a (a_iload_n dX7_joins_25 rfl) (mpp 26 rfl ?_)
        refine mp_a (a_iconst (v := 0) dX7_joins_26 rfl) (mpp 27 rfl ?_)
        refine mp_a (a_iconst (v := 2) dX7_joins_27 rfl) (mpp 28 rfl ?_)
        refine mp_calls (i := 61) (q' := q_127) (As := [.int t3, .int 0, .int 2]) (rest := []) dX7_joins_28 rfl qm_127 (by decide) rfl (Nat.le_of_ble_eq_true rfl) rfl ⟨rfl, rfl⟩ ⟨Nat.le_of_ble_eq_true rfl, Nat.le_of_ble_eq_true rfl⟩ (EvP.mono (by decide) (c_M_isIn hT )) (fun r17 P18 g19 => mpp 31 rfl ?_)
        obtain ⟨⟨x20, rfl, g21⟩, e22⟩ := g19
        have e22 := e22.symm
        subst e22
        have wx20 := ti_full x20
        have g21 : 0 ≤ x20.toInt ∧ x20.toInt ≤ 1 ∧ ((x20.toInt = 1 ∧ (0 : Int) ≤ t3.toInt ∧ t3.toInt ≤ (2 : Int)) ∨ (x20.toInt = 0 ∧ (t3.toInt < (0 : Int) ∨ (2 : Int) < t3.toInt))) := g21
        show MEvP _ none q_154 31 [(0, .ref 301), (1, .int t1), (2, .int t2), (3, .int t3)] [.int x20] _ _ _ _
        refine mp_Tb (t := 38) (j_if_ne dX7_joins_31) (by decide) (fun c23 => ?_) (fun c23 => mpp 34 rfl ?_)
        · have c23 : x20.toInt ≠ 0 := ti_ne c23
          refine mp_a (a_aload_n dX7_joins_38 rfl) (mpp 39 rfl ?_)
          refine mp_a (a_iload_n dX7_joins_39 rfl) (mpp 40 rfl ?_)
          have p24 : 0 ≤ t1.toInt := by omega
          have p25 : t1.toInt ≤ 7 := by omega
          refine mt_callv (i := 130) (q' := q_145) (As := [.int t1]) (rest := []) hT dX7_joins_40 rfl qm_145 (by decide) rfl rl_301 (by decide) rfl (Nat.le_of_ble_eq_true rfl) rfl ⟨rfl, rfl⟩ ⟨Nat.le_of_ble_eq_true rfl, Nat.le_of_ble_eq_true rfl⟩ (EvP.mono (by decide) (c_M_isFolded hT p24 p25 )) (fun r26 P27 g28 => mpp 43 rfl ?_)
          obtain ⟨⟨x29, rfl, g30⟩, e31⟩ := g28
          have e31 := e31.symm
          subst e31
          have wx29 := ti_full x29
          have g30 : 0 ≤ x29.toInt ∧ x29.toInt ≤ 1 ∧ ((x29.toInt = 1 ∧ (fv Po 302 (5 + 19 * t1.toInt.toNat)).toInt = 1) ∨ (x29.toInt = 0 ∧ (fv Po 302 (5 + 19 * t1.toInt.toNat)).toInt ≠ 1)) := g30
          have g32 := ti_full (fv Po 302 (5 + 19 * t1.toInt.toNat))
          show MEvP _ none q_154 43 [(0, .ref 301), (1, .int t1), (2, .int t2), (3, .int t3)] [.int x29] _ _ _ _
          refine mp_Tb (t := 54) (j_if_ne dX7_joins_43) (by decide) (fun c33 => ?_) (fun c33 => mpp 46 rfl ?_)
          · have c33 : x29.toInt ≠ 0 := ti_ne c33
            refine mp_a (a_aload_n dX7_joins_54 rfl) (mpp 55 rfl ?_)
            refine mp_a (a_iconst (v := 2) dX7_joins_55 rfl) (mpp 56 rfl ?_)
            refine mp_a (a_aload_n dX7_joins_56 rfl) (mpp 57 rfl ?_)
            refine mp_a (a_iload_n dX7_joins_57 rfl) (mpp 58 rfl ?_)
            have p34 : 0 ≤ t1.toInt := by omega
            have p35 : t1.toInt ≤ 7 := by omega
            refine mt_callv (i := 130) (q' := q_145) (As := [.int t1]) (rest := [.int 2, .ref 301]) hT dX7_joins_58 rfl qm_145 (by decide) rfl rl_301 (by decide) rfl (Nat.le_of_ble_eq_true rfl) rfl ⟨rfl, rfl⟩ ⟨Nat.le_of_ble_eq_true rfl, Nat.le_of_ble_eq_true rfl⟩ (EvP.mono (by decide) (c_M_isFolded hT p34 p35 )) (fun r36 P37 g38 => mpp 61 rfl ?_)
            obtain ⟨⟨x39, rfl, g40⟩, e41⟩ := g38
            have e41 := e41.symm
            subst e41
            have wx39 := ti_full x39
            have g40 : 0 ≤ x39.toInt ∧ x39.toInt ≤ 1 ∧ ((x39.toInt = 1 ∧ (fv Po 302 (5 + 19 * t1.toInt.toNat)).toInt = 1) ∨ (x39.toInt = 0 ∧ (fv Po 302 (5 + 19 * t1.toInt.toNat)).toInt ≠ 1)) := g40
            show MEvP _ none q_154 61 [(0, .ref 301), (1, .int t1), (2, .int t2), (3, .int t3)] [.int x39, .int 2, .ref 301] _ _ _ _
            refine mp_Tb (t := 68) (j_if_eq dX7_joins_61) (by decide) (fun c42 => ?_) (fun c42 => mpp 64 rfl ?_)
            · have c42 : x39.toInt = 0 := ti_eq c42
              refine mp_a (a_iload_n dX7_joins_68 rfl) (mpp 69 rfl ?_)
              refine mt_callv (i := 101) (q' := q_134) (As := [.int 2, .int t2]) (rest := []) hT dX7_joins_69 rfl qm_134 (by decide) rfl rl_301 (by decide) rfl (Nat.le_of_ble_eq_true rfl) rfl ⟨rfl, rfl⟩ ⟨Nat.le_of_ble_eq_true rfl, Nat.le_of_ble_eq_true rfl⟩ (EvP.mono (by decide) (c_M_refuses hT )) (fun r43 P44 g45 => mpp 72 rfl ?_)
              obtain ⟨⟨x46, rfl, g47⟩, hT48, k49, R50⟩ := g45
              have k51 : KW [1093, 1094, 1152] Po P44 := KW.trans KW.refl k49 rfl
              have R53 := Rel.kw hR k49 rfl
              have wx46 := ti_full x46
              have g47 : x46.toInt = -1003 := g47
              show MEvP _ none q_154 72 [(0, .ref 301), (1, .int t1), (2, .int t2), (3, .int t3)] [.int x46] _ _ _ _
              exact mp_iret ⟨⟨_, rfl, trivial⟩, hT48, k51, R53⟩ dX7_joins_72 (Or.inl rfl)
            · have c42 : x39.toInt ≠ 0 := ti_eq_n c42
              refine mp_a (a_iload_n dX7_joins_64 rfl) (mpp 65 rfl ?_)
              refine mp_a (a_goto (t := 69) dX7_joins_65 (by decide)) ?_
              refine mt_callv (i := 101) (q' := q_134) (As := [.int 2, .int t1]) (rest := []) hT dX7_joins_69 rfl qm_134 (by decide) rfl rl_301 (by decide) rfl (Nat.le_of_ble_eq_true rfl) rfl ⟨rfl, rfl⟩ ⟨Nat.le_of_ble_eq_true rfl, Nat.le_of_ble_eq_true rfl⟩ (EvP.mono (by decide) (c_M_refuses hT )) (fun r54 P55 g56 => mpp 72 rfl ?_)
              obtain ⟨⟨x57, rfl, g58⟩, hT59, k60, R61⟩ := g56
              have k62 : KW [1093, 1094, 1152] Po P55 := KW.trans KW.refl k60 rfl
              have R64 := Rel.kw hR k60 rfl
              have wx57 := ti_full x57
              have g58 : x57.toInt = -1003 := g58
              show MEvP _ none q_154 72 [(0, .ref 301), (1, .int t1), (2, .int t2), (3, .int t3)] [.int x57] _ _ _ _
              exact mp_iret ⟨⟨_, rfl, trivial⟩, hT59, k62, R64⟩ dX7_joins_72 (Or.inl rfl)
          · have c33 : x29.toInt = 0 := ti_ne_n c33
            refine mp_a (a_aload_n dX7_joins_46 rfl) (mpp 47 rfl ?_)
            refine mp_a (a_iload_n dX7_joins_47 rfl) (mpp 48 rfl ?_)
            have p65 : 0 ≤ t2.toInt := by omega
            have p66 : t2.toInt ≤ 7 := by omega
            refine mt_callv (i := 130) (q' := q_145) (As := [.int t2]) (rest := []) hT dX7_joins_48 rfl qm_145 (by decide) rfl rl_301 (by decide) rfl (Nat.le_of_ble_eq_true rfl) rfl ⟨rfl, rfl⟩ ⟨Nat.le_of_ble_eq_true rfl, Nat.le_of_ble_eq_true rfl⟩ (EvP.mono (by decide) (c_M_isFolded hT p65 p66 )) (fun r67 P68 g69 => mpp 51 rfl ?_)
            obtain ⟨⟨x70, rfl, g71⟩, e72⟩ := g69
            have e72 := e72.symm
            subst e72
            have wx70 := ti_full x70
            have g71 : 0 ≤ x70.toInt ∧ x70.toInt ≤ 1 ∧ ((x70.toInt = 1 ∧ (fv Po 302 (5 + 19 * t2.toInt.toNat)).toInt = 1) ∨ (x70.toInt = 0 ∧ (fv Po 302 (5 + 19 * t2.toInt.toNat)).toInt ≠ 1)) := g71
            have g73 := ti_full (fv Po 302 (5 + 19 * t2.toInt.toNat))
            show MEvP _ none q_154 51 [(0, .ref 301), (1, .int t1), (2, .int t2), (3, .int t3)] [.int x70] _ _ _ _
            refine mp_Tb (t := 73) (j_if_eq dX7_joins_51) (by decide) (fun c74 => ?_) (fun c74 => mpp 54 rfl ?_)
            · have c74 : x70.toInt = 0 := ti_eq c74
              refine mp_a (a_aload_n dX7_joins_73 rfl) (mpp 74 rfl ?_)
              refine mp_a (a_iload_n dX7_joins_74 rfl) (mpp 75 rfl ?_)
              have p75 : 0 ≤ t1.toInt := by omega
              have p76 : t1.toInt ≤ 7 := by omega
              refine mt_callv (i := 81) (q' := q_138) (As := [.int t1]) (rest := []) hT dX7_joins_75 rfl qm_138 (by decide) rfl rl_301 (by decide) rfl (Nat.le_of_ble_eq_true rfl) rfl ⟨rfl, rfl⟩ ⟨Nat.le_of_ble_eq_true rfl, Nat.le_of_ble_eq_true rfl⟩ (EvP.mono (by decide) (c_M_isCorner hT p75 p76 )) (fun r77 P78 g79 => mpp 78 rfl ?_)
              obtain ⟨⟨x80, rfl, g81⟩, e82⟩ := g79
              have e82 := e82.symm
              subst e82
              have wx80 := ti_full x80
              have g81 : 0 ≤ x80.toInt ∧ x80.toInt ≤ 1 ∧ ((x80.toInt = 1 ∧ (fv Po 302 (3 + 19 * t1.toInt.toNat)).toInt = 1) ∨ (x80.toInt = 0 ∧ (fv Po 302 (3 + 19 * t1.toInt.toNat)).toInt = 0)) := g81
              have g83 := ti_full (fv Po 302 (3 + 19 * t1.toInt.toNat))
              show MEvP _ none q_154 78 [(0, .ref 301), (1, .int t1), (2, .int t2), (3, .int t3)] [.int x80] _ _ _ _
              refine mp_Tb (t := 89) (j_if_ne dX7_joins_78) (by decide) (fun c84 => ?_) (fun c84 => mpp 81 rfl ?_)
              · have c84 : x80.toInt ≠ 0 := ti_ne c84
                refine mp_a (a_aload_n dX7_joins_89 rfl) (mpp 90 rfl ?_)
                refine mp_a (a_iconst (v := 3) dX7_joins_90 rfl) (mpp 91 rfl ?_)
                refine mp_a (a_aload_n dX7_joins_91 rfl) (mpp 92 rfl ?_)
                refine mp_a (a_iload_n dX7_joins_92 rfl) (mpp 93 rfl ?_)
                have p85 : 0 ≤ t1.toInt := by omega
                have p86 : t1.toInt ≤ 7 := by omega
                refine mt_callv (i := 81) (q' := q_138) (As := [.int t1]) (rest := [.int 3, .ref 301]) hT dX7_joins_93 rfl qm_138 (by decide) rfl rl_301 (by decide) rfl (Nat.le_of_ble_eq_true rfl) rfl ⟨rfl, rfl⟩ ⟨Nat.le_of_ble_eq_true rfl, Nat.le_of_ble_eq_true rfl⟩ (EvP.mono (by decide) (c_M_isCorner hT p85 p86 )) (fun r87 P88 g89 => mpp 96 rfl ?_)
                obtain ⟨⟨x90, rfl, g91⟩, e92⟩ := g89
                have e92 := e92.symm
                subst e92
                have wx90 := ti_full x90
                have g91 : 0 ≤ x90.toInt ∧ x90.toInt ≤ 1 ∧ ((x90.toInt = 1 ∧ (fv Po 302 (3 + 19 * t1.toInt.toNat)).toInt = 1) ∨ (x90.toInt = 0 ∧ (fv Po 302 (3 + 19 * t1.toInt.toNat)).toInt = 0)) := g91
                show MEvP _ none q_154 96 [(0, .ref 301), (1, .int t1), (2, .int t2), (3, .int t3)] [.int x90, .int 3, .ref 301] _ _ _ _
                refine mp_Tb (t := 103) (j_if_eq dX7_joins_96) (by decide) (fun c93 => ?_) (fun c93 => mpp 99 rfl ?_)
                · have c93 : x90.toInt = 0 := ti_eq c93
                  refine mp_a (a_iload_n dX7_joins_103 rfl) (mpp 104 rfl ?_)
                  refine mt_callv (i := 101) (q' := q_134) (As := [.int 3, .int t2]) (rest := []) hT dX7_joins_104 rfl qm_134 (by decide) rfl rl_301 (by decide) rfl (Nat.le_of_ble_eq_true rfl) rfl ⟨rfl, rfl⟩ ⟨Nat.le_of_ble_eq_true rfl, Nat.le_of_ble_eq_true rfl⟩ (EvP.mono (by decide) (c_M_refuses hT )) (fun r94 P95 g96 => mpp 107 rfl ?_)
                  obtain ⟨⟨x97, rfl, g98⟩, hT99, k100, R101⟩ := g96
                  have k102 : KW [1093, 1094, 1152] Po P95 := KW.trans KW.refl k100 rfl
                  have R104 := Rel.kw hR k100 rfl
                  have wx97 := ti_full x97
                  have g98 : x97.toInt = -1003 := g98
                  show MEvP _ none q_154 107 [(0, .ref 301), (1, .int t1), (2, .int t2), (3, .int t3)] [.int x97] _ _ _ _
                  exact mp_iret ⟨⟨_, rfl, trivial⟩, hT99, k102, R104⟩ dX7_joins_107 (Or.inl rfl)
                · have c93 : x90.toInt ≠ 0 := ti_eq_n c93
                  refine mp_a (a_iload_n dX7_joins_99 rfl) (mpp 100 rfl ?_)
                  refine mp_a (a_goto (t := 104) dX7_joins_100 (by decide)) ?_
                  refine mt_callv (i := 101) (q' := q_134) (As := [.int 3, .int t1]) (rest := []) hT dX7_joins_104 rfl qm_134 (by decide) rfl rl_301 (by decide) rfl (Nat.le_of_ble_eq_true rfl) rfl ⟨rfl, rfl⟩ ⟨Nat.le_of_ble_eq_true rfl, Nat.le_of_ble_eq_true rfl⟩ (EvP.mono (by decide) (c_M_refuses hT )) (fun r105 P106 g107 => mpp 107 rfl ?_)
                  obtain ⟨⟨x108, rfl, g109⟩, hT110, k111, R112⟩ := g107
                  have k113 : KW [1093, 1094, 1152] Po P106 := KW.trans KW.refl k111 rfl
                  have R115 := Rel.kw hR k111 rfl
                  have wx108 := ti_full x108
                  have g109 : x108.toInt = -1003 := g109
                  show MEvP _ none q_154 107 [(0, .ref 301), (1, .int t1), (2, .int t2), (3, .int t3)] [.int x108] _ _ _ _
                  exact mp_iret ⟨⟨_, rfl, trivial⟩, hT110, k113, R115⟩ dX7_joins_107 (Or.inl rfl)
              · have c84 : x80.toInt = 0 := ti_ne_n c84
                refine mp_a (a_aload_n dX7_joins_81 rfl) (mpp 82 rfl ?_)
                refine mp_a (a_iload_n dX7_joins_82 rfl) (mpp 83 rfl ?_)
                have p116 : 0 ≤ t2.toInt := by omega
                have p117 : t2.toInt ≤ 7 := by omega
                refine mt_callv (i := 81) (q' := q_138) (As := [.int t2]) (rest := []) hT dX7_joins_83 rfl qm_138 (by decide) rfl rl_301 (by decide) rfl (Nat.le_of_ble_eq_true rfl) rfl ⟨rfl, rfl⟩ ⟨Nat.le_of_ble_eq_true rfl, Nat.le_of_ble_eq_true rfl⟩ (EvP.mono (by decide) (c_M_isCorner hT p116 p117 )) (fun r118 P119 g120 => mpp 86 rfl ?_)
                obtain ⟨⟨x121, rfl, g122⟩, e123⟩ := g120
                have e123 := e123.symm
                subst e123
                have wx121 := ti_full x121
                have g122 : 0 ≤ x121.toInt ∧ x121.toInt ≤ 1 ∧ ((x121.toInt = 1 ∧ (fv Po 302 (3 + 19 * t2.toInt.toNat)).toInt = 1) ∨ (x121.toInt = 0 ∧ (fv Po 302 (3 + 19 * t2.toInt.toNat)).toInt = 0)) := g122
                have g124 := ti_full (fv Po 302 (3 + 19 * t2.toInt.toNat))
                show MEvP _ none q_154 86 [(0, .ref 301), (1, .int t1), (2, .int t2), (3, .int t3)] [.int x121] _ _ _ _
                refine mp_Tb (t := 108) (j_if_eq dX7_joins_86) (by decide) (fun c125 => ?_) (fun c125 => mpp 89 rfl ?_)
                · have c125 : x121.toInt = 0 := ti_eq c125
                  refine mp_a (a_aload_n dX7_joins_108 rfl) (mpp 109 rfl ?_)
                  refine mp_a (a_iload_n dX7_joins_109 rfl) (mpp 110 rfl ?_)
                  refine mp_a (a_iconst (v := 1) dX7_joins_110 rfl) (mpp 111 rfl ?_)
                  have p126 : 0 ≤ t1.toInt := by omega
                  have p127 : t1.toInt ≤ 7 := by omega
                  have p128 : 0 ≤ (1 : Int) := by omega
                  have p129 : (1 : Int) ≤ 18 := by omega
                  refine mt_callv (i := 78) (q' := q_137) (As := [.int t1, .int 1]) (rest := []) hT dX7_joins_111 rfl qm_137 (by decide) rfl rl_301 (by decide) rfl (Nat.le_of_ble_eq_true rfl) rfl ⟨rfl, rfl⟩ ⟨Nat.le_of_ble_eq_true rfl, Nat.le_of_ble_eq_true rfl⟩ (EvP.mono (by decide) (c_M_of_c1 hT p126 p127 p128 p129 )) (fun r130 P131 g132 => mpp 114 rfl ?_)
                  obtain ⟨⟨x133, rfl, g134⟩, e135⟩ := g132
                  have e135 := e135.symm
                  subst e135
                  have wx133 := ti_full x133
                  have g134 : x133.toInt = (fv Po 302 (4 + 19 * t1.toInt.toNat)).toInt ∧ 0 ≤ x133.toInt ∧ x133.toInt ≤ 8 := g134
                  have g136 := ti_full (fv Po 302 (4 + 19 * t1.toInt.toNat))
                  show MEvP _ none q_154 114 [(0, .ref 301), (1, .int t1), (2, .int t2), (3, .int t3)] [.int x133] _ _ _ _
                  refine mp_a (a_istore (L' := [(4, .int x133), (0, .ref 301), (1, .int t1), (2, .int t2), (3, .int t3)]) dX7_joins_114 (by decide) rfl) (mpp 116 rfl ?_)
                  refine mp_a (a_aload_n dX7_joins_116 rfl) (mpp 117 rfl ?_)
                  refine mp_a (a_iload_n dX7_joins_117 rfl) (mpp 118 rfl ?_)
                  refine mp_a (a_iconst (v := 1) dX7_joins_118 rfl) (mpp 119 rfl ?_)
                  have p137 : 0 ≤ t2.toInt := by omega
                  have p138 : t2.toInt ≤ 7 := by omega
                  have p139 : 0 ≤ (1 : Int) := by omega
                  have p140 : (1 : Int) ≤ 18 := by omega
                  refine mt_callv (i := 78) (q' := q_137) (As := [.int t2, .int 1]) (rest := []) hT dX7_joins_119 rfl qm_137 (by decide) rfl rl_301 (by decide) rfl (Nat.le_of_ble_eq_true rfl) rfl ⟨rfl, rfl⟩ ⟨Nat.le_of_ble_eq_true rfl, Nat.le_of_ble_eq_true rfl⟩ (EvP.mono (by decide) (c_M_of_c1 hT p137 p138 p139 p140 )) (fun r141 P142 g143 => mpp 122 rfl ?_)
                  obtain ⟨⟨x144, rfl, g145⟩, e146⟩ := g143
                  have e146 := e146.symm
                  subst e146
                  have wx144 := ti_full x144
                  have g145 : x144.toInt = (fv Po 302 (4 + 19 * t2.toInt.toNat)).toInt ∧ 0 ≤ x144.toInt ∧ x144.toInt ≤ 8 := g145
                  have g147 := ti_full (fv Po 302 (4 + 19 * t2.toInt.toNat))
                  show MEvP _ none q_154 122 [(4, .int x133), (0, .ref 301), (1, .int t1), (2, .int t2), (3, .int t3)] [.int x144] _ _ _ _
                  refine mp_a (a_istore (L' := [(5, .int x144), (4, .int x133), (0, .ref 301), (1, .int t1), (2, .int t2), (3, .int t3)]) dX7_joins_122 (by decide) rfl) (mpp 124 rfl ?_)
                  have q148 := Rel.two hR (p := t1.toInt.toNat) (by omega) (by omega)
                  refine mp_a (a_iload dX7_joins_124 rfl) (mpp 126 rfl ?_)
                  refine mp_a (a_iload dX7_joins_126 rfl) (mpp 128 rfl ?_)
                  obtain ⟨z149, h150⟩ := ti_ex (x133 + x144 : Int32)
                  have wz149 := ti_full z149
                  refine mp_t (s_iadd (v := z149) dX7_joins_128 h150) (mpp 129 rfl ?_)
                  try have e151 : z149.toInt = x133.toInt + x144.toInt := ti_addz h150 rfl rfl (by omega) (by omega)
                  refine mp_a (a_bipush (v := 7) dX7_joins_129 rfl) (mpp 131 rfl ?_)
                  refine mp_Tb (t := 146) (j_icmp_le dX7_joins_131) (by decide) (fun c152 => ?_) (fun c152 => mpp 134 rfl ?_)
                  · have c152 : z149.toInt ≤ 7 := ti_le c152
                    refine mp_a (a_aload_n dX7_joins_146 rfl) (mpp 147 rfl ?_)
                    refine mt_getU (i := 9) (k := 0) (A := 302) hT dX7_joins_147 rfl rl_301 (by decide) rfl (by decide) rfl un_18 (mpp 150 rfl ?_)
                    refine mp_a (a_iload_n dX7_joins_150 rfl) (mpp 151 rfl ?_)
                    refine mp_a (a_bipush (v := 11) dX7_joins_151 rfl) (mpp 153 rfl ?_)
                    refine mp_a (a_iload dX7_joins_153 rfl) (mpp 155 rfl ?_)
                    obtain ⟨z153, h154⟩ := ti_ex (11 + x133 : Int32)
                    have wz153 := ti_full z153
                    refine mp_t (s_iadd (v := z153) dX7_joins_155 h154) (mpp 156 rfl ?_)
                    try have e155 : z153.toInt = 11 + x133.toInt := ti_addz h154 rfl rfl (by omega) (by omega)
                    refine mp_a (a_iconst (v := 1) dX7_joins_156 rfl) (mpp 157 rfl ?_)
                    obtain ⟨z156, h157⟩ := ti_ex (z153 - 1 : Int32)
                    have wz156 := ti_full z156
                    refine mp_t (s_isub (v := z156) dX7_joins_157 h157) (mpp 158 rfl ?_)
                    try have e158 : z156.toInt = z153.toInt - 1 := ti_subz h157 rfl rfl (by omega) (by omega)
                    have p159 : 0 ≤ t1.toInt := by omega
                    have p160 : t1.toInt ≤ 8 := by omega
                    have p161 : 0 ≤ z156.toInt := by omega
                    have p162 : z156.toInt ≤ 20 := by omega
                    refine mp_calls (i := 74) (q' := q_135) (As := [.int t1, .int z156]) (rest := [.ref 302]) dX7_joins_158 rfl qm_135 (by decide) rfl (Nat.le_of_ble_eq_true rfl) rfl ⟨rfl, rfl⟩ ⟨Nat.le_of_ble_eq_true rfl, Nat.le_of_ble_eq_true rfl⟩ (EvP.mono (by decide) (c_M_at hT p159 p160 p161 p162 )) (fun r163 P164 g165 => mpp 161 rfl ?_)
                    obtain ⟨⟨x166, rfl, g167⟩, e168⟩ := g165
                    have e168 := e168.symm
                    subst e168
                    have wx166 := ti_full x166
                    have g167 : x166.toInt = 3 + 19 * t1.toInt + z156.toInt := g167
                    show MEvP _ none q_154 161 [(5, .int x144), (4, .int x133), (0, .ref 301), (1, .int t1), (2, .int t2), (3, .int t3)] [.int x166, .ref 302] _ _ _ _
                    refine mp_a (a_iload_n dX7_joins_161 rfl) (mpp 162 rfl ?_)
                    refine mt_iasX (n := 155) hT dX7_joins_162 rl_302 (by decide) rfl rfl (by omega) (by omega) ssp_0 (okS_mk (by omega) (fun _ => ⟨by omega, by omega⟩) (fun _ => ⟨by omega, by omega⟩)) (fun P169 hT170 f171 f172 f173 => mpp 163 rfl ?_)
                    have k174 : KW [1093, 1094, 1152] Po P169 := KW.step KW.refl rl_302 rfl f172 f173
                    have R175 := Rel.oth hR f172 (by omega)
                    refine mp_a (a_iconst (v := 0) dX7_joins_163 rfl) (mpp 164 rfl ?_)
                    refine mp_a (a_istore (L' := [(6, .int 0), (5, .int x144), (4, .int x133), (0, .ref 301), (1, .int t1), (2, .int t2), (3, .int t3)]) dX7_joins_164 (by decide) rfl) (mpp 166 rfl ?_)
                    refine MEvP.less (L := [(0, .ref 301), (1, .int t1), (2, .int t2), (3, .int t3), (4, .int x133), (5, .int x144), (6, .int 0)]) rfl rfl ⟨rfl, rfl, rfl, rfl, rfl, rfl, rfl, trivial⟩ ?_
                    have i176 : 0 ≤ t1.toInt := by omega
                    have i177 : t1.toInt ≤ 7 := by omega
                    have i178 : 0 ≤ t2.toInt := by omega
                    have i179 : t2.toInt ≤ 7 := by omega
                    have i180 : 0 ≤ x133.toInt := by omega
                    have i181 : 0 ≤ x144.toInt := by omega
                    have i182 : x133.toInt + x144.toInt ≤ 7 := by omega
                    have i183 : 2 ≤ x133.toInt := by omega
                    have e184 : (fv P169 302 0).toInt = (fv Po 302 0).toInt := congrArg Int32.toInt (f172 302 0 (ne_i (by omega)))
                    have i185 : (fv P169 302 0).toInt = (fv Po 302 0).toInt := by omega
                    have i186 : t2.toInt + 1 ≤ (fv Po 302 0).toInt := by omega
                    have i187 : 0 ≤ (0 : Int) := by omega
                    exact c_M_joins_l166    _ _ _ _ P169 hT170 k174 R175 i176 i177 i178 i179 i180 i181 i182 i183 i185 i186 i187 rfl
                  · have c152 : z149.toInt > 7 := ti_le_n c152
                    refine mp_a (a_aload_n dX7_joins_134 rfl) (mpp 135 rfl ?_)
                    refine mp_a (a_bipush (v := 6) dX7_joins_135 rfl) (mpp 137 rfl ?_)
                    refine mp_a (a_iload dX7_joins_137 rfl) (mpp 139 rfl ?_)
                    refine mp_a (a_iload dX7_joins_139 rfl) (mpp 141 rfl ?_)
                    obtain ⟨z188, h189⟩ := ti_ex (x133 + x144 : Int32)
                    have wz188 := ti_full z188
                    refine mp_t (s_iadd (v := z188) dX7_joins_141 h189) (mpp 142 rfl ?_)
                    try have e190 : z188.toInt = x133.toInt + x144.toInt := ti_addz h189 rfl rfl (by omega) (by omega)
                    refine mt_callv (i := 101) (q' := q_134) (As := [.int 6, .int z188]) (rest := []) hT dX7_joins_142 rfl qm_134 (by decide) rfl rl_301 (by decide) rfl (Nat.le_of_ble_eq_true rfl) rfl ⟨rfl, rfl⟩ ⟨Nat.le_of_ble_eq_true rfl, Nat.le_of_ble_eq_true rfl⟩ (EvP.mono (by decide) (c_M_refuses hT )) (fun r191 P192 g193 => mpp 145 rfl ?_)
                    obtain ⟨⟨x194, rfl, g195⟩, hT196, k197, R198⟩ := g193
                    have k199 : KW [1093, 1094, 1152] Po P192 := KW.trans KW.refl k197 rfl
                    have R201 := Rel.kw hR k197 rfl
                    have wx194 := ti_full x194
                    have g195 : x194.toInt = -1003 := g195
                    show MEvP _ none q_154 145 [(5, .int x144), (4, .int x133), (0, .ref 301), (1, .int t1), (2, .int t2), (3, .int t3)] [.int x194] _ _ _ _
                    exact mp_iret ⟨⟨_, rfl, trivial⟩, hT196, k199, R201⟩ dX7_joins_145 (Or.inl rfl)
                · have c125 : x121.toInt ≠ 0 := ti_eq_n c125
                  refine mp_a (a_aload_n dX7_joins_89 rfl) (mpp 90 rfl ?_)
                  refine mp_a (a_iconst (v := 3) dX7_joins_90 rfl) (mpp 91 rfl ?_)
                  refine mp_a (a_aload_n dX7_joins_91 rfl) (mpp 92 rfl ?_)
                  refine mp_a (a_iload_n dX7_joins_92 rfl) (mpp 93 rfl ?_)
                  have p202 : 0 ≤ t1.toInt := by omega
                  have p203 : t1.toInt ≤ 7 := by omega
                  refine mt_callv (i := 81) (q' := q_138) (As := [.int t1]) (rest := [.int 3, .ref 301]) hT dX7_joins_93 rfl qm_138 (by decide) rfl rl_301 (by decide) rfl (Nat.le_of_ble_eq_true rfl) rfl ⟨rfl, rfl⟩ ⟨Nat.le_of_ble_eq_true rfl, Nat.le_of_ble_eq_true rfl⟩ (EvP.mono (by decide) (c_M_isCorner hT p202 p203 )) (fun r204 P205 g206 => mpp 96 rfl ?_)
                  obtain ⟨⟨x207, rfl, g208⟩, e209⟩ := g206
                  have e209 := e209.symm
                  subst e209
                  have wx207 := ti_full x207
                  have g208 : 0 ≤ x207.toInt ∧ x207.toInt ≤ 1 ∧ ((x207.toInt = 1 ∧ (fv Po 302 (3 + 19 * t1.toInt.toNat)).toInt = 1) ∨ (x207.toInt = 0 ∧ (fv Po 302 (3 + 19 * t1.toInt.toNat)).toInt = 0)) := g208
                  show MEvP _ none q_154 96 [(0, .ref 301), (1, .int t1), (2, .int t2), (3, .int t3)] [.int x207, .int 3, .ref 301] _ _ _ _
                  refine mp_Tb (t := 103) (j_if_eq dX7_joins_96) (by decide) (fun c210 => ?_) (fun c210 => mpp 99 rfl ?_)
                  · have c210 : x207.toInt = 0 := ti_eq c210
                    refine mp_a (a_iload_n dX7_joins_103 rfl) (mpp 104 rfl ?_)
                    refine mt_callv (i := 101) (q' := q_134) (As := [.int 3, .int t2]) (rest := []) hT dX7_joins_104 rfl qm_134 (by decide) rfl rl_301 (by decide) rfl (Nat.le_of_ble_eq_true rfl) rfl ⟨rfl, rfl⟩ ⟨Nat.le_of_ble_eq_true rfl, Nat.le_of_ble_eq_true rfl⟩ (EvP.mono (by decide) (c_M_refuses hT )) (fun r211 P212 g213 => mpp 107 rfl ?_)
                    obtain ⟨⟨x214, rfl, g215⟩, hT216, k217, R218⟩ := g213
                    have k219 : KW [1093, 1094, 1152] Po P212 := KW.trans KW.refl k217 rfl
                    have R221 := Rel.kw hR k217 rfl
                    have wx214 := ti_full x214
                    have g215 : x214.toInt = -1003 := g215
                    show MEvP _ none q_154 107 [(0, .ref 301), (1, .int t1), (2, .int t2), (3, .int t3)] [.int x214] _ _ _ _
                    exact mp_iret ⟨⟨_, rfl, trivial⟩, hT216, k219, R221⟩ dX7_joins_107 (Or.inl rfl)
                  · have c210 : x207.toInt ≠ 0 := ti_eq_n c210
                    refine mp_a (a_iload_n dX7_joins_99 rfl) (mpp 100 rfl ?_)
                    refine mp_a (a_goto (t := 104) dX7_joins_100 (by decide)) ?_
                    refine mt_callv (i := 101) (q' := q_134) (As := [.int 3, .int t1]) (rest := []) hT dX7_joins_104 rfl qm_134 (by decide) rfl rl_301 (by decide) rfl (Nat.le_of_ble_eq_true rfl) rfl ⟨rfl, rfl⟩ ⟨Nat.le_of_ble_eq_true rfl, Nat.le_of_ble_eq_true rfl⟩ (EvP.mono (by decide) (c_M_refuses hT )) (fun r222 P223 g224 => mpp 107 rfl ?_)
                    obtain ⟨⟨x225, rfl, g226⟩, hT227, k228, R229⟩ := g224
                    have k230 : KW [1093, 1094, 1152] Po P223 := KW.trans KW.refl k228 rfl
                    have R232 := Rel.kw hR k228 rfl
                    have wx225 := ti_full x225
                    have g226 : x225.toInt = -1003 := g226
                    show MEvP _ none q_154 107 [(0, .ref 301), (1, .int t1), (2, .int t2), (3, .int t3)] [.int x225] _ _ _ _
                    exact mp_iret ⟨⟨_, rfl, trivial⟩, hT227, k230, R232⟩ dX7_joins_107 (Or.inl rfl)
            · have c74 : x70.toInt ≠ 0 := ti_eq_n c74
              refine mp_a (a_aload_n dX7_joins_54 rfl) (mpp 55 rfl ?_)
              refine mp_a (a_iconst (v := 2) dX7_joins_55 rfl) (mpp 56 rfl ?_)
              refine mp_a (a_aload_n dX7_joins_56 rfl) (mpp 57 rfl ?_)
              refine mp_a (a_iload_n dX7_joins_57 rfl) (mpp 58 rfl ?_)
              have p233 : 0 ≤ t1.toInt := by omega
              have p234 : t1.toInt ≤ 7 := by omega
              refine mt_callv (i := 130) (q' := q_145) (As := [.int t1]) (rest := [.int 2, .ref 301]) hT dX7_joins_58 rfl qm_145 (by decide) rfl rl_301 (by decide) rfl (Nat.le_of_ble_eq_true rfl) rfl ⟨rfl, rfl⟩ ⟨Nat.le_of_ble_eq_true rfl, Nat.le_of_ble_eq_true rfl⟩ (EvP.mono (by decide) (c_M_isFolded hT p233 p234 )) (fun r235 P236 g237 => mpp 61 rfl ?_)
              obtain ⟨⟨x238, rfl, g239⟩, e240⟩ := g237
              have e240 := e240.symm
              subst e240
              have wx238 := ti_full x238
              have g239 : 0 ≤ x238.toInt ∧ x238.toInt ≤ 1 ∧ ((x238.toInt = 1 ∧ (fv Po 302 (5 + 19 * t1.toInt.toNat)).toInt = 1) ∨ (x238.toInt = 0 ∧ (fv Po 302 (5 + 19 * t1.toInt.toNat)).toInt ≠ 1)) := g239
              show MEvP _ none q_154 61 [(0, .ref 301), (1, .int t1), (2, .int t2), (3, .int t3)] [.int x238, .int 2, .ref 301] _ _ _ _
              refine mp_Tb (t := 68) (j_if_eq dX7_joins_61) (by decide) (fun c241 => ?_) (fun c241 => mpp 64 rfl ?_)
              · have c241 : x238.toInt = 0 := ti_eq c241
                refine mp_a (a_iload_n dX7_joins_68 rfl) (mpp 69 rfl ?_)
                refine mt_callv (i := 101) (q' := q_134) (As := [.int 2, .int t2]) (rest := []) hT dX7_joins_69 rfl qm_134 (by decide) rfl rl_301 (by decide) rfl (Nat.le_of_ble_eq_true rfl) rfl ⟨rfl, rfl⟩ ⟨Nat.le_of_ble_eq_true rfl, Nat.le_of_ble_eq_true rfl⟩ (EvP.mono (by decide) (c_M_refuses hT )) (fun r242 P243 g244 => mpp 72 rfl ?_)
                obtain ⟨⟨x245, rfl, g246⟩, hT247, k248, R249⟩ := g244
                have k250 : KW [1093, 1094, 1152] Po P243 := KW.trans KW.refl k248 rfl
                have R252 := Rel.kw hR k248 rfl
                have wx245 := ti_full x245
                have g246 : x245.toInt = -1003 := g246
                show MEvP _ none q_154 72 [(0, .ref 301), (1, .int t1), (2, .int t2), (3, .int t3)] [.int x245] _ _ _ _
                exact mp_iret ⟨⟨_, rfl, trivial⟩, hT247, k250, R252⟩ dX7_joins_72 (Or.inl rfl)
              · have c241 : x238.toInt ≠ 0 := ti_eq_n c241
                refine mp_a (a_iload_n dX7_joins_64 rfl) (mpp 65 rfl ?_)
                refine mp_a (a_goto (t := 69) dX7_joins_65 (by decide)) ?_
                refine mt_callv (i := 101) (q' := q_134) (As := [.int 2, .int t1]) (rest := []) hT dX7_joins_69 rfl qm_134 (by decide) rfl rl_301 (by decide) rfl (Nat.le_of_ble_eq_true rfl) rfl ⟨rfl, rfl⟩ ⟨Nat.le_of_ble_eq_true rfl, Nat.le_of_ble_eq_true rfl⟩ (EvP.mono (by decide) (c_M_refuses hT )) (fun r253 P254 g255 => mpp 72 rfl ?_)
                obtain ⟨⟨x256, rfl, g257⟩, hT258, k259, R260⟩ := g255
                have k261 : KW [1093, 1094, 1152] Po P254 := KW.trans KW.refl k259 rfl
                have R263 := Rel.kw hR k259 rfl
                have wx256 := ti_full x256
                have g257 : x256.toInt = -1003 := g257
                show MEvP _ none q_154 72 [(0, .ref 301), (1, .int t1), (2, .int t2), (3, .int t3)] [.int x256] _ _ _ _
                exact mp_iret ⟨⟨_, rfl, trivial⟩, hT258, k261, R263⟩ dX7_joins_72 (Or.inl rfl)
        · have c23 : x20.toInt = 0 := ti_ne_n c23
          refine mp_a (a_sipush (v := -1002) dX7_joins_34 rfl) (mpp 37 rfl ?_)
          exact mp_iret ⟨⟨_, rfl, trivial⟩, hT, KW.refl, hR⟩ dX7_joins_37 (Or.inl rfl)
      · have c16 : t1.toInt = t2.toInt := ti_ne_n c16
        refine mp_a (a_sipush (v := -1001) dX7_joins_21 rfl) (mpp 24 rfl ?_)
        exact mp_iret ⟨⟨_, rfl, trivial⟩, hT, KW.refl, hR⟩ dX7_joins_24 (Or.inl rfl)

set_option maxHeartbeats 4000000 in
theorem c_M_join {Po : mP} {t1 : Int32} {t2 : Int32} {t3 : Int32} (hT : Typ Po) (hR : Rel Po)  : EvP 5 153 [.ref 301, .int t1, .int t2, .int t3] Po (fun r P' => (∃ x : Int32, r = some (.int x) ∧ (True)) ∧ Typ P' ∧ KW [1092, 1093, 1094, 1095, 1152, 1216, 1344] Po P' ∧ Rel P') := by
  refine EvP.of qm_153 (Nat.le_of_ble_eq_true rfl) rfl ?_
  show MEvP _ none q_153 0 [(0, .ref 301), (1, .int t1), (2, .int t2), (3, .int t3)] [] _ 0 0 _
  refine mp_a (a_aload_n dX7_join_0 rfl) (mpp 1 rfl ?_)
  refine mt_callv (i := 117) (q' := q_124) (As := []) (rest := []) hT dX7_join_1 rfl qm_124 (by decide) rfl rl_301 (by decide) rfl (Nat.le_of_ble_eq_true rfl) rfl ⟨rfl, rfl⟩ ⟨Nat.le_of_ble_eq_true rfl, Nat.le_of_ble_eq_true rfl⟩ (EvP.mono (by decide) (c_M_keeps hT hR )) (fun r1 P2 g3 => mpp 4 rfl ?_)
  obtain ⟨⟨rfl, g5⟩, hT6, k7, R8r, R8⟩ := g3
  have k9 : KW [1092, 1093, 1094, 1095, 1152, 1216, 1344] Po P2 := KW.trans KW.refl k7 rfl
  show MEvP _ none q_153 4 [(0, .ref 301), (1, .int t1), (2, .int t2), (3, .int t3)] [] _ _ _ _
  refine mp_a (a_aload_n dX7_join_4 rfl) (mpp 5 rfl ?_)
  refine mp_a (a_aload_n dX7_join_5 rfl) (mpp 6 rfl ?_)
  refine mp_a (a_iload_n dX7_join_6 rfl) (mpp 7 rfl ?_)
  refine mp_a (a_iload_n dX7_join_7 rfl) (mpp 8 rfl ?_)
  refine mp_a (a_iload_n dX7_join_8 rfl) (mpp 9 rfl ?_)
  refine mt_callv (i := 152) (q' := q_154) (As := [.int t1, .int t2, .int t3]) (rest := [.ref 301]) hT6 dX7_join_9 rfl qm_154 (by decide) rfl rl_301 (by decide) rfl (Nat.le_of_ble_eq_true rfl) rfl ⟨rfl, rfl⟩ ⟨Nat.le_of_ble_eq_true rfl, Nat.le_of_ble_eq_true rfl⟩ (EvP.mono (by decide) (c_M_joins hT6 R8r )) (fun r11 P12 g13 => mpp 12 rfl ?_)
  obtain ⟨⟨x14, rfl, g15⟩, hT16, k17, R18⟩ := g13
  have k19 : KW [1092, 1093, 1094, 1095, 1152, 1216, 1344] Po P12 := KW.trans k9 k17 rfl
  have wx14 := ti_full x14
  show MEvP _ none q_153 12 [(0, .ref 301), (1, .int t1), (2, .int t2), (3, .int t3)] [.int x14, .ref 301] _ _ _ _
  refine mt_callv (i := 124) (q' := q_139) (As := [.int x14]) (rest := []) hT16 dX7_join_12 rfl qm_139 (by decide) rfl rl_301 (by decide) rfl (Nat.le_of_ble_eq_true rfl) rfl ⟨rfl, rfl⟩ ⟨Nat.le_of_ble_eq_true rfl, Nat.le_of_ble_eq_true rfl⟩ (EvP.mono (by decide) (c_M_ends hT16 R18 )) (fun r21 P22 g23 => mpp 15 rfl ?_)
  obtain ⟨⟨x24, rfl, g25⟩, hT26, k27, R28r, R28⟩ := g23
  have k29 : KW [1092, 1093, 1094, 1095, 1152, 1216, 1344] Po P22 := KW.trans k19 k27 rfl
  have wx24 := ti_full x24
  have g25 : x24.toInt = x14.toInt := g25
  show MEvP _ none q_153 15 [(0, .ref 301), (1, .int t1), (2, .int t2), (3, .int t3)] [.int x24] _ _ _ _
  exact mp_iret ⟨⟨_, rfl, trivial⟩, hT26, k29, R28r⟩ dX7_join_15 (Or.inl rfl)

set_option maxHeartbeats 4000000 in
theorem c_M_cuts_l108 {Po : mP} {t1 : Int32} {t2 : Int32}  : ∀ (n : Nat) (v3 : Int32) (v4 : Int32) (v5 : Int32) (v6 : Int32), ∀ (P : mP), Typ P → KW [1093, 1094, 1152, 1408, 1472] Po P → Rel P → (0 ≤ t1.toInt) → (t1.toInt ≤ 7) → (0 ≤ v4.toInt) → (2 ≤ v5.toInt) → (2 ≤ v4.toInt) → (v4.toInt + v5.toInt ≤ 8) → (0 ≤ v6.toInt) → (2147483647 - v6.toInt).toNat = n → MEvP 5 none q_157 108 [(0, .ref 301), (1, .int t1), (2, .int t2), (3, .int v3), (4, .int v4), (5, .int v5), (6, .int v6)] [] P 0 0 (fun r P' => (∃ x : Int32, r = some (.int x) ∧ (True)) ∧ Typ P' ∧ KW [1093, 1094, 1152, 1408, 1472] Po P' ∧ Rel P') := by
  intro n
  induction n using Nat.strongRecOn with | _ n ih => ?_
  intro v3 v4 v5 v6 P hT hK hR i_0 i_1 i_2 i_3 i_4 i_5 i_6 hm
  have w_t1 := ti_full t1
  have w_t2 := ti_full t2
  have w_v3 := ti_full v3
  have w_v4 := ti_full v4
  have w_v5 := ti_full v5
  have w_v6 := ti_full v6
  refine mp_a (a_iload dX7_cuts_108 rfl) (mpp 110 rfl ?_)
  refine mp_a (a_iload dX7_cuts_110 rfl) (mpp 112 rfl ?_)
  refine mp_Tb (t := 168) (j_icmp_ge dX7_cuts_112) (by decide) (fun c1 => ?_) (fun c1 => mpp 115 rfl ?_)
  · have c1 : v6.toInt ≥ v5.toInt := ti_ge c1
    refine mp_a (a_aload_n dX7_cuts_168 rfl) (mpp 169 rfl ?_)
    refine mt_getU (i := 9) (k := 0) (A := 302) hT dX7_cuts_169 rfl rl_301 (by decide) rfl (by decide) rfl un_18 (mpp 172 rfl ?_)
    refine mp_a (a_iload_n dX7_cuts_172 rfl) (mpp 173 rfl ?_)
    refine mp_a (a_iconst (v := 1) dX7_cuts_173 rfl) (mpp 174 rfl ?_)
    have p2 : 0 ≤ t1.toInt := by omega
    have p3 : t1.toInt ≤ 8 := by omega
    have p4 : 0 ≤ (1 : Int) := by omega
    have p5 : (1 : Int) ≤ 20 := by omega
    refine mp_calls (i := 74) (q' := q_135) (As := [.int t1, .int 1]) (rest := [.ref 302]) dX7_cuts_174 rfl qm_135 (by decide) rfl (Nat.le_of_ble_eq_true rfl) rfl ⟨rfl, rfl⟩ ⟨Nat.le_of_ble_eq_true rfl, Nat.le_of_ble_eq_true rfl⟩ (EvP.mono (by decide) (c_M_at hT p2 p3 p4 p5 )) (fun r6 P7 g8 => mpp 177 rfl ?_)
    obtain ⟨⟨x9, rfl, g10⟩, e11⟩ := g8
    have e11 := e11.symm
    subst e11
    have wx9 := ti_full x9
    have g10 : x9.toInt = 3 + 19 * t1.toInt + (1 : Int) := g10
    show MEvP _ none q_157 177 [(0, .ref 301), (1, .int t1), (2, .int t2), (3, .int v3), (4, .int v4), (5, .int v5), (6, .int v6)] [.int x9, .ref 302] _ _ _ _
    refine mp_a (a_iload dX7_cuts_177 rfl) (mpp 179 rfl ?_)
    refine mt_iasX (n := 155) hT dX7_cuts_179 rl_302 (by decide) rfl rfl (by omega) (by omega) ssp_0 (okS_mk (by omega) (fun _ => ⟨by omega, by omega⟩) (fun _ => ⟨by omega, by omega⟩)) (fun P12 hT13 f14 f15 f16 => mpp 180 rfl ?_)
    have k17 : KW [1093, 1094, 1152, 1408, 1472] Po P12 := KW.step hK rl_302 rfl f15 f16
    have R18 := Rel.siz hR (p := t1.toInt.toNat) f15 f14 (by omega) (by omega) ⟨by omega, by omega⟩
    refine mp_a (a_aload_n dX7_cuts_180 rfl) (mpp 181 rfl ?_)
    refine mp_a (a_iconst (v := 0) dX7_cuts_181 rfl) (mpp 182 rfl ?_)
    refine mp_a (a_iload dX7_cuts_182 rfl) (mpp 184 rfl ?_)
    have p19 : 0 ≤ (0 : Int) := by omega
    have p20 : (0 : Int) ≤ 1 := by omega
    have p21 : 2 ≤ v5.toInt := by omega
    have p22 : v5.toInt ≤ 8 := by omega
    have p23 : (0 : Int) ≠ 0 ∨ v5.toInt ≤ 7 := by omega
    refine mt_callv (i := 114) (q' := q_133) (As := [.int 0, .int v5]) (rest := []) hT13 dX7_cuts_184 rfl qm_133 (by decide) rfl rl_301 (by decide) rfl (Nat.le_of_ble_eq_true rfl) rfl ⟨rfl, rfl⟩ ⟨Nat.le_of_ble_eq_true rfl, Nat.le_of_ble_eq_true rfl⟩ (EvP.mono (by decide) (c_M_adds hT13 R18 p19 p20 p21 p22 p23 )) (fun r24 P25 g26 => mpp 187 rfl ?_)
    obtain ⟨⟨x27, rfl, g28⟩, hT29, k30, R31⟩ := g26
    have k32 : KW [1093, 1094, 1152, 1408, 1472] Po P25 := KW.trans k17 k30 rfl
    have wx27 := ti_full x27
    show MEvP _ none q_157 187 [(0, .ref 301), (1, .int t1), (2, .int t2), (3, .int v3), (4, .int v4), (5, .int v5), (6, .int v6)] [.int x27] _ _ _ _
    exact mp_iret ⟨⟨_, rfl, trivial⟩, hT29, k32, R31⟩ dX7_cuts_187 (Or.inl rfl)
  · have c1 : v6.toInt < v5.toInt := ti_ge_n c1
    refine mp_a (a_aload_n dX7_cuts_115 rfl) (mpp 116 rfl ?_)
    refine mt_getU (i := 22) (k := 9) (A := 306) hT dX7_cuts_116 rfl rl_301 (by decide) rfl (by decide) rfl un_22 (mpp 119 rfl ?_)
    refine mp_a (a_iload dX7_cuts_119 rfl) (mpp 121 rfl ?_)
    refine mp_a (a_aload_n dX7_cuts_121 rfl) (mpp 122 rfl ?_)
    refine mp_a (a_iload_n dX7_cuts_122 rfl) (mpp 123 rfl ?_)
    refine mp_a (a_iload dX7_cuts_123 rfl) (mpp 125 rfl ?_)
    refine mp_a (a_iload dX7_cuts_125 rfl) (mpp 127 rfl ?_)
    obtain ⟨z34, h35⟩ := ti_ex (v4 + v6 : Int32)
    have wz34 := ti_full z34
    refine mp_t (s_iadd (v := z34) dX7_cuts_127 h35) (mpp 128 rfl ?_)
    try have e36 : z34.toInt = v4.toInt + v6.toInt := ti_addz h35 rfl rfl (by omega) (by omega)
    have p37 : 0 ≤ t1.toInt := by omega
    have p38 : t1.toInt ≤ 7 := by omega
    have p39 : 0 ≤ z34.toInt := by omega
    have p40 : z34.toInt ≤ 7 := by omega
    refine mt_callv (i := 142) (q' := q_152) (As := [.int t1, .int z34]) (rest := [.int v6, .ref 306]) hT dX7_cuts_128 rfl qm_152 (by decide) rfl rl_301 (by decide) rfl (Nat.le_of_ble_eq_true rfl) rfl ⟨rfl, rfl⟩ ⟨Nat.le_of_ble_eq_true rfl, Nat.le_of_ble_eq_true rfl⟩ (EvP.mono (by decide) (c_M_sizeOf hT p37 p38 p39 p40 )) (fun r41 P42 g43 => mpp 131 rfl ?_)
    obtain ⟨⟨x44, rfl, g45⟩, e46⟩ := g43
    have e46 := e46.symm
    subst e46
    have wx44 := ti_full x44
    show MEvP _ none q_157 131 [(0, .ref 301), (1, .int t1), (2, .int t2), (3, .int v3), (4, .int v4), (5, .int v5), (6, .int v6)] [.int x44, .int v6, .ref 306] _ _ _ _
    refine mt_ias (n := 8) hT dX7_cuts_131 rl_306 (by decide) rfl rfl (by omega) (by omega) rfl (ti_full x44) (fun P47 hT48 f49 f50 f51 => mpp 132 rfl ?_)
    have k52 : KW [1093, 1094, 1152, 1408, 1472] Po P47 := KW.step hK rl_306 rfl f50 f51
    have R53 := Rel.ne hR rl_306 rfl f50
    refine mp_a (a_aload_n dX7_cuts_132 rfl) (mpp 133 rfl ?_)
    refine mt_getU (i := 25) (k := 10) (A := 307) hT48 dX7_cuts_133 rfl rl_301 (by decide) rfl (by decide) rfl un_23 (mpp 136 rfl ?_)
    refine mp_a (a_iload dX7_cuts_136 rfl) (mpp 138 rfl ?_)
    refine mp_a (a_iload dX7_cuts_138 rfl) (mpp 140 rfl ?_)
    refine mp_a (a_iload dX7_cuts_140 rfl) (mpp 142 rfl ?_)
    refine mp_a (a_iconst (v := 1) dX7_cuts_142 rfl) (mpp 143 rfl ?_)
    obtain ⟨z54, h55⟩ := ti_ex (v5 - 1 : Int32)
    have wz54 := ti_full z54
    refine mp_t (s_isub (v := z54) dX7_cuts_143 h55) (mpp 144 rfl ?_)
    try have e56 : z54.toInt = v5.toInt - 1 := ti_subz h55 rfl rfl (by omega) (by omega)
    refine mp_Tb (t := 160) (j_icmp_ge dX7_cuts_144) (by decide) (fun c57 => ?_) (fun c57 => mpp 147 rfl ?_)
    · have c57 : v6.toInt ≥ z54.toInt := ti_ge c57
      refine mp_a (a_iconst (v := 0) dX7_cuts_160 rfl) (mpp 161 rfl ?_)
      refine mt_ias (n := 8) hT48 dX7_cuts_161 rl_307 (by decide) rfl rfl (by omega) (by omega) rfl (by decide) (fun P58 hT59 f60 f61 f62 => mpp 162 rfl ?_)
      have k63 : KW [1093, 1094, 1152, 1408, 1472] Po P58 := KW.step k52 rl_307 rfl f61 f62
      have R64 := Rel.ne R53 rl_307 rfl f61
      obtain ⟨z65, h66⟩ := ti_ex (v6 + 1 : Int32)
      have wz65 := ti_full z65
      refine mp_a (a_iinc (v := z65) (L' := [(6, .int z65), (0, .ref 301), (1, .int t1), (2, .int t2), (3, .int v3), (4, .int v4), (5, .int v5)]) dX7_cuts_162 (by decide) rfl h66 rfl) (mpp 165 rfl ?_)
      try have e67 : z65.toInt = v6.toInt + 1 := ti_addz h66 rfl rfl (by omega) (by omega)
      refine mp_a (a_goto (t := 108) dX7_cuts_165 (by decide)) ?_
      refine MEvP.less (L := [(0, .ref 301), (1, .int t1), (2, .int t2), (3, .int v3), (4, .int v4), (5, .int v5), (6, .int z65)]) rfl rfl ⟨rfl, rfl, rfl, rfl, rfl, rfl, rfl, trivial⟩ ?_
      have i68 : 0 ≤ t1.toInt := by omega
      have i69 : t1.toInt ≤ 7 := by omega
      have i70 : 0 ≤ v4.toInt := by omega
      have i71 : 2 ≤ v5.toInt := by omega
      have i72 : 2 ≤ v4.toInt := by omega
      have i73 : v4.toInt + v5.toInt ≤ 8 := by omega
      have i74 : 0 ≤ z65.toInt := by omega
      exact ih _ (by omega) _ _ _ _ P58 hT59 k63 R64 i68 i69 i70 i71 i72 i73 i74 rfl
    · have c57 : v6.toInt < z54.toInt := ti_ge_n c57
      refine mp_a (a_aload_n dX7_cuts_147 rfl) (mpp 148 rfl ?_)
      refine mp_a (a_iload_n dX7_cuts_148 rfl) (mpp 149 rfl ?_)
      refine mp_a (a_iload dX7_cuts_149 rfl) (mpp 151 rfl ?_)
      refine mp_a (a_iload dX7_cuts_151 rfl) (mpp 153 rfl ?_)
      obtain ⟨z75, h76⟩ := ti_ex (v4 + v6 : Int32)
      have wz75 := ti_full z75
      refine mp_t (s_iadd (v := z75) dX7_cuts_153 h76) (mpp 154 rfl ?_)
      try have e77 : z75.toInt = v4.toInt + v6.toInt := ti_addz h76 rfl rfl (by omega) (by omega)
      have p78 : 0 ≤ t1.toInt := by omega
      have p79 : t1.toInt ≤ 7 := by omega
      have p80 : 0 ≤ z75.toInt := by omega
      have p81 : z75.toInt ≤ 7 := by omega
      refine mt_callv (i := 92) (q' := q_146) (As := [.int t1, .int z75]) (rest := [.int v6, .ref 307]) hT48 dX7_cuts_154 rfl qm_146 (by decide) rfl rl_301 (by decide) rfl (Nat.le_of_ble_eq_true rfl) rfl ⟨rfl, rfl⟩ ⟨Nat.le_of_ble_eq_true rfl, Nat.le_of_ble_eq_true rfl⟩ (EvP.mono (by decide) (c_M_creaseOf hT48 p78 p79 p80 p81 )) (fun r82 P83 g84 => mpp 157 rfl ?_)
      obtain ⟨⟨x85, rfl, g86⟩, e87⟩ := g84
      have e87 := e87.symm
      subst e87
      have wx85 := ti_full x85
      have g86 : x85.toInt = (fv P47 302 (14 + 19 * t1.toInt.toNat + z75.toInt.toNat)).toInt := g86
      show MEvP _ none q_157 157 [(0, .ref 301), (1, .int t1), (2, .int t2), (3, .int v3), (4, .int v4), (5, .int v5), (6, .int v6)] [.int x85, .int v6, .ref 307] _ _ _ _
      refine mp_a (a_goto (t := 161) dX7_cuts_157 (by decide)) ?_
      refine mt_ias (n := 8) hT48 dX7_cuts_161 rl_307 (by decide) rfl rfl (by omega) (by omega) rfl (ti_full x85) (fun P88 hT89 f90 f91 f92 => mpp 162 rfl ?_)
      have k93 : KW [1093, 1094, 1152, 1408, 1472] Po P88 := KW.step k52 rl_307 rfl f91 f92
      have R94 := Rel.ne R53 rl_307 rfl f91
      obtain ⟨z95, h96⟩ := ti_ex (v6 + 1 : Int32)
      have wz95 := ti_full z95
      refine mp_a (a_iinc (v := z95) (L' := [(6, .int z95), (0, .ref 301), (1, .int t1), (2, .int t2), (3, .int v3), (4, .int v4), (5, .int v5)]) dX7_cuts_162 (by decide) rfl h96 rfl) (mpp 165 rfl ?_)
      try have e97 : z95.toInt = v6.toInt + 1 := ti_addz h96 rfl rfl (by omega) (by omega)
      refine mp_a (a_goto (t := 108) dX7_cuts_165 (by decide)) ?_
      refine MEvP.less (L := [(0, .ref 301), (1, .int t1), (2, .int t2), (3, .int v3), (4, .int v4), (5, .int v5), (6, .int z95)]) rfl rfl ⟨rfl, rfl, rfl, rfl, rfl, rfl, rfl, trivial⟩ ?_
      have i98 : 0 ≤ t1.toInt := by omega
      have i99 : t1.toInt ≤ 7 := by omega
      have i100 : 0 ≤ v4.toInt := by omega
      have i101 : 2 ≤ v5.toInt := by omega
      have i102 : 2 ≤ v4.toInt := by omega
      have i103 : v4.toInt + v5.toInt ≤ 8 := by omega
      have i104 : 0 ≤ z95.toInt := by omega
      exact ih _ (by omega) _ _ _ _ P88 hT89 k93 R94 i98 i99 i100 i101 i102 i103 i104 rfl

set_option maxHeartbeats 4000000 in
theorem c_M_cuts {Po : mP} {t1 : Int32} {t2 : Int32} (hT : Typ Po) (hR : Rel Po)  : EvP 6 157 [.ref 301, .int t1, .int t2] Po (fun r P' => (∃ x : Int32, r = some (.int x) ∧ (True)) ∧ Typ P' ∧ KW [1093, 1094, 1152, 1408, 1472] Po P' ∧ Rel P') := by
  refine EvP.of qm_157 (Nat.le_of_ble_eq_true rfl) rfl ?_
  show MEvP _ none q_157 0 [(0, .ref 301), (1, .int t1), (2, .int t2)] [] _ 0 0 _
  refine mp_a (a_aload_n dX7_cuts_0 rfl) (mpp 1 rfl ?_)
  refine mp_a (a_iload_n dX7_cuts_1 rfl) (mpp 2 rfl ?_)
  refine mp_a (a_iload_n dX7_cuts_2 rfl) (mpp 3 rfl ?_)
  refine mt_callv (i := 127) (q' := q_143) (As := [.int t1, .int t2]) (rest := []) hT dX7_cuts_3 rfl qm_143 (by decide) rfl rl_301 (by decide) rfl (Nat.le_of_ble_eq_true rfl) rfl ⟨rfl, rfl⟩ ⟨Nat.le_of_ble_eq_true rfl, Nat.le_of_ble_eq_true rfl⟩ (EvP.mono (by decide) (c_M_isCrease hT )) (fun r1 P2 g3 => mpp 6 rfl ?_)
  obtain ⟨⟨x4, rfl, g5⟩, e6⟩ := g3
  have e6 := e6.symm
  subst e6
  have wx4 := ti_full x4
  have g5 : 0 ≤ x4.toInt ∧ x4.toInt ≤ 1 ∧ ((x4.toInt = 0 ∧ (t1.toInt < 0 ∨ (fv Po 302 0).toInt ≤ t1.toInt ∨ t2.toInt < 0 ∨ ((fv Po 302 (3 + 19 * t1.toInt.toNat)).toInt = 1 ∧ (fv Po 302 (4 + 19 * t1.toInt.toNat)).toInt ≤ t2.toInt) ∨ ((fv Po 302 (3 + 19 * t1.toInt.toNat)).toInt = 0 ∧ (fv Po 302 (4 + 19 * t1.toInt.toNat)).toInt - 1 ≤ t2.toInt))) ∨ (x4.toInt = 1 ∧ 0 ≤ t1.toInt ∧ t1.toInt + 1 ≤ (fv Po 302 0).toInt ∧ t1.toInt ≤ 7 ∧ 0 ≤ t2.toInt ∧ t2.toInt ≤ 7 ∧ t2.toInt + 1 ≤ (fv Po 302 (4 + 19 * t1.toInt.toNat)).toInt ∧ (((fv Po 302 (3 + 19 * t1.toInt.toNat)).toInt = 1 ∧ t2.toInt < (fv Po 302 (4 + 19 * t1.toInt.toNat)).toInt) ∨ ((fv Po 302 (3 + 19 * t1.toInt.toNat)).toInt = 0 ∧ t2.toInt < (fv Po 302 (4 + 19 * t1.toInt.toNat)).toInt - 1)))) := g5
  have g7 : (0 : Int) ≤ (fv Po 302 0).toInt ∧ (fv Po 302 0).toInt ≤ 8 := Typ.rng hT rl_302 (by decide) (by decide) rfl
  have g8 := ti_full (fv Po 302 (3 + 19 * t1.toInt.toNat))
  have g9 := ti_full (fv Po 302 (4 + 19 * t1.toInt.toNat))
  show MEvP _ none q_157 6 [(0, .ref 301), (1, .int t1), (2, .int t2)] [.int x4] _ _ _ _
  refine mp_Tb (t := 13) (j_if_ne dX7_cuts_6) (by decide) (fun c10 => ?_) (fun c10 => mpp 9 rfl ?_)
  · have c10 : x4.toInt ≠ 0 := ti_ne c10
    refine mp_a (a_aload_n dX7_cuts_13 rfl) (mpp 14 rfl ?_)
    refine mt_getU (i := 9) (k := 0) (A := 302) hT dX7_cuts_14 rfl rl_301 (by decide) rfl (by decide) rfl un_18 (mpp 17 rfl ?_)
    refine mp_a (a_iconst (v := 0) dX7_cuts_17 rfl) (mpp 18 rfl ?_)
    refine mt_ialX (n := 155) hT dX7_cuts_18 rl_302 (by decide) rfl rfl (by decide) (by decide) ssp_0 (fun g11 => mpp 19 rfl ?_)
    have we13 := ti_full (fv Po 302 0)
    refine mp_a (a_bipush (v := 8) dX7_cuts_19 rfl) (mpp 21 rfl ?_)
    refine mp_Tb (t := 32) (j_icmp_ne dX7_cuts_21) (by decide) (fun c14 => ?_) (fun c14 => mpp 24 rfl ?_)
    · have c14 : (fv Po 302 0).toInt ≠ 8 := ti_ne c14
      refine mp_a (a_aload_n dX7_cuts_32 rfl) (mpp 33 rfl ?_)
      refine mp_a (a_iload_n dX7_cuts_33 rfl) (mpp 34 rfl ?_)
      have p15 : 0 ≤ t1.toInt := by omega
      have p16 : t1.toInt ≤ 7 := by omega
      refine mt_callv (i := 130) (q' := q_145) (As := [.int t1]) (rest := []) hT dX7_cuts_34 rfl qm_145 (by decide) rfl rl_301 (by decide) rfl (Nat.le_of_ble_eq_true rfl) rfl ⟨rfl, rfl⟩ ⟨Nat.le_of_ble_eq_true rfl, Nat.le_of_ble_eq_true rfl⟩ (EvP.mono (by decide) (c_M_isFolded hT p15 p16 )) (fun r17 P18 g19 => mpp 37 rfl ?_)
      obtain ⟨⟨x20, rfl, g21⟩, e22⟩ := g19
      have e22 := e22.symm
      subst e22
      have wx20 := ti_full x20
      have g21 : 0 ≤ x20.toInt ∧ x20.toInt ≤ 1 ∧ ((x20.toInt = 1 ∧ (fv Po 302 (5 + 19 * t1.toInt.toNat)).toInt = 1) ∨ (x20.toInt = 0 ∧ (fv Po 302 (5 + 19 * t1.toInt.toNat)).toInt ≠ 1)) := g21
      have g23 := ti_full (fv Po 302 (5 + 19 * t1.toInt.toNat))
      show MEvP _ none q_157 37 [(0, .ref 301), (1, .int t1), (2, .int t2)] [.int x20] _ _ _ _
      refine mp_Tb (t := 47) (j_if_eq dX7_cuts_37) (by decide) (fun c24 => ?_) (fun c24 => mpp 40 rfl ?_)
      · have c24 : x20.toInt = 0 := ti_eq c24
        refine mp_a (a_aload_n dX7_cuts_47 rfl) (mpp 48 rfl ?_)
        refine mp_a (a_iload_n dX7_cuts_48 rfl) (mpp 49 rfl ?_)
        have p25 : 0 ≤ t1.toInt := by omega
        have p26 : t1.toInt ≤ 7 := by omega
        refine mt_callv (i := 81) (q' := q_138) (As := [.int t1]) (rest := []) hT dX7_cuts_49 rfl qm_138 (by decide) rfl rl_301 (by decide) rfl (Nat.le_of_ble_eq_true rfl) rfl ⟨rfl, rfl⟩ ⟨Nat.le_of_ble_eq_true rfl, Nat.le_of_ble_eq_true rfl⟩ (EvP.mono (by decide) (c_M_isCorner hT p25 p26 )) (fun r27 P28 g29 => mpp 52 rfl ?_)
        obtain ⟨⟨x30, rfl, g31⟩, e32⟩ := g29
        have e32 := e32.symm
        subst e32
        have wx30 := ti_full x30
        have g31 : 0 ≤ x30.toInt ∧ x30.toInt ≤ 1 ∧ ((x30.toInt = 1 ∧ (fv Po 302 (3 + 19 * t1.toInt.toNat)).toInt = 1) ∨ (x30.toInt = 0 ∧ (fv Po 302 (3 + 19 * t1.toInt.toNat)).toInt = 0)) := g31
        show MEvP _ none q_157 52 [(0, .ref 301), (1, .int t1), (2, .int t2)] [.int x30] _ _ _ _
        refine mp_Tb (t := 62) (j_if_eq dX7_cuts_52) (by decide) (fun c33 => ?_) (fun c33 => mpp 55 rfl ?_)
        · have c33 : x30.toInt = 0 := ti_eq c33
          refine mp_a (a_aload_n dX7_cuts_62 rfl) (mpp 63 rfl ?_)
          refine mp_a (a_iload_n dX7_cuts_63 rfl) (mpp 64 rfl ?_)
          refine mp_a (a_iconst (v := 1) dX7_cuts_64 rfl) (mpp 65 rfl ?_)
          have p34 : 0 ≤ t1.toInt := by omega
          have p35 : t1.toInt ≤ 7 := by omega
          have p36 : 0 ≤ (1 : Int) := by omega
          have p37 : (1 : Int) ≤ 18 := by omega
          refine mt_callv (i := 78) (q' := q_137) (As := [.int t1, .int 1]) (rest := []) hT dX7_cuts_65 rfl qm_137 (by decide) rfl rl_301 (by decide) rfl (Nat.le_of_ble_eq_true rfl) rfl ⟨rfl, rfl⟩ ⟨Nat.le_of_ble_eq_true rfl, Nat.le_of_ble_eq_true rfl⟩ (EvP.mono (by decide) (c_M_of_c1 hT p34 p35 p36 p37 )) (fun r38 P39 g40 => mpp 68 rfl ?_)
          obtain ⟨⟨x41, rfl, g42⟩, e43⟩ := g40
          have e43 := e43.symm
          subst e43
          have wx41 := ti_full x41
          have g42 : x41.toInt = (fv Po 302 (4 + 19 * t1.toInt.toNat)).toInt ∧ 0 ≤ x41.toInt ∧ x41.toInt ≤ 8 := g42
          show MEvP _ none q_157 68 [(0, .ref 301), (1, .int t1), (2, .int t2)] [.int x41] _ _ _ _
          refine mp_a (a_istore_n (L' := [(3, .int x41), (0, .ref 301), (1, .int t1), (2, .int t2)]) dX7_cuts_68 (by decide) rfl) (mpp 69 rfl ?_)
          refine mp_a (a_iload_n dX7_cuts_69 rfl) (mpp 70 rfl ?_)
          refine mp_a (a_iconst (v := 1) dX7_cuts_70 rfl) (mpp 71 rfl ?_)
          obtain ⟨z44, h45⟩ := ti_ex (t2 + 1 : Int32)
          have wz44 := ti_full z44
          refine mp_t (s_iadd (v := z44) dX7_cuts_71 h45) (mpp 72 rfl ?_)
          try have e46 : z44.toInt = t2.toInt + 1 := ti_addz h45 rfl rfl (by omega) (by omega)
          refine mp_a (a_istore (L' := [(4, .int z44), (3, .int x41), (0, .ref 301), (1, .int t1), (2, .int t2)]) dX7_cuts_72 (by decide) rfl) (mpp 74 rfl ?_)
          refine mp_a (a_iload_n dX7_cuts_74 rfl) (mpp 75 rfl ?_)
          refine mp_a (a_iload dX7_cuts_75 rfl) (mpp 77 rfl ?_)
          obtain ⟨z47, h48⟩ := ti_ex (x41 - z44 : Int32)
          have wz47 := ti_full z47
          refine mp_t (s_isub (v := z47) dX7_cuts_77 h48) (mpp 78 rfl ?_)
          try have e49 : z47.toInt = x41.toInt - z44.toInt := ti_subz h48 rfl rfl (by omega) (by omega)
          refine mp_a (a_istore (L' := [(5, .int z47), (4, .int z44), (3, .int x41), (0, .ref 301), (1, .int t1), (2, .int t2)]) dX7_cuts_78 (by decide) rfl) (mpp 80 rfl ?_)
          refine mp_a (a_iload dX7_cuts_80 rfl) (mpp 82 rfl ?_)
          refine mp_a (a_iload dX7_cuts_82 rfl) (mpp 84 rfl ?_)
          refine mp_calls (i := 155) (q' := q_158) (As := [.int z44, .int z47]) (rest := []) dX7_cuts_84 rfl qm_158 (by decide) rfl (Nat.le_of_ble_eq_true rfl) rfl ⟨rfl, rfl⟩ ⟨Nat.le_of_ble_eq_true rfl, Nat.le_of_ble_eq_true rfl⟩ (EvP.mono (by decide) (c_M_lesser hT )) (fun r50 P51 g52 => mpp 87 rfl ?_)
          obtain ⟨⟨x53, rfl, g54⟩, e55⟩ := g52
          have e55 := e55.symm
          subst e55
          have wx53 := ti_full x53
          have g54 : (x53.toInt = z44.toInt ∧ z44.toInt ≤ z47.toInt) ∨ (x53.toInt = z47.toInt ∧ z47.toInt ≤ z44.toInt) := g54
          show MEvP _ none q_157 87 [(5, .int z47), (4, .int z44), (3, .int x41), (0, .ref 301), (1, .int t1), (2, .int t2)] [.int x53] _ _ _ _
          refine mp_a (a_iconst (v := 2) dX7_cuts_87 rfl) (mpp 88 rfl ?_)
          refine mp_Tb (t := 105) (j_icmp_ge dX7_cuts_88) (by decide) (fun c56 => ?_) (fun c56 => mpp 91 rfl ?_)
          · have c56 : x53.toInt ≥ 2 := ti_ge c56
            refine mp_a (a_iconst (v := 0) dX7_cuts_105 rfl) (mpp 106 rfl ?_)
            refine mp_a (a_istore (L' := [(6, .int 0), (5, .int z47), (4, .int z44), (3, .int x41), (0, .ref 301), (1, .int t1), (2, .int t2)]) dX7_cuts_106 (by decide) rfl) (mpp 108 rfl ?_)
            refine MEvP.less (L := [(0, .ref 301), (1, .int t1), (2, .int t2), (3, .int x41), (4, .int z44), (5, .int z47), (6, .int 0)]) rfl rfl ⟨rfl, rfl, rfl, rfl, rfl, rfl, rfl, trivial⟩ ?_
            have i57 : 0 ≤ t1.toInt := by omega
            have i58 : t1.toInt ≤ 7 := by omega
            have i59 : 0 ≤ z44.toInt := by omega
            have i60 : 2 ≤ z47.toInt := by omega
            have i61 : 2 ≤ z44.toInt := by omega
            have i62 : z44.toInt + z47.toInt ≤ 8 := by omega
            have i63 : 0 ≤ (0 : Int) := by omega
            exact c_M_cuts_l108    _ _ _ _ _ Po hT KW.refl hR i57 i58 i59 i60 i61 i62 i63 rfl
          · have c56 : x53.toInt < 2 := ti_ge_n c56
            refine mp_a (a_aload_n dX7_cuts_91 rfl) (mpp 92 rfl ?_)
            refine mp_a (a_bipush (v := 6) dX7_cuts_92 rfl) (mpp 94 rfl ?_)
            refine mp_a (a_iload dX7_cuts_94 rfl) (mpp 96 rfl ?_)
            refine mp_a (a_iload dX7_cuts_96 rfl) (mpp 98 rfl ?_)
            refine mp_calls (i := 155) (q' := q_158) (As := [.int z44, .int z47]) (rest := [.int 6, .ref 301]) dX7_cuts_98 rfl qm_158 (by decide) rfl (Nat.le_of_ble_eq_true rfl) rfl ⟨rfl, rfl⟩ ⟨Nat.le_of_ble_eq_true rfl, Nat.le_of_ble_eq_true rfl⟩ (EvP.mono (by decide) (c_M_lesser hT )) (fun r64 P65 g66 => mpp 101 rfl ?_)
            obtain ⟨⟨x67, rfl, g68⟩, e69⟩ := g66
            have e69 := e69.symm
            subst e69
            have wx67 := ti_full x67
            have g68 : (x67.toInt = z44.toInt ∧ z44.toInt ≤ z47.toInt) ∨ (x67.toInt = z47.toInt ∧ z47.toInt ≤ z44.toInt) := g68
            show MEvP _ none q_157 101 [(5, .int z47), (4, .int z44), (3, .int x41), (0, .ref 301), (1, .int t1), (2, .int t2)] [.int x67, .int 6, .ref 301] _ _ _ _
            refine mt_callv (i := 101) (q' := q_134) (As := [.int 6, .int x67]) (rest := []) hT dX7_cuts_101 rfl qm_134 (by decide) rfl rl_301 (by decide) rfl (Nat.le_of_ble_eq_true rfl) rfl ⟨rfl, rfl⟩ ⟨Nat.le_of_ble_eq_true rfl, Nat.le_of_ble_eq_true rfl⟩ (EvP.mono (by decide) (c_M_refuses hT )) (fun r70 P71 g72 => mpp 104 rfl ?_)
            obtain ⟨⟨x73, rfl, g74⟩, hT75, k76, R77⟩ := g72
            have k78 : KW [1093, 1094, 1152, 1408, 1472] Po P71 := KW.trans KW.refl k76 rfl
            have R80 := Rel.kw hR k76 rfl
            have wx73 := ti_full x73
            have g74 : x73.toInt = -1003 := g74
            show MEvP _ none q_157 104 [(5, .int z47), (4, .int z44), (3, .int x41), (0, .ref 301), (1, .int t1), (2, .int t2)] [.int x73] _ _ _ _
            exact mp_iret ⟨⟨_, rfl, trivial⟩, hT75, k78, R80⟩ dX7_cuts_104 (Or.inl rfl)
        · have c33 : x30.toInt ≠ 0 := ti_eq_n c33
          refine mp_a (a_aload_n dX7_cuts_55 rfl) (mpp 56 rfl ?_)
          refine mp_a (a_iconst (v := 3) dX7_cuts_56 rfl) (mpp 57 rfl ?_)
          refine mp_a (a_iload_n dX7_cuts_57 rfl) (mpp 58 rfl ?_)
          refine mt_callv (i := 101) (q' := q_134) (As := [.int 3, .int t1]) (rest := []) hT dX7_cuts_58 rfl qm_134 (by decide) rfl rl_301 (by decide) rfl (Nat.le_of_ble_eq_true rfl) rfl ⟨rfl, rfl⟩ ⟨Nat.le_of_ble_eq_true rfl, Nat.le_of_ble_eq_true rfl⟩ (EvP.mono (by decide) (c_M_refuses hT )) (fun r81 P82 g83 => mpp 61 rfl ?_)
          obtain ⟨⟨x84, rfl, g85⟩, hT86, k87, R88⟩ := g83
          have k89 : KW [1093, 1094, 1152, 1408, 1472] Po P82 := KW.trans KW.refl k87 rfl
          have R91 := Rel.kw hR k87 rfl
          have wx84 := ti_full x84
          have g85 : x84.toInt = -1003 := g85
          show MEvP _ none q_157 61 [(0, .ref 301), (1, .int t1), (2, .int t2)] [.int x84] _ _ _ _
          exact mp_iret ⟨⟨_, rfl, trivial⟩, hT86, k89, R91⟩ dX7_cuts_61 (Or.inl rfl)
      · have c24 : x20.toInt ≠ 0 := ti_eq_n c24
        refine mp_a (a_aload_n dX7_cuts_40 rfl) (mpp 41 rfl ?_)
        refine mp_a (a_iconst (v := 2) dX7_cuts_41 rfl) (mpp 42 rfl ?_)
        refine mp_a (a_iload_n dX7_cuts_42 rfl) (mpp 43 rfl ?_)
        refine mt_callv (i := 101) (q' := q_134) (As := [.int 2, .int t1]) (rest := []) hT dX7_cuts_43 rfl qm_134 (by decide) rfl rl_301 (by decide) rfl (Nat.le_of_ble_eq_true rfl) rfl ⟨rfl, rfl⟩ ⟨Nat.le_of_ble_eq_true rfl, Nat.le_of_ble_eq_true rfl⟩ (EvP.mono (by decide) (c_M_refuses hT )) (fun r92 P93 g94 => mpp 46 rfl ?_)
        obtain ⟨⟨x95, rfl, g96⟩, hT97, k98, R99⟩ := g94
        have k100 : KW [1093, 1094, 1152, 1408, 1472] Po P93 := KW.trans KW.refl k98 rfl
        have R102 := Rel.kw hR k98 rfl
        have wx95 := ti_full x95
        have g96 : x95.toInt = -1003 := g96
        show MEvP _ none q_157 46 [(0, .ref 301), (1, .int t1), (2, .int t2)] [.int x95] _ _ _ _
        exact mp_iret ⟨⟨_, rfl, trivial⟩, hT97, k100, R102⟩ dX7_cuts_46 (Or.inl rfl)
    · have c14 : (fv Po 302 0).toInt = 8 := ti_ne_n c14
      refine mp_a (a_aload_n dX7_cuts_24 rfl) (mpp 25 rfl ?_)
      refine mp_a (a_iconst (v := 1) dX7_cuts_25 rfl) (mpp 26 rfl ?_)
      refine mp_a (a_bipush (v := 8) dX7_cuts_26 rfl) (mpp 28 rfl ?_)
      refine mt_callv (i := 101) (q' := q_134) (As := [.int 1, .int 8]) (rest := []) hT dX7_cuts_28 rfl qm_134 (by decide) rfl rl_301 (by decide) rfl (Nat.le_of_ble_eq_true rfl) rfl ⟨rfl, rfl⟩ ⟨Nat.le_of_ble_eq_true rfl, Nat.le_of_ble_eq_true rfl⟩ (EvP.mono (by decide) (c_M_refuses hT )) (fun r103 P104 g105 => mpp 31 rfl ?_)
      obtain ⟨⟨x106, rfl, g107⟩, hT108, k109, R110⟩ := g105
      have k111 : KW [1093, 1094, 1152, 1408, 1472] Po P104 := KW.trans KW.refl k109 rfl
      have R113 := Rel.kw hR k109 rfl
      have wx106 := ti_full x106
      have g107 : x106.toInt = -1003 := g107
      show MEvP _ none q_157 31 [(0, .ref 301), (1, .int t1), (2, .int t2)] [.int x106] _ _ _ _
      exact mp_iret ⟨⟨_, rfl, trivial⟩, hT108, k111, R113⟩ dX7_cuts_31 (Or.inl rfl)
  · have c10 : x4.toInt = 0 := ti_ne_n c10
    refine mp_a (a_sipush (v := -1001) dX7_cuts_9 rfl) (mpp 12 rfl ?_)
    exact mp_iret ⟨⟨_, rfl, trivial⟩, hT, KW.refl, hR⟩ dX7_cuts_12 (Or.inl rfl)

