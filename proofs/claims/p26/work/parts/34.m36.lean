/-! methods on typed pools, 36 (written by a program) -/
set_option maxHeartbeats 4000000 in
theorem c_M_readsCommand {Po : mP}  (hT : Typ Po)  (hp0 : (fv Po 301 24).toInt ≤ (fv Po 301 23).toInt)  : EvP 4 217 [.ref 301] Po (fun r P' => (∃ x : Int32, r = some (.int x) ∧ (0 ≤ x.toInt ∧ x.toInt ≤ 1 ∧ ((fv Po 301 24).toInt ≤ (fv P' 301 24).toInt ∧ (fv P' 301 24).toInt ≤ (fv Po 301 23).toInt))) ∧ Typ P' ∧ KW [1112, 1113, 1114, 1115, 1116, 1117] Po P' ∧ True) := by
  refine EvP.of qm_217 (Nat.le_of_ble_eq_true rfl) rfl ?_
  show MEvP _ none q_217 0 [(0, .ref 301)] [] _ 0 0 _
  have g1 : (0 : Int) ≤ (fv Po 301 24).toInt ∧ (fv Po 301 24).toInt ≤ 81 := Typ.rng hT rl_301 (by decide) (by decide) rfl
  have g2 : (0 : Int) ≤ (fv Po 301 23).toInt ∧ (fv Po 301 23).toInt ≤ 80 := Typ.rng hT rl_301 (by decide) (by decide) rfl
  refine mp_a (a_aload_n dX7_readsCommand_0 rfl) (mpp 1 rfl ?_)
  refine mp_a (a_aload_n dX7_readsCommand_1 rfl) (mpp 2 rfl ?_)
  refine mt_callv (i := 297) (q' := q_218) (As := []) (rest := [.ref 301]) hT dX7_readsCommand_2 rfl qm_218 (by decide) rfl rl_301 (by decide) rfl (Nat.le_of_ble_eq_true rfl) rfl ⟨rfl, rfl⟩ ⟨Nat.le_of_ble_eq_true rfl, Nat.le_of_ble_eq_true rfl⟩ (EvP.mono (by decide) (c_M_sign hT )) (fun r3 P4 g5 => mpp 5 rfl ?_)
  obtain ⟨⟨x6, rfl, g7⟩, e8⟩ := g5
  have e8 := e8.symm
  subst e8
  have wx6 := ti_full x6
  have g7 : x6.toInt = -1 ∨ (fv Po 301 24).toInt + 1 ≤ (fv Po 301 23).toInt := g7
  show MEvP _ none q_217 5 [(0, .ref 301)] [.int x6, .ref 301] _ _ _ _
  refine mt_putI (i := 321) (k := 25) (x := x6) hT dX7_readsCommand_5 rfl rl_301 (by decide) rfl (by decide) rfl (ti_full x6) rfl rfl (fun P9 hT10 f11 f12 => mpp 8 rfl ?_)
  have k13 : KW [1112, 1113, 1114, 1115, 1116, 1117] Po P9 := KW.step KW.refl rl_301 rfl f12
  have e14 : (fv P9 301 25).toInt = x6.toInt := congrArg Int32.toInt f11
  refine mp_a (a_aload_n dX7_readsCommand_8 rfl) (mpp 9 rfl ?_)
  refine mt_getI (i := 321) (k := 25) hT10 dX7_readsCommand_9 rfl rl_301 (by decide) rfl (by decide) rfl (fun g15 g16 => mpp 12 rfl ?_)
  refine mp_a (a_bipush (v := 115) dX7_readsCommand_12 rfl) (mpp 14 rfl ?_)
  refine mp_Tb (t := 26) (j_icmp_eq dX7_readsCommand_14) (by decide) (fun c17 => ?_) (fun c17 => mpp 17 rfl ?_)
  · have c17 : (fv P9 301 25).toInt = 115 := ti_eq c17
    refine mp_a (a_aload_n dX7_readsCommand_26 rfl) (mpp 27 rfl ?_)
    refine mp_t (s_dup dX7_readsCommand_27 rfl) (mpp 28 rfl ?_)
    have e18 : (fv P9 301 24).toInt = (fv Po 301 24).toInt := congrArg Int32.toInt (f12 301 24 (ne_k rfl))
    refine mt_getI (i := 294) (k := 24) hT10 dX7_readsCommand_28 rfl rl_301 (by decide) rfl (by decide) rfl (fun g19 g20 => mpp 31 rfl ?_)
    refine mp_a (a_iconst (v := 1) dX7_readsCommand_31 rfl) (mpp 32 rfl ?_)
    obtain ⟨z21, h22⟩ := ti_ex ((fv P9 301 24) + 1 : Int32)
    have wz21 := ti_full z21
    refine mp_t (s_iadd (v := z21) dX7_readsCommand_32 h22) (mpp 33 rfl ?_)
    try have e23 : z21.toInt = (fv P9 301 24).toInt + 1 := ti_addz h22 rfl rfl (by omega) (by omega)
    refine mt_putI (i := 294) (k := 24) (x := z21) hT10 dX7_readsCommand_33 rfl rl_301 (by decide) rfl (by decide) rfl ⟨by omega, by omega⟩ rfl rfl (fun P24 hT25 f26 f27 => mpp 36 rfl ?_)
    have k28 : KW [1112, 1113, 1114, 1115, 1116, 1117] Po P24 := KW.step k13 rl_301 rfl f27
    have e29 : (fv P24 301 24).toInt = z21.toInt := congrArg Int32.toInt f26
    refine mp_a (a_aload_n dX7_readsCommand_36 rfl) (mpp 37 rfl ?_)
    have e30 : (fv P24 301 23).toInt = (fv Po 301 23).toInt := congrArg Int32.toInt ((f27 301 23 (ne_k rfl)).trans (f12 301 23 (ne_k rfl)))
    have p31 : (fv P24 301 24).toInt ≤ (fv P24 301 23).toInt := by omega
    refine mt_callv (i := 324) (q' := q_219) (As := []) (rest := []) hT25 dX7_readsCommand_37 rfl qm_219 (by decide) rfl rl_301 (by decide) rfl (Nat.le_of_ble_eq_true rfl) rfl ⟨rfl, rfl⟩ ⟨Nat.le_of_ble_eq_true rfl, Nat.le_of_ble_eq_true rfl⟩ (EvP.mono (by decide) (c_M_readsSizes hT25 p31 )) (fun r32 P33 g34 => mpp 40 rfl ?_)
    obtain ⟨⟨x35, rfl, g36⟩, hT37, k38, R39⟩ := g34
    have k40 : KW [1112, 1113, 1114, 1115, 1116, 1117] Po P33 := KW.trans k28 k38 rfl
    have wx35 := ti_full x35
    have g36 : 0 ≤ x35.toInt ∧ x35.toInt ≤ 1 ∧ ((fv P24 301 24).toInt ≤ (fv P33 301 24).toInt ∧ (fv P33 301 24).toInt ≤ (fv P24 301 23).toInt) := g36
    have g41 : (0 : Int) ≤ (fv P33 301 24).toInt ∧ (fv P33 301 24).toInt ≤ 81 := Typ.rng hT37 rl_301 (by decide) (by decide) rfl
    have g42 : (0 : Int) ≤ (fv P33 301 24).toInt ∧ (fv P33 301 24).toInt ≤ 81 := Typ.rng hT37 rl_301 (by decide) (by decide) rfl
    show MEvP _ none q_217 40 [(0, .ref 301)] [.int x35] _ _ _ _
    refine mp_Tb (t := 63) (j_if_eq dX7_readsCommand_40) (by decide) (fun c43 => ?_) (fun c43 => mpp 43 rfl ?_)
    · have c43 : x35.toInt = 0 := ti_eq c43
      refine mp_a (a_iconst (v := 0) dX7_readsCommand_63 rfl) (mpp 64 rfl ?_)
      have u44 : 0 ≤ (0 : Int) ∧ (0 : Int) ≤ 1 ∧ ((fv Po 301 24).toInt ≤ (fv P33 301 24).toInt ∧ (fv P33 301 24).toInt ≤ (fv Po 301 23).toInt) := by omega
      exact mp_iret ⟨⟨_, rfl, u44⟩, hT37, k40, trivial⟩ dX7_readsCommand_64 (Or.inr ⟨rfl, by decide⟩)
    · have c43 : x35.toInt ≠ 0 := ti_eq_n c43
      refine mp_a (a_aload_n dX7_readsCommand_43 rfl) (mpp 44 rfl ?_)
      refine mp_a (a_bipush (v := 58) dX7_readsCommand_44 rfl) (mpp 46 rfl ?_)
      have p45 : 0 ≤ (58 : Int) := by omega
      refine mt_callv (i := 312) (q' := q_220) (As := [.int 58]) (rest := []) hT37 dX7_readsCommand_46 rfl qm_220 (by decide) rfl rl_301 (by decide) rfl (Nat.le_of_ble_eq_true rfl) rfl ⟨rfl, rfl⟩ ⟨Nat.le_of_ble_eq_true rfl, Nat.le_of_ble_eq_true rfl⟩ (EvP.mono (by decide) (c_M_takes hT37 p45 )) (fun r46 P47 g48 => mpp 49 rfl ?_)
      obtain ⟨⟨x49, rfl, g50⟩, hT51, k52, R53⟩ := g48
      have k54 : KW [1112, 1113, 1114, 1115, 1116, 1117] Po P47 := KW.trans k40 k52 rfl
      have wx49 := ti_full x49
      have g50 : 0 ≤ x49.toInt ∧ x49.toInt ≤ 1 ∧ ((x49.toInt = 1 ∧ (fv P47 301 24).toInt = (fv P33 301 24).toInt + 1 ∧ (fv P47 301 24).toInt ≤ (fv P33 301 23).toInt) ∨ (x49.toInt = 0 ∧ (fv P47 301 24).toInt = (fv P33 301 24).toInt)) := g50
      have g55 : (0 : Int) ≤ (fv P47 301 24).toInt ∧ (fv P47 301 24).toInt ≤ 81 := Typ.rng hT51 rl_301 (by decide) (by decide) rfl
      have g56 : (0 : Int) ≤ (fv P47 301 24).toInt ∧ (fv P47 301 24).toInt ≤ 81 := Typ.rng hT51 rl_301 (by decide) (by decide) rfl
      have e57 : (fv P33 301 23).toInt = (fv P24 301 23).toInt := congrArg Int32.toInt (KW.at k38 23 rl_301 rfl)
      have g58 : (0 : Int) ≤ (fv P47 301 24).toInt ∧ (fv P47 301 24).toInt ≤ 81 := Typ.rng hT51 rl_301 (by decide) (by decide) rfl
      show MEvP _ none q_217 49 [(0, .ref 301)] [.int x49] _ _ _ _
      refine mp_Tb (t := 63) (j_if_eq dX7_readsCommand_49) (by decide) (fun c59 => ?_) (fun c59 => mpp 52 rfl ?_)
      · have c59 : x49.toInt = 0 := ti_eq c59
        refine mp_a (a_iconst (v := 0) dX7_readsCommand_63 rfl) (mpp 64 rfl ?_)
        have u60 : 0 ≤ (0 : Int) ∧ (0 : Int) ≤ 1 ∧ ((fv Po 301 24).toInt ≤ (fv P47 301 24).toInt ∧ (fv P47 301 24).toInt ≤ (fv Po 301 23).toInt) := by omega
        exact mp_iret ⟨⟨_, rfl, u60⟩, hT51, k54, trivial⟩ dX7_readsCommand_64 (Or.inr ⟨rfl, by decide⟩)
      · have c59 : x49.toInt ≠ 0 := ti_eq_n c59
        refine mp_a (a_aload_n dX7_readsCommand_52 rfl) (mpp 53 rfl ?_)
        have e61 : (fv P47 301 23).toInt = (fv P33 301 23).toInt := congrArg Int32.toInt (KW.at k52 23 rl_301 rfl)
        have p62 : (fv P47 301 24).toInt ≤ (fv P47 301 23).toInt := by omega
        refine mt_callv (i := 327) (q' := q_221) (As := []) (rest := []) hT51 dX7_readsCommand_53 rfl qm_221 (by decide) rfl rl_301 (by decide) rfl (Nat.le_of_ble_eq_true rfl) rfl ⟨rfl, rfl⟩ ⟨Nat.le_of_ble_eq_true rfl, Nat.le_of_ble_eq_true rfl⟩ (EvP.mono (by decide) (c_M_readsSigns hT51 p62 )) (fun r63 P64 g65 => mpp 56 rfl ?_)
        obtain ⟨⟨x66, rfl, g67⟩, hT68, k69, R70⟩ := g65
        have k71 : KW [1112, 1113, 1114, 1115, 1116, 1117] Po P64 := KW.trans k54 k69 rfl
        have wx66 := ti_full x66
        have g67 : 0 ≤ x66.toInt ∧ x66.toInt ≤ 1 ∧ ((fv P47 301 24).toInt ≤ (fv P64 301 24).toInt ∧ (fv P64 301 24).toInt ≤ (fv P47 301 23).toInt) := g67
        have g72 : (0 : Int) ≤ (fv P64 301 24).toInt ∧ (fv P64 301 24).toInt ≤ 81 := Typ.rng hT68 rl_301 (by decide) (by decide) rfl
        have g73 : (0 : Int) ≤ (fv P64 301 24).toInt ∧ (fv P64 301 24).toInt ≤ 81 := Typ.rng hT68 rl_301 (by decide) (by decide) rfl
        show MEvP _ none q_217 56 [(0, .ref 301)] [.int x66] _ _ _ _
        refine mp_Tb (t := 63) (j_if_eq dX7_readsCommand_56) (by decide) (fun c74 => ?_) (fun c74 => mpp 59 rfl ?_)
        · have c74 : x66.toInt = 0 := ti_eq c74
          refine mp_a (a_iconst (v := 0) dX7_readsCommand_63 rfl) (mpp 64 rfl ?_)
          have u75 : 0 ≤ (0 : Int) ∧ (0 : Int) ≤ 1 ∧ ((fv Po 301 24).toInt ≤ (fv P64 301 24).toInt ∧ (fv P64 301 24).toInt ≤ (fv Po 301 23).toInt) := by omega
          exact mp_iret ⟨⟨_, rfl, u75⟩, hT68, k71, trivial⟩ dX7_readsCommand_64 (Or.inr ⟨rfl, by decide⟩)
        · have c74 : x66.toInt ≠ 0 := ti_eq_n c74
          refine mp_a (a_iconst (v := 1) dX7_readsCommand_59 rfl) (mpp 60 rfl ?_)
          refine mp_a (a_goto (t := 64) dX7_readsCommand_60 (by decide)) ?_
          have u76 : 0 ≤ (1 : Int) ∧ (1 : Int) ≤ 1 ∧ ((fv Po 301 24).toInt ≤ (fv P64 301 24).toInt ∧ (fv P64 301 24).toInt ≤ (fv Po 301 23).toInt) := by omega
          exact mp_iret ⟨⟨_, rfl, u76⟩, hT68, k71, trivial⟩ dX7_readsCommand_64 (Or.inr ⟨rfl, by decide⟩)
  · have c17 : (fv P9 301 25).toInt ≠ 115 := ti_eq_n c17
    refine mp_a (a_aload_n dX7_readsCommand_17 rfl) (mpp 18 rfl ?_)
    refine mt_getI (i := 321) (k := 25) hT10 dX7_readsCommand_18 rfl rl_301 (by decide) rfl (by decide) rfl (fun g77 g78 => mpp 21 rfl ?_)
    refine mp_a (a_bipush (v := 99) dX7_readsCommand_21 rfl) (mpp 23 rfl ?_)
    refine mp_Tb (t := 65) (j_icmp_ne dX7_readsCommand_23) (by decide) (fun c79 => ?_) (fun c79 => mpp 26 rfl ?_)
    · have c79 : (fv P9 301 25).toInt ≠ 99 := ti_ne c79
      refine mp_a (a_aload_n dX7_readsCommand_65 rfl) (mpp 66 rfl ?_)
      refine mt_getI (i := 321) (k := 25) hT10 dX7_readsCommand_66 rfl rl_301 (by decide) rfl (by decide) rfl (fun g80 g81 => mpp 69 rfl ?_)
      refine mp_a (a_bipush (v := 109) dX7_readsCommand_69 rfl) (mpp 71 rfl ?_)
      refine mp_Tb (t := 112) (j_icmp_eq dX7_readsCommand_71) (by decide) (fun c82 => ?_) (fun c82 => mpp 74 rfl ?_)
      · have c82 : (fv P9 301 25).toInt = 109 := ti_eq c82
        refine mp_a (a_aload_n dX7_readsCommand_112 rfl) (mpp 113 rfl ?_)
        refine mp_t (s_dup dX7_readsCommand_113 rfl) (mpp 114 rfl ?_)
        have e83 : (fv P9 301 24).toInt = (fv Po 301 24).toInt := congrArg Int32.toInt (f12 301 24 (ne_k rfl))
        refine mt_getI (i := 294) (k := 24) hT10 dX7_readsCommand_114 rfl rl_301 (by decide) rfl (by decide) rfl (fun g84 g85 => mpp 117 rfl ?_)
        refine mp_a (a_iconst (v := 1) dX7_readsCommand_117 rfl) (mpp 118 rfl ?_)
        obtain ⟨z86, h87⟩ := ti_ex ((fv P9 301 24) + 1 : Int32)
        have wz86 := ti_full z86
        refine mp_t (s_iadd (v := z86) dX7_readsCommand_118 h87) (mpp 119 rfl ?_)
        try have e88 : z86.toInt = (fv P9 301 24).toInt + 1 := ti_addz h87 rfl rfl (by omega) (by omega)
        refine mt_putI (i := 294) (k := 24) (x := z86) hT10 dX7_readsCommand_119 rfl rl_301 (by decide) rfl (by decide) rfl ⟨by omega, by omega⟩ rfl rfl (fun P89 hT90 f91 f92 => mpp 122 rfl ?_)
        have k93 : KW [1112, 1113, 1114, 1115, 1116, 1117] Po P89 := KW.step k13 rl_301 rfl f92
        have e94 : (fv P89 301 24).toInt = z86.toInt := congrArg Int32.toInt f91
        refine mp_a (a_aload_n dX7_readsCommand_122 rfl) (mpp 123 rfl ?_)
        refine mp_a (a_aload_n dX7_readsCommand_123 rfl) (mpp 124 rfl ?_)
        have e95 : (fv P89 301 23).toInt = (fv Po 301 23).toInt := congrArg Int32.toInt ((f92 301 23 (ne_k rfl)).trans (f12 301 23 (ne_k rfl)))
        have p96 : (fv P89 301 24).toInt ≤ (fv P89 301 23).toInt := by omega
        refine mt_callv (i := 315) (q' := q_223) (As := []) (rest := [.ref 301]) hT90 dX7_readsCommand_124 rfl qm_223 (by decide) rfl rl_301 (by decide) rfl (Nat.le_of_ble_eq_true rfl) rfl ⟨rfl, rfl⟩ ⟨Nat.le_of_ble_eq_true rfl, Nat.le_of_ble_eq_true rfl⟩ (EvP.mono (by decide) (c_M_digit hT90 p96 )) (fun r97 P98 g99 => mpp 127 rfl ?_)
        obtain ⟨⟨x100, rfl, g101⟩, hT102, k103, R104⟩ := g99
        have k105 : KW [1112, 1113, 1114, 1115, 1116, 1117] Po P98 := KW.trans k93 k103 rfl
        have wx100 := ti_full x100
        have g101 : (fv P89 301 24).toInt ≤ (fv P98 301 24).toInt ∧ (fv P98 301 24).toInt ≤ (fv P89 301 23).toInt := g101
        have g106 : (0 : Int) ≤ (fv P98 301 24).toInt ∧ (fv P98 301 24).toInt ≤ 81 := Typ.rng hT102 rl_301 (by decide) (by decide) rfl
        have g107 : (0 : Int) ≤ (fv P98 301 24).toInt ∧ (fv P98 301 24).toInt ≤ 81 := Typ.rng hT102 rl_301 (by decide) (by decide) rfl
        show MEvP _ none q_217 127 [(0, .ref 301)] [.int x100, .ref 301] _ _ _ _
        refine mt_putI (i := 300) (k := 26) (x := x100) hT102 dX7_readsCommand_127 rfl rl_301 (by decide) rfl (by decide) rfl (ti_full x100) rfl rfl (fun P108 hT109 f110 f111 => mpp 130 rfl ?_)
        have k112 : KW [1112, 1113, 1114, 1115, 1116, 1117] Po P108 := KW.step k105 rl_301 rfl f111
        have e113 : (fv P108 301 26).toInt = x100.toInt := congrArg Int32.toInt f110
        refine mp_a (a_aload_n dX7_readsCommand_130 rfl) (mpp 131 rfl ?_)
        refine mt_getI (i := 300) (k := 26) hT109 dX7_readsCommand_131 rfl rl_301 (by decide) rfl (by decide) rfl (fun g114 g115 => mpp 134 rfl ?_)
        refine mp_Tb (t := 157) (j_if_lt dX7_readsCommand_134) (by decide) (fun c116 => ?_) (fun c116 => mpp 137 rfl ?_)
        · have c116 : (fv P108 301 26).toInt < 0 := ti_lt c116
          refine mp_a (a_iconst (v := 0) dX7_readsCommand_157 rfl) (mpp 158 rfl ?_)
          have e117 : (fv P108 301 24).toInt = (fv P98 301 24).toInt := congrArg Int32.toInt (f111 301 24 (ne_k rfl))
          have u118 : 0 ≤ (0 : Int) ∧ (0 : Int) ≤ 1 ∧ ((fv Po 301 24).toInt ≤ (fv P108 301 24).toInt ∧ (fv P108 301 24).toInt ≤ (fv Po 301 23).toInt) := by omega
          exact mp_iret ⟨⟨_, rfl, u118⟩, hT109, k112, trivial⟩ dX7_readsCommand_158 (Or.inr ⟨rfl, by decide⟩)
        · have c116 : (fv P108 301 26).toInt ≥ 0 := ti_lt_n c116
          refine mp_a (a_aload_n dX7_readsCommand_137 rfl) (mpp 138 rfl ?_)
          have e119 : (fv P108 301 25).toInt = (fv P9 301 25).toInt := congrArg Int32.toInt ((f111 301 25 (ne_k rfl)).trans ((KW.at k103 25 rl_301 rfl).trans (f92 301 25 (ne_k rfl))))
          refine mt_getI (i := 321) (k := 25) hT109 dX7_readsCommand_138 rfl rl_301 (by decide) rfl (by decide) rfl (fun g120 g121 => mpp 141 rfl ?_)
          refine mp_a (a_bipush (v := 109) dX7_readsCommand_141 rfl) (mpp 143 rfl ?_)
          refine mp_Tb (t := 153) (j_icmp_ne dX7_readsCommand_143) (by decide) (fun c122 => ?_) (fun c122 => mpp 146 rfl ?_)
          · have c122 : (fv P108 301 25).toInt ≠ 109 := ti_ne c122
            refine mp_a (a_iconst (v := 1) dX7_readsCommand_153 rfl) (mpp 154 rfl ?_)
            refine mp_a (a_goto (t := 158) dX7_readsCommand_154 (by decide)) ?_
            have e123 : (fv P108 301 24).toInt = (fv P98 301 24).toInt := congrArg Int32.toInt (f111 301 24 (ne_k rfl))
            have u124 : 0 ≤ (1 : Int) ∧ (1 : Int) ≤ 1 ∧ ((fv Po 301 24).toInt ≤ (fv P108 301 24).toInt ∧ (fv P108 301 24).toInt ≤ (fv Po 301 23).toInt) := by omega
            exact mp_iret ⟨⟨_, rfl, u124⟩, hT109, k112, trivial⟩ dX7_readsCommand_158 (Or.inr ⟨rfl, by decide⟩)
          · have c122 : (fv P108 301 25).toInt = 109 := ti_ne_n c122
            refine mp_a (a_aload_n dX7_readsCommand_146 rfl) (mpp 147 rfl ?_)
            have e125 : (fv P108 301 24).toInt = (fv P98 301 24).toInt := congrArg Int32.toInt (f111 301 24 (ne_k rfl))
            have e126 : (fv P108 301 23).toInt = (fv P89 301 23).toInt := congrArg Int32.toInt ((f111 301 23 (ne_k rfl)).trans (KW.at k103 23 rl_301 rfl))
            have p127 : (fv P108 301 24).toInt ≤ (fv P108 301 23).toInt := by omega
            refine mt_callv (i := 330) (q' := q_224) (As := []) (rest := []) hT109 dX7_readsCommand_147 rfl qm_224 (by decide) rfl rl_301 (by decide) rfl (Nat.le_of_ble_eq_true rfl) rfl ⟨rfl, rfl⟩ ⟨Nat.le_of_ble_eq_true rfl, Nat.le_of_ble_eq_true rfl⟩ (EvP.mono (by decide) (c_M_readsMark hT109 p127 )) (fun r128 P129 g130 => mpp 150 rfl ?_)
            obtain ⟨⟨x131, rfl, g132⟩, hT133, k134, R135⟩ := g130
            have k136 : KW [1112, 1113, 1114, 1115, 1116, 1117] Po P129 := KW.trans k112 k134 rfl
            have wx131 := ti_full x131
            have g132 : 0 ≤ x131.toInt ∧ x131.toInt ≤ 1 ∧ ((fv P108 301 24).toInt ≤ (fv P129 301 24).toInt ∧ (fv P129 301 24).toInt ≤ (fv P108 301 23).toInt) := g132
            have g137 : (0 : Int) ≤ (fv P129 301 24).toInt ∧ (fv P129 301 24).toInt ≤ 81 := Typ.rng hT133 rl_301 (by decide) (by decide) rfl
            have g138 : (0 : Int) ≤ (fv P129 301 24).toInt ∧ (fv P129 301 24).toInt ≤ 81 := Typ.rng hT133 rl_301 (by decide) (by decide) rfl
            show MEvP _ none q_217 150 [(0, .ref 301)] [.int x131] _ _ _ _
            refine mp_Tb (t := 157) (j_if_eq dX7_readsCommand_150) (by decide) (fun c139 => ?_) (fun c139 => mpp 153 rfl ?_)
            · have c139 : x131.toInt = 0 := ti_eq c139
              refine mp_a (a_iconst (v := 0) dX7_readsCommand_157 rfl) (mpp 158 rfl ?_)
              have u140 : 0 ≤ (0 : Int) ∧ (0 : Int) ≤ 1 ∧ ((fv Po 301 24).toInt ≤ (fv P129 301 24).toInt ∧ (fv P129 301 24).toInt ≤ (fv Po 301 23).toInt) := by omega
              exact mp_iret ⟨⟨_, rfl, u140⟩, hT133, k136, trivial⟩ dX7_readsCommand_158 (Or.inr ⟨rfl, by decide⟩)
            · have c139 : x131.toInt ≠ 0 := ti_eq_n c139
              refine mp_a (a_iconst (v := 1) dX7_readsCommand_153 rfl) (mpp 154 rfl ?_)
              refine mp_a (a_goto (t := 158) dX7_readsCommand_154 (by decide)) ?_
              have u141 : 0 ≤ (1 : Int) ∧ (1 : Int) ≤ 1 ∧ ((fv Po 301 24).toInt ≤ (fv P129 301 24).toInt ∧ (fv P129 301 24).toInt ≤ (fv Po 301 23).toInt) := by omega
              exact mp_iret ⟨⟨_, rfl, u141⟩, hT133, k136, trivial⟩ dX7_readsCommand_158 (Or.inr ⟨rfl, by decide⟩)
      · have c82 : (fv P9 301 25).toInt ≠ 109 := ti_eq_n c82
        refine mp_a (a_aload_n dX7_readsCommand_74 rfl) (mpp 75 rfl ?_)
        refine mt_getI (i := 321) (k := 25) hT10 dX7_readsCommand_75 rfl rl_301 (by decide) rfl (by decide) rfl (fun g142 g143 => mpp 78 rfl ?_)
        refine mp_a (a_bipush (v := 116) dX7_readsCommand_78 rfl) (mpp 80 rfl ?_)
        refine mp_Tb (t := 112) (j_icmp_eq dX7_readsCommand_80) (by decide) (fun c144 => ?_) (fun c144 => mpp 83 rfl ?_)
        · have c144 : (fv P9 301 25).toInt = 116 := ti_eq c144
          refine mp_a (a_aload_n dX7_readsCommand_112 rfl) (mpp 113 rfl ?_)
          refine mp_t (s_dup dX7_readsCommand_113 rfl) (mpp 114 rfl ?_)
          have e145 : (fv P9 301 24).toInt = (fv Po 301 24).toInt := congrArg Int32.toInt (f12 301 24 (ne_k rfl))
          refine mt_getI (i := 294) (k := 24) hT10 dX7_readsCommand_114 rfl rl_301 (by decide) rfl (by decide) rfl (fun g146 g147 => mpp 117 rfl ?_)
          refine mp_a (a_iconst (v := 1) dX7_readsCommand_117 rfl) (mpp 118 rfl ?_)
          obtain ⟨z148, h149⟩ := ti_ex ((fv P9 301 24) + 1 : Int32)
          have wz148 := ti_full z148
          refine mp_t (s_iadd (v := z148) dX7_readsCommand_118 h149) (mpp 119 rfl ?_)
          try have e150 : z148.toInt = (fv P9 301 24).toInt + 1 := ti_addz h149 rfl rfl (by omega) (by omega)
          refine mt_putI (i := 294) (k := 24) (x := z148) hT10 dX7_readsCommand_119 rfl rl_301 (by decide) rfl (by decide) rfl ⟨by omega, by omega⟩ rfl rfl (fun P151 hT152 f153 f154 => mpp 122 rfl ?_)
          have k155 : KW [1112, 1113, 1114, 1115, 1116, 1117] Po P151 := KW.step k13 rl_301 rfl f154
          have e156 : (fv P151 301 24).toInt = z148.toInt := congrArg Int32.toInt f153
          refine mp_a (a_aload_n dX7_readsCommand_122 rfl) (mpp 123 rfl ?_)
          refine mp_a (a_aload_n dX7_readsCommand_123 rfl) (mpp 124 rfl ?_)
          have e157 : (fv P151 301 23).toInt = (fv Po 301 23).toInt := congrArg Int32.toInt ((f154 301 23 (ne_k rfl)).trans (f12 301 23 (ne_k rfl)))
          have p158 : (fv P151 301 24).toInt ≤ (fv P151 301 23).toInt := by omega
          refine mt_callv (i := 315) (q' := q_223) (As := []) (rest := [.ref 301]) hT152 dX7_readsCommand_124 rfl qm_223 (by decide) rfl rl_301 (by decide) rfl (Nat.le_of_ble_eq_true rfl) rfl ⟨rfl, rfl⟩ ⟨Nat.le_of_ble_eq_true rfl, Nat.le_of_ble_eq_true rfl⟩ (EvP.mono (by decide) (c_M_digit hT152 p158 )) (fun r159 P160 g161 => mpp 127 rfl ?_)
          obtain ⟨⟨x162, rfl, g163⟩, hT164, k165, R166⟩ := g161
          have k167 : KW [1112, 1113, 1114, 1115, 1116, 1117] Po P160 := KW.trans k155 k165 rfl
          have wx162 := ti_full x162
          have g163 : (fv P151 301 24).toInt ≤ (fv P160 301 24).toInt ∧ (fv P160 301 24).toInt ≤ (fv P151 301 23).toInt := g163
          have g168 : (0 : Int) ≤ (fv P160 301 24).toInt ∧ (fv P160 301 24).toInt ≤ 81 := Typ.rng hT164 rl_301 (by decide) (by decide) rfl
          have g169 : (0 : Int) ≤ (fv P160 301 24).toInt ∧ (fv P160 301 24).toInt ≤ 81 := Typ.rng hT164 rl_301 (by decide) (by decide) rfl
          show MEvP _ none q_217 127 [(0, .ref 301)] [.int x162, .ref 301] _ _ _ _
          refine mt_putI (i := 300) (k := 26) (x := x162) hT164 dX7_readsCommand_127 rfl rl_301 (by decide) rfl (by decide) rfl (ti_full x162) rfl rfl (fun P170 hT171 f172 f173 => mpp 130 rfl ?_)
          have k174 : KW [1112, 1113, 1114, 1115, 1116, 1117] Po P170 := KW.step k167 rl_301 rfl f173
          have e175 : (fv P170 301 26).toInt = x162.toInt := congrArg Int32.toInt f172
          refine mp_a (a_aload_n dX7_readsCommand_130 rfl) (mpp 131 rfl ?_)
          refine mt_getI (i := 300) (k := 26) hT171 dX7_readsCommand_131 rfl rl_301 (by decide) rfl (by decide) rfl (fun g176 g177 => mpp 134 rfl ?_)
          refine mp_Tb (t := 157) (j_if_lt dX7_readsCommand_134) (by decide) (fun c178 => ?_) (fun c178 => mpp 137 rfl ?_)
          · have c178 : (fv P170 301 26).toInt < 0 := ti_lt c178
            refine mp_a (a_iconst (v := 0) dX7_readsCommand_157 rfl) (mpp 158 rfl ?_)
            have e179 : (fv P170 301 24).toInt = (fv P160 301 24).toInt := congrArg Int32.toInt (f173 301 24 (ne_k rfl))
            have u180 : 0 ≤ (0 : Int) ∧ (0 : Int) ≤ 1 ∧ ((fv Po 301 24).toInt ≤ (fv P170 301 24).toInt ∧ (fv P170 301 24).toInt ≤ (fv Po 301 23).toInt) := by omega
            exact mp_iret ⟨⟨_, rfl, u180⟩, hT171, k174, trivial⟩ dX7_readsCommand_158 (Or.inr ⟨rfl, by decide⟩)
          · have c178 : (fv P170 301 26).toInt ≥ 0 := ti_lt_n c178
            refine mp_a (a_aload_n dX7_readsCommand_137 rfl) (mpp 138 rfl ?_)
            have e181 : (fv P170 301 25).toInt = (fv P9 301 25).toInt := congrArg Int32.toInt ((f173 301 25 (ne_k rfl)).trans ((KW.at k165 25 rl_301 rfl).trans (f154 301 25 (ne_k rfl))))
            refine mt_getI (i := 321) (k := 25) hT171 dX7_readsCommand_138 rfl rl_301 (by decide) rfl (by decide) rfl (fun g182 g183 => mpp 141 rfl ?_)
            refine mp_a (a_bipush (v := 109) dX7_readsCommand_141 rfl) (mpp 143 rfl ?_)
            refine mp_Tb (t := 153) (j_icmp_ne dX7_readsCommand_143) (by decide) (fun c184 => ?_) (fun c184 => mpp 146 rfl ?_)
            · have c184 : (fv P170 301 25).toInt ≠ 109 := ti_ne c184
              refine mp_a (a_iconst (v := 1) dX7_readsCommand_153 rfl) (mpp 154 rfl ?_)
              refine mp_a (a_goto (t := 158) dX7_readsCommand_154 (by decide)) ?_
              have e185 : (fv P170 301 24).toInt = (fv P160 301 24).toInt := congrArg Int32.toInt (f173 301 24 (ne_k rfl))
              have u186 : 0 ≤ (1 : Int) ∧ (1 : Int) ≤ 1 ∧ ((fv Po 301 24).toInt ≤ (fv P170 301 24).toInt ∧ (fv P170 301 24).toInt ≤ (fv Po 301 23).toInt) := by omega
              exact mp_iret ⟨⟨_, rfl, u186⟩, hT171, k174, trivial⟩ dX7_readsCommand_158 (Or.inr ⟨rfl, by decide⟩)
            · have c184 : (fv P170 301 25).toInt = 109 := ti_ne_n c184
              refine mp_a (a_aload_n dX7_readsCommand_146 rfl) (mpp 147 rfl ?_)
              have e187 : (fv P170 301 24).toInt = (fv P160 301 24).toInt := congrArg Int32.toInt (f173 301 24 (ne_k rfl))
              have e188 : (fv P170 301 23).toInt = (fv P151 301 23).toInt := congrArg Int32.toInt ((f173 301 23 (ne_k rfl)).trans (KW.at k165 23 rl_301 rfl))
              have p189 : (fv P170 301 24).toInt ≤ (fv P170 301 23).toInt := by omega
              refine mt_callv (i := 330) (q' := q_224) (As := []) (rest := []) hT171 dX7_readsCommand_147 rfl qm_224 (by decide) rfl rl_301 (by decide) rfl (Nat.le_of_ble_eq_true rfl) rfl ⟨rfl, rfl⟩ ⟨Nat.le_of_ble_eq_true rfl, Nat.le_of_ble_eq_true rfl⟩ (EvP.mono (by decide) (c_M_readsMark hT171 p189 )) (fun r190 P191 g192 => mpp 150 rfl ?_)
              obtain ⟨⟨x193, rfl, g194⟩, hT195, k196, R197⟩ := g192
              have k198 : KW [1112, 1113, 1114, 1115, 1116, 1117] Po P191 := KW.trans k174 k196 rfl
              have wx193 := ti_full x193
              have g194 : 0 ≤ x193.toInt ∧ x193.toInt ≤ 1 ∧ ((fv P170 301 24).toInt ≤ (fv P191 301 24).toInt ∧ (fv P191 301 24).toInt ≤ (fv P170 301 23).toInt) := g194
              have g199 : (0 : Int) ≤ (fv P191 301 24).toInt ∧ (fv P191 301 24).toInt ≤ 81 := Typ.rng hT195 rl_301 (by decide) (by decide) rfl
              have g200 : (0 : Int) ≤ (fv P191 301 24).toInt ∧ (fv P191 301 24).toInt ≤ 81 := Typ.rng hT195 rl_301 (by decide) (by decide) rfl
              show MEvP _ none q_217 150 [(0, .ref 301)] [.int x193] _ _ _ _
              refine mp_Tb (t := 157) (j_if_eq dX7_readsCommand_150) (by decide) (fun c201 => ?_) (fun c201 => mpp 153 rfl ?_)
              · have c201 : x193.toInt = 0 := ti_eq c201
                refine mp_a (a_iconst (v := 0) dX7_readsCommand_157 rfl) (mpp 158 rfl ?_)
                have u202 : 0 ≤ (0 : Int) ∧ (0 : Int) ≤ 1 ∧ ((fv Po 301 24).toInt ≤ (fv P191 301 24).toInt ∧ (fv P191 301 24).toInt ≤ (fv Po 301 23).toInt) := by omega
                exact mp_iret ⟨⟨_, rfl, u202⟩, hT195, k198, trivial⟩ dX7_readsCommand_158 (Or.inr ⟨rfl, by decide⟩)
              · have c201 : x193.toInt ≠ 0 := ti_eq_n c201
                refine mp_a (a_iconst (v := 1) dX7_readsCommand_153 rfl) (mpp 154 rfl ?_)
                refine mp_a (a_goto (t := 158) dX7_readsCommand_154 (by decide)) ?_
                have u203 : 0 ≤ (1 : Int) ∧ (1 : Int) ≤ 1 ∧ ((fv Po 301 24).toInt ≤ (fv P191 301 24).toInt ∧ (fv P191 301 24).toInt ≤ (fv Po 301 23).toInt) := by omega
                exact mp_iret ⟨⟨_, rfl, u203⟩, hT195, k198, trivial⟩ dX7_readsCommand_158 (Or.inr ⟨rfl, by decide⟩)
        · have c144 : (fv P9 301 25).toInt ≠ 116 := ti_eq_n c144
          refine mp_a (a_aload_n dX7_readsCommand_83 rfl) (mpp 84 rfl ?_)
          refine mt_getI (i := 321) (k := 25) hT10 dX7_readsCommand_84 rfl rl_301 (by decide) rfl (by decide) rfl (fun g204 g205 => mpp 87 rfl ?_)
          refine mp_a (a_bipush (v := 102) dX7_readsCommand_87 rfl) (mpp 89 rfl ?_)
          refine mp_Tb (t := 112) (j_icmp_eq dX7_readsCommand_89) (by decide) (fun c206 => ?_) (fun c206 => mpp 92 rfl ?_)
          · have c206 : (fv P9 301 25).toInt = 102 := ti_eq c206
            refine mp_a (a_aload_n dX7_readsCommand_112 rfl) (mpp 113 rfl ?_)
            refine mp_t (s_dup dX7_readsCommand_113 rfl) (mpp 114 rfl ?_)
            have e207 : (fv P9 301 24).toInt = (fv Po 301 24).toInt := congrArg Int32.toInt (f12 301 24 (ne_k rfl))
            refine mt_getI (i := 294) (k := 24) hT10 dX7_readsCommand_114 rfl rl_301 (by decide) rfl (by decide) rfl (fun g208 g209 => mpp 117 rfl ?_)
            refine mp_a (a_iconst (v := 1) dX7_readsCommand_117 rfl) (mpp 118 rfl ?_)
            obtain ⟨z210, h211⟩ := ti_ex ((fv P9 301 24) + 1 : Int32)
            have wz210 := ti_full z210
            refine mp_t (s_iadd (v := z210) dX7_readsCommand_118 h211) (mpp 119 rfl ?_)
            try have e212 : z210.toInt = (fv P9 301 24).toInt + 1 := ti_addz h211 rfl rfl (by omega) (by omega)
            refine mt_putI (i := 294) (k := 24) (x := z210) hT10 dX7_readsCommand_119 rfl rl_301 (by decide) rfl (by decide) rfl ⟨by omega, by omega⟩ rfl rfl (fun P213 hT214 f215 f216 => mpp 122 rfl ?_)
            have k217 : KW [1112, 1113, 1114, 1115, 1116, 1117] Po P213 := KW.step k13 rl_301 rfl f216
            have e218 : (fv P213 301 24).toInt = z210.toInt := congrArg Int32.toInt f215
            refine mp_a (a_aload_n dX7_readsCommand_122 rfl) (mpp 123 rfl ?_)
            refine mp_a (a_aload_n dX7_readsCommand_123 rfl) (mpp 124 rfl ?_)
            have e219 : (fv P213 301 23).toInt = (fv Po 301 23).toInt := congrArg Int32.toInt ((f216 301 23 (ne_k rfl)).trans (f12 301 23 (ne_k rfl)))
            have p220 : (fv P213 301 24).toInt ≤ (fv P213 301 23).toInt := by omega
            refine mt_callv (i := 315) (q' := q_223) (As := []) (rest := [.ref 301]) hT214 dX7_readsCommand_124 rfl qm_223 (by decide) rfl rl_301 (by decide) rfl (Nat.le_of_ble_eq_true rfl) rfl ⟨rfl, rfl⟩ ⟨Nat.le_of_ble_eq_true rfl, Nat.le_of_ble_eq_true rfl⟩ (EvP.mono (by decide) (c_M_digit hT214 p220 )) (fun r221 P222 g223 => mpp 127 rfl ?_)
            obtain ⟨⟨x224, rfl, g225⟩, hT226, k227, R228⟩ := g223
            have k229 : KW [1112, 1113, 1114, 1115, 1116, 1117] Po P222 := KW.trans k217 k227 rfl
            have wx224 := ti_full x224
            have g225 : (fv P213 301 24).toInt ≤ (fv P222 301 24).toInt ∧ (fv P222 301 24).toInt ≤ (fv P213 301 23).toInt := g225
            have g230 : (0 : Int) ≤ (fv P222 301 24).toInt ∧ (fv P222 301 24).toInt ≤ 81 := Typ.rng hT226 rl_301 (by decide) (by decide) rfl
            have g231 : (0 : Int) ≤ (fv P222 301 24).toInt ∧ (fv P222 301 24).toInt ≤ 81 := Typ.rng hT226 rl_301 (by decide) (by decide) rfl
            show MEvP _ none q_217 127 [(0, .ref 301)] [.int x224, .ref 301] _ _ _ _
            refine mt_putI (i := 300) (k := 26) (x := x224) hT226 dX7_readsCommand_127 rfl rl_301 (by decide) rfl (by decide) rfl (ti_full x224) rfl rfl (fun P232 hT233 f234 f235 => mpp 130 rfl ?_)
            have k236 : KW [1112, 1113, 1114, 1115, 1116, 1117] Po P232 := KW.step k229 rl_301 rfl f235
            have e237 : (fv P232 301 26).toInt = x224.toInt := congrArg Int32.toInt f234
            refine mp_a (a_aload_n dX7_readsCommand_130 rfl) (mpp 131 rfl ?_)
            refine mt_getI (i := 300) (k := 26) hT233 dX7_readsCommand_131 rfl rl_301 (by decide) rfl (by decide) rfl (fun g238 g239 => mpp 134 rfl ?_)
            refine mp_Tb (t := 157) (j_if_lt dX7_readsCommand_134) (by decide) (fun c240 => ?_) (fun c240 => mpp 137 rfl ?_)
            · have c240 : (fv P232 301 26).toInt < 0 := ti_lt c240
              refine mp_a (a_iconst (v := 0) dX7_readsCommand_157 rfl) (mpp 158 rfl ?_)
              have e241 : (fv P232 301 24).toInt = (fv P222 301 24).toInt := congrArg Int32.toInt (f235 301 24 (ne_k rfl))
              have u242 : 0 ≤ (0 : Int) ∧ (0 : Int) ≤ 1 ∧ ((fv Po 301 24).toInt ≤ (fv P232 301 24).toInt ∧ (fv P232 301 24).toInt ≤ (fv Po 301 23).toInt) := by omega
              exact mp_iret ⟨⟨_, rfl, u242⟩, hT233, k236, trivial⟩ dX7_readsCommand_158 (Or.inr ⟨rfl, by decide⟩)
            · have c240 : (fv P232 301 26).toInt ≥ 0 := ti_lt_n c240
              refine mp_a (a_aload_n dX7_readsCommand_137 rfl) (mpp 138 rfl ?_)
              have e243 : (fv P232 301 25).toInt = (fv P9 301 25).toInt := congrArg Int32.toInt ((f235 301 25 (ne_k rfl)).trans ((KW.at k227 25 rl_301 rfl).trans (f216 301 25 (ne_k rfl))))
              refine mt_getI (i := 321) (k := 25) hT233 dX7_readsCommand_138 rfl rl_301 (by decide) rfl (by decide) rfl (fun g244 g245 => mpp 141 rfl ?_)
              refine mp_a (a_bipush (v := 109) dX7_readsCommand_141 rfl) (mpp 143 rfl ?_)
              refine mp_Tb (t := 153) (j_icmp_ne dX7_readsCommand_143) (by decide) (fun c246 => ?_) (fun c246 => mpp 146 rfl ?_)
              · have c246 : (fv P232 301 25).toInt ≠ 109 := ti_ne c246
                refine mp_a (a_iconst (v := 1) dX7_readsCommand_153 rfl) (mpp 154 rfl ?_)
                refine mp_a (a_goto (t := 158) dX7_readsCommand_154 (by decide)) ?_
                have e247 : (fv P232 301 24).toInt = (fv P222 301 24).toInt := congrArg Int32.toInt (f235 301 24 (ne_k rfl))
                have u248 : 0 ≤ (1 : Int) ∧ (1 : Int) ≤ 1 ∧ ((fv Po 301 24).toInt ≤ (fv P232 301 24).toInt ∧ (fv P232 301 24).toInt ≤ (fv Po 301 23).toInt) := by omega
                exact mp_iret ⟨⟨_, rfl, u248⟩, hT233, k236, trivial⟩ dX7_readsCommand_158 (Or.inr ⟨rfl, by decide⟩)
              · have c246 : (fv P232 301 25).toInt = 109 := ti_ne_n c246
                refine mp_a (a_aload_n dX7_readsCommand_146 rfl) (mpp 147 rfl ?_)
                have e249 : (fv P232 301 24).toInt = (fv P222 301 24).toInt := congrArg Int32.toInt (f235 301 24 (ne_k rfl))
                have e250 : (fv P232 301 23).toInt = (fv P213 301 23).toInt := congrArg Int32.toInt ((f235 301 23 (ne_k rfl)).trans (KW.at k227 23 rl_301 rfl))
                have p251 : (fv P232 301 24).toInt ≤ (fv P232 301 23).toInt := by omega
                refine mt_callv (i := 330) (q' := q_224) (As := []) (rest := []) hT233 dX7_readsCommand_147 rfl qm_224 (by decide) rfl rl_301 (by decide) rfl (Nat.le_of_ble_eq_true rfl) rfl ⟨rfl, rfl⟩ ⟨Nat.le_of_ble_eq_true rfl, Nat.le_of_ble_eq_true rfl⟩ (EvP.mono (by decide) (c_M_readsMark hT233 p251 )) (fun r252 P253 g254 => mpp 150 rfl ?_)
                obtain ⟨⟨x255, rfl, g256⟩, hT257, k258, R259⟩ := g254
                have k260 : KW [1112, 1113, 1114, 1115, 1116, 1117] Po P253 := KW.trans k236 k258 rfl
                have wx255 := ti_full x255
                have g256 : 0 ≤ x255.toInt ∧ x255.toInt ≤ 1 ∧ ((fv P232 301 24).toInt ≤ (fv P253 301 24).toInt ∧ (fv P253 301 24).toInt ≤ (fv P232 301 23).toInt) := g256
                have g261 : (0 : Int) ≤ (fv P253 301 24).toInt ∧ (fv P253 301 24).toInt ≤ 81 := Typ.rng hT257 rl_301 (by decide) (by decide) rfl
                have g262 : (0 : Int) ≤ (fv P253 301 24).toInt ∧ (fv P253 301 24).toInt ≤ 81 := Typ.rng hT257 rl_301 (by decide) (by decide) rfl
                show MEvP _ none q_217 150 [(0, .ref 301)] [.int x255] _ _ _ _
                refine mp_Tb (t := 157) (j_if_eq dX7_readsCommand_150) (by decide) (fun c263 => ?_) (fun c263 => mpp 153 rfl ?_)
                · have c263 : x255.toInt = 0 := ti_eq c263
                  refine mp_a (a_iconst (v := 0) dX7_readsCommand_157 rfl) (mpp 158 rfl ?_)
                  have u264 : 0 ≤ (0 : Int) ∧ (0 : Int) ≤ 1 ∧ ((fv Po 301 24).toInt ≤ (fv P253 301 24).toInt ∧ (fv P253 301 24).toInt ≤ (fv Po 301 23).toInt) := by omega
                  exact mp_iret ⟨⟨_, rfl, u264⟩, hT257, k260, trivial⟩ dX7_readsCommand_158 (Or.inr ⟨rfl, by decide⟩)
                · have c263 : x255.toInt ≠ 0 := ti_eq_n c263
                  refine mp_a (a_iconst (v := 1) dX7_readsCommand_153 rfl) (mpp 154 rfl ?_)
                  refine mp_a (a_goto (t := 158) dX7_readsCommand_154 (by decide)) ?_
                  have u265 : 0 ≤ (1 : Int) ∧ (1 : Int) ≤ 1 ∧ ((fv Po 301 24).toInt ≤ (fv P253 301 24).toInt ∧ (fv P253 301 24).toInt ≤ (fv Po 301 23).toInt) := by omega
                  exact mp_iret ⟨⟨_, rfl, u265⟩, hT257, k260, trivial⟩ dX7_readsCommand_158 (Or.inr ⟨rfl, by decide⟩)
          · have c206 : (fv P9 301 25).toInt ≠ 102 := ti_eq_n c206
            refine mp_a (a_aload_n dX7_readsCommand_92 rfl) (mpp 93 rfl ?_)
            refine mt_getI (i := 321) (k := 25) hT10 dX7_readsCommand_93 rfl rl_301 (by decide) rfl (by decide) rfl (fun g266 g267 => mpp 96 rfl ?_)
            refine mp_a (a_bipush (v := 117) dX7_readsCommand_96 rfl) (mpp 98 rfl ?_)
            refine mp_Tb (t := 112) (j_icmp_eq dX7_readsCommand_98) (by decide) (fun c268 => ?_) (fun c268 => mpp 101 rfl ?_)
            · have c268 : (fv P9 301 25).toInt = 117 := ti_eq c268
              refine mp_a (a_aload_n dX7_readsCommand_112 rfl) (mpp 113 rfl ?_)
              refine mp_t (s_dup dX7_readsCommand_113 rfl) (mpp 114 rfl ?_)
              have e269 : (fv P9 301 24).toInt = (fv Po 301 24).toInt := congrArg Int32.toInt (f12 301 24 (ne_k rfl))
              refine mt_getI (i := 294) (k := 24) hT10 dX7_readsCommand_114 rfl rl_301 (by decide) rfl (by decide) rfl (fun g270 g271 => mpp 117 rfl ?_)
              refine mp_a (a_iconst (v := 1) dX7_readsCommand_117 rfl) (mpp 118 rfl ?_)
              obtain ⟨z272, h273⟩ := ti_ex ((fv P9 301 24) + 1 : Int32)
              have wz272 := ti_full z272
              refine mp_t (s_iadd (v := z272) dX7_readsCommand_118 h273) (mpp 119 rfl ?_)
              try have e274 : z272.toInt = (fv P9 301 24).toInt + 1 := ti_addz h273 rfl rfl (by omega) (by omega)
              refine mt_putI (i := 294) (k := 24) (x := z272) hT10 dX7_readsCommand_119 rfl rl_301 (by decide) rfl (by decide) rfl ⟨by omega, by omega⟩ rfl rfl (fun P275 hT276 f277 f278 => mpp 122 rfl ?_)
              have k279 : KW [1112, 1113, 1114, 1115, 1116, 1117] Po P275 := KW.step k13 rl_301 rfl f278
              have e280 : (fv P275 301 24).toInt = z272.toInt := congrArg Int32.toInt f277
              refine mp_a (a_aload_n dX7_readsCommand_122 rfl) (mpp 123 rfl ?_)
              refine mp_a (a_aload_n dX7_readsCommand_123 rfl) (mpp 124 rfl ?_)
              have e281 : (fv P275 301 23).toInt = (fv Po 301 23).toInt := congrArg Int32.toInt ((f278 301 23 (ne_k rfl)).trans (f12 301 23 (ne_k rfl)))
              have p282 : (fv P275 301 24).toInt ≤ (fv P275 301 23).toInt := by omega
              refine mt_callv (i := 315) (q' := q_223) (As := []) (rest := [.ref 301]) hT276 dX7_readsCommand_124 rfl qm_223 (by decide) rfl rl_301 (by decide) rfl (Nat.le_of_ble_eq_true rfl) rfl ⟨rfl, rfl⟩ ⟨Nat.le_of_ble_eq_true rfl, Nat.le_of_ble_eq_true rfl⟩ (EvP.mono (by decide) (c_M_digit hT276 p282 )) (fun r283 P284 g285 => mpp 127 rfl ?_)
              obtain ⟨⟨x286, rfl, g287⟩, hT288, k289, R290⟩ := g285
              have k291 : KW [1112, 1113, 1114, 1115, 1116, 1117] Po P284 := KW.trans k279 k289 rfl
              have wx286 := ti_full x286
              have g287 : (fv P275 301 24).toInt ≤ (fv P284 301 24).toInt ∧ (fv P284 301 24).toInt ≤ (fv P275 301 23).toInt := g287
              have g292 : (0 : Int) ≤ (fv P284 301 24).toInt ∧ (fv P284 301 24).toInt ≤ 81 := Typ.rng hT288 rl_301 (by decide) (by decide) rfl
              have g293 : (0 : Int) ≤ (fv P284 301 24).toInt ∧ (fv P284 301 24).toInt ≤ 81 := Typ.rng hT288 rl_301 (by decide) (by decide) rfl
              show MEvP _ none q_217 127 [(0, .ref 301)] [.int x286, .ref 301] _ _ _ _
              refine mt_putI (i := 300) (k := 26) (x := x286) hT288 dX7_readsCommand_127 rfl rl_301 (by decide) rfl (by decide) rfl (ti_full x286) rfl rfl (fun P294 hT295 f296 f297 => mpp 130 rfl ?_)
              have k298 : KW [1112, 1113, 1114, 1115, 1116, 1117] Po P294 := KW.step k291 rl_301 rfl f297
              have e299 : (fv P294 301 26).toInt = x286.toInt := congrArg Int32.toInt f296
              refine mp_a (a_aload_n dX7_readsCommand_130 rfl) (mpp 131 rfl ?_)
              refine mt_getI (i := 300) (k := 26) hT295 dX7_readsCommand_131 rfl rl_301 (by decide) rfl (by decide) rfl (fun g300 g301 => mpp 134 rfl ?_)
              refine mp_Tb (t := 157) (j_if_lt dX7_readsCommand_134) (by decide) (fun c302 => ?_) (fun c302 => mpp 137 rfl ?_)
              · have c302 : (fv P294 301 26).toInt < 0 := ti_lt c302
                refine mp_a (a_iconst (v := 0) dX7_readsCommand_157 rfl) (mpp 158 rfl ?_)
                have e303 : (fv P294 301 24).toInt = (fv P284 301 24).toInt := congrArg Int32.toInt (f297 301 24 (ne_k rfl))
                have u304 : 0 ≤ (0 : Int) ∧ (0 : Int) ≤ 1 ∧ ((fv Po 301 24).toInt ≤ (fv P294 301 24).toInt ∧ (fv P294 301 24).toInt ≤ (fv Po 301 23).toInt) := by omega
                exact mp_iret ⟨⟨_, rfl, u304⟩, hT295, k298, trivial⟩ dX7_readsCommand_158 (Or.inr ⟨rfl, by decide⟩)
              · have c302 : (fv P294 301 26).toInt ≥ 0 := ti_lt_n c302
                refine mp_a (a_aload_n dX7_readsCommand_137 rfl) (mpp 138 rfl ?_)
                have e305 : (fv P294 301 25).toInt = (fv P9 301 25).toInt := congrArg Int32.toInt ((f297 301 25 (ne_k rfl)).trans ((KW.at k289 25 rl_301 rfl).trans (f278 301 25 (ne_k rfl))))
                refine mt_getI (i := 321) (k := 25) hT295 dX7_readsCommand_138 rfl rl_301 (by decide) rfl (by decide) rfl (fun g306 g307 => mpp 141 rfl ?_)
                refine mp_a (a_bipush (v := 109) dX7_readsCommand_141 rfl) (mpp 143 rfl ?_)
                refine mp_Tb (t := 153) (j_icmp_ne dX7_readsCommand_143) (by decide) (fun c308 => ?_) (fun c308 => mpp 146 rfl ?_)
                · have c308 : (fv P294 301 25).toInt ≠ 109 := ti_ne c308
                  refine mp_a (a_iconst (v := 1) dX7_readsCommand_153 rfl) (mpp 154 rfl ?_)
                  refine mp_a (a_goto (t := 158) dX7_readsCommand_154 (by decide)) ?_
                  have e309 : (fv P294 301 24).toInt = (fv P284 301 24).toInt := congrArg Int32.toInt (f297 301 24 (ne_k rfl))
                  have u310 : 0 ≤ (1 : Int) ∧ (1 : Int) ≤ 1 ∧ ((fv Po 301 24).toInt ≤ (fv P294 301 24).toInt ∧ (fv P294 301 24).toInt ≤ (fv Po 301 23).toInt) := by omega
                  exact mp_iret ⟨⟨_, rfl, u310⟩, hT295, k298, trivial⟩ dX7_readsCommand_158 (Or.inr ⟨rfl, by decide⟩)
                · have c308 : (fv P294 301 25).toInt = 109 := ti_ne_n c308
                  refine mp_a (a_aload_n dX7_readsCommand_146 rfl) (mpp 147 rfl ?_)
                  have e311 : (fv P294 301 24).toInt = (fv P284 301 24).toInt := congrArg Int32.toInt (f297 301 24 (ne_k rfl))
                  have e312 : (fv P294 301 23).toInt = (fv P275 301 23).toInt := congrArg Int32.toInt ((f297 301 23 (ne_k rfl)).trans (KW.at k289 23 rl_301 rfl))
                  have p313 : (fv P294 301 24).toInt ≤ (fv P294 301 23).toInt := by omega
                  refine mt_callv (i := 330) (q' := q_224) (As := []) (rest := []) hT295 dX7_readsCommand_147 rfl qm_224 (by decide) rfl rl_301 (by decide) rfl (Nat.le_of_ble_eq_true rfl) rfl ⟨rfl, rfl⟩ ⟨Nat.le_of_ble_eq_true rfl, Nat.le_of_ble_eq_true rfl⟩ (EvP.mono (by decide) (c_M_readsMark hT295 p313 )) (fun r314 P315 g316 => mpp 150 rfl ?_)
                  obtain ⟨⟨x317, rfl, g318⟩, hT319, k320, R321⟩ := g316
                  have k322 : KW [1112, 1113, 1114, 1115, 1116, 1117] Po P315 := KW.trans k298 k320 rfl
                  have wx317 := ti_full x317
                  have g318 : 0 ≤ x317.toInt ∧ x317.toInt ≤ 1 ∧ ((fv P294 301 24).toInt ≤ (fv P315 301 24).toInt ∧ (fv P315 301 24).toInt ≤ (fv P294 301 23).toInt) := g318
                  have g323 : (0 : Int) ≤ (fv P315 301 24).toInt ∧ (fv P315 301 24).toInt ≤ 81 := Typ.rng hT319 rl_301 (by decide) (by decide) rfl
                  have g324 : (0 : Int) ≤ (fv P315 301 24).toInt ∧ (fv P315 301 24).toInt ≤ 81 := Typ.rng hT319 rl_301 (by decide) (by decide) rfl
                  show MEvP _ none q_217 150 [(0, .ref 301)] [.int x317] _ _ _ _
                  refine mp_Tb (t := 157) (j_if_eq dX7_readsCommand_150) (by decide) (fun c325 => ?_) (fun c325 => mpp 153 rfl ?_)
                  · have c325 : x317.toInt = 0 := ti_eq c325
                    refine mp_a (a_iconst (v := 0) dX7_readsCommand_157 rfl) (mpp 158 rfl ?_)
                    have u326 : 0 ≤ (0 : Int) ∧ (0 : Int) ≤ 1 ∧ ((fv Po 301 24).toInt ≤ (fv P315 301 24).toInt ∧ (fv P315 301 24).toInt ≤ (fv Po 301 23).toInt) := by omega
                    exact mp_iret ⟨⟨_, rfl, u326⟩, hT319, k322, trivial⟩ dX7_readsCommand_158 (Or.inr ⟨rfl, by decide⟩)
                  · have c325 : x317.toInt ≠ 0 := ti_eq_n c325
                    refine mp_a (a_iconst (v := 1) dX7_readsCommand_153 rfl) (mpp 154 rfl ?_)
                    refine mp_a (a_goto (t := 158) dX7_readsCommand_154 (by decide)) ?_
                    have u327 : 0 ≤ (1 : Int) ∧ (1 : Int) ≤ 1 ∧ ((fv Po 301 24).toInt ≤ (fv P315 301 24).toInt ∧ (fv P315 301 24).toInt ≤ (fv Po 301 23).toInt) := by omega
                    exact mp_iret ⟨⟨_, rfl, u327⟩, hT319, k322, trivial⟩ dX7_readsCommand_158 (Or.inr ⟨rfl, by decide⟩)
            · have c268 : (fv P9 301 25).toInt ≠ 117 := ti_eq_n c268
              refine mp_a (a_aload_n dX7_readsCommand_101 rfl) (mpp 102 rfl ?_)
              refine mt_getI (i := 321) (k := 25) hT10 dX7_readsCommand_102 rfl rl_301 (by decide) rfl (by decide) rfl (fun g328 g329 => mpp 105 rfl ?_)
              refine mp_a (a_bipush (v := 120) dX7_readsCommand_105 rfl) (mpp 107 rfl ?_)
              refine mp_Tb (t := 112) (j_icmp_eq dX7_readsCommand_107) (by decide) (fun c330 => ?_) (fun c330 => mpp 110 rfl ?_)
              · have c330 : (fv P9 301 25).toInt = 120 := ti_eq c330
                refine mp_a (a_aload_n dX7_readsCommand_112 rfl) (mpp 113 rfl ?_)
                refine mp_t (s_dup dX7_readsCommand_113 rfl) (mpp 114 rfl ?_)
                have e331 : (fv P9 301 24).toInt = (fv Po 301 24).toInt := congrArg Int32.toInt (f12 301 24 (ne_k rfl))
                refine mt_getI (i := 294) (k := 24) hT10 dX7_readsCommand_114 rfl rl_301 (by decide) rfl (by decide) rfl (fun g332 g333 => mpp 117 rfl ?_)
                refine mp_a (a_iconst (v := 1) dX7_readsCommand_117 rfl) (mpp 118 rfl ?_)
                obtain ⟨z334, h335⟩ := ti_ex ((fv P9 301 24) + 1 : Int32)
                have wz334 := ti_full z334
                refine mp_t (s_iadd (v := z334) dX7_readsCommand_118 h335) (mpp 119 rfl ?_)
                try have e336 : z334.toInt = (fv P9 301 24).toInt + 1 := ti_addz h335 rfl rfl (by omega) (by omega)
                refine mt_putI (i := 294) (k := 24) (x := z334) hT10 dX7_readsCommand_119 rfl rl_301 (by decide) rfl (by decide) rfl ⟨by omega, by omega⟩ rfl rfl (fun P337 hT338 f339 f340 => mpp 122 rfl ?_)
                have k341 : KW [1112, 1113, 1114, 1115, 1116, 1117] Po P337 := KW.step k13 rl_301 rfl f340
                have e342 : (fv P337 301 24).toInt = z334.toInt := congrArg Int32.toInt f339
                refine mp_a (a_aload_n dX7_readsCommand_122 rfl) (mpp 123 rfl ?_)
                refine mp_a (a_aload_n dX7_readsCommand_123 rfl) (mpp 124 rfl ?_)
                have e343 : (fv P337 301 23).toInt = (fv Po 301 23).toInt := congrArg Int32.toInt ((f340 301 23 (ne_k rfl)).trans (f12 301 23 (ne_k rfl)))
                have p344 : (fv P337 301 24).toInt ≤ (fv P337 301 23).toInt := by omega
                refine mt_callv (i := 315) (q' := q_223) (As := []) (rest := [.ref 301]) hT338 dX7_readsCommand_124 rfl qm_223 (by decide) rfl rl_301 (by decide) rfl (Nat.le_of_ble_eq_true rfl) rfl ⟨rfl, rfl⟩ ⟨Nat.le_of_ble_eq_true rfl, Nat.le_of_ble_eq_true rfl⟩ (EvP.mono (by decide) (c_M_digit hT338 p344 )) (fun r345 P346 g347 => mpp 127 rfl ?_)
                obtain ⟨⟨x348, rfl, g349⟩, hT350, k351, R352⟩ := g347
                have k353 : KW [1112, 1113, 1114, 1115, 1116, 1117] Po P346 := KW.trans k341 k351 rfl
                have wx348 := ti_full x348
                have g349 : (fv P337 301 24).toInt ≤ (fv P346 301 24).toInt ∧ (fv P346 301 24).toInt ≤ (fv P337 301 23).toInt := g349
                have g354 : (0 : Int) ≤ (fv P346 301 24).toInt ∧ (fv P346 301 24).toInt ≤ 81 := Typ.rng hT350 rl_301 (by decide) (by decide) rfl
                have g355 : (0 : Int) ≤ (fv P346 301 24).toInt ∧ (fv P346 301 24).toInt ≤ 81 := Typ.rng hT350 rl_301 (by decide) (by decide) rfl
                show MEvP _ none q_217 127 [(0, .ref 301)] [.int x348, .ref 301] _ _ _ _
                refine mt_putI (i := 300) (k := 26) (x := x348) hT350 dX7_readsCommand_127 rfl rl_301 (by decide) rfl (by decide) rfl (ti_full x348) rfl rfl (fun P356 hT357 f358 f359 => mpp 130 rfl ?_)
                have k360 : KW [1112, 1113, 1114, 1115, 1116, 1117] Po P356 := KW.step k353 rl_301 rfl f359
                have e361 : (fv P356 301 26).toInt = x348.toInt := congrArg Int32.toInt f358
                refine mp_a (a_aload_n dX7_readsCommand_130 rfl) (mpp 131 rfl ?_)
                refine mt_getI (i := 300) (k := 26) hT357 dX7_readsCommand_131 rfl rl_301 (by decide) rfl (by decide) rfl (fun g362 g363 => mpp 134 rfl ?_)
                refine mp_Tb (t := 157) (j_if_lt dX7_readsCommand_134) (by decide) (fun c364 => ?_) (fun c364 => mpp 137 rfl ?_)
                · have c364 : (fv P356 301 26).toInt < 0 := ti_lt c364
                  refine mp_a (a_iconst (v := 0) dX7_readsCommand_157 rfl) (mpp 158 rfl ?_)
                  have e365 : (fv P356 301 24).toInt = (fv P346 301 24).toInt := congrArg Int32.toInt (f359 301 24 (ne_k rfl))
                  have u366 : 0 ≤ (0 : Int) ∧ (0 : Int) ≤ 1 ∧ ((fv Po 301 24).toInt ≤ (fv P356 301 24).toInt ∧ (fv P356 301 24).toInt ≤ (fv Po 301 23).toInt) := by omega
                  exact mp_iret ⟨⟨_, rfl, u366⟩, hT357, k360, trivial⟩ dX7_readsCommand_158 (Or.inr ⟨rfl, by decide⟩)
                · have c364 : (fv P356 301 26).toInt ≥ 0 := ti_lt_n c364
                  refine mp_a (a_aload_n dX7_readsCommand_137 rfl) (mpp 138 rfl ?_)
                  have e367 : (fv P356 301 25).toInt = (fv P9 301 25).toInt := congrArg Int32.toInt ((f359 301 25 (ne_k rfl)).trans ((KW.at k351 25 rl_301 rfl).trans (f340 301 25 (ne_k rfl))))
                  refine mt_getI (i := 321) (k := 25) hT357 dX7_readsCommand_138 rfl rl_301 (by decide) rfl (by decide) rfl (fun g368 g369 => mpp 141 rfl ?_)
                  refine mp_a (a_bipush (v := 109) dX7_readsCommand_141 rfl) (mpp 143 rfl ?_)
                  refine mp_Tb (t := 153) (j_icmp_ne dX7_readsCommand_143) (by decide) (fun c370 => ?_) (fun c370 => mpp 146 rfl ?_)
                  · have c370 : (fv P356 301 25).toInt ≠ 109 := ti_ne c370
                    refine mp_a (a_iconst (v := 1) dX7_readsCommand_153 rfl) (mpp 154 rfl ?_)
                    refine mp_a (a_goto (t := 158) dX7_readsCommand_154 (by decide)) ?_
                    have e371 : (fv P356 301 24).toInt = (fv P346 301 24).toInt := congrArg Int32.toInt (f359 301 24 (ne_k rfl))
                    have u372 : 0 ≤ (1 : Int) ∧ (1 : Int) ≤ 1 ∧ ((fv Po 301 24).toInt ≤ (fv P356 301 24).toInt ∧ (fv P356 301 24).toInt ≤ (fv Po 301 23).toInt) := by omega
                    exact mp_iret ⟨⟨_, rfl, u372⟩, hT357, k360, trivial⟩ dX7_readsCommand_158 (Or.inr ⟨rfl, by decide⟩)
                  · have c370 : (fv P356 301 25).toInt = 109 := ti_ne_n c370
                    refine mp_a (a_aload_n dX7_readsCommand_146 rfl) (mpp 147 rfl ?_)
                    have e373 : (fv P356 301 24).toInt = (fv P346 301 24).toInt := congrArg Int32.toInt (f359 301 24 (ne_k rfl))
                    have e374 : (fv P356 301 23).toInt = (fv P337 301 23).toInt := congrArg Int32.toInt ((f359 301 23 (ne_k rfl)).trans (KW.at k351 23 rl_301 rfl))
                    have p375 : (fv P356 301 24).toInt ≤ (fv P356 301 23).toInt := by omega
                    refine mt_callv (i := 330) (q' := q_224) (As := []) (rest := []) hT357 dX7_readsCommand_147 rfl qm_224 (by decide) rfl rl_301 (by decide) rfl (Nat.le_of_ble_eq_true rfl) rfl ⟨rfl, rfl⟩ ⟨Nat.le_of_ble_eq_true rfl, Nat.le_of_ble_eq_true rfl⟩ (EvP.mono (by decide) (c_M_readsMark hT357 p375 )) (fun r376 P377 g378 => mpp 150 rfl ?_)
                    obtain ⟨⟨x379, rfl, g380⟩, hT381, k382, R383⟩ := g378
                    have k384 : KW [1112, 1113, 1114, 1115, 1116, 1117] Po P377 := KW.trans k360 k382 rfl
                    have wx379 := ti_full x379
                    have g380 : 0 ≤ x379.toInt ∧ x379.toInt ≤ 1 ∧ ((fv P356 301 24).toInt ≤ (fv P377 301 24).toInt ∧ (fv P377 301 24).toInt ≤ (fv P356 301 23).toInt) := g380
                    have g385 : (0 : Int) ≤ (fv P377 301 24).toInt ∧ (fv P377 301 24).toInt ≤ 81 := Typ.rng hT381 rl_301 (by decide) (by decide) rfl
                    have g386 : (0 : Int) ≤ (fv P377 301 24).toInt ∧ (fv P377 301 24).toInt ≤ 81 := Typ.rng hT381 rl_301 (by decide) (by decide) rfl
                    show MEvP _ none q_217 150 [(0, .ref 301)] [.int x379] _ _ _ _
                    refine mp_Tb (t := 157) (j_if_eq dX7_readsCommand_150) (by decide) (fun c387 => ?_) (fun c387 => mpp 153 rfl ?_)
                    · have c387 : x379.toInt = 0 := ti_eq c387
                      refine mp_a (a_iconst (v := 0) dX7_readsCommand_157 rfl) (mpp 158 rfl ?_)
                      have u388 : 0 ≤ (0 : Int) ∧ (0 : Int) ≤ 1 ∧ ((fv Po 301 24).toInt ≤ (fv P377 301 24).toInt ∧ (fv P377 301 24).toInt ≤ (fv Po 301 23).toInt) := by omega
                      exact mp_iret ⟨⟨_, rfl, u388⟩, hT381, k384, trivial⟩ dX7_readsCommand_158 (Or.inr ⟨rfl, by decide⟩)
                    · have c387 : x379.toInt ≠ 0 := ti_eq_n c387
                      refine mp_a (a_iconst (v := 1) dX7_readsCommand_153 rfl) (mpp 154 rfl ?_)
                      refine mp_a (a_goto (t := 158) dX7_readsCommand_154 (by decide)) ?_
                      have u389 : 0 ≤ (1 : Int) ∧ (1 : Int) ≤ 1 ∧ ((fv Po 301 24).toInt ≤ (fv P377 301 24).toInt ∧ (fv P377 301 24).toInt ≤ (fv Po 301 23).toInt) := by omega
                      exact mp_iret ⟨⟨_, rfl, u389⟩, hT381, k384, trivial⟩ dX7_readsCommand_158 (Or.inr ⟨rfl, by decide⟩)
              · have c330 : (fv P9 301 25).toInt ≠ 120 := ti_eq_n c330
                refine mp_a (a_iconst (v := 0) dX7_readsCommand_110 rfl) (mpp 111 rfl ?_)
                have e390 : (fv P9 301 24).toInt = (fv Po 301 24).toInt := congrArg Int32.toInt (f12 301 24 (ne_k rfl))
                have u391 : 0 ≤ (0 : Int) ∧ (0 : Int) ≤ 1 ∧ ((fv Po 301 24).toInt ≤ (fv P9 301 24).toInt ∧ (fv P9 301 24).toInt ≤ (fv Po 301 23).toInt) := by omega
                exact mp_iret ⟨⟨_, rfl, u391⟩, hT10, k13, trivial⟩ dX7_readsCommand_111 (Or.inr ⟨rfl, by decide⟩)
    · have c79 : (fv P9 301 25).toInt = 99 := ti_ne_n c79
      refine mp_a (a_aload_n dX7_readsCommand_26 rfl) (mpp 27 rfl ?_)
      refine mp_t (s_dup dX7_readsCommand_27 rfl) (mpp 28 rfl ?_)
      have e392 : (fv P9 301 24).toInt = (fv Po 301 24).toInt := congrArg Int32.toInt (f12 301 24 (ne_k rfl))
      refine mt_getI (i := 294) (k := 24) hT10 dX7_readsCommand_28 rfl rl_301 (by decide) rfl (by decide) rfl (fun g393 g394 => mpp 31 rfl ?_)
      refine mp_a (a_iconst (v := 1) dX7_readsCommand_31 rfl) (mpp 32 rfl ?_)
      obtain ⟨z395, h396⟩ := ti_ex ((fv P9 301 24) + 1 : Int32)
      have wz395 := ti_full z395
      refine mp_t (s_iadd (v := z395) dX7_readsCommand_32 h396) (mpp 33 rfl ?_)
      try have e397 : z395.toInt = (fv P9 301 24).toInt + 1 := ti_addz h396 rfl rfl (by omega) (by omega)
      refine mt_putI (i := 294) (k := 24) (x := z395) hT10 dX7_readsCommand_33 rfl rl_301 (by decide) rfl (by decide) rfl ⟨by omega, by omega⟩ rfl rfl (fun P398 hT399 f400 f401 => mpp 36 rfl ?_)
      have k402 : KW [1112, 1113, 1114, 1115, 1116, 1117] Po P398 := KW.step k13 rl_301 rfl f401
      have e403 : (fv P398 301 24).toInt = z395.toInt := congrArg Int32.toInt f400
      refine mp_a (a_aload_n dX7_readsCommand_36 rfl) (mpp 37 rfl ?_)
      have e404 : (fv P398 301 23).toInt = (fv Po 301 23).toInt := congrArg Int32.toInt ((f401 301 23 (ne_k rfl)).trans (f12 301 23 (ne_k rfl)))
      have p405 : (fv P398 301 24).toInt ≤ (fv P398 301 23).toInt := by omega
      refine mt_callv (i := 324) (q' := q_219) (As := []) (rest := []) hT399 dX7_readsCommand_37 rfl qm_219 (by decide) rfl rl_301 (by decide) rfl (Nat.le_of_ble_eq_true rfl) rfl ⟨rfl, rfl⟩ ⟨Nat.le_of_ble_eq_true rfl, Nat.le_of_ble_eq_true rfl⟩ (EvP.mono (by decide) (c_M_readsSizes hT399 p405 )) (fun r406 P407 g408 => mpp 40 rfl ?_)
      obtain ⟨⟨x409, rfl, g410⟩, hT411, k412, R413⟩ := g408
      have k414 : KW [1112, 1113, 1114, 1115, 1116, 1117] Po P407 := KW.trans k402 k412 rfl
      have wx409 := ti_full x409
      have g410 : 0 ≤ x409.toInt ∧ x409.toInt ≤ 1 ∧ ((fv P398 301 24).toInt ≤ (fv P407 301 24).toInt ∧ (fv P407 301 24).toInt ≤ (fv P398 301 23).toInt) := g410
      have g415 : (0 : Int) ≤ (fv P407 301 24).toInt ∧ (fv P407 301 24).toInt ≤ 81 := Typ.rng hT411 rl_301 (by decide) (by decide) rfl
      have g416 : (0 : Int) ≤ (fv P407 301 24).toInt ∧ (fv P407 301 24).toInt ≤ 81 := Typ.rng hT411 rl_301 (by decide) (by decide) rfl
      show MEvP _ none q_217 40 [(0, .ref 301)] [.int x409] _ _ _ _
      refine mp_Tb (t := 63) (j_if_eq dX7_readsCommand_40) (by decide) (fun c417 => ?_) (fun c417 => mpp 43 rfl ?_)
      · have c417 : x409.toInt = 0 := ti_eq c417
        refine mp_a (a_iconst (v := 0) dX7_readsCommand_63 rfl) (mpp 64 rfl ?_)
        have u418 : 0 ≤ (0 : Int) ∧ (0 : Int) ≤ 1 ∧ ((fv Po 301 24).toInt ≤ (fv P407 301 24).toInt ∧ (fv P407 301 24).toInt ≤ (fv Po 301 23).toInt) := by omega
        exact mp_iret ⟨⟨_, rfl, u418⟩, hT411, k414, trivial⟩ dX7_readsCommand_64 (Or.inr ⟨rfl, by decide⟩)
      · have c417 : x409.toInt ≠ 0 := ti_eq_n c417
        refine mp_a (a_aload_n dX7_readsCommand_43 rfl) (mpp 44 rfl ?_)
        refine mp_a (a_bipush (v := 58) dX7_readsCommand_44 rfl) (mpp 46 rfl ?_)
        have p419 : 0 ≤ (58 : Int) := by omega
        refine mt_callv (i := 312) (q' := q_220) (As := [.int 58]) (rest := []) hT411 dX7_readsCommand_46 rfl qm_220 (by decide) rfl rl_301 (by decide) rfl (Nat.le_of_ble_eq_true rfl) rfl ⟨rfl, rfl⟩ ⟨Nat.le_of_ble_eq_true rfl, Nat.le_of_ble_eq_true rfl⟩ (EvP.mono (by decide) (c_M_takes hT411 p419 )) (fun r420 P421 g422 => mpp 49 rfl ?_)
        obtain ⟨⟨x423, rfl, g424⟩, hT425, k426, R427⟩ := g422
        have k428 : KW [1112, 1113, 1114, 1115, 1116, 1117] Po P421 := KW.trans k414 k426 rfl
        have wx423 := ti_full x423
        have g424 : 0 ≤ x423.toInt ∧ x423.toInt ≤ 1 ∧ ((x423.toInt = 1 ∧ (fv P421 301 24).toInt = (fv P407 301 24).toInt + 1 ∧ (fv P421 301 24).toInt ≤ (fv P407 301 23).toInt) ∨ (x423.toInt = 0 ∧ (fv P421 301 24).toInt = (fv P407 301 24).toInt)) := g424
        have g429 : (0 : Int) ≤ (fv P421 301 24).toInt ∧ (fv P421 301 24).toInt ≤ 81 := Typ.rng hT425 rl_301 (by decide) (by decide) rfl
        have g430 : (0 : Int) ≤ (fv P421 301 24).toInt ∧ (fv P421 301 24).toInt ≤ 81 := Typ.rng hT425 rl_301 (by decide) (by decide) rfl
        have e431 : (fv P407 301 23).toInt = (fv P398 301 23).toInt := congrArg Int32.toInt (KW.at k412 23 rl_301 rfl)
        have g432 : (0 : Int) ≤ (fv P421 301 24).toInt ∧ (fv P421 301 24).toInt ≤ 81 := Typ.rng hT425 rl_301 (by decide) (by decide) rfl
        show MEvP _ none q_217 49 [(0, .ref 301)] [.int x423] _ _ _ _
        refine mp_Tb (t := 63) (j_if_eq dX7_readsCommand_49) (by decide) (fun c433 => ?_) (fun c433 => mpp 52 rfl ?_)
        · have c433 : x423.toInt = 0 := ti_eq c433
          refine mp_a (a_iconst (v := 0) dX7_readsCommand_63 rfl) (mpp 64 rfl ?_)
          have u434 : 0 ≤ (0 : Int) ∧ (0 : Int) ≤ 1 ∧ ((fv Po 301 24).toInt ≤ (fv P421 301 24).toInt ∧ (fv P421 301 24).toInt ≤ (fv Po 301 23).toInt) := by omega
          exact mp_iret ⟨⟨_, rfl, u434⟩, hT425, k428, trivial⟩ dX7_readsCommand_64 (Or.inr ⟨rfl, by decide⟩)
        · have c433 : x423.toInt ≠ 0 := ti_eq_n c433
          refine mp_a (a_aload_n dX7_readsCommand_52 rfl) (mpp 53 rfl ?_)
          have e435 : (fv P421 301 23).toInt = (fv P407 301 23).toInt := congrArg Int32.toInt (KW.at k426 23 rl_301 rfl)
          have p436 : (fv P421 301 24).toInt ≤ (fv P421 301 23).toInt := by omega
          refine mt_callv (i := 327) (q' := q_221) (As := []) (rest := []) hT425 dX7_readsCommand_53 rfl qm_221 (by decide) rfl rl_301 (by decide) rfl (Nat.le_of_ble_eq_true rfl) rfl ⟨rfl, rfl⟩ ⟨Nat.le_of_ble_eq_true rfl, Nat.le_of_ble_eq_true rfl⟩ (EvP.mono (by decide) (c_M_readsSigns hT425 p436 )) (fun r437 P438 g439 => mpp 56 rfl ?_)
          obtain ⟨⟨x440, rfl, g441⟩, hT442, k443, R444⟩ := g439
          have k445 : KW [1112, 1113, 1114, 1115, 1116, 1117] Po P438 := KW.trans k428 k443 rfl
          have wx440 := ti_full x440
          have g441 : 0 ≤ x440.toInt ∧ x440.toInt ≤ 1 ∧ ((fv P421 301 24).toInt ≤ (fv P438 301 24).toInt ∧ (fv P438 301 24).toInt ≤ (fv P421 301 23).toInt) := g441
          have g446 : (0 : Int) ≤ (fv P438 301 24).toInt ∧ (fv P438 301 24).toInt ≤ 81 := Typ.rng hT442 rl_301 (by decide) (by decide) rfl
          have g447 : (0 : Int) ≤ (fv P438 301 24).toInt ∧ (fv P438 301 24).toInt ≤ 81 := Typ.rng hT442 rl_301 (by decide) (by decide) rfl
          show MEvP _ none q_217 56 [(0, .ref 301)] [.int x440] _ _ _ _
          refine mp_Tb (t := 63) (j_if_eq dX7_readsCommand_56) (by decide) (fun c448 => ?_) (fun c448 => mpp 59 rfl ?_)
          · have c448 : x440.toInt = 0 := ti_eq c448
            refine mp_a (a_iconst (v := 0) dX7_readsCommand_63 rfl) (mpp 64 rfl ?_)
            have u449 : 0 ≤ (0 : Int) ∧ (0 : Int) ≤ 1 ∧ ((fv Po 301 24).toInt ≤ (fv P438 301 24).toInt ∧ (fv P438 301 24).toInt ≤ (fv Po 301 23).toInt) := by omega
            exact mp_iret ⟨⟨_, rfl, u449⟩, hT442, k445, trivial⟩ dX7_readsCommand_64 (Or.inr ⟨rfl, by decide⟩)
          · have c448 : x440.toInt ≠ 0 := ti_eq_n c448
            refine mp_a (a_iconst (v := 1) dX7_readsCommand_59 rfl) (mpp 60 rfl ?_)
            refine mp_a (a_goto (t := 64) dX7_readsCommand_60 (by decide)) ?_
            have u450 : 0 ≤ (1 : Int) ∧ (1 : Int) ≤ 1 ∧ ((fv Po 301 24).toInt ≤ (fv P438 301 24).toInt ∧ (fv P438 301 24).toInt ≤ (fv Po 301 23).toInt) := by omega
            exact mp_iret ⟨⟨_, rfl, u450⟩, hT442, k445, trivial⟩ dX7_readsCommand_64 (Or.inr ⟨rfl, by decide⟩)

set_option maxHeartbeats 4000000 in
theorem c_M_isText_l10 {Po : mP}   : ∀ (n : Nat) (v1 : Int32), ∀ (P : mP), Typ P → KW [1112, 1113, 1114, 1115, 1116, 1117] Po P → ((fv P 301 24).toInt ≤ (fv P 301 23).toInt) → (81 - (fv P 301 24).toInt).toNat = n → MEvP 4 none q_216 10 [(0, .ref 301), (1, .int v1)] [] P 0 0 (fun r P' => (∃ x : Int32, r = some (.int x) ∧ (0 ≤ x.toInt ∧ x.toInt ≤ 1)) ∧ Typ P' ∧ KW [1112, 1113, 1114, 1115, 1116, 1117] Po P' ∧ True) := by
  intro n
  induction n using Nat.strongRecOn with | _ n ih => ?_
  intro v1 P hT hK i_0 hm
  have w_v1 := ti_full v1
  have g1 : (0 : Int) ≤ (fv P 301 24).toInt ∧ (fv P 301 24).toInt ≤ 81 := Typ.rng hT rl_301 (by decide) (by decide) rfl
  have g2 : (0 : Int) ≤ (fv P 301 24).toInt ∧ (fv P 301 24).toInt ≤ 81 := Typ.rng hT rl_301 (by decide) (by decide) rfl
  have g3 : (0 : Int) ≤ (fv P 301 23).toInt ∧ (fv P 301 23).toInt ≤ 80 := Typ.rng hT rl_301 (by decide) (by decide) rfl
  have g4 : (0 : Int) ≤ (fv P 301 23).toInt ∧ (fv P 301 23).toInt ≤ 80 := Typ.rng hT rl_301 (by decide) (by decide) rfl
  have g5 : (0 : Int) ≤ (fv P 301 24).toInt ∧ (fv P 301 24).toInt ≤ 81 := Typ.rng hT rl_301 (by decide) (by decide) rfl
  refine mp_a (a_iload_n dX7_isText_10 rfl) (mpp 11 rfl ?_)
  refine mp_Tb (t := 31) (j_if_eq dX7_isText_11) (by decide) (fun c6 => ?_) (fun c6 => mpp 14 rfl ?_)
  · have c6 : v1.toInt = 0 := ti_eq c6
    refine mp_a (a_iload_n dX7_isText_31 rfl) (mpp 32 rfl ?_)
    refine mp_Tb (t := 50) (j_if_eq dX7_isText_32) (by decide) (fun c7 => ?_) (fun c7 => mpp 35 rfl ?_)
    · have c7 : v1.toInt = 0 := ti_eq c7
      refine mp_a (a_iconst (v := 0) dX7_isText_50 rfl) (mpp 51 rfl ?_)
      have u8 : 0 ≤ (0 : Int) ∧ (0 : Int) ≤ 1 := by omega
      exact mp_iret ⟨⟨_, rfl, u8⟩, hT, hK, trivial⟩ dX7_isText_51 (Or.inr ⟨rfl, by decide⟩)
    · have c7 : v1.toInt ≠ 0 := ti_eq_n c7
      refine mp_a (a_aload_n dX7_isText_35 rfl) (mpp 36 rfl ?_)
      refine mt_getI (i := 294) (k := 24) hT dX7_isText_36 rfl rl_301 (by decide) rfl (by decide) rfl (fun g9 g10 => mpp 39 rfl ?_)
      refine mp_a (a_aload_n dX7_isText_39 rfl) (mpp 40 rfl ?_)
      refine mt_getI (i := 291) (k := 23) hT dX7_isText_40 rfl rl_301 (by decide) rfl (by decide) rfl (fun g11 g12 => mpp 43 rfl ?_)
      refine mp_Tb (t := 50) (j_icmp_ne dX7_isText_43) (by decide) (fun c13 => ?_) (fun c13 => mpp 46 rfl ?_)
      · have c13 : (fv P 301 24).toInt ≠ (fv P 301 23).toInt := ti_ne c13
        refine mp_a (a_iconst (v := 0) dX7_isText_50 rfl) (mpp 51 rfl ?_)
        have u14 : 0 ≤ (0 : Int) ∧ (0 : Int) ≤ 1 := by omega
        exact mp_iret ⟨⟨_, rfl, u14⟩, hT, hK, trivial⟩ dX7_isText_51 (Or.inr ⟨rfl, by decide⟩)
      · have c13 : (fv P 301 24).toInt = (fv P 301 23).toInt := ti_ne_n c13
        refine mp_a (a_iconst (v := 1) dX7_isText_46 rfl) (mpp 47 rfl ?_)
        refine mp_a (a_goto (t := 51) dX7_isText_47 (by decide)) ?_
        have u15 : 0 ≤ (1 : Int) ∧ (1 : Int) ≤ 1 := by omega
        exact mp_iret ⟨⟨_, rfl, u15⟩, hT, hK, trivial⟩ dX7_isText_51 (Or.inr ⟨rfl, by decide⟩)
  · have c6 : v1.toInt ≠ 0 := ti_eq_n c6
    refine mp_a (a_aload_n dX7_isText_14 rfl) (mpp 15 rfl ?_)
    refine mp_a (a_bipush (v := 59) dX7_isText_15 rfl) (mpp 17 rfl ?_)
    have p16 : 0 ≤ (59 : Int) := by omega
    refine mt_callv (i := 312) (q' := q_220) (As := [.int 59]) (rest := []) hT dX7_isText_17 rfl qm_220 (by decide) rfl rl_301 (by decide) rfl (Nat.le_of_ble_eq_true rfl) rfl ⟨rfl, rfl⟩ ⟨Nat.le_of_ble_eq_true rfl, Nat.le_of_ble_eq_true rfl⟩ (EvP.mono (by decide) (c_M_takes hT p16 )) (fun r17 P18 g19 => mpp 20 rfl ?_)
    obtain ⟨⟨x20, rfl, g21⟩, hT22, k23, R24⟩ := g19
    have k25 : KW [1112, 1113, 1114, 1115, 1116, 1117] Po P18 := KW.trans hK k23 rfl
    have wx20 := ti_full x20
    have g21 : 0 ≤ x20.toInt ∧ x20.toInt ≤ 1 ∧ ((x20.toInt = 1 ∧ (fv P18 301 24).toInt = (fv P 301 24).toInt + 1 ∧ (fv P18 301 24).toInt ≤ (fv P 301 23).toInt) ∨ (x20.toInt = 0 ∧ (fv P18 301 24).toInt = (fv P 301 24).toInt)) := g21
    have g26 : (0 : Int) ≤ (fv P18 301 24).toInt ∧ (fv P18 301 24).toInt ≤ 81 := Typ.rng hT22 rl_301 (by decide) (by decide) rfl
    have g27 : (0 : Int) ≤ (fv P18 301 24).toInt ∧ (fv P18 301 24).toInt ≤ 81 := Typ.rng hT22 rl_301 (by decide) (by decide) rfl
    have g28 : (0 : Int) ≤ (fv P18 301 24).toInt ∧ (fv P18 301 24).toInt ≤ 81 := Typ.rng hT22 rl_301 (by decide) (by decide) rfl
    show MEvP _ none q_216 20 [(0, .ref 301), (1, .int v1)] [.int x20] _ _ _ _
    refine mp_Tb (t := 31) (j_if_eq dX7_isText_20) (by decide) (fun c29 => ?_) (fun c29 => mpp 23 rfl ?_)
    · have c29 : x20.toInt = 0 := ti_eq c29
      refine mp_a (a_iload_n dX7_isText_31 rfl) (mpp 32 rfl ?_)
      refine mp_Tb (t := 50) (j_if_eq dX7_isText_32) (by decide) (fun c30 => ?_) (fun c30 => mpp 35 rfl ?_)
      · have c30 : v1.toInt = 0 := ti_eq c30
        refine mp_a (a_iconst (v := 0) dX7_isText_50 rfl) (mpp 51 rfl ?_)
        have u31 : 0 ≤ (0 : Int) ∧ (0 : Int) ≤ 1 := by omega
        exact mp_iret ⟨⟨_, rfl, u31⟩, hT22, k25, trivial⟩ dX7_isText_51 (Or.inr ⟨rfl, by decide⟩)
      · have c30 : v1.toInt ≠ 0 := ti_eq_n c30
        refine mp_a (a_aload_n dX7_isText_35 rfl) (mpp 36 rfl ?_)
        refine mt_getI (i := 294) (k := 24) hT22 dX7_isText_36 rfl rl_301 (by decide) rfl (by decide) rfl (fun g32 g33 => mpp 39 rfl ?_)
        refine mp_a (a_aload_n dX7_isText_39 rfl) (mpp 40 rfl ?_)
        have e34 : (fv P18 301 23).toInt = (fv P 301 23).toInt := congrArg Int32.toInt (KW.at k23 23 rl_301 rfl)
        refine mt_getI (i := 291) (k := 23) hT22 dX7_isText_40 rfl rl_301 (by decide) rfl (by decide) rfl (fun g35 g36 => mpp 43 rfl ?_)
        refine mp_Tb (t := 50) (j_icmp_ne dX7_isText_43) (by decide) (fun c37 => ?_) (fun c37 => mpp 46 rfl ?_)
        · have c37 : (fv P18 301 24).toInt ≠ (fv P18 301 23).toInt := ti_ne c37
          refine mp_a (a_iconst (v := 0) dX7_isText_50 rfl) (mpp 51 rfl ?_)
          have u38 : 0 ≤ (0 : Int) ∧ (0 : Int) ≤ 1 := by omega
          exact mp_iret ⟨⟨_, rfl, u38⟩, hT22, k25, trivial⟩ dX7_isText_51 (Or.inr ⟨rfl, by decide⟩)
        · have c37 : (fv P18 301 24).toInt = (fv P18 301 23).toInt := ti_ne_n c37
          refine mp_a (a_iconst (v := 1) dX7_isText_46 rfl) (mpp 47 rfl ?_)
          refine mp_a (a_goto (t := 51) dX7_isText_47 (by decide)) ?_
          have u39 : 0 ≤ (1 : Int) ∧ (1 : Int) ≤ 1 := by omega
          exact mp_iret ⟨⟨_, rfl, u39⟩, hT22, k25, trivial⟩ dX7_isText_51 (Or.inr ⟨rfl, by decide⟩)
    · have c29 : x20.toInt ≠ 0 := ti_eq_n c29
      refine mp_a (a_aload_n dX7_isText_23 rfl) (mpp 24 rfl ?_)
      have e40 : (fv P18 301 23).toInt = (fv P 301 23).toInt := congrArg Int32.toInt (KW.at k23 23 rl_301 rfl)
      have p41 : (fv P18 301 24).toInt ≤ (fv P18 301 23).toInt := by omega
      refine mt_callv (i := 333) (q' := q_217) (As := []) (rest := []) hT22 dX7_isText_24 rfl qm_217 (by decide) rfl rl_301 (by decide) rfl (Nat.le_of_ble_eq_true rfl) rfl ⟨rfl, rfl⟩ ⟨Nat.le_of_ble_eq_true rfl, Nat.le_of_ble_eq_true rfl⟩ (EvP.mono (by decide) (c_M_readsCommand hT22 p41 )) (fun r42 P43 g44 => mpp 27 rfl ?_)
      obtain ⟨⟨x45, rfl, g46⟩, hT47, k48, R49⟩ := g44
      have k50 : KW [1112, 1113, 1114, 1115, 1116, 1117] Po P43 := KW.trans k25 k48 rfl
      have wx45 := ti_full x45
      have g46 : 0 ≤ x45.toInt ∧ x45.toInt ≤ 1 ∧ ((fv P18 301 24).toInt ≤ (fv P43 301 24).toInt ∧ (fv P43 301 24).toInt ≤ (fv P18 301 23).toInt) := g46
      have g51 : (0 : Int) ≤ (fv P43 301 24).toInt ∧ (fv P43 301 24).toInt ≤ 81 := Typ.rng hT47 rl_301 (by decide) (by decide) rfl
      have g52 : (0 : Int) ≤ (fv P43 301 24).toInt ∧ (fv P43 301 24).toInt ≤ 81 := Typ.rng hT47 rl_301 (by decide) (by decide) rfl
      show MEvP _ none q_216 27 [(0, .ref 301), (1, .int v1)] [.int x45] _ _ _ _
      refine mp_a (a_istore_n (L' := [(1, .int x45), (0, .ref 301)]) dX7_isText_27 (by decide) rfl) (mpp 28 rfl ?_)
      refine mp_a (a_goto (t := 10) dX7_isText_28 (by decide)) ?_
      refine MEvP.less (L := [(0, .ref 301), (1, .int x45)]) rfl rfl ⟨rfl, rfl, trivial⟩ ?_
      have e53 : (fv P43 301 23).toInt = (fv P18 301 23).toInt := congrArg Int32.toInt (KW.at k48 23 rl_301 rfl)
      have i54 : (fv P43 301 24).toInt ≤ (fv P43 301 23).toInt := by omega
      exact ih _ (by omega) _ P43 hT47 k50 i54 rfl

set_option maxHeartbeats 4000000 in
theorem c_M_isText {Po : mP}  (hT : Typ Po)   : EvP 5 216 [.ref 301] Po (fun r P' => (∃ x : Int32, r = some (.int x) ∧ (0 ≤ x.toInt ∧ x.toInt ≤ 1)) ∧ Typ P' ∧ KW [1112, 1113, 1114, 1115, 1116, 1117] Po P' ∧ True) := by
  refine EvP.of qm_216 (Nat.le_of_ble_eq_true rfl) rfl ?_
  show MEvP _ none q_216 0 [(0, .ref 301)] [] _ 0 0 _
  refine mp_a (a_aload_n dX7_isText_0 rfl) (mpp 1 rfl ?_)
  refine mp_a (a_iconst (v := 0) dX7_isText_1 rfl) (mpp 2 rfl ?_)
  refine mt_putI (i := 294) (k := 24) (x := 0) hT dX7_isText_2 rfl rl_301 (by decide) rfl (by decide) rfl (by decide) rfl rfl (fun P1 hT2 f3 f4 => mpp 5 rfl ?_)
  have k5 : KW [1112, 1113, 1114, 1115, 1116, 1117] Po P1 := KW.step KW.refl rl_301 rfl f4
  have e6 : (fv P1 301 24).toInt = 0 := congrArg Int32.toInt f3
  refine mp_a (a_aload_n dX7_isText_5 rfl) (mpp 6 rfl ?_)
  have g7 : (0 : Int) ≤ (fv P1 301 23).toInt ∧ (fv P1 301 23).toInt ≤ 80 := Typ.rng hT2 rl_301 (by decide) (by decide) rfl
  have p8 : (fv P1 301 24).toInt ≤ (fv P1 301 23).toInt := by omega
  refine mt_callv (i := 333) (q' := q_217) (As := []) (rest := []) hT2 dX7_isText_6 rfl qm_217 (by decide) rfl rl_301 (by decide) rfl (Nat.le_of_ble_eq_true rfl) rfl ⟨rfl, rfl⟩ ⟨Nat.le_of_ble_eq_true rfl, Nat.le_of_ble_eq_true rfl⟩ (EvP.mono (by decide) (c_M_readsCommand hT2 p8 )) (fun r9 P10 g11 => mpp 9 rfl ?_)
  obtain ⟨⟨x12, rfl, g13⟩, hT14, k15, R16⟩ := g11
  have k17 : KW [1112, 1113, 1114, 1115, 1116, 1117] Po P10 := KW.trans k5 k15 rfl
  have wx12 := ti_full x12
  have g13 : 0 ≤ x12.toInt ∧ x12.toInt ≤ 1 ∧ ((fv P1 301 24).toInt ≤ (fv P10 301 24).toInt ∧ (fv P10 301 24).toInt ≤ (fv P1 301 23).toInt) := g13
  have g18 : (0 : Int) ≤ (fv P10 301 24).toInt ∧ (fv P10 301 24).toInt ≤ 81 := Typ.rng hT14 rl_301 (by decide) (by decide) rfl
  have g19 : (0 : Int) ≤ (fv P10 301 24).toInt ∧ (fv P10 301 24).toInt ≤ 81 := Typ.rng hT14 rl_301 (by decide) (by decide) rfl
  show MEvP _ none q_216 9 [(0, .ref 301)] [.int x12] _ _ _ _
  refine mp_a (a_istore_n (L' := [(1, .int x12), (0, .ref 301)]) dX7_isText_9 (by decide) rfl) (mpp 10 rfl ?_)
  refine MEvP.less (L := [(0, .ref 301), (1, .int x12)]) rfl rfl ⟨rfl, rfl, trivial⟩ ?_
  have e20 : (fv P10 301 23).toInt = (fv P1 301 23).toInt := congrArg Int32.toInt (KW.at k15 23 rl_301 rfl)
  have i21 : (fv P10 301 24).toInt ≤ (fv P10 301 23).toInt := by omega
  exact c_M_isText_l10   _ _ P10 hT14 k17 i21 rfl

