/-! methods on typed pools, 42 (written by a program) -/
set_option maxHeartbeats 4000000 in
theorem c_M_readsCommand {Po : mP}  (hT : Typ Po)  (hp0 : (fv Po 301 24).toInt ≤ (fv Po 301 23).toInt)  : EvP 4 217 [.ref 301] Po (fun r P' => (∃ x : Int32, r = some (.int x) ∧ (0 ≤ x.toInt ∧ x.toInt ≤ 1 ∧ ((fv Po 301 24).toInt ≤ (fv P' 301 24).toInt ∧ (fv P' 301 24).toInt ≤ (fv Po 301 23).toInt))) ∧ Typ P' ∧ KW [1112, 1113, 1114, 1115, 1116, 1117] Po P' ∧ True) := by
  refine EvP.of qm_217 (Nat.le_of_ble_eq_true rfl) rfl ?_
  show MEvP _ none q_217 0 [(0, .ref 301)] [] _ 0 0 _
  have g1 : (0 : Int) ≤ (fv Po 301 24).toInt ∧ (fv Po 301 24).toInt ≤ 81 := Typ.rng hT rl_301 (by decide) (by decide) rfl
  have g2 : (0 : Int) ≤ (fv Po 301 23).toInt ∧ (fv Po 301 23).toInt ≤ 80 := Typ.rng hT rl_301 (by decide) (by decide) rfl
  refine mp_a (a_aload_n dX7_readsCommand_0 rfl) (mpp 1 rfl ?_)
  refine mp_a (a_aload_n dX7_readsCommand_1 rfl) (mpp 2 rfl ?_)
  refine mt_callv (i := 297) (q' := q_218) (As := []) (rest := [.ref 301]) hT dX7_readsCommand_2 rfl qm_218 (by decide) rfl rl_301 (by decide) rfl (Nat.le_of_ble_eq_true rfl) rfl ⟨rfl, rfl⟩ ⟨Nat.le_of_ble_eq_true rfl, Nat.le_of_ble_eq_true rfl⟩ (EvP.mono (by decide) (c_M_sign hT )) (fun r3 P4 g5 => mpp 5 rfl ?_)
  obtain ⟨⟨x6, rfl, g7⟩, e8⟩ := g5
  have e8 := e8.symm
  subst e8
  have wx6 := ti_full x6
  replace g7 : x6.toInt = -1 ∨ (fv Po 301 24).toInt + 1 ≤ (fv Po 301 23).toInt := g7
  show MEvP _ none q_217 5 [(0, .ref 301)] [.int x6, .ref 301] _ _ _ _
  refine mt_putI (i := 321) (k := 25) (x := x6) hT dX7_readsCommand_5 rfl rl_301 (by decide) rfl (by decide) rfl (ti_full x6) rfl rfl (fun P9 hT10 f11 f12 f13 => mpp 8 rfl ?_)
  have k14 : KW [1112, 1113, 1114, 1115, 1116, 1117] Po P9 := KW.step KW.refl rl_301 rfl f12 f13
  have e15 : (fv P9 301 25).toInt = x6.toInt := congrArg Int32.toInt f11
  refine mp_a (a_aload_n dX7_readsCommand_8 rfl) (mpp 9 rfl ?_)
  refine mt_getI (i := 321) (k := 25) hT10 dX7_readsCommand_9 rfl rl_301 (by decide) rfl (by decide) rfl (fun g16 g17 => mpp 12 rfl ?_)
  refine mp_a (a_bipush (v := 115) dX7_readsCommand_12 rfl) (mpp 14 rfl ?_)
  refine mp_Tb (t := 26) (j_icmp_eq dX7_readsCommand_14) (by decide) (fun c18 => ?_) (fun c18 => mpp 17 rfl ?_)
  · have c18 : (fv P9 301 25).toInt = 115 := ti_eq c18
    refine mp_a (a_aload_n dX7_readsCommand_26 rfl) (mpp 27 rfl ?_)
    refine mp_t (s_dup dX7_readsCommand_27 rfl) (mpp 28 rfl ?_)
    have e19 : (fv P9 301 24).toInt = (fv Po 301 24).toInt := congrArg Int32.toInt (f12 301 24 (ne_k rfl))
    refine mt_getI (i := 294) (k := 24) hT10 dX7_readsCommand_28 rfl rl_301 (by decide) rfl (by decide) rfl (fun g20 g21 => mpp 31 rfl ?_)
    refine mp_a (a_iconst (v := 1) dX7_readsCommand_31 rfl) (mpp 32 rfl ?_)
    obtain ⟨z22, h23⟩ := ti_ex ((fv P9 301 24) + 1 : Int32)
    have wz22 := ti_full z22
    refine mp_t (s_iadd (v := z22) dX7_readsCommand_32 h23) (mpp 33 rfl ?_)
    try have e24 : z22.toInt = (fv P9 301 24).toInt + 1 := ti_addz h23 rfl rfl (by omega) (by omega)
    refine mt_putI (i := 294) (k := 24) (x := z22) hT10 dX7_readsCommand_33 rfl rl_301 (by decide) rfl (by decide) rfl ⟨by omega, by omega⟩ rfl rfl (fun P25 hT26 f27 f28 f29 => mpp 36 rfl ?_)
    have k30 : KW [1112, 1113, 1114, 1115, 1116, 1117] Po P25 := KW.step k14 rl_301 rfl f28 f29
    have e31 : (fv P25 301 24).toInt = z22.toInt := congrArg Int32.toInt f27
    refine mp_a (a_aload_n dX7_readsCommand_36 rfl) (mpp 37 rfl ?_)
    have e32 : (fv P25 301 23).toInt = (fv Po 301 23).toInt := congrArg Int32.toInt ((f28 301 23 (ne_k rfl)).trans (f12 301 23 (ne_k rfl)))
    have p33 : (fv P25 301 24).toInt ≤ (fv P25 301 23).toInt := by omega
    refine mt_callv (i := 324) (q' := q_219) (As := []) (rest := []) hT26 dX7_readsCommand_37 rfl qm_219 (by decide) rfl rl_301 (by decide) rfl (Nat.le_of_ble_eq_true rfl) rfl ⟨rfl, rfl⟩ ⟨Nat.le_of_ble_eq_true rfl, Nat.le_of_ble_eq_true rfl⟩ (EvP.mono (by decide) (c_M_readsSizes hT26 p33 )) (fun r34 P35 g36 => mpp 40 rfl ?_)
    obtain ⟨⟨x37, rfl, g38⟩, hT39, k40, R41⟩ := g36
    have k42 : KW [1112, 1113, 1114, 1115, 1116, 1117] Po P35 := KW.trans k30 k40 rfl
    have wx37 := ti_full x37
    replace g38 : 0 ≤ x37.toInt ∧ x37.toInt ≤ 1 ∧ ((fv P25 301 24).toInt ≤ (fv P35 301 24).toInt ∧ (fv P35 301 24).toInt ≤ (fv P25 301 23).toInt) := g38
    have g44 : (0 : Int) ≤ (fv P35 301 24).toInt ∧ (fv P35 301 24).toInt ≤ 81 := Typ.rng hT39 rl_301 (by decide) (by decide) rfl
    have g45 : (0 : Int) ≤ (fv P35 301 24).toInt ∧ (fv P35 301 24).toInt ≤ 81 := Typ.rng hT39 rl_301 (by decide) (by decide) rfl
    show MEvP _ none q_217 40 [(0, .ref 301)] [.int x37] _ _ _ _
    refine mp_Tb (t := 63) (j_if_eq dX7_readsCommand_40) (by decide) (fun c46 => ?_) (fun c46 => mpp 43 rfl ?_)
    · have c46 : x37.toInt = 0 := ti_eq c46
      refine mp_a (a_iconst (v := 0) dX7_readsCommand_63 rfl) (mpp 64 rfl ?_)
      have u47 : 0 ≤ (0 : Int) ∧ (0 : Int) ≤ 1 ∧ ((fv Po 301 24).toInt ≤ (fv P35 301 24).toInt ∧ (fv P35 301 24).toInt ≤ (fv Po 301 23).toInt) := by omega
      exact mp_iret ⟨⟨_, rfl, u47⟩, hT39, k42, trivial⟩ dX7_readsCommand_64 (Or.inr ⟨rfl, by decide⟩)
    · have c46 : x37.toInt ≠ 0 := ti_eq_n c46
      refine mp_a (a_aload_n dX7_readsCommand_43 rfl) (mpp 44 rfl ?_)
      refine mp_a (a_bipush (v := 58) dX7_readsCommand_44 rfl) (mpp 46 rfl ?_)
      have p48 : 0 ≤ (58 : Int) := by omega
      refine mt_callv (i := 312) (q' := q_220) (As := [.int 58]) (rest := []) hT39 dX7_readsCommand_46 rfl qm_220 (by decide) rfl rl_301 (by decide) rfl (Nat.le_of_ble_eq_true rfl) rfl ⟨rfl, rfl⟩ ⟨Nat.le_of_ble_eq_true rfl, Nat.le_of_ble_eq_true rfl⟩ (EvP.mono (by decide) (c_M_takes hT39 p48 )) (fun r49 P50 g51 => mpp 49 rfl ?_)
      obtain ⟨⟨x52, rfl, g53⟩, hT54, k55, R56⟩ := g51
      have k57 : KW [1112, 1113, 1114, 1115, 1116, 1117] Po P50 := KW.trans k42 k55 rfl
      have wx52 := ti_full x52
      replace g53 : 0 ≤ x52.toInt ∧ x52.toInt ≤ 1 ∧ ((x52.toInt = 1 ∧ (fv P50 301 24).toInt = (fv P35 301 24).toInt + 1 ∧ (fv P50 301 24).toInt ≤ (fv P35 301 23).toInt) ∨ (x52.toInt = 0 ∧ (fv P50 301 24).toInt = (fv P35 301 24).toInt)) := g53
      have g59 : (0 : Int) ≤ (fv P50 301 24).toInt ∧ (fv P50 301 24).toInt ≤ 81 := Typ.rng hT54 rl_301 (by decide) (by decide) rfl
      have g60 : (0 : Int) ≤ (fv P50 301 24).toInt ∧ (fv P50 301 24).toInt ≤ 81 := Typ.rng hT54 rl_301 (by decide) (by decide) rfl
      have e61 : (fv P35 301 23).toInt = (fv P25 301 23).toInt := congrArg Int32.toInt (KW.at k40 23 rl_301 rfl)
      have g62 : (0 : Int) ≤ (fv P50 301 24).toInt ∧ (fv P50 301 24).toInt ≤ 81 := Typ.rng hT54 rl_301 (by decide) (by decide) rfl
      show MEvP _ none q_217 49 [(0, .ref 301)] [.int x52] _ _ _ _
      refine mp_Tb (t := 63) (j_if_eq dX7_readsCommand_49) (by decide) (fun c63 => ?_) (fun c63 => mpp 52 rfl ?_)
      · have c63 : x52.toInt = 0 := ti_eq c63
        refine mp_a (a_iconst (v := 0) dX7_readsCommand_63 rfl) (mpp 64 rfl ?_)
        have u64 : 0 ≤ (0 : Int) ∧ (0 : Int) ≤ 1 ∧ ((fv Po 301 24).toInt ≤ (fv P50 301 24).toInt ∧ (fv P50 301 24).toInt ≤ (fv Po 301 23).toInt) := by omega
        exact mp_iret ⟨⟨_, rfl, u64⟩, hT54, k57, trivial⟩ dX7_readsCommand_64 (Or.inr ⟨rfl, by decide⟩)
      · have c63 : x52.toInt ≠ 0 := ti_eq_n c63
        refine mp_a (a_aload_n dX7_readsCommand_52 rfl) (mpp 53 rfl ?_)
        have e65 : (fv P50 301 23).toInt = (fv P35 301 23).toInt := congrArg Int32.toInt (KW.at k55 23 rl_301 rfl)
        have p66 : (fv P50 301 24).toInt ≤ (fv P50 301 23).toInt := by omega
        refine mt_callv (i := 327) (q' := q_221) (As := []) (rest := []) hT54 dX7_readsCommand_53 rfl qm_221 (by decide) rfl rl_301 (by decide) rfl (Nat.le_of_ble_eq_true rfl) rfl ⟨rfl, rfl⟩ ⟨Nat.le_of_ble_eq_true rfl, Nat.le_of_ble_eq_true rfl⟩ (EvP.mono (by decide) (c_M_readsSigns hT54 p66 )) (fun r67 P68 g69 => mpp 56 rfl ?_)
        obtain ⟨⟨x70, rfl, g71⟩, hT72, k73, R74⟩ := g69
        have k75 : KW [1112, 1113, 1114, 1115, 1116, 1117] Po P68 := KW.trans k57 k73 rfl
        have wx70 := ti_full x70
        replace g71 : 0 ≤ x70.toInt ∧ x70.toInt ≤ 1 ∧ ((fv P50 301 24).toInt ≤ (fv P68 301 24).toInt ∧ (fv P68 301 24).toInt ≤ (fv P50 301 23).toInt) := g71
        have g77 : (0 : Int) ≤ (fv P68 301 24).toInt ∧ (fv P68 301 24).toInt ≤ 81 := Typ.rng hT72 rl_301 (by decide) (by decide) rfl
        have g78 : (0 : Int) ≤ (fv P68 301 24).toInt ∧ (fv P68 301 24).toInt ≤ 81 := Typ.rng hT72 rl_301 (by decide) (by decide) rfl
        show MEvP _ none q_217 56 [(0, .ref 301)] [.int x70] _ _ _ _
        refine mp_Tb (t := 63) (j_if_eq dX7_readsCommand_56) (by decide) (fun c79 => ?_) (fun c79 => mpp 59 rfl ?_)
        · have c79 : x70.toInt = 0 := ti_eq c79
          refine mp_a (a_iconst (v := 0) dX7_readsCommand_63 rfl) (mpp 64 rfl ?_)
          have u80 : 0 ≤ (0 : Int) ∧ (0 : Int) ≤ 1 ∧ ((fv Po 301 24).toInt ≤ (fv P68 301 24).toInt ∧ (fv P68 301 24).toInt ≤ (fv Po 301 23).toInt) := by omega
          exact mp_iret ⟨⟨_, rfl, u80⟩, hT72, k75, trivial⟩ dX7_readsCommand_64 (Or.inr ⟨rfl, by decide⟩)
        · have c79 : x70.toInt ≠ 0 := ti_eq_n c79
          refine mp_a (a_iconst (v := 1) dX7_readsCommand_59 rfl) (mpp 60 rfl ?_)
          refine mp_a (a_goto (t := 64) dX7_readsCommand_60 (by decide)) ?_
          have u81 : 0 ≤ (1 : Int) ∧ (1 : Int) ≤ 1 ∧ ((fv Po 301 24).toInt ≤ (fv P68 301 24).toInt ∧ (fv P68 301 24).toInt ≤ (fv Po 301 23).toInt) := by omega
          exact mp_iret ⟨⟨_, rfl, u81⟩, hT72, k75, trivial⟩ dX7_readsCommand_64 (Or.inr ⟨rfl, by decide⟩)
  · have c18 : (fv P9 301 25).toInt ≠ 115 := ti_eq_n c18
    refine mp_a (a_aload_n dX7_readsCommand_17 rfl) (mpp 18 rfl ?_)
    refine mt_getI (i := 321) (k := 25) hT10 dX7_readsCommand_18 rfl rl_301 (by decide) rfl (by decide) rfl (fun g82 g83 => mpp 21 rfl ?_)
    refine mp_a (a_bipush (v := 99) dX7_readsCommand_21 rfl) (mpp 23 rfl ?_)
    refine mp_Tb (t := 65) (j_icmp_ne dX7_readsCommand_23) (by decide) (fun c84 => ?_) (fun c84 => mpp 26 rfl ?_)
    · have c84 : (fv P9 301 25).toInt ≠ 99 := ti_ne c84
      refine mp_a (a_aload_n dX7_readsCommand_65 rfl) (mpp 66 rfl ?_)
      refine mt_getI (i := 321) (k := 25) hT10 dX7_readsCommand_66 rfl rl_301 (by decide) rfl (by decide) rfl (fun g85 g86 => mpp 69 rfl ?_)
      refine mp_a (a_bipush (v := 109) dX7_readsCommand_69 rfl) (mpp 71 rfl ?_)
      refine mp_Tb (t := 112) (j_icmp_eq dX7_readsCommand_71) (by decide) (fun c87 => ?_) (fun c87 => mpp 74 rfl ?_)
      · have c87 : (fv P9 301 25).toInt = 109 := ti_eq c87
        refine mp_a (a_aload_n dX7_readsCommand_112 rfl) (mpp 113 rfl ?_)
        refine mp_t (s_dup dX7_readsCommand_113 rfl) (mpp 114 rfl ?_)
        have e88 : (fv P9 301 24).toInt = (fv Po 301 24).toInt := congrArg Int32.toInt (f12 301 24 (ne_k rfl))
        refine mt_getI (i := 294) (k := 24) hT10 dX7_readsCommand_114 rfl rl_301 (by decide) rfl (by decide) rfl (fun g89 g90 => mpp 117 rfl ?_)
        refine mp_a (a_iconst (v := 1) dX7_readsCommand_117 rfl) (mpp 118 rfl ?_)
        obtain ⟨z91, h92⟩ := ti_ex ((fv P9 301 24) + 1 : Int32)
        have wz91 := ti_full z91
        refine mp_t (s_iadd (v := z91) dX7_readsCommand_118 h92) (mpp 119 rfl ?_)
        try have e93 : z91.toInt = (fv P9 301 24).toInt + 1 := ti_addz h92 rfl rfl (by omega) (by omega)
        refine mt_putI (i := 294) (k := 24) (x := z91) hT10 dX7_readsCommand_119 rfl rl_301 (by decide) rfl (by decide) rfl ⟨by omega, by omega⟩ rfl rfl (fun P94 hT95 f96 f97 f98 => mpp 122 rfl ?_)
        have k99 : KW [1112, 1113, 1114, 1115, 1116, 1117] Po P94 := KW.step k14 rl_301 rfl f97 f98
        have e100 : (fv P94 301 24).toInt = z91.toInt := congrArg Int32.toInt f96
        refine mp_a (a_aload_n dX7_readsCommand_122 rfl) (mpp 123 rfl ?_)
        refine mp_a (a_aload_n dX7_readsCommand_123 rfl) (mpp 124 rfl ?_)
        have e101 : (fv P94 301 23).toInt = (fv Po 301 23).toInt := congrArg Int32.toInt ((f97 301 23 (ne_k rfl)).trans (f12 301 23 (ne_k rfl)))
        have p102 : (fv P94 301 24).toInt ≤ (fv P94 301 23).toInt := by omega
        refine mt_callv (i := 315) (q' := q_223) (As := []) (rest := [.ref 301]) hT95 dX7_readsCommand_124 rfl qm_223 (by decide) rfl rl_301 (by decide) rfl (Nat.le_of_ble_eq_true rfl) rfl ⟨rfl, rfl⟩ ⟨Nat.le_of_ble_eq_true rfl, Nat.le_of_ble_eq_true rfl⟩ (EvP.mono (by decide) (c_M_digit hT95 p102 )) (fun r103 P104 g105 => mpp 127 rfl ?_)
        obtain ⟨⟨x106, rfl, g107⟩, hT108, k109, R110⟩ := g105
        have k111 : KW [1112, 1113, 1114, 1115, 1116, 1117] Po P104 := KW.trans k99 k109 rfl
        have wx106 := ti_full x106
        replace g107 : (fv P94 301 24).toInt ≤ (fv P104 301 24).toInt ∧ (fv P104 301 24).toInt ≤ (fv P94 301 23).toInt := g107
        have g113 : (0 : Int) ≤ (fv P104 301 24).toInt ∧ (fv P104 301 24).toInt ≤ 81 := Typ.rng hT108 rl_301 (by decide) (by decide) rfl
        have g114 : (0 : Int) ≤ (fv P104 301 24).toInt ∧ (fv P104 301 24).toInt ≤ 81 := Typ.rng hT108 rl_301 (by decide) (by decide) rfl
        show MEvP _ none q_217 127 [(0, .ref 301)] [.int x106, .ref 301] _ _ _ _
        refine mt_putI (i := 300) (k := 26) (x := x106) hT108 dX7_readsCommand_127 rfl rl_301 (by decide) rfl (by decide) rfl (ti_full x106) rfl rfl (fun P115 hT116 f117 f118 f119 => mpp 130 rfl ?_)
        have k120 : KW [1112, 1113, 1114, 1115, 1116, 1117] Po P115 := KW.step k111 rl_301 rfl f118 f119
        have e121 : (fv P115 301 26).toInt = x106.toInt := congrArg Int32.toInt f117
        refine mp_a (a_aload_n dX7_readsCommand_130 rfl) (mpp 131 rfl ?_)
        refine mt_getI (i := 300) (k := 26) hT116 dX7_readsCommand_131 rfl rl_301 (by decide) rfl (by decide) rfl (fun g122 g123 => mpp 134 rfl ?_)
        refine mp_Tb (t := 157) (j_if_lt dX7_readsCommand_134) (by decide) (fun c124 => ?_) (fun c124 => mpp 137 rfl ?_)
        · have c124 : (fv P115 301 26).toInt < 0 := ti_lt c124
          refine mp_a (a_iconst (v := 0) dX7_readsCommand_157 rfl) (mpp 158 rfl ?_)
          have e125 : (fv P115 301 24).toInt = (fv P104 301 24).toInt := congrArg Int32.toInt (f118 301 24 (ne_k rfl))
          have u126 : 0 ≤ (0 : Int) ∧ (0 : Int) ≤ 1 ∧ ((fv Po 301 24).toInt ≤ (fv P115 301 24).toInt ∧ (fv P115 301 24).toInt ≤ (fv Po 301 23).toInt) := by omega
          exact mp_iret ⟨⟨_, rfl, u126⟩, hT116, k120, trivial⟩ dX7_readsCommand_158 (Or.inr ⟨rfl, by decide⟩)
        · have c124 : (fv P115 301 26).toInt ≥ 0 := ti_lt_n c124
          refine mp_a (a_aload_n dX7_readsCommand_137 rfl) (mpp 138 rfl ?_)
          have e127 : (fv P115 301 25).toInt = (fv P9 301 25).toInt := congrArg Int32.toInt ((f118 301 25 (ne_k rfl)).trans ((KW.at k109 25 rl_301 rfl).trans (f97 301 25 (ne_k rfl))))
          refine mt_getI (i := 321) (k := 25) hT116 dX7_readsCommand_138 rfl rl_301 (by decide) rfl (by decide) rfl (fun g128 g129 => mpp 141 rfl ?_)
          refine mp_a (a_bipush (v := 109) dX7_readsCommand_141 rfl) (mpp 143 rfl ?_)
          refine mp_Tb (t := 153) (j_icmp_ne dX7_readsCommand_143) (by decide) (fun c130 => ?_) (fun c130 => mpp 146 rfl ?_)
          · have c130 : (fv P115 301 25).toInt ≠ 109 := ti_ne c130
            refine mp_a (a_iconst (v := 1) dX7_readsCommand_153 rfl) (mpp 154 rfl ?_)
            refine mp_a (a_goto (t := 158) dX7_readsCommand_154 (by decide)) ?_
            have e131 : (fv P115 301 24).toInt = (fv P104 301 24).toInt := congrArg Int32.toInt (f118 301 24 (ne_k rfl))
            have u132 : 0 ≤ (1 : Int) ∧ (1 : Int) ≤ 1 ∧ ((fv Po 301 24).toInt ≤ (fv P115 301 24).toInt ∧ (fv P115 301 24).toInt ≤ (fv Po 301 23).toInt) := by omega
            exact mp_iret ⟨⟨_, rfl, u132⟩, hT116, k120, trivial⟩ dX7_readsCommand_158 (Or.inr ⟨rfl, by decide⟩)
          · have c130 : (fv P115 301 25).toInt = 109 := ti_ne_n c130
            refine mp_a (a_aload_n dX7_readsCommand_146 rfl) (mpp 147 rfl ?_)
            have e133 : (fv P115 301 24).toInt = (fv P104 301 24).toInt := congrArg Int32.toInt (f118 301 24 (ne_k rfl))
            have e134 : (fv P115 301 23).toInt = (fv P94 301 23).toInt := congrArg Int32.toInt ((f118 301 23 (ne_k rfl)).trans (KW.at k109 23 rl_301 rfl))
            have p135 : (fv P115 301 24).toInt ≤ (fv P115 301 23).toInt := by omega
            refine mt_callv (i := 330) (q' := q_224) (As := []) (rest := []) hT116 dX7_readsCommand_147 rfl qm_224 (by decide) rfl rl_301 (by decide) rfl (Nat.le_of_ble_eq_true rfl) rfl ⟨rfl, rfl⟩ ⟨Nat.le_of_ble_eq_true rfl, Nat.le_of_ble_eq_true rfl⟩ (EvP.mono (by decide) (c_M_readsMark hT116 p135 )) (fun r136 P137 g138 => mpp 150 rfl ?_)
            obtain ⟨⟨x139, rfl, g140⟩, hT141, k142, R143⟩ := g138
            have k144 : KW [1112, 1113, 1114, 1115, 1116, 1117] Po P137 := KW.trans k120 k142 rfl
            have wx139 := ti_full x139
            replace g140 : 0 ≤ x139.toInt ∧ x139.toInt ≤ 1 ∧ ((fv P115 301 24).toInt ≤ (fv P137 301 24).toInt ∧ (fv P137 301 24).toInt ≤ (fv P115 301 23).toInt) := g140
            have g146 : (0 : Int) ≤ (fv P137 301 24).toInt ∧ (fv P137 301 24).toInt ≤ 81 := Typ.rng hT141 rl_301 (by decide) (by decide) rfl
            have g147 : (0 : Int) ≤ (fv P137 301 24).toInt ∧ (fv P137 301 24).toInt ≤ 81 := Typ.rng hT141 rl_301 (by decide) (by decide) rfl
            show MEvP _ none q_217 150 [(0, .ref 301)] [.int x139] _ _ _ _
            refine mp_Tb (t := 157) (j_if_eq dX7_readsCommand_150) (by decide) (fun c148 => ?_) (fun c148 => mpp 153 rfl ?_)
            · have c148 : x139.toInt = 0 := ti_eq c148
              refine mp_a (a_iconst (v := 0) dX7_readsCommand_157 rfl) (mpp 158 rfl ?_)
              have u149 : 0 ≤ (0 : Int) ∧ (0 : Int) ≤ 1 ∧ ((fv Po 301 24).toInt ≤ (fv P137 301 24).toInt ∧ (fv P137 301 24).toInt ≤ (fv Po 301 23).toInt) := by omega
              exact mp_iret ⟨⟨_, rfl, u149⟩, hT141, k144, trivial⟩ dX7_readsCommand_158 (Or.inr ⟨rfl, by decide⟩)
            · have c148 : x139.toInt ≠ 0 := ti_eq_n c148
              refine mp_a (a_iconst (v := 1) dX7_readsCommand_153 rfl) (mpp 154 rfl ?_)
              refine mp_a (a_goto (t := 158) dX7_readsCommand_154 (by decide)) ?_
              have u150 : 0 ≤ (1 : Int) ∧ (1 : Int) ≤ 1 ∧ ((fv Po 301 24).toInt ≤ (fv P137 301 24).toInt ∧ (fv P137 301 24).toInt ≤ (fv Po 301 23).toInt) := by omega
              exact mp_iret ⟨⟨_, rfl, u150⟩, hT141, k144, trivial⟩ dX7_readsCommand_158 (Or.inr ⟨rfl, by decide⟩)
      · have c87 : (fv P9 301 25).toInt ≠ 109 := ti_eq_n c87
        refine mp_a (a_aload_n dX7_readsCommand_74 rfl) (mpp 75 rfl ?_)
        refine mt_getI (i := 321) (k := 25) hT10 dX7_readsCommand_75 rfl rl_301 (by decide) rfl (by decide) rfl (fun g151 g152 => mpp 78 rfl ?_)
        refine mp_a (a_bipush (v := 116) dX7_readsCommand_78 rfl) (mpp 80 rfl ?_)
        refine mp_Tb (t := 112) (j_icmp_eq dX7_readsCommand_80) (by decide) (fun c153 => ?_) (fun c153 => mpp 83 rfl ?_)
        · have c153 : (fv P9 301 25).toInt = 116 := ti_eq c153
          refine mp_a (a_aload_n dX7_readsCommand_112 rfl) (mpp 113 rfl ?_)
          refine mp_t (s_dup dX7_readsCommand_113 rfl) (mpp 114 rfl ?_)
          have e154 : (fv P9 301 24).toInt = (fv Po 301 24).toInt := congrArg Int32.toInt (f12 301 24 (ne_k rfl))
          refine mt_getI (i := 294) (k := 24) hT10 dX7_readsCommand_114 rfl rl_301 (by decide) rfl (by decide) rfl (fun g155 g156 => mpp 117 rfl ?_)
          refine mp_a (a_iconst (v := 1) dX7_readsCommand_117 rfl) (mpp 118 rfl ?_)
          obtain ⟨z157, h158⟩ := ti_ex ((fv P9 301 24) + 1 : Int32)
          have wz157 := ti_full z157
          refine mp_t (s_iadd (v := z157) dX7_readsCommand_118 h158) (mpp 119 rfl ?_)
          try have e159 : z157.toInt = (fv P9 301 24).toInt + 1 := ti_addz h158 rfl rfl (by omega) (by omega)
          refine mt_putI (i := 294) (k := 24) (x := z157) hT10 dX7_readsCommand_119 rfl rl_301 (by decide) rfl (by decide) rfl ⟨by omega, by omega⟩ rfl rfl (fun P160 hT161 f162 f163 f164 => mpp 122 rfl ?_)
          have k165 : KW [1112, 1113, 1114, 1115, 1116, 1117] Po P160 := KW.step k14 rl_301 rfl f163 f164
          have e166 : (fv P160 301 24).toInt = z157.toInt := congrArg Int32.toInt f162
          refine mp_a (a_aload_n dX7_readsCommand_122 rfl) (mpp 123 rfl ?_)
          refine mp_a (a_aload_n dX7_readsCommand_123 rfl) (mpp 124 rfl ?_)
          have e167 : (fv P160 301 23).toInt = (fv Po 301 23).toInt := congrArg Int32.toInt ((f163 301 23 (ne_k rfl)).trans (f12 301 23 (ne_k rfl)))
          have p168 : (fv P160 301 24).toInt ≤ (fv P160 301 23).toInt := by omega
          refine mt_callv (i := 315) (q' := q_223) (As := []) (rest := [.ref 301]) hT161 dX7_readsCommand_124 rfl qm_223 (by decide) rfl rl_301 (by decide) rfl (Nat.le_of_ble_eq_true rfl) rfl ⟨rfl, rfl⟩ ⟨Nat.le_of_ble_eq_true rfl, Nat.le_of_ble_eq_true rfl⟩ (EvP.mono (by decide) (c_M_digit hT161 p168 )) (fun r169 P170 g171 => mpp 127 rfl ?_)
          obtain ⟨⟨x172, rfl, g173⟩, hT174, k175, R176⟩ := g171
          have k177 : KW [1112, 1113, 1114, 1115, 1116, 1117] Po P170 := KW.trans k165 k175 rfl
          have wx172 := ti_full x172
          replace g173 : (fv P160 301 24).toInt ≤ (fv P170 301 24).toInt ∧ (fv P170 301 24).toInt ≤ (fv P160 301 23).toInt := g173
          have g179 : (0 : Int) ≤ (fv P170 301 24).toInt ∧ (fv P170 301 24).toInt ≤ 81 := Typ.rng hT174 rl_301 (by decide) (by decide) rfl
          have g180 : (0 : Int) ≤ (fv P170 301 24).toInt ∧ (fv P170 301 24).toInt ≤ 81 := Typ.rng hT174 rl_301 (by decide) (by decide) rfl
          show MEvP _ none q_217 127 [(0, .ref 301)] [.int x172, .ref 301] _ _ _ _
          refine mt_putI (i := 300) (k := 26) (x := x172) hT174 dX7_readsCommand_127 rfl rl_301 (by decide) rfl (by decide) rfl (ti_full x172) rfl rfl (fun P181 hT182 f183 f184 f185 => mpp 130 rfl ?_)
          have k186 : KW [1112, 1113, 1114, 1115, 1116, 1117] Po P181 := KW.step k177 rl_301 rfl f184 f185
          have e187 : (fv P181 301 26).toInt = x172.toInt := congrArg Int32.toInt f183
          refine mp_a (a_aload_n dX7_readsCommand_130 rfl) (mpp 131 rfl ?_)
          refine mt_getI (i := 300) (k := 26) hT182 dX7_readsCommand_131 rfl rl_301 (by decide) rfl (by decide) rfl (fun g188 g189 => mpp 134 rfl ?_)
          refine mp_Tb (t := 157) (j_if_lt dX7_readsCommand_134) (by decide) (fun c190 => ?_) (fun c190 => mpp 137 rfl ?_)
          · have c190 : (fv P181 301 26).toInt < 0 := ti_lt c190
            refine mp_a (a_iconst (v := 0) dX7_readsCommand_157 rfl) (mpp 158 rfl ?_)
            have e191 : (fv P181 301 24).toInt = (fv P170 301 24).toInt := congrArg Int32.toInt (f184 301 24 (ne_k rfl))
            have u192 : 0 ≤ (0 : Int) ∧ (0 : Int) ≤ 1 ∧ ((fv Po 301 24).toInt ≤ (fv P181 301 24).toInt ∧ (fv P181 301 24).toInt ≤ (fv Po 301 23).toInt) := by omega
            exact mp_iret ⟨⟨_, rfl, u192⟩, hT182, k186, trivial⟩ dX7_readsCommand_158 (Or.inr ⟨rfl, by decide⟩)
          · have c190 : (fv P181 301 26).toInt ≥ 0 := ti_lt_n c190
            refine mp_a (a_aload_n dX7_readsCommand_137 rfl) (mpp 138 rfl ?_)
            have e193 : (fv P181 301 25).toInt = (fv P9 301 25).toInt := congrArg Int32.toInt ((f184 301 25 (ne_k rfl)).trans ((KW.at k175 25 rl_301 rfl).trans (f163 301 25 (ne_k rfl))))
            refine mt_getI (i := 321) (k := 25) hT182 dX7_readsCommand_138 rfl rl_301 (by decide) rfl (by decide) rfl (fun g194 g195 => mpp 141 rfl ?_)
            refine mp_a (a_bipush (v := 109) dX7_readsCommand_141 rfl) (mpp 143 rfl ?_)
            refine mp_Tb (t := 153) (j_icmp_ne dX7_readsCommand_143) (by decide) (fun c196 => ?_) (fun c196 => mpp 146 rfl ?_)
            · have c196 : (fv P181 301 25).toInt ≠ 109 := ti_ne c196
              refine mp_a (a_iconst (v := 1) dX7_readsCommand_153 rfl) (mpp 154 rfl ?_)
              refine mp_a (a_goto (t := 158) dX7_readsCommand_154 (by decide)) ?_
              have e197 : (fv P181 301 24).toInt = (fv P170 301 24).toInt := congrArg Int32.toInt (f184 301 24 (ne_k rfl))
              have u198 : 0 ≤ (1 : Int) ∧ (1 : Int) ≤ 1 ∧ ((fv Po 301 24).toInt ≤ (fv P181 301 24).toInt ∧ (fv P181 301 24).toInt ≤ (fv Po 301 23).toInt) := by omega
              exact mp_iret ⟨⟨_, rfl, u198⟩, hT182, k186, trivial⟩ dX7_readsCommand_158 (Or.inr ⟨rfl, by decide⟩)
            · have c196 : (fv P181 301 25).toInt = 109 := ti_ne_n c196
              refine mp_a (a_aload_n dX7_readsCommand_146 rfl) (mpp 147 rfl ?_)
              have e199 : (fv P181 301 24).toInt = (fv P170 301 24).toInt := congrArg Int32.toInt (f184 301 24 (ne_k rfl))
              have e200 : (fv P181 301 23).toInt = (fv P160 301 23).toInt := congrArg Int32.toInt ((f184 301 23 (ne_k rfl)).trans (KW.at k175 23 rl_301 rfl))
              have p201 : (fv P181 301 24).toInt ≤ (fv P181 301 23).toInt := by omega
              refine mt_callv (i := 330) (q' := q_224) (As := []) (rest := []) hT182 dX7_readsCommand_147 rfl qm_224 (by decide) rfl rl_301 (by decide) rfl (Nat.le_of_ble_eq_true rfl) rfl ⟨rfl, rfl⟩ ⟨Nat.le_of_ble_eq_true rfl, Nat.le_of_ble_eq_true rfl⟩ (EvP.mono (by decide) (c_M_readsMark hT182 p201 )) (fun r202 P203 g204 => mpp 150 rfl ?_)
              obtain ⟨⟨x205, rfl, g206⟩, hT207, k208, R209⟩ := g204
              have k210 : KW [1112, 1113, 1114, 1115, 1116, 1117] Po P203 := KW.trans k186 k208 rfl
              have wx205 := ti_full x205
              replace g206 : 0 ≤ x205.toInt ∧ x205.toInt ≤ 1 ∧ ((fv P181 301 24).toInt ≤ (fv P203 301 24).toInt ∧ (fv P203 301 24).toInt ≤ (fv P181 301 23).toInt) := g206
              have g212 : (0 : Int) ≤ (fv P203 301 24).toInt ∧ (fv P203 301 24).toInt ≤ 81 := Typ.rng hT207 rl_301 (by decide) (by decide) rfl
              have g213 : (0 : Int) ≤ (fv P203 301 24).toInt ∧ (fv P203 301 24).toInt ≤ 81 := Typ.rng hT207 rl_301 (by decide) (by decide) rfl
              show MEvP _ none q_217 150 [(0, .ref 301)] [.int x205] _ _ _ _
              refine mp_Tb (t := 157) (j_if_eq dX7_readsCommand_150) (by decide) (fun c214 => ?_) (fun c214 => mpp 153 rfl ?_)
              · have c214 : x205.toInt = 0 := ti_eq c214
                refine mp_a (a_iconst (v := 0) dX7_readsCommand_157 rfl) (mpp 158 rfl ?_)
                have u215 : 0 ≤ (0 : Int) ∧ (0 : Int) ≤ 1 ∧ ((fv Po 301 24).toInt ≤ (fv P203 301 24).toInt ∧ (fv P203 301 24).toInt ≤ (fv Po 301 23).toInt) := by omega
                exact mp_iret ⟨⟨_, rfl, u215⟩, hT207, k210, trivial⟩ dX7_readsCommand_158 (Or.inr ⟨rfl, by decide⟩)
              · have c214 : x205.toInt ≠ 0 := ti_eq_n c214
                refine mp_a (a_iconst (v := 1) dX7_readsCommand_153 rfl) (mpp 154 rfl ?_)
                refine mp_a (a_goto (t := 158) dX7_readsCommand_154 (by decide)) ?_
                have u216 : 0 ≤ (1 : Int) ∧ (1 : Int) ≤ 1 ∧ ((fv Po 301 24).toInt ≤ (fv P203 301 24).toInt ∧ (fv P203 301 24).toInt ≤ (fv Po 301 23).toInt) := by omega
                exact mp_iret ⟨⟨_, rfl, u216⟩, hT207, k210, trivial⟩ dX7_readsCommand_158 (Or.inr ⟨rfl, by decide⟩)
        · have c153 : (fv P9 301 25).toInt ≠ 116 := ti_eq_n c153
          refine mp_a (a_aload_n dX7_readsCommand_83 rfl) (mpp 84 rfl ?_)
          refine mt_getI (i := 321) (k := 25) hT10 dX7_readsCommand_84 rfl rl_301 (by decide) rfl (by decide) rfl (fun g217 g218 => mpp 87 rfl ?_)
          refine mp_a (a_bipush (v := 102) dX7_readsCommand_87 rfl) (mpp 89 rfl ?_)
          refine mp_Tb (t := 112) (j_icmp_eq dX7_readsCommand_89) (by decide) (fun c219 => ?_) (fun c219 => mpp 92 rfl ?_)
          · have c219 : (fv P9 301 25).toInt = 102 := ti_eq c219
            refine mp_a (a_aload_n dX7_readsCommand_112 rfl) (mpp 113 rfl ?_)
            refine mp_t (s_dup dX7_readsCommand_113 rfl) (mpp 114 rfl ?_)
            have e220 : (fv P9 301 24).toInt = (fv Po 301 24).toInt := congrArg Int32.toInt (f12 301 24 (ne_k rfl))
            refine mt_getI (i := 294) (k := 24) hT10 dX7_readsCommand_114 rfl rl_301 (by decide) rfl (by decide) rfl (fun g221 g222 => mpp 117 rfl ?_)
            refine mp_a (a_iconst (v := 1) dX7_readsCommand_117 rfl) (mpp 118 rfl ?_)
            obtain ⟨z223, h224⟩ := ti_ex ((fv P9 301 24) + 1 : Int32)
            have wz223 := ti_full z223
            refine mp_t (s_iadd (v := z223) dX7_readsCommand_118 h224) (mpp 119 rfl ?_)
            try have e225 : z223.toInt = (fv P9 301 24).toInt + 1 := ti_addz h224 rfl rfl (by omega) (by omega)
            refine mt_putI (i := 294) (k := 24) (x := z223) hT10 dX7_readsCommand_119 rfl rl_301 (by decide) rfl (by decide) rfl ⟨by omega, by omega⟩ rfl rfl (fun P226 hT227 f228 f229 f230 => mpp 122 rfl ?_)
            have k231 : KW [1112, 1113, 1114, 1115, 1116, 1117] Po P226 := KW.step k14 rl_301 rfl f229 f230
            have e232 : (fv P226 301 24).toInt = z223.toInt := congrArg Int32.toInt f228
            refine mp_a (a_aload_n dX7_readsCommand_122 rfl) (mpp 123 rfl ?_)
            refine mp_a (a_aload_n dX7_readsCommand_123 rfl) (mpp 124 rfl ?_)
            have e233 : (fv P226 301 23).toInt = (fv Po 301 23).toInt := congrArg Int32.toInt ((f229 301 23 (ne_k rfl)).trans (f12 301 23 (ne_k rfl)))
            have p234 : (fv P226 301 24).toInt ≤ (fv P226 301 23).toInt := by omega
            refine mt_callv (i := 315) (q' := q_223) (As := []) (rest := [.ref 301]) hT227 dX7_readsCommand_124 rfl qm_223 (by decide) rfl rl_301 (by decide) rfl (Nat.le_of_ble_eq_true rfl) rfl ⟨rfl, rfl⟩ ⟨Nat.le_of_ble_eq_true rfl, Nat.le_of_ble_eq_true rfl⟩ (EvP.mono (by decide) (c_M_digit hT227 p234 )) (fun r235 P236 g237 => mpp 127 rfl ?_)
            obtain ⟨⟨x238, rfl, g239⟩, hT240, k241, R242⟩ := g237
            have k243 : KW [1112, 1113, 1114, 1115, 1116, 1117] Po P236 := KW.trans k231 k241 rfl
            have wx238 := ti_full x238
            replace g239 : (fv P226 301 24).toInt ≤ (fv P236 301 24).toInt ∧ (fv P236 301 24).toInt ≤ (fv P226 301 23).toInt := g239
            have g245 : (0 : Int) ≤ (fv P236 301 24).toInt ∧ (fv P236 301 24).toInt ≤ 81 := Typ.rng hT240 rl_301 (by decide) (by decide) rfl
            have g246 : (0 : Int) ≤ (fv P236 301 24).toInt ∧ (fv P236 301 24).toInt ≤ 81 := Typ.rng hT240 rl_301 (by decide) (by decide) rfl
            show MEvP _ none q_217 127 [(0, .ref 301)] [.int x238, .ref 301] _ _ _ _
            refine mt_putI (i := 300) (k := 26) (x := x238) hT240 dX7_readsCommand_127 rfl rl_301 (by decide) rfl (by decide) rfl (ti_full x238) rfl rfl (fun P247 hT248 f249 f250 f251 => mpp 130 rfl ?_)
            have k252 : KW [1112, 1113, 1114, 1115, 1116, 1117] Po P247 := KW.step k243 rl_301 rfl f250 f251
            have e253 : (fv P247 301 26).toInt = x238.toInt := congrArg Int32.toInt f249
            refine mp_a (a_aload_n dX7_readsCommand_130 rfl) (mpp 131 rfl ?_)
            refine mt_getI (i := 300) (k := 26) hT248 dX7_readsCommand_131 rfl rl_301 (by decide) rfl (by decide) rfl (fun g254 g255 => mpp 134 rfl ?_)
            refine mp_Tb (t := 157) (j_if_lt dX7_readsCommand_134) (by decide) (fun c256 => ?_) (fun c256 => mpp 137 rfl ?_)
            · have c256 : (fv P247 301 26).toInt < 0 := ti_lt c256
              refine mp_a (a_iconst (v := 0) dX7_readsCommand_157 rfl) (mpp 158 rfl ?_)
              have e257 : (fv P247 301 24).toInt = (fv P236 301 24).toInt := congrArg Int32.toInt (f250 301 24 (ne_k rfl))
              have u258 : 0 ≤ (0 : Int) ∧ (0 : Int) ≤ 1 ∧ ((fv Po 301 24).toInt ≤ (fv P247 301 24).toInt ∧ (fv P247 301 24).toInt ≤ (fv Po 301 23).toInt) := by omega
              exact mp_iret ⟨⟨_, rfl, u258⟩, hT248, k252, trivial⟩ dX7_readsCommand_158 (Or.inr ⟨rfl, by decide⟩)
            · have c256 : (fv P247 301 26).toInt ≥ 0 := ti_lt_n c256
              refine mp_a (a_aload_n dX7_readsCommand_137 rfl) (mpp 138 rfl ?_)
              have e259 : (fv P247 301 25).toInt = (fv P9 301 25).toInt := congrArg Int32.toInt ((f250 301 25 (ne_k rfl)).trans ((KW.at k241 25 rl_301 rfl).trans (f229 301 25 (ne_k rfl))))
              refine mt_getI (i := 321) (k := 25) hT248 dX7_readsCommand_138 rfl rl_301 (by decide) rfl (by decide) rfl (fun g260 g261 => mpp 141 rfl ?_)
              refine mp_a (a_bipush (v := 109) dX7_readsCommand_141 rfl) (mpp 143 rfl ?_)
              refine mp_Tb (t := 153) (j_icmp_ne dX7_readsCommand_143) (by decide) (fun c262 => ?_) (fun c262 => mpp 146 rfl ?_)
              · have c262 : (fv P247 301 25).toInt ≠ 109 := ti_ne c262
                refine mp_a (a_iconst (v := 1) dX7_readsCommand_153 rfl) (mpp 154 rfl ?_)
                refine mp_a (a_goto (t := 158) dX7_readsCommand_154 (by decide)) ?_
                have e263 : (fv P247 301 24).toInt = (fv P236 301 24).toInt := congrArg Int32.toInt (f250 301 24 (ne_k rfl))
                have u264 : 0 ≤ (1 : Int) ∧ (1 : Int) ≤ 1 ∧ ((fv Po 301 24).toInt ≤ (fv P247 301 24).toInt ∧ (fv P247 301 24).toInt ≤ (fv Po 301 23).toInt) := by omega
                exact mp_iret ⟨⟨_, rfl, u264⟩, hT248, k252, trivial⟩ dX7_readsCommand_158 (Or.inr ⟨rfl, by decide⟩)
              · have c262 : (fv P247 301 25).toInt = 109 := ti_ne_n c262
                refine mp_a (a_aload_n dX7_readsCommand_146 rfl) (mpp 147 rfl ?_)
                have e265 : (fv P247 301 24).toInt = (fv P236 301 24).toInt := congrArg Int32.toInt (f250 301 24 (ne_k rfl))
                have e266 : (fv P247 301 23).toInt = (fv P226 301 23).toInt := congrArg Int32.toInt ((f250 301 23 (ne_k rfl)).trans (KW.at k241 23 rl_301 rfl))
                have p267 : (fv P247 301 24).toInt ≤ (fv P247 301 23).toInt := by omega
                refine mt_callv (i := 330) (q' := q_224) (As := []) (rest := []) hT248 dX7_readsCommand_147 rfl qm_224 (by decide) rfl rl_301 (by decide) rfl (Nat.le_of_ble_eq_true rfl) rfl ⟨rfl, rfl⟩ ⟨Nat.le_of_ble_eq_true rfl, Nat.le_of_ble_eq_true rfl⟩ (EvP.mono (by decide) (c_M_readsMark hT248 p267 )) (fun r268 P269 g270 => mpp 150 rfl ?_)
                obtain ⟨⟨x271, rfl, g272⟩, hT273, k274, R275⟩ := g270
                have k276 : KW [1112, 1113, 1114, 1115, 1116, 1117] Po P269 := KW.trans k252 k274 rfl
                have wx271 := ti_full x271
                replace g272 : 0 ≤ x271.toInt ∧ x271.toInt ≤ 1 ∧ ((fv P247 301 24).toInt ≤ (fv P269 301 24).toInt ∧ (fv P269 301 24).toInt ≤ (fv P247 301 23).toInt) := g272
                have g278 : (0 : Int) ≤ (fv P269 301 24).toInt ∧ (fv P269 301 24).toInt ≤ 81 := Typ.rng hT273 rl_301 (by decide) (by decide) rfl
                have g279 : (0 : Int) ≤ (fv P269 301 24).toInt ∧ (fv P269 301 24).toInt ≤ 81 := Typ.rng hT273 rl_301 (by decide) (by decide) rfl
                show MEvP _ none q_217 150 [(0, .ref 301)] [.int x271] _ _ _ _
                refine mp_Tb (t := 157) (j_if_eq dX7_readsCommand_150) (by decide) (fun c280 => ?_) (fun c280 => mpp 153 rfl ?_)
                · have c280 : x271.toInt = 0 := ti_eq c280
                  refine mp_a (a_iconst (v := 0) dX7_readsCommand_157 rfl) (mpp 158 rfl ?_)
                  have u281 : 0 ≤ (0 : Int) ∧ (0 : Int) ≤ 1 ∧ ((fv Po 301 24).toInt ≤ (fv P269 301 24).toInt ∧ (fv P269 301 24).toInt ≤ (fv Po 301 23).toInt) := by omega
                  exact mp_iret ⟨⟨_, rfl, u281⟩, hT273, k276, trivial⟩ dX7_readsCommand_158 (Or.inr ⟨rfl, by decide⟩)
                · have c280 : x271.toInt ≠ 0 := ti_eq_n c280
                  refine mp_a (a_iconst (v := 1) dX7_readsCommand_153 rfl) (mpp 154 rfl ?_)
                  refine mp_a (a_goto (t := 158) dX7_readsCommand_154 (by decide)) ?_
                  have u282 : 0 ≤ (1 : Int) ∧ (1 : Int) ≤ 1 ∧ ((fv Po 301 24).toInt ≤ (fv P269 301 24).toInt ∧ (fv P269 301 24).toInt ≤ (fv Po 301 23).toInt) := by omega
                  exact mp_iret ⟨⟨_, rfl, u282⟩, hT273, k276, trivial⟩ dX7_readsCommand_158 (Or.inr ⟨rfl, by decide⟩)
          · have c219 : (fv P9 301 25).toInt ≠ 102 := ti_eq_n c219
            refine mp_a (a_aload_n dX7_readsCommand_92 rfl) (mpp 93 rfl ?_)
            refine mt_getI (i := 321) (k := 25) hT10 dX7_readsCommand_93 rfl rl_301 (by decide) rfl (by decide) rfl (fun g283 g284 => mpp 96 rfl ?_)
            refine mp_a (a_bipush (v := 117) dX7_readsCommand_96 rfl) (mpp 98 rfl ?_)
            refine mp_Tb (t := 112) (j_icmp_eq dX7_readsCommand_98) (by decide) (fun c285 => ?_) (fun c285 => mpp 101 rfl ?_)
            · have c285 : (fv P9 301 25).toInt = 117 := ti_eq c285
              refine mp_a (a_aload_n dX7_readsCommand_112 rfl) (mpp 113 rfl ?_)
              refine mp_t (s_dup dX7_readsCommand_113 rfl) (mpp 114 rfl ?_)
              have e286 : (fv P9 301 24).toInt = (fv Po 301 24).toInt := congrArg Int32.toInt (f12 301 24 (ne_k rfl))
              refine mt_getI (i := 294) (k := 24) hT10 dX7_readsCommand_114 rfl rl_301 (by decide) rfl (by decide) rfl (fun g287 g288 => mpp 117 rfl ?_)
              refine mp_a (a_iconst (v := 1) dX7_readsCommand_117 rfl) (mpp 118 rfl ?_)
              obtain ⟨z289, h290⟩ := ti_ex ((fv P9 301 24) + 1 : Int32)
              have wz289 := ti_full z289
              refine mp_t (s_iadd (v := z289) dX7_readsCommand_118 h290) (mpp 119 rfl ?_)
              try have e291 : z289.toInt = (fv P9 301 24).toInt + 1 := ti_addz h290 rfl rfl (by omega) (by omega)
              refine mt_putI (i := 294) (k := 24) (x := z289) hT10 dX7_readsCommand_119 rfl rl_301 (by decide) rfl (by decide) rfl ⟨by omega, by omega⟩ rfl rfl (fun P292 hT293 f294 f295 f296 => mpp 122 rfl ?_)
              have k297 : KW [1112, 1113, 1114, 1115, 1116, 1117] Po P292 := KW.step k14 rl_301 rfl f295 f296
              have e298 : (fv P292 301 24).toInt = z289.toInt := congrArg Int32.toInt f294
              refine mp_a (a_aload_n dX7_readsCommand_122 rfl) (mpp 123 rfl ?_)
              refine mp_a (a_aload_n dX7_readsCommand_123 rfl) (mpp 124 rfl ?_)
              have e299 : (fv P292 301 23).toInt = (fv Po 301 23).toInt := congrArg Int32.toInt ((f295 301 23 (ne_k rfl)).trans (f12 301 23 (ne_k rfl)))
              have p300 : (fv P292 301 24).toInt ≤ (fv P292 301 23).toInt := by omega
              refine mt_callv (i := 315) (q' := q_223) (As := []) (rest := [.ref 301]) hT293 dX7_readsCommand_124 rfl qm_223 (by decide) rfl rl_301 (by decide) rfl (Nat.le_of_ble_eq_true rfl) rfl ⟨rfl, rfl⟩ ⟨Nat.le_of_ble_eq_true rfl, Nat.le_of_ble_eq_true rfl⟩ (EvP.mono (by decide) (c_M_digit hT293 p300 )) (fun r301 P302 g303 => mpp 127 rfl ?_)
              obtain ⟨⟨x304, rfl, g305⟩, hT306, k307, R308⟩ := g303
              have k309 : KW [1112, 1113, 1114, 1115, 1116, 1117] Po P302 := KW.trans k297 k307 rfl
              have wx304 := ti_full x304
              replace g305 : (fv P292 301 24).toInt ≤ (fv P302 301 24).toInt ∧ (fv P302 301 24).toInt ≤ (fv P292 301 23).toInt := g305
              have g311 : (0 : Int) ≤ (fv P302 301 24).toInt ∧ (fv P302 301 24).toInt ≤ 81 := Typ.rng hT306 rl_301 (by decide) (by decide) rfl
              have g312 : (0 : Int) ≤ (fv P302 301 24).toInt ∧ (fv P302 301 24).toInt ≤ 81 := Typ.rng hT306 rl_301 (by decide) (by decide) rfl
              show MEvP _ none q_217 127 [(0, .ref 301)] [.int x304, .ref 301] _ _ _ _
              refine mt_putI (i := 300) (k := 26) (x := x304) hT306 dX7_readsCommand_127 rfl rl_301 (by decide) rfl (by decide) rfl (ti_full x304) rfl rfl (fun P313 hT314 f315 f316 f317 => mpp 130 rfl ?_)
              have k318 : KW [1112, 1113, 1114, 1115, 1116, 1117] Po P313 := KW.step k309 rl_301 rfl f316 f317
              have e319 : (fv P313 301 26).toInt = x304.toInt := congrArg Int32.toInt f315
              refine mp_a (a_aload_n dX7_readsCommand_130 rfl) (mpp 131 rfl ?_)
              refine mt_getI (i := 300) (k := 26) hT314 dX7_readsCommand_131 rfl rl_301 (by decide) rfl (by decide) rfl (fun g320 g321 => mpp 134 rfl ?_)
              refine mp_Tb (t := 157) (j_if_lt dX7_readsCommand_134) (by decide) (fun c322 => ?_) (fun c322 => mpp 137 rfl ?_)
              · have c322 : (fv P313 301 26).toInt < 0 := ti_lt c322
                refine mp_a (a_iconst (v := 0) dX7_readsCommand_157 rfl) (mpp 158 rfl ?_)
                have e323 : (fv P313 301 24).toInt = (fv P302 301 24).toInt := congrArg Int32.toInt (f316 301 24 (ne_k rfl))
                have u324 : 0 ≤ (0 : Int) ∧ (0 : Int) ≤ 1 ∧ ((fv Po 301 24).toInt ≤ (fv P313 301 24).toInt ∧ (fv P313 301 24).toInt ≤ (fv Po 301 23).toInt) := by omega
                exact mp_iret ⟨⟨_, rfl, u324⟩, hT314, k318, trivial⟩ dX7_readsCommand_158 (Or.inr ⟨rfl, by decide⟩)
              · have c322 : (fv P313 301 26).toInt ≥ 0 := ti_lt_n c322
                refine mp_a (a_aload_n dX7_readsCommand_137 rfl) (mpp 138 rfl ?_)
                have e325 : (fv P313 301 25).toInt = (fv P9 301 25).toInt := congrArg Int32.toInt ((f316 301 25 (ne_k rfl)).trans ((KW.at k307 25 rl_301 rfl).trans (f295 301 25 (ne_k rfl))))
                refine mt_getI (i := 321) (k := 25) hT314 dX7_readsCommand_138 rfl rl_301 (by decide) rfl (by decide) rfl (fun g326 g327 => mpp 141 rfl ?_)
                refine mp_a (a_bipush (v := 109) dX7_readsCommand_141 rfl) (mpp 143 rfl ?_)
                refine mp_Tb (t := 153) (j_icmp_ne dX7_readsCommand_143) (by decide) (fun c328 => ?_) (fun c328 => mpp 146 rfl ?_)
                · have c328 : (fv P313 301 25).toInt ≠ 109 := ti_ne c328
                  refine mp_a (a_iconst (v := 1) dX7_readsCommand_153 rfl) (mpp 154 rfl ?_)
                  refine mp_a (a_goto (t := 158) dX7_readsCommand_154 (by decide)) ?_
                  have e329 : (fv P313 301 24).toInt = (fv P302 301 24).toInt := congrArg Int32.toInt (f316 301 24 (ne_k rfl))
                  have u330 : 0 ≤ (1 : Int) ∧ (1 : Int) ≤ 1 ∧ ((fv Po 301 24).toInt ≤ (fv P313 301 24).toInt ∧ (fv P313 301 24).toInt ≤ (fv Po 301 23).toInt) := by omega
                  exact mp_iret ⟨⟨_, rfl, u330⟩, hT314, k318, trivial⟩ dX7_readsCommand_158 (Or.inr ⟨rfl, by decide⟩)
                · have c328 : (fv P313 301 25).toInt = 109 := ti_ne_n c328
                  refine mp_a (a_aload_n dX7_readsCommand_146 rfl) (mpp 147 rfl ?_)
                  have e331 : (fv P313 301 24).toInt = (fv P302 301 24).toInt := congrArg Int32.toInt (f316 301 24 (ne_k rfl))
                  have e332 : (fv P313 301 23).toInt = (fv P292 301 23).toInt := congrArg Int32.toInt ((f316 301 23 (ne_k rfl)).trans (KW.at k307 23 rl_301 rfl))
                  have p333 : (fv P313 301 24).toInt ≤ (fv P313 301 23).toInt := by omega
                  refine mt_callv (i := 330) (q' := q_224) (As := []) (rest := []) hT314 dX7_readsCommand_147 rfl qm_224 (by decide) rfl rl_301 (by decide) rfl (Nat.le_of_ble_eq_true rfl) rfl ⟨rfl, rfl⟩ ⟨Nat.le_of_ble_eq_true rfl, Nat.le_of_ble_eq_true rfl⟩ (EvP.mono (by decide) (c_M_readsMark hT314 p333 )) (fun r334 P335 g336 => mpp 150 rfl ?_)
                  obtain ⟨⟨x337, rfl, g338⟩, hT339, k340, R341⟩ := g336
                  have k342 : KW [1112, 1113, 1114, 1115, 1116, 1117] Po P335 := KW.trans k318 k340 rfl
                  have wx337 := ti_full x337
                  replace g338 : 0 ≤ x337.toInt ∧ x337.toInt ≤ 1 ∧ ((fv P313 301 24).toInt ≤ (fv P335 301 24).toInt ∧ (fv P335 301 24).toInt ≤ (fv P313 301 23).toInt) := g338
                  have g344 : (0 : Int) ≤ (fv P335 301 24).toInt ∧ (fv P335 301 24).toInt ≤ 81 := Typ.rng hT339 rl_301 (by decide) (by decide) rfl
                  have g345 : (0 : Int) ≤ (fv P335 301 24).toInt ∧ (fv P335 301 24).toInt ≤ 81 := Typ.rng hT339 rl_301 (by decide) (by decide) rfl
                  show MEvP _ none q_217 150 [(0, .ref 301)] [.int x337] _ _ _ _
                  refine mp_Tb (t := 157) (j_if_eq dX7_readsCommand_150) (by decide) (fun c346 => ?_) (fun c346 => mpp 153 rfl ?_)
                  · have c346 : x337.toInt = 0 := ti_eq c346
                    refine mp_a (a_iconst (v := 0) dX7_readsCommand_157 rfl) (mpp 158 rfl ?_)
                    have u347 : 0 ≤ (0 : Int) ∧ (0 : Int) ≤ 1 ∧ ((fv Po 301 24).toInt ≤ (fv P335 301 24).toInt ∧ (fv P335 301 24).toInt ≤ (fv Po 301 23).toInt) := by omega
                    exact mp_iret ⟨⟨_, rfl, u347⟩, hT339, k342, trivial⟩ dX7_readsCommand_158 (Or.inr ⟨rfl, by decide⟩)
                  · have c346 : x337.toInt ≠ 0 := ti_eq_n c346
                    refine mp_a (a_iconst (v := 1) dX7_readsCommand_153 rfl) (mpp 154 rfl ?_)
                    refine mp_a (a_goto (t := 158) dX7_readsCommand_154 (by decide)) ?_
                    have u348 : 0 ≤ (1 : Int) ∧ (1 : Int) ≤ 1 ∧ ((fv Po 301 24).toInt ≤ (fv P335 301 24).toInt ∧ (fv P335 301 24).toInt ≤ (fv Po 301 23).toInt) := by omega
                    exact mp_iret ⟨⟨_, rfl, u348⟩, hT339, k342, trivial⟩ dX7_readsCommand_158 (Or.inr ⟨rfl, by decide⟩)
            · have c285 : (fv P9 301 25).toInt ≠ 117 := ti_eq_n c285
              refine mp_a (a_aload_n dX7_readsCommand_101 rfl) (mpp 102 rfl ?_)
              refine mt_getI (i := 321) (k := 25) hT10 dX7_readsCommand_102 rfl rl_301 (by decide) rfl (by decide) rfl (fun g349 g350 => mpp 105 rfl ?_)
              refine mp_a (a_bipush (v := 120) dX7_readsCommand_105 rfl) (mpp 107 rfl ?_)
              refine mp_Tb (t := 112) (j_icmp_eq dX7_readsCommand_107) (by decide) (fun c351 => ?_) (fun c351 => mpp 110 rfl ?_)
              · have c351 : (fv P9 301 25).toInt = 120 := ti_eq c351
                refine mp_a (a_aload_n dX7_readsCommand_112 rfl) (mpp 113 rfl ?_)
                refine mp_t (s_dup dX7_readsCommand_113 rfl) (mpp 114 rfl ?_)
                have e352 : (fv P9 301 24).toInt = (fv Po 301 24).toInt := congrArg Int32.toInt (f12 301 24 (ne_k rfl))
                refine mt_getI (i := 294) (k := 24) hT10 dX7_readsCommand_114 rfl rl_301 (by decide) rfl (by decide) rfl (fun g353 g354 => mpp 117 rfl ?_)
                refine mp_a (a_iconst (v := 1) dX7_readsCommand_117 rfl) (mpp 118 rfl ?_)
                obtain ⟨z355, h356⟩ := ti_ex ((fv P9 301 24) + 1 : Int32)
                have wz355 := ti_full z355
                refine mp_t (s_iadd (v := z355) dX7_readsCommand_118 h356) (mpp 119 rfl ?_)
                try have e357 : z355.toInt = (fv P9 301 24).toInt + 1 := ti_addz h356 rfl rfl (by omega) (by omega)
                refine mt_putI (i := 294) (k := 24) (x := z355) hT10 dX7_readsCommand_119 rfl rl_301 (by decide) rfl (by decide) rfl ⟨by omega, by omega⟩ rfl rfl (fun P358 hT359 f360 f361 f362 => mpp 122 rfl ?_)
                have k363 : KW [1112, 1113, 1114, 1115, 1116, 1117] Po P358 := KW.step k14 rl_301 rfl f361 f362
                have e364 : (fv P358 301 24).toInt = z355.toInt := congrArg Int32.toInt f360
                refine mp_a (a_aload_n dX7_readsCommand_122 rfl) (mpp 123 rfl ?_)
                refine mp_a (a_aload_n dX7_readsCommand_123 rfl) (mpp 124 rfl ?_)
                have e365 : (fv P358 301 23).toInt = (fv Po 301 23).toInt := congrArg Int32.toInt ((f361 301 23 (ne_k rfl)).trans (f12 301 23 (ne_k rfl)))
                have p366 : (fv P358 301 24).toInt ≤ (fv P358 301 23).toInt := by omega
                refine mt_callv (i := 315) (q' := q_223) (As := []) (rest := [.ref 301]) hT359 dX7_readsCommand_124 rfl qm_223 (by decide) rfl rl_301 (by decide) rfl (Nat.le_of_ble_eq_true rfl) rfl ⟨rfl, rfl⟩ ⟨Nat.le_of_ble_eq_true rfl, Nat.le_of_ble_eq_true rfl⟩ (EvP.mono (by decide) (c_M_digit hT359 p366 )) (fun r367 P368 g369 => mpp 127 rfl ?_)
                obtain ⟨⟨x370, rfl, g371⟩, hT372, k373, R374⟩ := g369
                have k375 : KW [1112, 1113, 1114, 1115, 1116, 1117] Po P368 := KW.trans k363 k373 rfl
                have wx370 := ti_full x370
                replace g371 : (fv P358 301 24).toInt ≤ (fv P368 301 24).toInt ∧ (fv P368 301 24).toInt ≤ (fv P358 301 23).toInt := g371
                have g377 : (0 : Int) ≤ (fv P368 301 24).toInt ∧ (fv P368 301 24).toInt ≤ 81 := Typ.rng hT372 rl_301 (by decide) (by decide) rfl
                have g378 : (0 : Int) ≤ (fv P368 301 24).toInt ∧ (fv P368 301 24).toInt ≤ 81 := Typ.rng hT372 rl_301 (by decide) (by decide) rfl
                show MEvP _ none q_217 127 [(0, .ref 301)] [.int x370, .ref 301] _ _ _ _
                refine mt_putI (i := 300) (k := 26) (x := x370) hT372 dX7_readsCommand_127 rfl rl_301 (by decide) rfl (by decide) rfl (ti_full x370) rfl rfl (fun P379 hT380 f381 f382 f383 => mpp 130 rfl ?_)
                have k384 : KW [1112, 1113, 1114, 1115, 1116, 1117] Po P379 := KW.step k375 rl_301 rfl f382 f383
                have e385 : (fv P379 301 26).toInt = x370.toInt := congrArg Int32.toInt f381
                refine mp_a (a_aload_n dX7_readsCommand_130 rfl) (mpp 131 rfl ?_)
                refine mt_getI (i := 300) (k := 26) hT380 dX7_readsCommand_131 rfl rl_301 (by decide) rfl (by decide) rfl (fun g386 g387 => mpp 134 rfl ?_)
                refine mp_Tb (t := 157) (j_if_lt dX7_readsCommand_134) (by decide) (fun c388 => ?_) (fun c388 => mpp 137 rfl ?_)
                · have c388 : (fv P379 301 26).toInt < 0 := ti_lt c388
                  refine mp_a (a_iconst (v := 0) dX7_readsCommand_157 rfl) (mpp 158 rfl ?_)
                  have e389 : (fv P379 301 24).toInt = (fv P368 301 24).toInt := congrArg Int32.toInt (f382 301 24 (ne_k rfl))
                  have u390 : 0 ≤ (0 : Int) ∧ (0 : Int) ≤ 1 ∧ ((fv Po 301 24).toInt ≤ (fv P379 301 24).toInt ∧ (fv P379 301 24).toInt ≤ (fv Po 301 23).toInt) := by omega
                  exact mp_iret ⟨⟨_, rfl, u390⟩, hT380, k384, trivial⟩ dX7_readsCommand_158 (Or.inr ⟨rfl, by decide⟩)
                · have c388 : (fv P379 301 26).toInt ≥ 0 := ti_lt_n c388
                  refine mp_a (a_aload_n dX7_readsCommand_137 rfl) (mpp 138 rfl ?_)
                  have e391 : (fv P379 301 25).toInt = (fv P9 301 25).toInt := congrArg Int32.toInt ((f382 301 25 (ne_k rfl)).trans ((KW.at k373 25 rl_301 rfl).trans (f361 301 25 (ne_k rfl))))
                  refine mt_getI (i := 321) (k := 25) hT380 dX7_readsCommand_138 rfl rl_301 (by decide) rfl (by decide) rfl (fun g392 g393 => mpp 141 rfl ?_)
                  refine mp_a (a_bipush (v := 109) dX7_readsCommand_141 rfl) (mpp 143 rfl ?_)
                  refine mp_Tb (t := 153) (j_icmp_ne dX7_readsCommand_143) (by decide) (fun c394 => ?_) (fun c394 => mpp 146 rfl ?_)
                  · have c394 : (fv P379 301 25).toInt ≠ 109 := ti_ne c394
                    refine mp_a (a_iconst (v := 1) dX7_readsCommand_153 rfl) (mpp 154 rfl ?_)
                    refine mp_a (a_goto (t := 158) dX7_readsCommand_154 (by decide)) ?_
                    have e395 : (fv P379 301 24).toInt = (fv P368 301 24).toInt := congrArg Int32.toInt (f382 301 24 (ne_k rfl))
                    have u396 : 0 ≤ (1 : Int) ∧ (1 : Int) ≤ 1 ∧ ((fv Po 301 24).toInt ≤ (fv P379 301 24).toInt ∧ (fv P379 301 24).toInt ≤ (fv Po 301 23).toInt) := by omega
                    exact mp_iret ⟨⟨_, rfl, u396⟩, hT380, k384, trivial⟩ dX7_readsCommand_158 (Or.inr ⟨rfl, by decide⟩)
                  · have c394 : (fv P379 301 25).toInt = 109 := ti_ne_n c394
                    refine mp_a (a_aload_n dX7_readsCommand_146 rfl) (mpp 147 rfl ?_)
                    have e397 : (fv P379 301 24).toInt = (fv P368 301 24).toInt := congrArg Int32.toInt (f382 301 24 (ne_k rfl))
                    have e398 : (fv P379 301 23).toInt = (fv P358 301 23).toInt := congrArg Int32.toInt ((f382 301 23 (ne_k rfl)).trans (KW.at k373 23 rl_301 rfl))
                    have p399 : (fv P379 301 24).toInt ≤ (fv P379 301 23).toInt := by omega
                    refine mt_callv (i := 330) (q' := q_224) (As := []) (rest := []) hT380 dX7_readsCommand_147 rfl qm_224 (by decide) rfl rl_301 (by decide) rfl (Nat.le_of_ble_eq_true rfl) rfl ⟨rfl, rfl⟩ ⟨Nat.le_of_ble_eq_true rfl, Nat.le_of_ble_eq_true rfl⟩ (EvP.mono (by decide) (c_M_readsMark hT380 p399 )) (fun r400 P401 g402 => mpp 150 rfl ?_)
                    obtain ⟨⟨x403, rfl, g404⟩, hT405, k406, R407⟩ := g402
                    have k408 : KW [1112, 1113, 1114, 1115, 1116, 1117] Po P401 := KW.trans k384 k406 rfl
                    have wx403 := ti_full x403
                    replace g404 : 0 ≤ x403.toInt ∧ x403.toInt ≤ 1 ∧ ((fv P379 301 24).toInt ≤ (fv P401 301 24).toInt ∧ (fv P401 301 24).toInt ≤ (fv P379 301 23).toInt) := g404
                    have g410 : (0 : Int) ≤ (fv P401 301 24).toInt ∧ (fv P401 301 24).toInt ≤ 81 := Typ.rng hT405 rl_301 (by decide) (by decide) rfl
                    have g411 : (0 : Int) ≤ (fv P401 301 24).toInt ∧ (fv P401 301 24).toInt ≤ 81 := Typ.rng hT405 rl_301 (by decide) (by decide) rfl
                    show MEvP _ none q_217 150 [(0, .ref 301)] [.int x403] _ _ _ _
                    refine mp_Tb (t := 157) (j_if_eq dX7_readsCommand_150) (by decide) (fun c412 => ?_) (fun c412 => mpp 153 rfl ?_)
                    · have c412 : x403.toInt = 0 := ti_eq c412
                      refine mp_a (a_iconst (v := 0) dX7_readsCommand_157 rfl) (mpp 158 rfl ?_)
                      have u413 : 0 ≤ (0 : Int) ∧ (0 : Int) ≤ 1 ∧ ((fv Po 301 24).toInt ≤ (fv P401 301 24).toInt ∧ (fv P401 301 24).toInt ≤ (fv Po 301 23).toInt) := by omega
                      exact mp_iret ⟨⟨_, rfl, u413⟩, hT405, k408, trivial⟩ dX7_readsCommand_158 (Or.inr ⟨rfl, by decide⟩)
                    · have c412 : x403.toInt ≠ 0 := ti_eq_n c412
                      refine mp_a (a_iconst (v := 1) dX7_readsCommand_153 rfl) (mpp 154 rfl ?_)
                      refine mp_a (a_goto (t := 158) dX7_readsCommand_154 (by decide)) ?_
                      have u414 : 0 ≤ (1 : Int) ∧ (1 : Int) ≤ 1 ∧ ((fv Po 301 24).toInt ≤ (fv P401 301 24).toInt ∧ (fv P401 301 24).toInt ≤ (fv Po 301 23).toInt) := by omega
                      exact mp_iret ⟨⟨_, rfl, u414⟩, hT405, k408, trivial⟩ dX7_readsCommand_158 (Or.inr ⟨rfl, by decide⟩)
              · have c351 : (fv P9 301 25).toInt ≠ 120 := ti_eq_n c351
                refine mp_a (a_iconst (v := 0) dX7_readsCommand_110 rfl) (mpp 111 rfl ?_)
                have e415 : (fv P9 301 24).toInt = (fv Po 301 24).toInt := congrArg Int32.toInt (f12 301 24 (ne_k rfl))
                have u416 : 0 ≤ (0 : Int) ∧ (0 : Int) ≤ 1 ∧ ((fv Po 301 24).toInt ≤ (fv P9 301 24).toInt ∧ (fv P9 301 24).toInt ≤ (fv Po 301 23).toInt) := by omega
                exact mp_iret ⟨⟨_, rfl, u416⟩, hT10, k14, trivial⟩ dX7_readsCommand_111 (Or.inr ⟨rfl, by decide⟩)
    · have c84 : (fv P9 301 25).toInt = 99 := ti_ne_n c84
      refine mp_a (a_aload_n dX7_readsCommand_26 rfl) (mpp 27 rfl ?_)
      refine mp_t (s_dup dX7_readsCommand_27 rfl) (mpp 28 rfl ?_)
      have e417 : (fv P9 301 24).toInt = (fv Po 301 24).toInt := congrArg Int32.toInt (f12 301 24 (ne_k rfl))
      refine mt_getI (i := 294) (k := 24) hT10 dX7_readsCommand_28 rfl rl_301 (by decide) rfl (by decide) rfl (fun g418 g419 => mpp 31 rfl ?_)
      refine mp_a (a_iconst (v := 1) dX7_readsCommand_31 rfl) (mpp 32 rfl ?_)
      obtain ⟨z420, h421⟩ := ti_ex ((fv P9 301 24) + 1 : Int32)
      have wz420 := ti_full z420
      refine mp_t (s_iadd (v := z420) dX7_readsCommand_32 h421) (mpp 33 rfl ?_)
      try have e422 : z420.toInt = (fv P9 301 24).toInt + 1 := ti_addz h421 rfl rfl (by omega) (by omega)
      refine mt_putI (i := 294) (k := 24) (x := z420) hT10 dX7_readsCommand_33 rfl rl_301 (by decide) rfl (by decide) rfl ⟨by omega, by omega⟩ rfl rfl (fun P423 hT424 f425 f426 f427 => mpp 36 rfl ?_)
      have k428 : KW [1112, 1113, 1114, 1115, 1116, 1117] Po P423 := KW.step k14 rl_301 rfl f426 f427
      have e429 : (fv P423 301 24).toInt = z420.toInt := congrArg Int32.toInt f425
      refine mp_a (a_aload_n dX7_readsCommand_36 rfl) (mpp 37 rfl ?_)
      have e430 : (fv P423 301 23).toInt = (fv Po 301 23).toInt := congrArg Int32.toInt ((f426 301 23 (ne_k rfl)).trans (f12 301 23 (ne_k rfl)))
      have p431 : (fv P423 301 24).toInt ≤ (fv P423 301 23).toInt := by omega
      refine mt_callv (i := 324) (q' := q_219) (As := []) (rest := []) hT424 dX7_readsCommand_37 rfl qm_219 (by decide) rfl rl_301 (by decide) rfl (Nat.le_of_ble_eq_true rfl) rfl ⟨rfl, rfl⟩ ⟨Nat.le_of_ble_eq_true rfl, Nat.le_of_ble_eq_true rfl⟩ (EvP.mono (by decide) (c_M_readsSizes hT424 p431 )) (fun r432 P433 g434 => mpp 40 rfl ?_)
      obtain ⟨⟨x435, rfl, g436⟩, hT437, k438, R439⟩ := g434
      have k440 : KW [1112, 1113, 1114, 1115, 1116, 1117] Po P433 := KW.trans k428 k438 rfl
      have wx435 := ti_full x435
      replace g436 : 0 ≤ x435.toInt ∧ x435.toInt ≤ 1 ∧ ((fv P423 301 24).toInt ≤ (fv P433 301 24).toInt ∧ (fv P433 301 24).toInt ≤ (fv P423 301 23).toInt) := g436
      have g442 : (0 : Int) ≤ (fv P433 301 24).toInt ∧ (fv P433 301 24).toInt ≤ 81 := Typ.rng hT437 rl_301 (by decide) (by decide) rfl
      have g443 : (0 : Int) ≤ (fv P433 301 24).toInt ∧ (fv P433 301 24).toInt ≤ 81 := Typ.rng hT437 rl_301 (by decide) (by decide) rfl
      show MEvP _ none q_217 40 [(0, .ref 301)] [.int x435] _ _ _ _
      refine mp_Tb (t := 63) (j_if_eq dX7_readsCommand_40) (by decide) (fun c444 => ?_) (fun c444 => mpp 43 rfl ?_)
      · have c444 : x435.toInt = 0 := ti_eq c444
        refine mp_a (a_iconst (v := 0) dX7_readsCommand_63 rfl) (mpp 64 rfl ?_)
        have u445 : 0 ≤ (0 : Int) ∧ (0 : Int) ≤ 1 ∧ ((fv Po 301 24).toInt ≤ (fv P433 301 24).toInt ∧ (fv P433 301 24).toInt ≤ (fv Po 301 23).toInt) := by omega
        exact mp_iret ⟨⟨_, rfl, u445⟩, hT437, k440, trivial⟩ dX7_readsCommand_64 (Or.inr ⟨rfl, by decide⟩)
      · have c444 : x435.toInt ≠ 0 := ti_eq_n c444
        refine mp_a (a_aload_n dX7_readsCommand_43 rfl) (mpp 44 rfl ?_)
        refine mp_a (a_bipush (v := 58) dX7_readsCommand_44 rfl) (mpp 46 rfl ?_)
        have p446 : 0 ≤ (58 : Int) := by omega
        refine mt_callv (i := 312) (q' := q_220) (As := [.int 58]) (rest := []) hT437 dX7_readsCommand_46 rfl qm_220 (by decide) rfl rl_301 (by decide) rfl (Nat.le_of_ble_eq_true rfl) rfl ⟨rfl, rfl⟩ ⟨Nat.le_of_ble_eq_true rfl, Nat.le_of_ble_eq_true rfl⟩ (EvP.mono (by decide) (c_M_takes hT437 p446 )) (fun r447 P448 g449 => mpp 49 rfl ?_)
        obtain ⟨⟨x450, rfl, g451⟩, hT452, k453, R454⟩ := g449
        have k455 : KW [1112, 1113, 1114, 1115, 1116, 1117] Po P448 := KW.trans k440 k453 rfl
        have wx450 := ti_full x450
        replace g451 : 0 ≤ x450.toInt ∧ x450.toInt ≤ 1 ∧ ((x450.toInt = 1 ∧ (fv P448 301 24).toInt = (fv P433 301 24).toInt + 1 ∧ (fv P448 301 24).toInt ≤ (fv P433 301 23).toInt) ∨ (x450.toInt = 0 ∧ (fv P448 301 24).toInt = (fv P433 301 24).toInt)) := g451
        have g457 : (0 : Int) ≤ (fv P448 301 24).toInt ∧ (fv P448 301 24).toInt ≤ 81 := Typ.rng hT452 rl_301 (by decide) (by decide) rfl
        have g458 : (0 : Int) ≤ (fv P448 301 24).toInt ∧ (fv P448 301 24).toInt ≤ 81 := Typ.rng hT452 rl_301 (by decide) (by decide) rfl
        have e459 : (fv P433 301 23).toInt = (fv P423 301 23).toInt := congrArg Int32.toInt (KW.at k438 23 rl_301 rfl)
        have g460 : (0 : Int) ≤ (fv P448 301 24).toInt ∧ (fv P448 301 24).toInt ≤ 81 := Typ.rng hT452 rl_301 (by decide) (by decide) rfl
        show MEvP _ none q_217 49 [(0, .ref 301)] [.int x450] _ _ _ _
        refine mp_Tb (t := 63) (j_if_eq dX7_readsCommand_49) (by decide) (fun c461 => ?_) (fun c461 => mpp 52 rfl ?_)
        · have c461 : x450.toInt = 0 := ti_eq c461
          refine mp_a (a_iconst (v := 0) dX7_readsCommand_63 rfl) (mpp 64 rfl ?_)
          have u462 : 0 ≤ (0 : Int) ∧ (0 : Int) ≤ 1 ∧ ((fv Po 301 24).toInt ≤ (fv P448 301 24).toInt ∧ (fv P448 301 24).toInt ≤ (fv Po 301 23).toInt) := by omega
          exact mp_iret ⟨⟨_, rfl, u462⟩, hT452, k455, trivial⟩ dX7_readsCommand_64 (Or.inr ⟨rfl, by decide⟩)
        · have c461 : x450.toInt ≠ 0 := ti_eq_n c461
          refine mp_a (a_aload_n dX7_readsCommand_52 rfl) (mpp 53 rfl ?_)
          have e463 : (fv P448 301 23).toInt = (fv P433 301 23).toInt := congrArg Int32.toInt (KW.at k453 23 rl_301 rfl)
          have p464 : (fv P448 301 24).toInt ≤ (fv P448 301 23).toInt := by omega
          refine mt_callv (i := 327) (q' := q_221) (As := []) (rest := []) hT452 dX7_readsCommand_53 rfl qm_221 (by decide) rfl rl_301 (by decide) rfl (Nat.le_of_ble_eq_true rfl) rfl ⟨rfl, rfl⟩ ⟨Nat.le_of_ble_eq_true rfl, Nat.le_of_ble_eq_true rfl⟩ (EvP.mono (by decide) (c_M_readsSigns hT452 p464 )) (fun r465 P466 g467 => mpp 56 rfl ?_)
          obtain ⟨⟨x468, rfl, g469⟩, hT470, k471, R472⟩ := g467
          have k473 : KW [1112, 1113, 1114, 1115, 1116, 1117] Po P466 := KW.trans k455 k471 rfl
          have wx468 := ti_full x468
          replace g469 : 0 ≤ x468.toInt ∧ x468.toInt ≤ 1 ∧ ((fv P448 301 24).toInt ≤ (fv P466 301 24).toInt ∧ (fv P466 301 24).toInt ≤ (fv P448 301 23).toInt) := g469
          have g475 : (0 : Int) ≤ (fv P466 301 24).toInt ∧ (fv P466 301 24).toInt ≤ 81 := Typ.rng hT470 rl_301 (by decide) (by decide) rfl
          have g476 : (0 : Int) ≤ (fv P466 301 24).toInt ∧ (fv P466 301 24).toInt ≤ 81 := Typ.rng hT470 rl_301 (by decide) (by decide) rfl
          show MEvP _ none q_217 56 [(0, .ref 301)] [.int x468] _ _ _ _
          refine mp_Tb (t := 63) (j_if_eq dX7_readsCommand_56) (by decide) (fun c477 => ?_) (fun c477 => mpp 59 rfl ?_)
          · have c477 : x468.toInt = 0 := ti_eq c477
            refine mp_a (a_iconst (v := 0) dX7_readsCommand_63 rfl) (mpp 64 rfl ?_)
            have u478 : 0 ≤ (0 : Int) ∧ (0 : Int) ≤ 1 ∧ ((fv Po 301 24).toInt ≤ (fv P466 301 24).toInt ∧ (fv P466 301 24).toInt ≤ (fv Po 301 23).toInt) := by omega
            exact mp_iret ⟨⟨_, rfl, u478⟩, hT470, k473, trivial⟩ dX7_readsCommand_64 (Or.inr ⟨rfl, by decide⟩)
          · have c477 : x468.toInt ≠ 0 := ti_eq_n c477
            refine mp_a (a_iconst (v := 1) dX7_readsCommand_59 rfl) (mpp 60 rfl ?_)
            refine mp_a (a_goto (t := 64) dX7_readsCommand_60 (by decide)) ?_
            have u479 : 0 ≤ (1 : Int) ∧ (1 : Int) ≤ 1 ∧ ((fv Po 301 24).toInt ≤ (fv P466 301 24).toInt ∧ (fv P466 301 24).toInt ≤ (fv Po 301 23).toInt) := by omega
            exact mp_iret ⟨⟨_, rfl, u479⟩, hT470, k473, trivial⟩ dX7_readsCommand_64 (Or.inr ⟨rfl, by decide⟩)

set_option maxHeartbeats 4000000 in
theorem c_M_isText_l10 {Po : mP}   : ∀ (n : Nat) (v1 : Int32), ∀ (P : mP), Typ P → KW [1112, 1113, 1114, 1115, 1116, 1117] Po P → ((fv P 301 24).toInt ≤ (fv P 301 23).toInt) → (81 - (fv P 301 24).toInt).toNat = n → MEvP 4 none q_216 10 [(0, .ref 301), (1, .int v1)] [] P 0 0 (fun r P' => (∃ x : Int32, r = some (.int x) ∧ (0 ≤ x.toInt ∧ x.toInt ≤ 1)) ∧ Typ P' ∧ KW [1112, 1113, 1114, 1115, 1116, 1117] Po P' ∧ True) := by
  intro n
  induction n using Nat.strongRecOn with | _ n ih => ?_
  intro v1 P hT hK i_0 hm
  have w_v1 := ti_full v1
  have g1 : (0 : Int) ≤ (fv P 301 24).toInt ∧ (fv P 301 24).toInt ≤ 81 := Typ.rng hT rl_301 (by decide) (by decide) rfl
  have g2 : (0 : Int) ≤ (fv P 301 24).toInt ∧ (fv P 301 24).toInt ≤ 81 := Typ.rng hT rl_301 (by decide) (by decide) rfl
  have g3 : (0 : Int) ≤ (fv P 301 23).toInt ∧ (fv P 301 23).toInt ≤ 80 := Typ.rng hT rl_301 (by decide) (by decide) rfl
  have g4 : (0 : Int) ≤ (fv P 301 23).toInt ∧ (fv P 301 23).toInt ≤ 80 := Typ.rng hT rl_301 (by decide) (by decide) rfl
  have g5 : (0 : Int) ≤ (fv P 301 24).toInt ∧ (fv P 301 24).toInt ≤ 81 := Typ.rng hT rl_301 (by decide) (by decide) rfl
  refine mp_a (a_iload_n dX7_isText_10 rfl) (mpp 11 rfl ?_)
  refine mp_Tb (t := 31) (j_if_eq dX7_isText_11) (by decide) (fun c6 => ?_) (fun c6 => mpp 14 rfl ?_)
  · have c6 : v1.toInt = 0 := ti_eq c6
    refine mp_a (a_iload_n dX7_isText_31 rfl) (mpp 32 rfl ?_)
    refine mp_Tb (t := 50) (j_if_eq dX7_isText_32) (by decide) (fun c7 => ?_) (fun c7 => mpp 35 rfl ?_)
    · have c7 : v1.toInt = 0 := ti_eq c7
      refine mp_a (a_iconst (v := 0) dX7_isText_50 rfl) (mpp 51 rfl ?_)
      have u8 : 0 ≤ (0 : Int) ∧ (0 : Int) ≤ 1 := by omega
      exact mp_iret ⟨⟨_, rfl, u8⟩, hT, hK, trivial⟩ dX7_isText_51 (Or.inr ⟨rfl, by decide⟩)
    · have c7 : v1.toInt ≠ 0 := ti_eq_n c7
      refine mp_a (a_aload_n dX7_isText_35 rfl) (mpp 36 rfl ?_)
      refine mt_getI (i := 294) (k := 24) hT dX7_isText_36 rfl rl_301 (by decide) rfl (by decide) rfl (fun g9 g10 => mpp 39 rfl ?_)
      refine mp_a (a_aload_n dX7_isText_39 rfl) (mpp 40 rfl ?_)
      refine mt_getI (i := 291) (k := 23) hT dX7_isText_40 rfl rl_301 (by decide) rfl (by decide) rfl (fun g11 g12 => mpp 43 rfl ?_)
      refine mp_Tb (t := 50) (j_icmp_ne dX7_isText_43) (by decide) (fun c13 => ?_) (fun c13 => mpp 46 rfl ?_)
      · have c13 : (fv P 301 24).toInt ≠ (fv P 301 23).toInt := ti_ne c13
        refine mp_a (a_iconst (v := 0) dX7_isText_50 rfl) (mpp 51 rfl ?_)
        have u14 : 0 ≤ (0 : Int) ∧ (0 : Int) ≤ 1 := by omega
        exact mp_iret ⟨⟨_, rfl, u14⟩, hT, hK, trivial⟩ dX7_isText_51 (Or.inr ⟨rfl, by decide⟩)
      · have c13 : (fv P 301 24).toInt = (fv P 301 23).toInt := ti_ne_n c13
        refine mp_a (a_iconst (v := 1) dX7_isText_46 rfl) (mpp 47 rfl ?_)
        refine mp_a (a_goto (t := 51) dX7_isText_47 (by decide)) ?_
        have u15 : 0 ≤ (1 : Int) ∧ (1 : Int) ≤ 1 := by omega
        exact mp_iret ⟨⟨_, rfl, u15⟩, hT, hK, trivial⟩ dX7_isText_51 (Or.inr ⟨rfl, by decide⟩)
  · have c6 : v1.toInt ≠ 0 := ti_eq_n c6
    refine mp_a (a_aload_n dX7_isText_14 rfl) (mpp 15 rfl ?_)
    refine mp_a (a_bipush (v := 59) dX7_isText_15 rfl) (mpp 17 rfl ?_)
    have p16 : 0 ≤ (59 : Int) := by omega
    refine mt_callv (i := 312) (q' := q_220) (As := [.int 59]) (rest := []) hT dX7_isText_17 rfl qm_220 (by decide) rfl rl_301 (by decide) rfl (Nat.le_of_ble_eq_true rfl) rfl ⟨rfl, rfl⟩ ⟨Nat.le_of_ble_eq_true rfl, Nat.le_of_ble_eq_true rfl⟩ (EvP.mono (by decide) (c_M_takes hT p16 )) (fun r17 P18 g19 => mpp 20 rfl ?_)
    obtain ⟨⟨x20, rfl, g21⟩, hT22, k23, R24⟩ := g19
    have k25 : KW [1112, 1113, 1114, 1115, 1116, 1117] Po P18 := KW.trans hK k23 rfl
    have wx20 := ti_full x20
    replace g21 : 0 ≤ x20.toInt ∧ x20.toInt ≤ 1 ∧ ((x20.toInt = 1 ∧ (fv P18 301 24).toInt = (fv P 301 24).toInt + 1 ∧ (fv P18 301 24).toInt ≤ (fv P 301 23).toInt) ∨ (x20.toInt = 0 ∧ (fv P18 301 24).toInt = (fv P 301 24).toInt)) := g21
    have g27 : (0 : Int) ≤ (fv P18 301 24).toInt ∧ (fv P18 301 24).toInt ≤ 81 := Typ.rng hT22 rl_301 (by decide) (by decide) rfl
    have g28 : (0 : Int) ≤ (fv P18 301 24).toInt ∧ (fv P18 301 24).toInt ≤ 81 := Typ.rng hT22 rl_301 (by decide) (by decide) rfl
    have g29 : (0 : Int) ≤ (fv P18 301 24).toInt ∧ (fv P18 301 24).toInt ≤ 81 := Typ.rng hT22 rl_301 (by decide) (by decide) rfl
    show MEvP _ none q_216 20 [(0, .ref 301), (1, .int v1)] [.int x20] _ _ _ _
    refine mp_Tb (t := 31) (j_if_eq dX7_isText_20) (by decide) (fun c30 => ?_) (fun c30 => mpp 23 rfl ?_)
    · have c30 : x20.toInt = 0 := ti_eq c30
      refine mp_a (a_iload_n dX7_isText_31 rfl) (mpp 32 rfl ?_)
      refine mp_Tb (t := 50) (j_if_eq dX7_isText_32) (by decide) (fun c31 => ?_) (fun c31 => mpp 35 rfl ?_)
      · have c31 : v1.toInt = 0 := ti_eq c31
        refine mp_a (a_iconst (v := 0) dX7_isText_50 rfl) (mpp 51 rfl ?_)
        have u32 : 0 ≤ (0 : Int) ∧ (0 : Int) ≤ 1 := by omega
        exact mp_iret ⟨⟨_, rfl, u32⟩, hT22, k25, trivial⟩ dX7_isText_51 (Or.inr ⟨rfl, by decide⟩)
      · have c31 : v1.toInt ≠ 0 := ti_eq_n c31
        refine mp_a (a_aload_n dX7_isText_35 rfl) (mpp 36 rfl ?_)
        refine mt_getI (i := 294) (k := 24) hT22 dX7_isText_36 rfl rl_301 (by decide) rfl (by decide) rfl (fun g33 g34 => mpp 39 rfl ?_)
        refine mp_a (a_aload_n dX7_isText_39 rfl) (mpp 40 rfl ?_)
        have e35 : (fv P18 301 23).toInt = (fv P 301 23).toInt := congrArg Int32.toInt (KW.at k23 23 rl_301 rfl)
        refine mt_getI (i := 291) (k := 23) hT22 dX7_isText_40 rfl rl_301 (by decide) rfl (by decide) rfl (fun g36 g37 => mpp 43 rfl ?_)
        refine mp_Tb (t := 50) (j_icmp_ne dX7_isText_43) (by decide) (fun c38 => ?_) (fun c38 => mpp 46 rfl ?_)
        · have c38 : (fv P18 301 24).toInt ≠ (fv P18 301 23).toInt := ti_ne c38
          refine mp_a (a_iconst (v := 0) dX7_isText_50 rfl) (mpp 51 rfl ?_)
          have u39 : 0 ≤ (0 : Int) ∧ (0 : Int) ≤ 1 := by omega
          exact mp_iret ⟨⟨_, rfl, u39⟩, hT22, k25, trivial⟩ dX7_isText_51 (Or.inr ⟨rfl, by decide⟩)
        · have c38 : (fv P18 301 24).toInt = (fv P18 301 23).toInt := ti_ne_n c38
          refine mp_a (a_iconst (v := 1) dX7_isText_46 rfl) (mpp 47 rfl ?_)
          refine mp_a (a_goto (t := 51) dX7_isText_47 (by decide)) ?_
          have u40 : 0 ≤ (1 : Int) ∧ (1 : Int) ≤ 1 := by omega
          exact mp_iret ⟨⟨_, rfl, u40⟩, hT22, k25, trivial⟩ dX7_isText_51 (Or.inr ⟨rfl, by decide⟩)
    · have c30 : x20.toInt ≠ 0 := ti_eq_n c30
      refine mp_a (a_aload_n dX7_isText_23 rfl) (mpp 24 rfl ?_)
      have e41 : (fv P18 301 23).toInt = (fv P 301 23).toInt := congrArg Int32.toInt (KW.at k23 23 rl_301 rfl)
      have p42 : (fv P18 301 24).toInt ≤ (fv P18 301 23).toInt := by omega
      refine mt_callv (i := 333) (q' := q_217) (As := []) (rest := []) hT22 dX7_isText_24 rfl qm_217 (by decide) rfl rl_301 (by decide) rfl (Nat.le_of_ble_eq_true rfl) rfl ⟨rfl, rfl⟩ ⟨Nat.le_of_ble_eq_true rfl, Nat.le_of_ble_eq_true rfl⟩ (EvP.mono (by decide) (c_M_readsCommand hT22 p42 )) (fun r43 P44 g45 => mpp 27 rfl ?_)
      obtain ⟨⟨x46, rfl, g47⟩, hT48, k49, R50⟩ := g45
      have k51 : KW [1112, 1113, 1114, 1115, 1116, 1117] Po P44 := KW.trans k25 k49 rfl
      have wx46 := ti_full x46
      replace g47 : 0 ≤ x46.toInt ∧ x46.toInt ≤ 1 ∧ ((fv P18 301 24).toInt ≤ (fv P44 301 24).toInt ∧ (fv P44 301 24).toInt ≤ (fv P18 301 23).toInt) := g47
      have g53 : (0 : Int) ≤ (fv P44 301 24).toInt ∧ (fv P44 301 24).toInt ≤ 81 := Typ.rng hT48 rl_301 (by decide) (by decide) rfl
      have g54 : (0 : Int) ≤ (fv P44 301 24).toInt ∧ (fv P44 301 24).toInt ≤ 81 := Typ.rng hT48 rl_301 (by decide) (by decide) rfl
      show MEvP _ none q_216 27 [(0, .ref 301), (1, .int v1)] [.int x46] _ _ _ _
      refine mp_a (a_istore_n (L' := [(1, .int x46), (0, .ref 301)]) dX7_isText_27 (by decide) rfl) (mpp 28 rfl ?_)
      refine mp_a (a_goto (t := 10) dX7_isText_28 (by decide)) ?_
      refine MEvP.less (L := [(0, .ref 301), (1, .int x46)]) rfl rfl ⟨rfl, rfl, trivial⟩ ?_
      have e55 : (fv P44 301 23).toInt = (fv P18 301 23).toInt := congrArg Int32.toInt (KW.at k49 23 rl_301 rfl)
      have i56 : (fv P44 301 24).toInt ≤ (fv P44 301 23).toInt := by omega
      exact ih _ (by omega) _ P44 hT48 k51 i56 rfl

set_option maxHeartbeats 4000000 in
theorem c_M_isText {Po : mP}  (hT : Typ Po)   : EvP 5 216 [.ref 301] Po (fun r P' => (∃ x : Int32, r = some (.int x) ∧ (0 ≤ x.toInt ∧ x.toInt ≤ 1)) ∧ Typ P' ∧ KW [1112, 1113, 1114, 1115, 1116, 1117] Po P' ∧ True) := by
  refine EvP.of qm_216 (Nat.le_of_ble_eq_true rfl) rfl ?_
  show MEvP _ none q_216 0 [(0, .ref 301)] [] _ 0 0 _
  refine mp_a (a_aload_n dX7_isText_0 rfl) (mpp 1 rfl ?_)
  refine mp_a (a_iconst (v := 0) dX7_isText_1 rfl) (mpp 2 rfl ?_)
  refine mt_putI (i := 294) (k := 24) (x := 0) hT dX7_isText_2 rfl rl_301 (by decide) rfl (by decide) rfl (by decide) rfl rfl (fun P1 hT2 f3 f4 f5 => mpp 5 rfl ?_)
  have k6 : KW [1112, 1113, 1114, 1115, 1116, 1117] Po P1 := KW.step KW.refl rl_301 rfl f4 f5
  have e7 : (fv P1 301 24).toInt = 0 := congrArg Int32.toInt f3
  refine mp_a (a_aload_n dX7_isText_5 rfl) (mpp 6 rfl ?_)
  have g8 : (0 : Int) ≤ (fv P1 301 23).toInt ∧ (fv P1 301 23).toInt ≤ 80 := Typ.rng hT2 rl_301 (by decide) (by decide) rfl
  have p9 : (fv P1 301 24).toInt ≤ (fv P1 301 23).toInt := by omega
  refine mt_callv (i := 333) (q' := q_217) (As := []) (rest := []) hT2 dX7_isText_6 rfl qm_217 (by decide) rfl rl_301 (by decide) rfl (Nat.le_of_ble_eq_true rfl) rfl ⟨rfl, rfl⟩ ⟨Nat.le_of_ble_eq_true rfl, Nat.le_of_ble_eq_true rfl⟩ (EvP.mono (by decide) (c_M_readsCommand hT2 p9 )) (fun r10 P11 g12 => mpp 9 rfl ?_)
  obtain ⟨⟨x13, rfl, g14⟩, hT15, k16, R17⟩ := g12
  have k18 : KW [1112, 1113, 1114, 1115, 1116, 1117] Po P11 := KW.trans k6 k16 rfl
  have wx13 := ti_full x13
  replace g14 : 0 ≤ x13.toInt ∧ x13.toInt ≤ 1 ∧ ((fv P1 301 24).toInt ≤ (fv P11 301 24).toInt ∧ (fv P11 301 24).toInt ≤ (fv P1 301 23).toInt) := g14
  have g20 : (0 : Int) ≤ (fv P11 301 24).toInt ∧ (fv P11 301 24).toInt ≤ 81 := Typ.rng hT15 rl_301 (by decide) (by decide) rfl
  have g21 : (0 : Int) ≤ (fv P11 301 24).toInt ∧ (fv P11 301 24).toInt ≤ 81 := Typ.rng hT15 rl_301 (by decide) (by decide) rfl
  show MEvP _ none q_216 9 [(0, .ref 301)] [.int x13] _ _ _ _
  refine mp_a (a_istore_n (L' := [(1, .int x13), (0, .ref 301)]) dX7_isText_9 (by decide) rfl) (mpp 10 rfl ?_)
  refine MEvP.less (L := [(0, .ref 301), (1, .int x13)]) rfl rfl ⟨rfl, rfl, trivial⟩ ?_
  have e22 : (fv P11 301 23).toInt = (fv P1 301 23).toInt := congrArg Int32.toInt (KW.at k16 23 rl_301 rfl)
  have i23 : (fv P11 301 24).toInt ≤ (fv P11 301 23).toInt := by omega
  exact c_M_isText_l10    _ _ P11 hT15 k18 i23 rfl

