/-! methods on typed pools, 19 (written by a program) -/
set_option maxHeartbeats 4000000 in
theorem c_F_read_l58 {Po : mP}  (hTo : Typ Po) (hX : XR Po) (hJo : Inj Po)  : ∀ (n : Nat) (v1 : Int32) (v2 : Int32) (v3 : Int32), ∀ (P : mP), Typ P → KW [9, 10, 11, 12, 65, 66, 67, 192, 193, 194, 256, 320, 385, 386, 387, 513, 514, 515, 516, 517, 518, 519, 640, 641, 704, 768, 1985, 1986, 1987, 2048, 2112, 2113, 2114] Po P → Inj P → (0 ≤ v2.toInt) → (2147483647 - v2.toInt).toNat = n → MEvP 6 none q_94 58 [(0, .ref 0), (1, .int v1), (2, .int v2), (3, .int v3)] [] P 0 0 (fun r P' => (∃ x : Int32, r = some (.int x) ∧ ((fv P' 289 1).toInt = 0)) ∧ Typ P' ∧ KW [9, 10, 11, 12, 65, 66, 67, 192, 193, 194, 256, 320, 385, 386, 387, 513, 514, 515, 516, 517, 518, 519, 640, 641, 704, 768, 1985, 1986, 1987, 2048, 2112, 2113, 2114] Po P' ∧ Inj P' ∧ True) := by
  intro n
  induction n using Nat.strongRecOn with | _ n ih => ?_
  intro v1 v2 v3 P hT hK hJ i_0 hm
  have w_v1 := ti_full v1
  have w_v2 := ti_full v2
  have w_v3 := ti_full v3
  refine mp_a (a_iload_n dX6_read_58 rfl) (mpp 59 rfl ?_)
  refine mp_a (a_bipush (v := 80) dX6_read_59 rfl) (mpp 61 rfl ?_)
  refine mp_Tb (t := 104) (j_icmp_ge dX6_read_61) (by decide) (fun c1 => ?_) (fun c1 => mpp 64 rfl ?_)
  · have c1 : v2.toInt ≥ 80 := ti_ge c1
    refine mp_a (a_aload_n dX6_read_104 rfl) (mpp 105 rfl ?_)
    refine mp_a (a_sipush (v := -1004) dX6_read_105 rfl) (mpp 108 rfl ?_)
    refine mt_putI (i := 57) (k := 9) (x := (-1004)) hT dX6_read_108 rfl rl_0 (by decide) rfl (by decide) rfl (by decide) rfl rfl (fun P2 hT3 f4 f5 f6 => mpp 111 rfl ?_)
    have k7 : KW [9, 10, 11, 12, 65, 66, 67, 192, 193, 194, 256, 320, 385, 386, 387, 513, 514, 515, 516, 517, 518, 519, 640, 641, 704, 768, 1985, 1986, 1987, 2048, 2112, 2113, 2114] Po P2 := KW.step hK rl_0 rfl f5 f6
    have J8 := Inj.st hJ f6
    have e9 : (fv P2 0 9).toInt = (-1004) := congrArg Int32.toInt f4
    refine mp_a (a_aload_n dX6_read_111 rfl) (mpp 112 rfl ?_)
    refine mt_getU (i := 25) (k := 3) (A := 79) hT3 dX6_read_112 rfl rl_0 (by decide) rfl (by decide) rfl un_6 (mpp 115 rfl ?_)
    refine mp_a (a_iconst (v := 0) dX6_read_115 rfl) (mpp 116 rfl ?_)
    refine mt_putI (i := 230) (k := 3) (x := 0) hT3 dX6_read_116 rfl rl_79 (by decide) rfl (by decide) rfl (by decide) rfl rfl (fun P10 hT11 f12 f13 f14 => mpp 119 rfl ?_)
    have k15 : KW [9, 10, 11, 12, 65, 66, 67, 192, 193, 194, 256, 320, 385, 386, 387, 513, 514, 515, 516, 517, 518, 519, 640, 641, 704, 768, 1985, 1986, 1987, 2048, 2112, 2113, 2114] Po P10 := KW.step k7 rl_79 rfl f13 f14
    have J16 := Inj.st J8 f14
    have e17 : (fv P10 79 3).toInt = 0 := congrArg Int32.toInt f12
    refine mp_a (a_aload_n dX6_read_119 rfl) (mpp 120 rfl ?_)
    refine mt_getU (i := 32) (k := 4) (A := 289) hT11 dX6_read_120 rfl rl_0 (by decide) rfl (by decide) rfl un_8 (mpp 123 rfl ?_)
    refine mt_callv (i := 225) (q' := q_106) (As := []) (rest := []) hT11 dX6_read_123 rfl qm_106 (by decide) rfl rl_289 (by decide) rfl (Nat.le_of_ble_eq_true rfl) rfl ⟨rfl, rfl⟩ ⟨Nat.le_of_ble_eq_true rfl, Nat.le_of_ble_eq_true rfl⟩ (EvP.mono (by decide) (c_CS_clear_Script hT11 (KW.xr k15 hX) )) (fun r18 P19 g20 => mpp 126 rfl ?_)
    obtain ⟨⟨rfl, g22⟩, hT23, k24, R25⟩ := g20
    have k26 : KW [9, 10, 11, 12, 65, 66, 67, 192, 193, 194, 256, 320, 385, 386, 387, 513, 514, 515, 516, 517, 518, 519, 640, 641, 704, 768, 1985, 1986, 1987, 2048, 2112, 2113, 2114] Po P19 := KW.trans k15 k24 rfl
    have J28 := Inj.kw J16 k24 rfl
    replace g22 : (fv P19 289 1).toInt = 0 := g22
    have g29 : (0 : Int) ≤ (fv P19 289 1).toInt ∧ (fv P19 289 1).toInt ≤ 80 := Typ.rng hT23 rl_289 (by decide) (by decide) rfl
    show MEvP _ none q_94 126 [(0, .ref 0), (1, .int v1), (2, .int v2), (3, .int v3)] [] _ _ _ _
    refine mp_a (a_iload_n dX6_read_126 rfl) (mpp 127 rfl ?_)
    refine mp_Tb (t := 158) (j_if_ge dX6_read_127) (by decide) (fun c30 => ?_) (fun c30 => mpp 130 rfl ?_)
    · have c30 : v3.toInt ≥ 0 := ti_ge c30
      refine mp_a (a_aload_n dX6_read_158 rfl) (mpp 159 rfl ?_)
      refine mt_getU (i := 25) (k := 3) (A := 79) hT23 dX6_read_159 rfl rl_0 (by decide) rfl (by decide) rfl un_6 (mpp 162 rfl ?_)
      refine mp_a (a_aload_n dX6_read_162 rfl) (mpp 163 rfl ?_)
      refine mt_getE (i := 16) (k := 1) hT23 dX6_read_163 rfl rl_0 (by decide) rfl (by decide) rfl (KW.xr k26 hX).2.2.2.1 (fun q31 => mpp 166 rfl ?_)
      have p32 : 27 + 26 ≤ 81 := by omega
      refine mt_callv (i := 72) (q' := q_15) (As := [.ref 27]) (rest := []) hT23 dX6_read_166 rfl qm_15 (by decide) rfl rl_79 (by decide) rfl (Nat.le_of_ble_eq_true rfl) rfl ⟨rfl, rfl⟩ ⟨Nat.le_of_ble_eq_true rfl, Nat.le_of_ble_eq_true rfl⟩ (EvP.mono (by decide) (c_CH_push_History_State hT23 (KW.xr k26 hX) J28 p32 q31)) (fun r33 P34 g35 => mpp 169 rfl ?_)
      obtain ⟨⟨rfl, g37⟩, hT38, k39, J42, R40⟩ := g35
      have k41 : KW [9, 10, 11, 12, 65, 66, 67, 192, 193, 194, 256, 320, 385, 386, 387, 513, 514, 515, 516, 517, 518, 519, 640, 641, 704, 768, 1985, 1986, 1987, 2048, 2112, 2113, 2114] Po P34 := KW.trans k26 k39 rfl
      show MEvP _ none q_94 169 [(0, .ref 0), (1, .int v1), (2, .int v2), (3, .int v3)] [] _ _ _ _
      refine mp_a (a_iload_n dX6_read_169 rfl) (mpp 170 rfl ?_)
      have e43 : (fv P34 289 1).toInt = (fv P19 289 1).toInt := congrArg Int32.toInt (KW.at k39 1 rl_289 rfl)
      have u44 : (fv P34 289 1).toInt = 0 := by omega
      exact mp_iret ⟨⟨_, rfl, u44⟩, hT38, k41, J42, trivial⟩ dX6_read_170 (Or.inl rfl)
    · have c30 : v3.toInt < 0 := ti_ge_n c30
      refine mp_a (a_aload_n dX6_read_130 rfl) (mpp 131 rfl ?_)
      refine mt_getU (i := 10) (k := 0) (A := 1) hT23 dX6_read_131 rfl rl_0 (by decide) rfl (by decide) rfl un_31 (mpp 134 rfl ?_)
      refine mp_a (a_aload_n dX6_read_134 rfl) (mpp 135 rfl ?_)
      refine mt_getE (i := 16) (k := 1) hT23 dX6_read_135 rfl rl_0 (by decide) rfl (by decide) rfl (KW.xr k26 hX).2.2.2.1 (fun q45 => mpp 138 rfl ?_)
      refine mt_callv (i := 228) (q' := q_17) (As := [.ref 27]) (rest := []) hT23 dX6_read_138 rfl qm_17 (by decide) rfl rl_1 (by decide) rfl (Nat.le_of_ble_eq_true rfl) rfl ⟨rfl, rfl⟩ ⟨Nat.le_of_ble_eq_true rfl, Nat.le_of_ble_eq_true rfl⟩ (EvP.mono (by decide) (c_CS_copyFrom_NState_State hT23 (KW.xr k26 hX) J28 q45)) (fun r46 P47 g48 => mpp 141 rfl ?_)
      obtain ⟨⟨rfl, g50⟩, hT51, k52, J55, R53⟩ := g48
      have k54 : KW [9, 10, 11, 12, 65, 66, 67, 192, 193, 194, 256, 320, 385, 386, 387, 513, 514, 515, 516, 517, 518, 519, 640, 641, 704, 768, 1985, 1986, 1987, 2048, 2112, 2113, 2114] Po P47 := KW.trans k26 k52 rfl
      show MEvP _ none q_94 141 [(0, .ref 0), (1, .int v1), (2, .int v2), (3, .int v3)] [] _ _ _ _
      refine mp_a (a_iload_n dX6_read_141 rfl) (mpp 142 rfl ?_)
      refine mp_a (a_sipush (v := -1003) dX6_read_142 rfl) (mpp 145 rfl ?_)
      refine mp_Tb (t := 154) (j_icmp_ne dX6_read_145) (by decide) (fun c56 => ?_) (fun c56 => mpp 148 rfl ?_)
      · have c56 : v3.toInt ≠ (-1003) := ti_ne c56
        refine mp_a (a_sipush (v := -1002) dX6_read_154 rfl) (mpp 157 rfl ?_)
        have e57 : (fv P47 289 1).toInt = (fv P19 289 1).toInt := congrArg Int32.toInt (KW.at k52 1 rl_289 rfl)
        have u58 : (fv P47 289 1).toInt = 0 := by omega
        exact mp_iret ⟨⟨_, rfl, u58⟩, hT51, k54, J55, trivial⟩ dX6_read_157 (Or.inl rfl)
      · have c56 : v3.toInt = (-1003) := ti_ne_n c56
        refine mp_a (a_sipush (v := -1003) dX6_read_148 rfl) (mpp 151 rfl ?_)
        refine mp_a (a_goto (t := 157) dX6_read_151 (by decide)) ?_
        have e59 : (fv P47 289 1).toInt = (fv P19 289 1).toInt := congrArg Int32.toInt (KW.at k52 1 rl_289 rfl)
        have u60 : (fv P47 289 1).toInt = 0 := by omega
        exact mp_iret ⟨⟨_, rfl, u60⟩, hT51, k54, J55, trivial⟩ dX6_read_157 (Or.inl rfl)
  · have c1 : v2.toInt < 80 := ti_ge_n c1
    refine mp_a (a_iload_n dX6_read_64 rfl) (mpp 65 rfl ?_)
    refine mp_Tb (t := 104) (j_if_lt dX6_read_65) (by decide) (fun c61 => ?_) (fun c61 => mpp 68 rfl ?_)
    · have c61 : v3.toInt < 0 := ti_lt c61
      refine mp_a (a_aload_n dX6_read_104 rfl) (mpp 105 rfl ?_)
      refine mp_a (a_sipush (v := -1004) dX6_read_105 rfl) (mpp 108 rfl ?_)
      refine mt_putI (i := 57) (k := 9) (x := (-1004)) hT dX6_read_108 rfl rl_0 (by decide) rfl (by decide) rfl (by decide) rfl rfl (fun P62 hT63 f64 f65 f66 => mpp 111 rfl ?_)
      have k67 : KW [9, 10, 11, 12, 65, 66, 67, 192, 193, 194, 256, 320, 385, 386, 387, 513, 514, 515, 516, 517, 518, 519, 640, 641, 704, 768, 1985, 1986, 1987, 2048, 2112, 2113, 2114] Po P62 := KW.step hK rl_0 rfl f65 f66
      have J68 := Inj.st hJ f66
      have e69 : (fv P62 0 9).toInt = (-1004) := congrArg Int32.toInt f64
      refine mp_a (a_aload_n dX6_read_111 rfl) (mpp 112 rfl ?_)
      refine mt_getU (i := 25) (k := 3) (A := 79) hT63 dX6_read_112 rfl rl_0 (by decide) rfl (by decide) rfl un_6 (mpp 115 rfl ?_)
      refine mp_a (a_iconst (v := 0) dX6_read_115 rfl) (mpp 116 rfl ?_)
      refine mt_putI (i := 230) (k := 3) (x := 0) hT63 dX6_read_116 rfl rl_79 (by decide) rfl (by decide) rfl (by decide) rfl rfl (fun P70 hT71 f72 f73 f74 => mpp 119 rfl ?_)
      have k75 : KW [9, 10, 11, 12, 65, 66, 67, 192, 193, 194, 256, 320, 385, 386, 387, 513, 514, 515, 516, 517, 518, 519, 640, 641, 704, 768, 1985, 1986, 1987, 2048, 2112, 2113, 2114] Po P70 := KW.step k67 rl_79 rfl f73 f74
      have J76 := Inj.st J68 f74
      have e77 : (fv P70 79 3).toInt = 0 := congrArg Int32.toInt f72
      refine mp_a (a_aload_n dX6_read_119 rfl) (mpp 120 rfl ?_)
      refine mt_getU (i := 32) (k := 4) (A := 289) hT71 dX6_read_120 rfl rl_0 (by decide) rfl (by decide) rfl un_8 (mpp 123 rfl ?_)
      refine mt_callv (i := 225) (q' := q_106) (As := []) (rest := []) hT71 dX6_read_123 rfl qm_106 (by decide) rfl rl_289 (by decide) rfl (Nat.le_of_ble_eq_true rfl) rfl ⟨rfl, rfl⟩ ⟨Nat.le_of_ble_eq_true rfl, Nat.le_of_ble_eq_true rfl⟩ (EvP.mono (by decide) (c_CS_clear_Script hT71 (KW.xr k75 hX) )) (fun r78 P79 g80 => mpp 126 rfl ?_)
      obtain ⟨⟨rfl, g82⟩, hT83, k84, R85⟩ := g80
      have k86 : KW [9, 10, 11, 12, 65, 66, 67, 192, 193, 194, 256, 320, 385, 386, 387, 513, 514, 515, 516, 517, 518, 519, 640, 641, 704, 768, 1985, 1986, 1987, 2048, 2112, 2113, 2114] Po P79 := KW.trans k75 k84 rfl
      have J88 := Inj.kw J76 k84 rfl
      replace g82 : (fv P79 289 1).toInt = 0 := g82
      have g89 : (0 : Int) ≤ (fv P79 289 1).toInt ∧ (fv P79 289 1).toInt ≤ 80 := Typ.rng hT83 rl_289 (by decide) (by decide) rfl
      show MEvP _ none q_94 126 [(0, .ref 0), (1, .int v1), (2, .int v2), (3, .int v3)] [] _ _ _ _
      refine mp_a (a_iload_n dX6_read_126 rfl) (mpp 127 rfl ?_)
      refine mp_Tb (t := 158) (j_if_ge dX6_read_127) (by decide) (fun c90 => ?_) (fun c90 => mpp 130 rfl ?_)
      · have c90 : v3.toInt ≥ 0 := ti_ge c90
        refine mp_a (a_aload_n dX6_read_158 rfl) (mpp 159 rfl ?_)
        refine mt_getU (i := 25) (k := 3) (A := 79) hT83 dX6_read_159 rfl rl_0 (by decide) rfl (by decide) rfl un_6 (mpp 162 rfl ?_)
        refine mp_a (a_aload_n dX6_read_162 rfl) (mpp 163 rfl ?_)
        refine mt_getE (i := 16) (k := 1) hT83 dX6_read_163 rfl rl_0 (by decide) rfl (by decide) rfl (KW.xr k86 hX).2.2.2.1 (fun q91 => mpp 166 rfl ?_)
        have p92 : 27 + 26 ≤ 81 := by omega
        refine mt_callv (i := 72) (q' := q_15) (As := [.ref 27]) (rest := []) hT83 dX6_read_166 rfl qm_15 (by decide) rfl rl_79 (by decide) rfl (Nat.le_of_ble_eq_true rfl) rfl ⟨rfl, rfl⟩ ⟨Nat.le_of_ble_eq_true rfl, Nat.le_of_ble_eq_true rfl⟩ (EvP.mono (by decide) (c_CH_push_History_State hT83 (KW.xr k86 hX) J88 p92 q91)) (fun r93 P94 g95 => mpp 169 rfl ?_)
        obtain ⟨⟨rfl, g97⟩, hT98, k99, J102, R100⟩ := g95
        have k101 : KW [9, 10, 11, 12, 65, 66, 67, 192, 193, 194, 256, 320, 385, 386, 387, 513, 514, 515, 516, 517, 518, 519, 640, 641, 704, 768, 1985, 1986, 1987, 2048, 2112, 2113, 2114] Po P94 := KW.trans k86 k99 rfl
        show MEvP _ none q_94 169 [(0, .ref 0), (1, .int v1), (2, .int v2), (3, .int v3)] [] _ _ _ _
        refine mp_a (a_iload_n dX6_read_169 rfl) (mpp 170 rfl ?_)
        have e103 : (fv P94 289 1).toInt = (fv P79 289 1).toInt := congrArg Int32.toInt (KW.at k99 1 rl_289 rfl)
        have u104 : (fv P94 289 1).toInt = 0 := by omega
        exact mp_iret ⟨⟨_, rfl, u104⟩, hT98, k101, J102, trivial⟩ dX6_read_170 (Or.inl rfl)
      · have c90 : v3.toInt < 0 := ti_ge_n c90
        refine mp_a (a_aload_n dX6_read_130 rfl) (mpp 131 rfl ?_)
        refine mt_getU (i := 10) (k := 0) (A := 1) hT83 dX6_read_131 rfl rl_0 (by decide) rfl (by decide) rfl un_31 (mpp 134 rfl ?_)
        refine mp_a (a_aload_n dX6_read_134 rfl) (mpp 135 rfl ?_)
        refine mt_getE (i := 16) (k := 1) hT83 dX6_read_135 rfl rl_0 (by decide) rfl (by decide) rfl (KW.xr k86 hX).2.2.2.1 (fun q105 => mpp 138 rfl ?_)
        refine mt_callv (i := 228) (q' := q_17) (As := [.ref 27]) (rest := []) hT83 dX6_read_138 rfl qm_17 (by decide) rfl rl_1 (by decide) rfl (Nat.le_of_ble_eq_true rfl) rfl ⟨rfl, rfl⟩ ⟨Nat.le_of_ble_eq_true rfl, Nat.le_of_ble_eq_true rfl⟩ (EvP.mono (by decide) (c_CS_copyFrom_NState_State hT83 (KW.xr k86 hX) J88 q105)) (fun r106 P107 g108 => mpp 141 rfl ?_)
        obtain ⟨⟨rfl, g110⟩, hT111, k112, J115, R113⟩ := g108
        have k114 : KW [9, 10, 11, 12, 65, 66, 67, 192, 193, 194, 256, 320, 385, 386, 387, 513, 514, 515, 516, 517, 518, 519, 640, 641, 704, 768, 1985, 1986, 1987, 2048, 2112, 2113, 2114] Po P107 := KW.trans k86 k112 rfl
        show MEvP _ none q_94 141 [(0, .ref 0), (1, .int v1), (2, .int v2), (3, .int v3)] [] _ _ _ _
        refine mp_a (a_iload_n dX6_read_141 rfl) (mpp 142 rfl ?_)
        refine mp_a (a_sipush (v := -1003) dX6_read_142 rfl) (mpp 145 rfl ?_)
        refine mp_Tb (t := 154) (j_icmp_ne dX6_read_145) (by decide) (fun c116 => ?_) (fun c116 => mpp 148 rfl ?_)
        · have c116 : v3.toInt ≠ (-1003) := ti_ne c116
          refine mp_a (a_sipush (v := -1002) dX6_read_154 rfl) (mpp 157 rfl ?_)
          have e117 : (fv P107 289 1).toInt = (fv P79 289 1).toInt := congrArg Int32.toInt (KW.at k112 1 rl_289 rfl)
          have u118 : (fv P107 289 1).toInt = 0 := by omega
          exact mp_iret ⟨⟨_, rfl, u118⟩, hT111, k114, J115, trivial⟩ dX6_read_157 (Or.inl rfl)
        · have c116 : v3.toInt = (-1003) := ti_ne_n c116
          refine mp_a (a_sipush (v := -1003) dX6_read_148 rfl) (mpp 151 rfl ?_)
          refine mp_a (a_goto (t := 157) dX6_read_151 (by decide)) ?_
          have e119 : (fv P107 289 1).toInt = (fv P79 289 1).toInt := congrArg Int32.toInt (KW.at k112 1 rl_289 rfl)
          have u120 : (fv P107 289 1).toInt = 0 := by omega
          exact mp_iret ⟨⟨_, rfl, u120⟩, hT111, k114, J115, trivial⟩ dX6_read_157 (Or.inl rfl)
    · have c61 : v3.toInt ≥ 0 := ti_lt_n c61
      refine mp_a (a_aload_n dX6_read_68 rfl) (mpp 69 rfl ?_)
      refine mt_getU (i := 32) (k := 4) (A := 289) hT dX6_read_69 rfl rl_0 (by decide) rfl (by decide) rfl un_8 (mpp 72 rfl ?_)
      refine mt_callv (i := 236) (q' := q_97) (As := []) (rest := []) hT dX6_read_72 rfl qm_97 (by decide) rfl rl_289 (by decide) rfl (Nat.le_of_ble_eq_true rfl) rfl ⟨rfl, rfl⟩ ⟨Nat.le_of_ble_eq_true rfl, Nat.le_of_ble_eq_true rfl⟩ (EvP.mono (by decide) (c_CS_takeCommand_Script hT (KW.xr hK hX) )) (fun r121 P122 g123 => mpp 75 rfl ?_)
      obtain ⟨⟨x124, rfl, g125⟩, hT126, k127, R128⟩ := g123
      have k129 : KW [9, 10, 11, 12, 65, 66, 67, 192, 193, 194, 256, 320, 385, 386, 387, 513, 514, 515, 516, 517, 518, 519, 640, 641, 704, 768, 1985, 1986, 1987, 2048, 2112, 2113, 2114] Po P122 := KW.trans hK k127 rfl
      have J131 := Inj.kw hJ k127 rfl
      have wx124 := ti_full x124
      replace g125 : 0 ≤ x124.toInt ∧ x124.toInt ≤ 1 := g125
      show MEvP _ none q_94 75 [(0, .ref 0), (1, .int v1), (2, .int v2), (3, .int v3)] [.int x124] _ _ _ _
      refine mp_Tb (t := 104) (j_if_eq dX6_read_75) (by decide) (fun c132 => ?_) (fun c132 => mpp 78 rfl ?_)
      · have c132 : x124.toInt = 0 := ti_eq c132
        refine mp_a (a_aload_n dX6_read_104 rfl) (mpp 105 rfl ?_)
        refine mp_a (a_sipush (v := -1004) dX6_read_105 rfl) (mpp 108 rfl ?_)
        refine mt_putI (i := 57) (k := 9) (x := (-1004)) hT126 dX6_read_108 rfl rl_0 (by decide) rfl (by decide) rfl (by decide) rfl rfl (fun P133 hT134 f135 f136 f137 => mpp 111 rfl ?_)
        have k138 : KW [9, 10, 11, 12, 65, 66, 67, 192, 193, 194, 256, 320, 385, 386, 387, 513, 514, 515, 516, 517, 518, 519, 640, 641, 704, 768, 1985, 1986, 1987, 2048, 2112, 2113, 2114] Po P133 := KW.step k129 rl_0 rfl f136 f137
        have J139 := Inj.st J131 f137
        have e140 : (fv P133 0 9).toInt = (-1004) := congrArg Int32.toInt f135
        refine mp_a (a_aload_n dX6_read_111 rfl) (mpp 112 rfl ?_)
        refine mt_getU (i := 25) (k := 3) (A := 79) hT134 dX6_read_112 rfl rl_0 (by decide) rfl (by decide) rfl un_6 (mpp 115 rfl ?_)
        refine mp_a (a_iconst (v := 0) dX6_read_115 rfl) (mpp 116 rfl ?_)
        refine mt_putI (i := 230) (k := 3) (x := 0) hT134 dX6_read_116 rfl rl_79 (by decide) rfl (by decide) rfl (by decide) rfl rfl (fun P141 hT142 f143 f144 f145 => mpp 119 rfl ?_)
        have k146 : KW [9, 10, 11, 12, 65, 66, 67, 192, 193, 194, 256, 320, 385, 386, 387, 513, 514, 515, 516, 517, 518, 519, 640, 641, 704, 768, 1985, 1986, 1987, 2048, 2112, 2113, 2114] Po P141 := KW.step k138 rl_79 rfl f144 f145
        have J147 := Inj.st J139 f145
        have e148 : (fv P141 79 3).toInt = 0 := congrArg Int32.toInt f143
        refine mp_a (a_aload_n dX6_read_119 rfl) (mpp 120 rfl ?_)
        refine mt_getU (i := 32) (k := 4) (A := 289) hT142 dX6_read_120 rfl rl_0 (by decide) rfl (by decide) rfl un_8 (mpp 123 rfl ?_)
        refine mt_callv (i := 225) (q' := q_106) (As := []) (rest := []) hT142 dX6_read_123 rfl qm_106 (by decide) rfl rl_289 (by decide) rfl (Nat.le_of_ble_eq_true rfl) rfl ⟨rfl, rfl⟩ ⟨Nat.le_of_ble_eq_true rfl, Nat.le_of_ble_eq_true rfl⟩ (EvP.mono (by decide) (c_CS_clear_Script hT142 (KW.xr k146 hX) )) (fun r149 P150 g151 => mpp 126 rfl ?_)
        obtain ⟨⟨rfl, g153⟩, hT154, k155, R156⟩ := g151
        have k157 : KW [9, 10, 11, 12, 65, 66, 67, 192, 193, 194, 256, 320, 385, 386, 387, 513, 514, 515, 516, 517, 518, 519, 640, 641, 704, 768, 1985, 1986, 1987, 2048, 2112, 2113, 2114] Po P150 := KW.trans k146 k155 rfl
        have J159 := Inj.kw J147 k155 rfl
        replace g153 : (fv P150 289 1).toInt = 0 := g153
        have g160 : (0 : Int) ≤ (fv P150 289 1).toInt ∧ (fv P150 289 1).toInt ≤ 80 := Typ.rng hT154 rl_289 (by decide) (by decide) rfl
        show MEvP _ none q_94 126 [(0, .ref 0), (1, .int v1), (2, .int v2), (3, .int v3)] [] _ _ _ _
        refine mp_a (a_iload_n dX6_read_126 rfl) (mpp 127 rfl ?_)
        refine mp_Tb (t := 158) (j_if_ge dX6_read_127) (by decide) (fun c161 => ?_) (fun c161 => mpp 130 rfl ?_)
        · have c161 : v3.toInt ≥ 0 := ti_ge c161
          refine mp_a (a_aload_n dX6_read_158 rfl) (mpp 159 rfl ?_)
          refine mt_getU (i := 25) (k := 3) (A := 79) hT154 dX6_read_159 rfl rl_0 (by decide) rfl (by decide) rfl un_6 (mpp 162 rfl ?_)
          refine mp_a (a_aload_n dX6_read_162 rfl) (mpp 163 rfl ?_)
          refine mt_getE (i := 16) (k := 1) hT154 dX6_read_163 rfl rl_0 (by decide) rfl (by decide) rfl (KW.xr k157 hX).2.2.2.1 (fun q162 => mpp 166 rfl ?_)
          have p163 : 27 + 26 ≤ 81 := by omega
          refine mt_callv (i := 72) (q' := q_15) (As := [.ref 27]) (rest := []) hT154 dX6_read_166 rfl qm_15 (by decide) rfl rl_79 (by decide) rfl (Nat.le_of_ble_eq_true rfl) rfl ⟨rfl, rfl⟩ ⟨Nat.le_of_ble_eq_true rfl, Nat.le_of_ble_eq_true rfl⟩ (EvP.mono (by decide) (c_CH_push_History_State hT154 (KW.xr k157 hX) J159 p163 q162)) (fun r164 P165 g166 => mpp 169 rfl ?_)
          obtain ⟨⟨rfl, g168⟩, hT169, k170, J173, R171⟩ := g166
          have k172 : KW [9, 10, 11, 12, 65, 66, 67, 192, 193, 194, 256, 320, 385, 386, 387, 513, 514, 515, 516, 517, 518, 519, 640, 641, 704, 768, 1985, 1986, 1987, 2048, 2112, 2113, 2114] Po P165 := KW.trans k157 k170 rfl
          show MEvP _ none q_94 169 [(0, .ref 0), (1, .int v1), (2, .int v2), (3, .int v3)] [] _ _ _ _
          refine mp_a (a_iload_n dX6_read_169 rfl) (mpp 170 rfl ?_)
          have e174 : (fv P165 289 1).toInt = (fv P150 289 1).toInt := congrArg Int32.toInt (KW.at k170 1 rl_289 rfl)
          have u175 : (fv P165 289 1).toInt = 0 := by omega
          exact mp_iret ⟨⟨_, rfl, u175⟩, hT169, k172, J173, trivial⟩ dX6_read_170 (Or.inl rfl)
        · have c161 : v3.toInt < 0 := ti_ge_n c161
          refine mp_a (a_aload_n dX6_read_130 rfl) (mpp 131 rfl ?_)
          refine mt_getU (i := 10) (k := 0) (A := 1) hT154 dX6_read_131 rfl rl_0 (by decide) rfl (by decide) rfl un_31 (mpp 134 rfl ?_)
          refine mp_a (a_aload_n dX6_read_134 rfl) (mpp 135 rfl ?_)
          refine mt_getE (i := 16) (k := 1) hT154 dX6_read_135 rfl rl_0 (by decide) rfl (by decide) rfl (KW.xr k157 hX).2.2.2.1 (fun q176 => mpp 138 rfl ?_)
          refine mt_callv (i := 228) (q' := q_17) (As := [.ref 27]) (rest := []) hT154 dX6_read_138 rfl qm_17 (by decide) rfl rl_1 (by decide) rfl (Nat.le_of_ble_eq_true rfl) rfl ⟨rfl, rfl⟩ ⟨Nat.le_of_ble_eq_true rfl, Nat.le_of_ble_eq_true rfl⟩ (EvP.mono (by decide) (c_CS_copyFrom_NState_State hT154 (KW.xr k157 hX) J159 q176)) (fun r177 P178 g179 => mpp 141 rfl ?_)
          obtain ⟨⟨rfl, g181⟩, hT182, k183, J186, R184⟩ := g179
          have k185 : KW [9, 10, 11, 12, 65, 66, 67, 192, 193, 194, 256, 320, 385, 386, 387, 513, 514, 515, 516, 517, 518, 519, 640, 641, 704, 768, 1985, 1986, 1987, 2048, 2112, 2113, 2114] Po P178 := KW.trans k157 k183 rfl
          show MEvP _ none q_94 141 [(0, .ref 0), (1, .int v1), (2, .int v2), (3, .int v3)] [] _ _ _ _
          refine mp_a (a_iload_n dX6_read_141 rfl) (mpp 142 rfl ?_)
          refine mp_a (a_sipush (v := -1003) dX6_read_142 rfl) (mpp 145 rfl ?_)
          refine mp_Tb (t := 154) (j_icmp_ne dX6_read_145) (by decide) (fun c187 => ?_) (fun c187 => mpp 148 rfl ?_)
          · have c187 : v3.toInt ≠ (-1003) := ti_ne c187
            refine mp_a (a_sipush (v := -1002) dX6_read_154 rfl) (mpp 157 rfl ?_)
            have e188 : (fv P178 289 1).toInt = (fv P150 289 1).toInt := congrArg Int32.toInt (KW.at k183 1 rl_289 rfl)
            have u189 : (fv P178 289 1).toInt = 0 := by omega
            exact mp_iret ⟨⟨_, rfl, u189⟩, hT182, k185, J186, trivial⟩ dX6_read_157 (Or.inl rfl)
          · have c187 : v3.toInt = (-1003) := ti_ne_n c187
            refine mp_a (a_sipush (v := -1003) dX6_read_148 rfl) (mpp 151 rfl ?_)
            refine mp_a (a_goto (t := 157) dX6_read_151 (by decide)) ?_
            have e190 : (fv P178 289 1).toInt = (fv P150 289 1).toInt := congrArg Int32.toInt (KW.at k183 1 rl_289 rfl)
            have u191 : (fv P178 289 1).toInt = 0 := by omega
            exact mp_iret ⟨⟨_, rfl, u191⟩, hT182, k185, J186, trivial⟩ dX6_read_157 (Or.inl rfl)
      · have c132 : x124.toInt ≠ 0 := ti_eq_n c132
        refine mp_a (a_aload_n dX6_read_78 rfl) (mpp 79 rfl ?_)
        refine mp_a (a_iload_n dX6_read_79 rfl) (mpp 80 rfl ?_)
        refine mt_putI (i := 57) (k := 9) (x := v2) hT126 dX6_read_80 rfl rl_0 (by decide) rfl (by decide) rfl (ti_full v2) rfl rfl (fun P192 hT193 f194 f195 f196 => mpp 83 rfl ?_)
        have k197 : KW [9, 10, 11, 12, 65, 66, 67, 192, 193, 194, 256, 320, 385, 386, 387, 513, 514, 515, 516, 517, 518, 519, 640, 641, 704, 768, 1985, 1986, 1987, 2048, 2112, 2113, 2114] Po P192 := KW.step k129 rl_0 rfl f195 f196
        have J198 := Inj.st J131 f196
        have e199 : (fv P192 0 9).toInt = v2.toInt := congrArg Int32.toInt f194
        refine mp_a (a_aload_n dX6_read_83 rfl) (mpp 84 rfl ?_)
        refine mt_callv (i := 239) (q' := q_107) (As := []) (rest := []) hT193 dX6_read_84 rfl qm_107 (by decide) rfl rl_0 (by decide) rfl (Nat.le_of_ble_eq_true rfl) rfl ⟨rfl, rfl⟩ ⟨Nat.le_of_ble_eq_true rfl, Nat.le_of_ble_eq_true rfl⟩ (EvP.mono (by decide) (c_F_perform hT193 (KW.xr k197 hX) J198 )) (fun r200 P201 g202 => mpp 87 rfl ?_)
        obtain ⟨⟨x203, rfl, g204⟩, hT205, k206, J209, R207⟩ := g202
        have k208 : KW [9, 10, 11, 12, 65, 66, 67, 192, 193, 194, 256, 320, 385, 386, 387, 513, 514, 515, 516, 517, 518, 519, 640, 641, 704, 768, 1985, 1986, 1987, 2048, 2112, 2113, 2114] Po P201 := KW.trans k197 k206 rfl
        have wx203 := ti_full x203
        show MEvP _ none q_94 87 [(0, .ref 0), (1, .int v1), (2, .int v2), (3, .int v3)] [.int x203] _ _ _ _
        refine mp_a (a_istore_n (L' := [(3, .int x203), (0, .ref 0), (1, .int v1), (2, .int v2)]) dX6_read_87 (by decide) rfl) (mpp 88 rfl ?_)
        obtain ⟨z210, h211⟩ := ti_ex (v2 + 1 : Int32)
        have wz210 := ti_full z210
        refine mp_a (a_iinc (v := z210) (L' := [(2, .int z210), (3, .int x203), (0, .ref 0), (1, .int v1)]) dX6_read_88 (by decide) rfl h211 rfl) (mpp 91 rfl ?_)
        try have e212 : z210.toInt = v2.toInt + 1 := ti_addz h211 rfl rfl (by omega) (by omega)
        refine mp_a (a_aload_n dX6_read_91 rfl) (mpp 92 rfl ?_)
        refine mt_getU (i := 32) (k := 4) (A := 289) hT205 dX6_read_92 rfl rl_0 (by decide) rfl (by decide) rfl un_8 (mpp 95 rfl ?_)
        refine mp_a (a_bipush (v := 59) dX6_read_95 rfl) (mpp 97 rfl ?_)
        have g213 := ti_full (fv P201 289 2)
        have p214 : 0 ≤ (fv P201 289 2).toInt := by omega
        have p215 : 1 ≤ (59 : Int) := by omega
        refine mt_callv (i := 242) (q' := q_100) (As := [.int 59]) (rest := []) hT205 dX6_read_97 rfl qm_100 (by decide) rfl rl_289 (by decide) rfl (Nat.le_of_ble_eq_true rfl) rfl ⟨rfl, rfl⟩ ⟨Nat.le_of_ble_eq_true rfl, Nat.le_of_ble_eq_true rfl⟩ (EvP.mono (by decide) (c_CS_takeSign_Script hT205 (KW.xr k208 hX) p214 p215 )) (fun r216 P217 g218 => mpp 100 rfl ?_)
        obtain ⟨⟨x219, rfl, g220⟩, hT221, k222, R223⟩ := g218
        have k224 : KW [9, 10, 11, 12, 65, 66, 67, 192, 193, 194, 256, 320, 385, 386, 387, 513, 514, 515, 516, 517, 518, 519, 640, 641, 704, 768, 1985, 1986, 1987, 2048, 2112, 2113, 2114] Po P217 := KW.trans k208 k222 rfl
        have J226 := Inj.kw J209 k222 rfl
        have wx219 := ti_full x219
        replace g220 : 0 ≤ x219.toInt ∧ x219.toInt ≤ 1 ∧ ((x219.toInt = 1 ∧ (chC P201 (fv P201 289 2).toInt).toInt = (59 : Int) ∧ (fv P217 289 2).toInt = (fv P201 289 2).toInt + 1) ∨ (x219.toInt = 0 ∧ ¬ (chC P201 (fv P201 289 2).toInt).toInt = (59 : Int) ∧ (fv P217 289 2).toInt = (fv P201 289 2).toInt)) := g220
        have g227 := ti_full (fv P217 289 2)
        have g228 := ti_full (fv P217 289 2)
        show MEvP _ none q_94 100 [(2, .int z210), (3, .int x203), (0, .ref 0), (1, .int v1)] [.int x219] _ _ _ _
        refine mp_t (s_pop dX6_read_100 rfl) (mpp 101 rfl ?_)
        refine mp_a (a_goto (t := 58) dX6_read_101 (by decide)) ?_
        refine MEvP.less (L := [(0, .ref 0), (1, .int v1), (2, .int z210), (3, .int x203)]) rfl rfl ⟨rfl, rfl, rfl, rfl, trivial⟩ ?_
        have i229 : 0 ≤ z210.toInt := by omega
        exact ih _ (by omega) _ _ _ P217 hT221 k224 J226 i229 rfl

set_option maxHeartbeats 4000000 in
theorem c_F_read {Po : mP}  (hT : Typ Po) (hX : XR Po)  (hJ : Inj Po)  : EvP 7 94 [.ref 0] Po (fun r P' => (∃ x : Int32, r = some (.int x) ∧ ((fv P' 289 1).toInt = 0)) ∧ Typ P' ∧ KW [9, 10, 11, 12, 65, 66, 67, 192, 193, 194, 256, 320, 385, 386, 387, 513, 514, 515, 516, 517, 518, 519, 640, 641, 704, 768, 1985, 1986, 1987, 2048, 2112, 2113, 2114] Po P' ∧ Inj P' ∧ True) := by
  refine EvP.of qm_94 (Nat.le_of_ble_eq_true rfl) rfl ?_
  show MEvP _ none q_94 0 [(0, .ref 0)] [] _ 0 0 _
  refine mp_a (a_aload_n dX6_read_0 rfl) (mpp 1 rfl ?_)
  refine mt_getU (i := 32) (k := 4) (A := 289) hT dX6_read_1 rfl rl_0 (by decide) rfl (by decide) rfl un_8 (mpp 4 rfl ?_)
  refine mt_callv (i := 222) (q' := q_95) (As := []) (rest := []) hT dX6_read_4 rfl qm_95 (by decide) rfl rl_289 (by decide) rfl (Nat.le_of_ble_eq_true rfl) rfl ⟨rfl, rfl⟩ ⟨Nat.le_of_ble_eq_true rfl, Nat.le_of_ble_eq_true rfl⟩ (EvP.mono (by decide) (c_CS_faultPosition_Script hT hX )) (fun r1 P2 g3 => mpp 7 rfl ?_)
  obtain ⟨⟨x4, rfl, g5⟩, hT6, k7, R8⟩ := g3
  have k9 : KW [9, 10, 11, 12, 65, 66, 67, 192, 193, 194, 256, 320, 385, 386, 387, 513, 514, 515, 516, 517, 518, 519, 640, 641, 704, 768, 1985, 1986, 1987, 2048, 2112, 2113, 2114] Po P2 := KW.trans KW.refl k7 rfl
  have J11 := Inj.kw hJ k7 rfl
  have wx4 := ti_full x4
  show MEvP _ none q_94 7 [(0, .ref 0)] [.int x4] _ _ _ _
  refine mp_a (a_istore_n (L' := [(1, .int x4), (0, .ref 0)]) dX6_read_7 (by decide) rfl) (mpp 8 rfl ?_)
  refine mp_a (a_iload_n dX6_read_8 rfl) (mpp 9 rfl ?_)
  refine mp_a (a_sipush (v := -1004) dX6_read_9 rfl) (mpp 12 rfl ?_)
  refine mp_Tb (t := 28) (j_icmp_eq dX6_read_12) (by decide) (fun c12 => ?_) (fun c12 => mpp 15 rfl ?_)
  · have c12 : x4.toInt = (-1004) := ti_eq c12
    refine mp_a (a_aload_n dX6_read_28 rfl) (mpp 29 rfl ?_)
    refine mt_getE (i := 16) (k := 1) hT6 dX6_read_29 rfl rl_0 (by decide) rfl (by decide) rfl (KW.xr k9 hX).2.2.2.1 (fun q13 => mpp 32 rfl ?_)
    refine mp_a (a_aload_n dX6_read_32 rfl) (mpp 33 rfl ?_)
    refine mt_getU (i := 10) (k := 0) (A := 1) hT6 dX6_read_33 rfl rl_0 (by decide) rfl (by decide) rfl un_31 (mpp 36 rfl ?_)
    refine mt_callv (i := 228) (q' := q_17) (As := [.ref 1]) (rest := []) hT6 dX6_read_36 rfl qm_17 (by decide) rfl q13 (by decide) rfl (Nat.le_of_ble_eq_true rfl) rfl ⟨rfl, rfl⟩ ⟨Nat.le_of_ble_eq_true rfl, Nat.le_of_ble_eq_true rfl⟩ (EvP.mono (by decide) (c_CS_copyFrom_State_NState hT6 (KW.xr k9 hX) J11 q13)) (fun r14 P15 g16 => mpp 39 rfl ?_)
    obtain ⟨⟨rfl, g18⟩, hT19, k20, J23, R21⟩ := g16
    have k22 : KW [9, 10, 11, 12, 65, 66, 67, 192, 193, 194, 256, 320, 385, 386, 387, 513, 514, 515, 516, 517, 518, 519, 640, 641, 704, 768, 1985, 1986, 1987, 2048, 2112, 2113, 2114] Po P15 := KW.trans k9 k20 rfl
    show MEvP _ none q_94 39 [(1, .int x4), (0, .ref 0)] [] _ _ _ _
    refine mp_a (a_aload_n dX6_read_39 rfl) (mpp 40 rfl ?_)
    refine mt_getU (i := 25) (k := 3) (A := 79) hT19 dX6_read_40 rfl rl_0 (by decide) rfl (by decide) rfl un_6 (mpp 43 rfl ?_)
    refine mp_a (a_iconst (v := 1) dX6_read_43 rfl) (mpp 44 rfl ?_)
    refine mt_putI (i := 230) (k := 3) (x := 1) hT19 dX6_read_44 rfl rl_79 (by decide) rfl (by decide) rfl (by decide) rfl rfl (fun P24 hT25 f26 f27 f28 => mpp 47 rfl ?_)
    have k29 : KW [9, 10, 11, 12, 65, 66, 67, 192, 193, 194, 256, 320, 385, 386, 387, 513, 514, 515, 516, 517, 518, 519, 640, 641, 704, 768, 1985, 1986, 1987, 2048, 2112, 2113, 2114] Po P24 := KW.step k22 rl_79 rfl f27 f28
    have J30 := Inj.st J23 f28
    have e31 : (fv P24 79 3).toInt = 1 := congrArg Int32.toInt f26
    refine mp_a (a_aload_n dX6_read_47 rfl) (mpp 48 rfl ?_)
    refine mt_getU (i := 32) (k := 4) (A := 289) hT25 dX6_read_48 rfl rl_0 (by decide) rfl (by decide) rfl un_8 (mpp 51 rfl ?_)
    refine mt_callv (i := 233) (q' := q_96) (As := []) (rest := []) hT25 dX6_read_51 rfl qm_96 (by decide) rfl rl_289 (by decide) rfl (Nat.le_of_ble_eq_true rfl) rfl ⟨rfl, rfl⟩ ⟨Nat.le_of_ble_eq_true rfl, Nat.le_of_ble_eq_true rfl⟩ (EvP.mono (by decide) (c_CS_rewind_Script hT25 (KW.xr k29 hX) )) (fun r32 P33 g34 => mpp 54 rfl ?_)
    obtain ⟨⟨rfl, g36⟩, hT37, k38, R39⟩ := g34
    have k40 : KW [9, 10, 11, 12, 65, 66, 67, 192, 193, 194, 256, 320, 385, 386, 387, 513, 514, 515, 516, 517, 518, 519, 640, 641, 704, 768, 1985, 1986, 1987, 2048, 2112, 2113, 2114] Po P33 := KW.trans k29 k38 rfl
    have J42 := Inj.kw J30 k38 rfl
    show MEvP _ none q_94 54 [(1, .int x4), (0, .ref 0)] [] _ _ _ _
    refine mp_a (a_iconst (v := 0) dX6_read_54 rfl) (mpp 55 rfl ?_)
    refine mp_a (a_istore_n (L' := [(2, .int 0), (1, .int x4), (0, .ref 0)]) dX6_read_55 (by decide) rfl) (mpp 56 rfl ?_)
    refine mp_a (a_iconst (v := 0) dX6_read_56 rfl) (mpp 57 rfl ?_)
    refine mp_a (a_istore_n (L' := [(3, .int 0), (2, .int 0), (1, .int x4), (0, .ref 0)]) dX6_read_57 (by decide) rfl) (mpp 58 rfl ?_)
    refine MEvP.less (L := [(0, .ref 0), (1, .int x4), (2, .int 0), (3, .int 0)]) rfl rfl ⟨rfl, rfl, rfl, rfl, trivial⟩ ?_
    have i43 : 0 ≤ (0 : Int) := by omega
    exact c_F_read_l58 hT hX hJ  _ _ _ _ P33 hT37 k40 J42 i43 rfl
  · have c12 : x4.toInt ≠ (-1004) := ti_eq_n c12
    refine mp_a (a_aload_n dX6_read_15 rfl) (mpp 16 rfl ?_)
    refine mt_getU (i := 32) (k := 4) (A := 289) hT6 dX6_read_16 rfl rl_0 (by decide) rfl (by decide) rfl un_8 (mpp 19 rfl ?_)
    refine mt_callv (i := 225) (q' := q_106) (As := []) (rest := []) hT6 dX6_read_19 rfl qm_106 (by decide) rfl rl_289 (by decide) rfl (Nat.le_of_ble_eq_true rfl) rfl ⟨rfl, rfl⟩ ⟨Nat.le_of_ble_eq_true rfl, Nat.le_of_ble_eq_true rfl⟩ (EvP.mono (by decide) (c_CS_clear_Script hT6 (KW.xr k9 hX) )) (fun r44 P45 g46 => mpp 22 rfl ?_)
    obtain ⟨⟨rfl, g48⟩, hT49, k50, R51⟩ := g46
    have k52 : KW [9, 10, 11, 12, 65, 66, 67, 192, 193, 194, 256, 320, 385, 386, 387, 513, 514, 515, 516, 517, 518, 519, 640, 641, 704, 768, 1985, 1986, 1987, 2048, 2112, 2113, 2114] Po P45 := KW.trans k9 k50 rfl
    have J54 := Inj.kw J11 k50 rfl
    replace g48 : (fv P45 289 1).toInt = 0 := g48
    have g55 : (0 : Int) ≤ (fv P45 289 1).toInt ∧ (fv P45 289 1).toInt ≤ 80 := Typ.rng hT49 rl_289 (by decide) (by decide) rfl
    show MEvP _ none q_94 22 [(1, .int x4), (0, .ref 0)] [] _ _ _ _
    refine mp_a (a_sipush (v := -2000) dX6_read_22 rfl) (mpp 25 rfl ?_)
    refine mp_a (a_iload_n dX6_read_25 rfl) (mpp 26 rfl ?_)
    obtain ⟨z56, h57⟩ := ti_ex ((-2000) - x4 : Int32)
    have wz56 := ti_full z56
    refine mp_t (s_isub (v := z56) dX6_read_26 h57) (mpp 27 rfl ?_)
    try have e58 : z56.toInt = (-2000) - x4.toInt := ti_subz h57 rfl rfl (by omega) (by omega)
    have u59 : (fv P45 289 1).toInt = 0 := by omega
    exact mp_iret ⟨⟨_, rfl, u59⟩, hT49, k52, J54, trivial⟩ dX6_read_27 (Or.inl rfl)

set_option maxHeartbeats 4000000 in
theorem c_F_refusal {Po : mP} {t1 : Int32} (hT : Typ Po) (hX : XR Po)   : EvP 1 109 [.ref 0, .int t1] Po (fun r P' => (∃ x : Int32, r = some (.int x) ∧ (True)) ∧ P' = Po) := by
  refine EvP.of qm_109 (Nat.le_of_ble_eq_true rfl) rfl ?_
  show MEvP _ none q_109 0 [(0, .ref 0), (1, .int t1)] [] _ 0 0 _
  have w_t1 := ti_full t1
  refine mp_a (a_iload_n dX6_refusal_0 rfl) (mpp 1 rfl ?_)
  refine mp_Tb (t := 9) (j_if_lt dX6_refusal_1) (by decide) (fun c1 => ?_) (fun c1 => mpp 4 rfl ?_)
  · have c1 : t1.toInt < 0 := ti_lt c1
    refine mp_a (a_sipush (v := -1002) dX6_refusal_9 rfl) (mpp 12 rfl ?_)
    exact mp_iret ⟨⟨_, rfl, trivial⟩, rfl⟩ dX6_refusal_12 (Or.inl rfl)
  · have c1 : t1.toInt ≥ 0 := ti_lt_n c1
    refine mp_a (a_iload_n dX6_refusal_4 rfl) (mpp 5 rfl ?_)
    refine mp_a (a_iconst (v := 2) dX6_refusal_5 rfl) (mpp 6 rfl ?_)
    refine mp_Tb (t := 13) (j_icmp_le dX6_refusal_6) (by decide) (fun c2 => ?_) (fun c2 => mpp 9 rfl ?_)
    · have c2 : t1.toInt ≤ 2 := ti_le c2
      refine mp_a (a_aload_n dX6_refusal_13 rfl) (mpp 14 rfl ?_)
      have g3 := ti_full (fv Po 0 10)
      refine mt_getI (i := 246) (k := 10) hT dX6_refusal_14 rfl rl_0 (by decide) rfl (by decide) rfl (fun g4 g5 => mpp 17 rfl ?_)
      refine mp_Tb (t := 24) (j_if_ne dX6_refusal_17) (by decide) (fun c6 => ?_) (fun c6 => mpp 20 rfl ?_)
      · have c6 : (fv Po 0 10).toInt ≠ 0 := ti_ne c6
        refine mp_a (a_iload_n dX6_refusal_24 rfl) (mpp 25 rfl ?_)
        refine mp_Tb (t := 33) (j_if_ne dX6_refusal_25) (by decide) (fun c7 => ?_) (fun c7 => mpp 28 rfl ?_)
        · have c7 : t1.toInt ≠ 0 := ti_ne c7
          refine mp_a (a_iload_n dX6_refusal_33 rfl) (mpp 34 rfl ?_)
          refine mp_a (a_iconst (v := 1) dX6_refusal_34 rfl) (mpp 35 rfl ?_)
          refine mp_Tb (t := 45) (j_icmp_ne dX6_refusal_35) (by decide) (fun c8 => ?_) (fun c8 => mpp 38 rfl ?_)
          · have c8 : t1.toInt ≠ 1 := ti_ne c8
            refine mp_a (a_aload_n dX6_refusal_45 rfl) (mpp 46 rfl ?_)
            have g9 := ti_full (fv Po 0 12)
            refine mt_getI (i := 61) (k := 12) hT dX6_refusal_46 rfl rl_0 (by decide) rfl (by decide) rfl (fun g10 g11 => mpp 49 rfl ?_)
            exact mp_iret ⟨⟨_, rfl, trivial⟩, rfl⟩ dX6_refusal_49 (Or.inl rfl)
          · have c8 : t1.toInt = 1 := ti_ne_n c8
            refine mp_a (a_aload_n dX6_refusal_38 rfl) (mpp 39 rfl ?_)
            have g12 := ti_full (fv Po 0 11)
            refine mt_getI (i := 249) (k := 11) hT dX6_refusal_39 rfl rl_0 (by decide) rfl (by decide) rfl (fun g13 g14 => mpp 42 rfl ?_)
            refine mp_a (a_goto (t := 49) dX6_refusal_42 (by decide)) ?_
            exact mp_iret ⟨⟨_, rfl, trivial⟩, rfl⟩ dX6_refusal_49 (Or.inl rfl)
        · have c7 : t1.toInt = 0 := ti_ne_n c7
          refine mp_a (a_aload_n dX6_refusal_28 rfl) (mpp 29 rfl ?_)
          refine mt_getI (i := 246) (k := 10) hT dX6_refusal_29 rfl rl_0 (by decide) rfl (by decide) rfl (fun g15 g16 => mpp 32 rfl ?_)
          exact mp_iret ⟨⟨_, rfl, trivial⟩, rfl⟩ dX6_refusal_32 (Or.inl rfl)
      · have c6 : (fv Po 0 10).toInt = 0 := ti_ne_n c6
        refine mp_a (a_sipush (v := -1004) dX6_refusal_20 rfl) (mpp 23 rfl ?_)
        exact mp_iret ⟨⟨_, rfl, trivial⟩, rfl⟩ dX6_refusal_23 (Or.inl rfl)
    · have c2 : t1.toInt > 2 := ti_le_n c2
      refine mp_a (a_sipush (v := -1002) dX6_refusal_9 rfl) (mpp 12 rfl ?_)
      exact mp_iret ⟨⟨_, rfl, trivial⟩, rfl⟩ dX6_refusal_12 (Or.inl rfl)

set_option maxHeartbeats 4000000 in
theorem c_CS_countOfKind_NState_l4 {Po : mP} {t1 : Int32} (hT : Typ Po) (hX : XR Po)   : ∀ (n : Nat) (v2 : Int32) (v3 : Int32), (0 ≤ v3.toInt) → (2147483647 - v3.toInt).toNat = n → MEvP 1 none q_111 4 [(0, .ref 1), (1, .int t1), (2, .int v2), (3, .int v3)] [] Po 0 0 (fun r P' => (∃ x : Int32, r = some (.int x) ∧ (True)) ∧ P' = Po) := by
  intro n
  induction n using Nat.strongRecOn with | _ n ih => ?_
  intro v2 v3 i_0 hm
  have w_t1 := ti_full t1
  have w_v2 := ti_full v2
  have w_v3 := ti_full v3
  refine mp_a (a_iload_n dX5_countOfKind_4 rfl) (mpp 5 rfl ?_)
  refine mp_a (a_aload_n dX5_countOfKind_5 rfl) (mpp 6 rfl ?_)
  have g1 : (0 : Int) ≤ (fv Po 1 1).toInt ∧ (fv Po 1 1).toInt ≤ 8 := Typ.rng hT rl_1 (by decide) (by decide) rfl
  refine mt_getI (i := 22) (k := 1) hT dX5_countOfKind_6 rfl rl_1 (by decide) rfl (by decide) rfl (fun g2 g3 => mpp 9 rfl ?_)
  refine mp_Tb (t := 42) (j_icmp_ge dX5_countOfKind_9) (by decide) (fun c4 => ?_) (fun c4 => mpp 12 rfl ?_)
  · have c4 : v3.toInt ≥ (fv Po 1 1).toInt := ti_ge c4
    refine mp_a (a_iload_n dX5_countOfKind_42 rfl) (mpp 43 rfl ?_)
    exact mp_iret ⟨⟨_, rfl, trivial⟩, rfl⟩ dX5_countOfKind_43 (Or.inl rfl)
  · have c4 : v3.toInt < (fv Po 1 1).toInt := ti_ge_n c4
    refine mp_a (a_aload_n dX5_countOfKind_12 rfl) (mpp 13 rfl ?_)
    refine mp_a (a_iload_n dX5_countOfKind_13 rfl) (mpp 14 rfl ?_)
    refine mt_callv (i := 28) (q' := q_9) (As := [.int v3]) (rest := []) hT dX5_countOfKind_14 rfl qm_9 (by decide) rfl rl_1 (by decide) rfl (Nat.le_of_ble_eq_true rfl) rfl ⟨rfl, rfl⟩ ⟨Nat.le_of_ble_eq_true rfl, Nat.le_of_ble_eq_true rfl⟩ (EvP.mono (by decide) (c_CS_pieceAt_NState hT hX )) (fun r5 P6 g7 => mpp 17 rfl ?_)
    obtain ⟨g7, e8⟩ := g7
    have e8 := e8.symm
    subst e8
    rcases g7 with ⟨rfl, q10n⟩ | ⟨b9, rfl, q10, q10r⟩
    · show MEvP _ none q_111 17 [(0, .ref 1), (1, .int t1), (2, .int v2), (3, .int v3)] [.null] _ _ _ _
      replace q10n : v3.toInt < 0 ∨ (fv Po 1 1).toInt ≤ v3.toInt ∨ 8 ≤ v3.toInt := q10n
      refine mp_a (a_astoreN (L' := [(4, .null), (0, .ref 1), (1, .int t1), (2, .int v2), (3, .int v3)]) dX5_countOfKind_17 (by decide) rfl) (mpp 19 rfl ?_)
      refine mp_a (a_aloadN dX5_countOfKind_19 rfl) (mpp 21 rfl ?_)
      refine mp_t (s_ifnullN (t := 36) dX5_countOfKind_21 (by decide)) ?_
      obtain ⟨z11, h12⟩ := ti_ex (v3 + 1 : Int32)
      have wz11 := ti_full z11
      refine mp_a (a_iinc (v := z11) (L' := [(3, .int z11), (4, .null), (0, .ref 1), (1, .int t1), (2, .int v2)]) dX5_countOfKind_36 (by decide) rfl h12 rfl) (mpp 39 rfl ?_)
      try have e13 : z11.toInt = v3.toInt + 1 := ti_addz h12 rfl rfl (by omega) (by omega)
      refine mp_a (a_goto (t := 4) dX5_countOfKind_39 (by decide)) ?_
      refine MEvP.less (L := [(0, .ref 1), (1, .int t1), (2, .int v2), (3, .int z11)]) rfl rfl ⟨rfl, rfl, rfl, rfl, trivial⟩ ?_
      have i14 : 0 ≤ z11.toInt := by omega
      exact ih _ (by omega) _ _ i14 rfl
    · show MEvP _ none q_111 17 [(0, .ref 1), (1, .int t1), (2, .int v2), (3, .int v3)] [.ref b9] _ _ _ _
      replace q10r : 0 ≤ v3.toInt ∧ v3.toInt ≤ 7 ∧ v3.toInt + 1 ≤ (fv Po 1 1).toInt ∧ rv Po 2 v3.toInt.toNat = b9 := q10r
      have w15 := np_ar q10
      refine mp_a (a_astore (L' := [(4, .ref b9), (0, .ref 1), (1, .int t1), (2, .int v2), (3, .int v3)]) dX5_countOfKind_17 (by decide) rfl) (mpp 19 rfl ?_)
      refine mp_a (a_aload dX5_countOfKind_19 rfl) (mpp 21 rfl ?_)
      refine mp_t (s_ifnullR dX5_countOfKind_21) (mpp 24 rfl ?_)
      refine mp_a (a_aload dX5_countOfKind_24 rfl) (mpp 26 rfl ?_)
      have g16 := ti_full (fv Po b9 0)
      refine mt_getI (i := 43) (k := 0) hT dX5_countOfKind_26 rfl q10 (by decide) rfl (by decide) rfl (fun g17 g18 => mpp 29 rfl ?_)
      refine mp_a (a_iload_n dX5_countOfKind_29 rfl) (mpp 30 rfl ?_)
      refine mp_Tb (t := 36) (j_icmp_ne dX5_countOfKind_30) (by decide) (fun c19 => ?_) (fun c19 => mpp 33 rfl ?_)
      · have c19 : (fv Po b9 0).toInt ≠ t1.toInt := ti_ne c19
        obtain ⟨z20, h21⟩ := ti_ex (v3 + 1 : Int32)
        have wz20 := ti_full z20
        refine mp_a (a_iinc (v := z20) (L' := [(3, .int z20), (4, .ref b9), (0, .ref 1), (1, .int t1), (2, .int v2)]) dX5_countOfKind_36 (by decide) rfl h21 rfl) (mpp 39 rfl ?_)
        try have e22 : z20.toInt = v3.toInt + 1 := ti_addz h21 rfl rfl (by omega) (by omega)
        refine mp_a (a_goto (t := 4) dX5_countOfKind_39 (by decide)) ?_
        refine MEvP.less (L := [(0, .ref 1), (1, .int t1), (2, .int v2), (3, .int z20)]) rfl rfl ⟨rfl, rfl, rfl, rfl, trivial⟩ ?_
        have i23 : 0 ≤ z20.toInt := by omega
        exact ih _ (by omega) _ _ i23 rfl
      · have c19 : (fv Po b9 0).toInt = t1.toInt := ti_ne_n c19
        obtain ⟨z24, h25⟩ := ti_ex (v2 + 1 : Int32)
        have wz24 := ti_full z24
        refine mp_a (a_iinc (v := z24) (L' := [(2, .int z24), (4, .ref b9), (0, .ref 1), (1, .int t1), (3, .int v3)]) dX5_countOfKind_33 (by decide) rfl h25 rfl) (mpp 36 rfl ?_)
        try have e26 : z24.toInt = v2.toInt + 1 := ti_addz h25 rfl rfl (by omega) (by omega)
        obtain ⟨z27, h28⟩ := ti_ex (v3 + 1 : Int32)
        have wz27 := ti_full z27
        refine mp_a (a_iinc (v := z27) (L' := [(3, .int z27), (2, .int z24), (4, .ref b9), (0, .ref 1), (1, .int t1)]) dX5_countOfKind_36 (by decide) rfl h28 rfl) (mpp 39 rfl ?_)
        try have e29 : z27.toInt = v3.toInt + 1 := ti_addz h28 rfl rfl (by omega) (by omega)
        refine mp_a (a_goto (t := 4) dX5_countOfKind_39 (by decide)) ?_
        refine MEvP.less (L := [(0, .ref 1), (1, .int t1), (2, .int z24), (3, .int z27)]) rfl rfl ⟨rfl, rfl, rfl, rfl, trivial⟩ ?_
        have i30 : 0 ≤ z27.toInt := by omega
        exact ih _ (by omega) _ _ i30 rfl

set_option maxHeartbeats 4000000 in
theorem c_CS_countOfKind_NState {Po : mP} {t1 : Int32} (hT : Typ Po) (hX : XR Po)   : EvP 2 111 [.ref 1, .int t1] Po (fun r P' => (∃ x : Int32, r = some (.int x) ∧ (True)) ∧ P' = Po) := by
  refine EvP.of qm_111 (Nat.le_of_ble_eq_true rfl) rfl ?_
  show MEvP _ none q_111 0 [(0, .ref 1), (1, .int t1)] [] _ 0 0 _
  have w_t1 := ti_full t1
  refine mp_a (a_iconst (v := 0) dX5_countOfKind_0 rfl) (mpp 1 rfl ?_)
  refine mp_a (a_istore_n (L' := [(2, .int 0), (0, .ref 1), (1, .int t1)]) dX5_countOfKind_1 (by decide) rfl) (mpp 2 rfl ?_)
  refine mp_a (a_iconst (v := 0) dX5_countOfKind_2 rfl) (mpp 3 rfl ?_)
  refine mp_a (a_istore_n (L' := [(3, .int 0), (2, .int 0), (0, .ref 1), (1, .int t1)]) dX5_countOfKind_3 (by decide) rfl) (mpp 4 rfl ?_)
  refine MEvP.less (L := [(0, .ref 1), (1, .int t1), (2, .int 0), (3, .int 0)]) rfl rfl ⟨rfl, rfl, rfl, rfl, trivial⟩ ?_
  have i1 : 0 ≤ (0 : Int) := by omega
  exact c_CS_countOfKind_NState_l4 hT hX   _ _ _ i1 rfl

set_option maxHeartbeats 4000000 in
theorem c_CS_foldedCount_NState_l4 {Po : mP}  (hT : Typ Po) (hX : XR Po)   : ∀ (n : Nat) (v1 : Int32) (v2 : Int32), (0 ≤ v2.toInt) → (2147483647 - v2.toInt).toNat = n → MEvP 1 none q_112 4 [(0, .ref 1), (1, .int v1), (2, .int v2)] [] Po 0 0 (fun r P' => (∃ x : Int32, r = some (.int x) ∧ (True)) ∧ P' = Po) := by
  intro n
  induction n using Nat.strongRecOn with | _ n ih => ?_
  intro v1 v2 i_0 hm
  have w_v1 := ti_full v1
  have w_v2 := ti_full v2
  refine mp_a (a_iload_n dX5_foldedCount_4 rfl) (mpp 5 rfl ?_)
  refine mp_a (a_aload_n dX5_foldedCount_5 rfl) (mpp 6 rfl ?_)
  have g1 : (0 : Int) ≤ (fv Po 1 1).toInt ∧ (fv Po 1 1).toInt ≤ 8 := Typ.rng hT rl_1 (by decide) (by decide) rfl
  refine mt_getI (i := 22) (k := 1) hT dX5_foldedCount_6 rfl rl_1 (by decide) rfl (by decide) rfl (fun g2 g3 => mpp 9 rfl ?_)
  refine mp_Tb (t := 38) (j_icmp_ge dX5_foldedCount_9) (by decide) (fun c4 => ?_) (fun c4 => mpp 12 rfl ?_)
  · have c4 : v2.toInt ≥ (fv Po 1 1).toInt := ti_ge c4
    refine mp_a (a_iload_n dX5_foldedCount_38 rfl) (mpp 39 rfl ?_)
    exact mp_iret ⟨⟨_, rfl, trivial⟩, rfl⟩ dX5_foldedCount_39 (Or.inl rfl)
  · have c4 : v2.toInt < (fv Po 1 1).toInt := ti_ge_n c4
    refine mp_a (a_aload_n dX5_foldedCount_12 rfl) (mpp 13 rfl ?_)
    refine mp_a (a_iload_n dX5_foldedCount_13 rfl) (mpp 14 rfl ?_)
    refine mt_callv (i := 28) (q' := q_9) (As := [.int v2]) (rest := []) hT dX5_foldedCount_14 rfl qm_9 (by decide) rfl rl_1 (by decide) rfl (Nat.le_of_ble_eq_true rfl) rfl ⟨rfl, rfl⟩ ⟨Nat.le_of_ble_eq_true rfl, Nat.le_of_ble_eq_true rfl⟩ (EvP.mono (by decide) (c_CS_pieceAt_NState hT hX )) (fun r5 P6 g7 => mpp 17 rfl ?_)
    obtain ⟨g7, e8⟩ := g7
    have e8 := e8.symm
    subst e8
    rcases g7 with ⟨rfl, q10n⟩ | ⟨b9, rfl, q10, q10r⟩
    · show MEvP _ none q_112 17 [(0, .ref 1), (1, .int v1), (2, .int v2)] [.null] _ _ _ _
      replace q10n : v2.toInt < 0 ∨ (fv Po 1 1).toInt ≤ v2.toInt ∨ 8 ≤ v2.toInt := q10n
      refine mp_a (a_astore_nN (L' := [(3, .null), (0, .ref 1), (1, .int v1), (2, .int v2)]) dX5_foldedCount_17 (by decide) rfl) (mpp 18 rfl ?_)
      refine mp_a (a_aload_nN dX5_foldedCount_18 rfl) (mpp 19 rfl ?_)
      refine mp_t (s_ifnullN (t := 32) dX5_foldedCount_19 (by decide)) ?_
      obtain ⟨z11, h12⟩ := ti_ex (v2 + 1 : Int32)
      have wz11 := ti_full z11
      refine mp_a (a_iinc (v := z11) (L' := [(2, .int z11), (3, .null), (0, .ref 1), (1, .int v1)]) dX5_foldedCount_32 (by decide) rfl h12 rfl) (mpp 35 rfl ?_)
      try have e13 : z11.toInt = v2.toInt + 1 := ti_addz h12 rfl rfl (by omega) (by omega)
      refine mp_a (a_goto (t := 4) dX5_foldedCount_35 (by decide)) ?_
      refine MEvP.less (L := [(0, .ref 1), (1, .int v1), (2, .int z11)]) rfl rfl ⟨rfl, rfl, rfl, trivial⟩ ?_
      have i14 : 0 ≤ z11.toInt := by omega
      exact ih _ (by omega) _ _ i14 rfl
    · show MEvP _ none q_112 17 [(0, .ref 1), (1, .int v1), (2, .int v2)] [.ref b9] _ _ _ _
      replace q10r : 0 ≤ v2.toInt ∧ v2.toInt ≤ 7 ∧ v2.toInt + 1 ≤ (fv Po 1 1).toInt ∧ rv Po 2 v2.toInt.toNat = b9 := q10r
      have w15 := np_ar q10
      refine mp_a (a_astore_n (L' := [(3, .ref b9), (0, .ref 1), (1, .int v1), (2, .int v2)]) dX5_foldedCount_17 (by decide) rfl) (mpp 18 rfl ?_)
      refine mp_a (a_aload_n dX5_foldedCount_18 rfl) (mpp 19 rfl ?_)
      refine mp_t (s_ifnullR dX5_foldedCount_19) (mpp 22 rfl ?_)
      refine mp_a (a_aload_n dX5_foldedCount_22 rfl) (mpp 23 rfl ?_)
      have g16 : (0 : Int) ≤ (fv Po b9 2).toInt ∧ (fv Po b9 2).toInt ≤ 1 := Typ.rng hT q10 (by decide) (by decide) rfl
      refine mt_getI (i := 36) (k := 2) hT dX5_foldedCount_23 rfl q10 (by decide) rfl (by decide) rfl (fun g17 g18 => mpp 26 rfl ?_)
      refine mp_Tb (t := 32) (j_if_eq dX5_foldedCount_26) (by decide) (fun c19 => ?_) (fun c19 => mpp 29 rfl ?_)
      · have c19 : (fv Po b9 2).toInt = 0 := ti_eq c19
        obtain ⟨z20, h21⟩ := ti_ex (v2 + 1 : Int32)
        have wz20 := ti_full z20
        refine mp_a (a_iinc (v := z20) (L' := [(2, .int z20), (3, .ref b9), (0, .ref 1), (1, .int v1)]) dX5_foldedCount_32 (by decide) rfl h21 rfl) (mpp 35 rfl ?_)
        try have e22 : z20.toInt = v2.toInt + 1 := ti_addz h21 rfl rfl (by omega) (by omega)
        refine mp_a (a_goto (t := 4) dX5_foldedCount_35 (by decide)) ?_
        refine MEvP.less (L := [(0, .ref 1), (1, .int v1), (2, .int z20)]) rfl rfl ⟨rfl, rfl, rfl, trivial⟩ ?_
        have i23 : 0 ≤ z20.toInt := by omega
        exact ih _ (by omega) _ _ i23 rfl
      · have c19 : (fv Po b9 2).toInt ≠ 0 := ti_eq_n c19
        obtain ⟨z24, h25⟩ := ti_ex (v1 + 1 : Int32)
        have wz24 := ti_full z24
        refine mp_a (a_iinc (v := z24) (L' := [(1, .int z24), (3, .ref b9), (0, .ref 1), (2, .int v2)]) dX5_foldedCount_29 (by decide) rfl h25 rfl) (mpp 32 rfl ?_)
        try have e26 : z24.toInt = v1.toInt + 1 := ti_addz h25 rfl rfl (by omega) (by omega)
        obtain ⟨z27, h28⟩ := ti_ex (v2 + 1 : Int32)
        have wz27 := ti_full z27
        refine mp_a (a_iinc (v := z27) (L' := [(2, .int z27), (1, .int z24), (3, .ref b9), (0, .ref 1)]) dX5_foldedCount_32 (by decide) rfl h28 rfl) (mpp 35 rfl ?_)
        try have e29 : z27.toInt = v2.toInt + 1 := ti_addz h28 rfl rfl (by omega) (by omega)
        refine mp_a (a_goto (t := 4) dX5_foldedCount_35 (by decide)) ?_
        refine MEvP.less (L := [(0, .ref 1), (1, .int z24), (2, .int z27)]) rfl rfl ⟨rfl, rfl, rfl, trivial⟩ ?_
        have i30 : 0 ≤ z27.toInt := by omega
        exact ih _ (by omega) _ _ i30 rfl

set_option maxHeartbeats 4000000 in
theorem c_CS_foldedCount_NState {Po : mP}  (hT : Typ Po) (hX : XR Po)   : EvP 2 112 [.ref 1] Po (fun r P' => (∃ x : Int32, r = some (.int x) ∧ (True)) ∧ P' = Po) := by
  refine EvP.of qm_112 (Nat.le_of_ble_eq_true rfl) rfl ?_
  show MEvP _ none q_112 0 [(0, .ref 1)] [] _ 0 0 _
  refine mp_a (a_iconst (v := 0) dX5_foldedCount_0 rfl) (mpp 1 rfl ?_)
  refine mp_a (a_istore_n (L' := [(1, .int 0), (0, .ref 1)]) dX5_foldedCount_1 (by decide) rfl) (mpp 2 rfl ?_)
  refine mp_a (a_iconst (v := 0) dX5_foldedCount_2 rfl) (mpp 3 rfl ?_)
  refine mp_a (a_istore_n (L' := [(2, .int 0), (1, .int 0), (0, .ref 1)]) dX5_foldedCount_3 (by decide) rfl) (mpp 4 rfl ?_)
  refine MEvP.less (L := [(0, .ref 1), (1, .int 0), (2, .int 0)]) rfl rfl ⟨rfl, rfl, rfl, trivial⟩ ?_
  have i1 : 0 ≤ (0 : Int) := by omega
  exact c_CS_foldedCount_NState_l4 hT hX   _ _ _ i1 rfl

set_option maxHeartbeats 4000000 in
theorem c_CS_panelCount_NState_l4 {Po : mP}  (hT : Typ Po) (hX : XR Po)   : ∀ (n : Nat) (v1 : Int32) (v2 : Int32), (0 ≤ v2.toInt) → (2147483647 - v2.toInt).toNat = n → MEvP 1 none q_113 4 [(0, .ref 1), (1, .int v1), (2, .int v2)] [] Po 0 0 (fun r P' => (∃ x : Int32, r = some (.int x) ∧ (True)) ∧ P' = Po) := by
  intro n
  induction n using Nat.strongRecOn with | _ n ih => ?_
  intro v1 v2 i_0 hm
  have w_v1 := ti_full v1
  have w_v2 := ti_full v2
  refine mp_a (a_iload_n dX5_panelCount_4 rfl) (mpp 5 rfl ?_)
  refine mp_a (a_aload_n dX5_panelCount_5 rfl) (mpp 6 rfl ?_)
  have g1 : (0 : Int) ≤ (fv Po 1 1).toInt ∧ (fv Po 1 1).toInt ≤ 8 := Typ.rng hT rl_1 (by decide) (by decide) rfl
  refine mt_getI (i := 22) (k := 1) hT dX5_panelCount_6 rfl rl_1 (by decide) rfl (by decide) rfl (fun g2 g3 => mpp 9 rfl ?_)
  refine mp_Tb (t := 42) (j_icmp_ge dX5_panelCount_9) (by decide) (fun c4 => ?_) (fun c4 => mpp 12 rfl ?_)
  · have c4 : v2.toInt ≥ (fv Po 1 1).toInt := ti_ge c4
    refine mp_a (a_iload_n dX5_panelCount_42 rfl) (mpp 43 rfl ?_)
    exact mp_iret ⟨⟨_, rfl, trivial⟩, rfl⟩ dX5_panelCount_43 (Or.inl rfl)
  · have c4 : v2.toInt < (fv Po 1 1).toInt := ti_ge_n c4
    refine mp_a (a_aload_n dX5_panelCount_12 rfl) (mpp 13 rfl ?_)
    refine mp_a (a_iload_n dX5_panelCount_13 rfl) (mpp 14 rfl ?_)
    refine mt_callv (i := 28) (q' := q_9) (As := [.int v2]) (rest := []) hT dX5_panelCount_14 rfl qm_9 (by decide) rfl rl_1 (by decide) rfl (Nat.le_of_ble_eq_true rfl) rfl ⟨rfl, rfl⟩ ⟨Nat.le_of_ble_eq_true rfl, Nat.le_of_ble_eq_true rfl⟩ (EvP.mono (by decide) (c_CS_pieceAt_NState hT hX )) (fun r5 P6 g7 => mpp 17 rfl ?_)
    obtain ⟨g7, e8⟩ := g7
    have e8 := e8.symm
    subst e8
    rcases g7 with ⟨rfl, q10n⟩ | ⟨b9, rfl, q10, q10r⟩
    · show MEvP _ none q_113 17 [(0, .ref 1), (1, .int v1), (2, .int v2)] [.null] _ _ _ _
      replace q10n : v2.toInt < 0 ∨ (fv Po 1 1).toInt ≤ v2.toInt ∨ 8 ≤ v2.toInt := q10n
      refine mp_a (a_astore_nN (L' := [(3, .null), (0, .ref 1), (1, .int v1), (2, .int v2)]) dX5_panelCount_17 (by decide) rfl) (mpp 18 rfl ?_)
      refine mp_a (a_aload_nN dX5_panelCount_18 rfl) (mpp 19 rfl ?_)
      refine mp_t (s_ifnullN (t := 36) dX5_panelCount_19 (by decide)) ?_
      obtain ⟨z11, h12⟩ := ti_ex (v2 + 1 : Int32)
      have wz11 := ti_full z11
      refine mp_a (a_iinc (v := z11) (L' := [(2, .int z11), (3, .null), (0, .ref 1), (1, .int v1)]) dX5_panelCount_36 (by decide) rfl h12 rfl) (mpp 39 rfl ?_)
      try have e13 : z11.toInt = v2.toInt + 1 := ti_addz h12 rfl rfl (by omega) (by omega)
      refine mp_a (a_goto (t := 4) dX5_panelCount_39 (by decide)) ?_
      refine MEvP.less (L := [(0, .ref 1), (1, .int v1), (2, .int z11)]) rfl rfl ⟨rfl, rfl, rfl, trivial⟩ ?_
      have i14 : 0 ≤ z11.toInt := by omega
      exact ih _ (by omega) _ _ i14 rfl
    · show MEvP _ none q_113 17 [(0, .ref 1), (1, .int v1), (2, .int v2)] [.ref b9] _ _ _ _
      replace q10r : 0 ≤ v2.toInt ∧ v2.toInt ≤ 7 ∧ v2.toInt + 1 ≤ (fv Po 1 1).toInt ∧ rv Po 2 v2.toInt.toNat = b9 := q10r
      have w15 := np_ar q10
      refine mp_a (a_astore_n (L' := [(3, .ref b9), (0, .ref 1), (1, .int v1), (2, .int v2)]) dX5_panelCount_17 (by decide) rfl) (mpp 18 rfl ?_)
      refine mp_a (a_aload_n dX5_panelCount_18 rfl) (mpp 19 rfl ?_)
      refine mp_t (s_ifnullR dX5_panelCount_19) (mpp 22 rfl ?_)
      refine mp_a (a_aload_n dX5_panelCount_22 rfl) (mpp 23 rfl ?_)
      have g16 := ti_full (fv Po b9 0)
      refine mt_getI (i := 43) (k := 0) hT dX5_panelCount_23 rfl q10 (by decide) rfl (by decide) rfl (fun g17 g18 => mpp 26 rfl ?_)
      refine mp_Tb (t := 36) (j_if_ne dX5_panelCount_26) (by decide) (fun c19 => ?_) (fun c19 => mpp 29 rfl ?_)
      · have c19 : (fv Po b9 0).toInt ≠ 0 := ti_ne c19
        obtain ⟨z20, h21⟩ := ti_ex (v2 + 1 : Int32)
        have wz20 := ti_full z20
        refine mp_a (a_iinc (v := z20) (L' := [(2, .int z20), (3, .ref b9), (0, .ref 1), (1, .int v1)]) dX5_panelCount_36 (by decide) rfl h21 rfl) (mpp 39 rfl ?_)
        try have e22 : z20.toInt = v2.toInt + 1 := ti_addz h21 rfl rfl (by omega) (by omega)
        refine mp_a (a_goto (t := 4) dX5_panelCount_39 (by decide)) ?_
        refine MEvP.less (L := [(0, .ref 1), (1, .int v1), (2, .int z20)]) rfl rfl ⟨rfl, rfl, rfl, trivial⟩ ?_
        have i23 : 0 ≤ z20.toInt := by omega
        exact ih _ (by omega) _ _ i23 rfl
      · have c19 : (fv Po b9 0).toInt = 0 := ti_ne_n c19
        refine mp_a (a_iload_n dX5_panelCount_29 rfl) (mpp 30 rfl ?_)
        refine mp_a (a_aload_n dX5_panelCount_30 rfl) (mpp 31 rfl ?_)
        have g24 : (0 : Int) ≤ (fv Po b9 1).toInt ∧ (fv Po b9 1).toInt ≤ 8 := Typ.rng hT q10 (by decide) (by decide) rfl
        refine mt_getI (i := 46) (k := 1) hT dX5_panelCount_31 rfl q10 (by decide) rfl (by decide) rfl (fun g25 g26 => mpp 34 rfl ?_)
        obtain ⟨z27, h28⟩ := ti_ex (v1 + (fv Po b9 1) : Int32)
        have wz27 := ti_full z27
        refine mp_t (s_iadd (v := z27) dX5_panelCount_34 h28) (mpp 35 rfl ?_)
        try have e29 : z27.toInt = v1.toInt + (fv Po b9 1).toInt := ti_addz h28 rfl rfl (by omega) (by omega)
        refine mp_a (a_istore_n (L' := [(1, .int z27), (3, .ref b9), (0, .ref 1), (2, .int v2)]) dX5_panelCount_35 (by decide) rfl) (mpp 36 rfl ?_)
        obtain ⟨z30, h31⟩ := ti_ex (v2 + 1 : Int32)
        have wz30 := ti_full z30
        refine mp_a (a_iinc (v := z30) (L' := [(2, .int z30), (1, .int z27), (3, .ref b9), (0, .ref 1)]) dX5_panelCount_36 (by decide) rfl h31 rfl) (mpp 39 rfl ?_)
        try have e32 : z30.toInt = v2.toInt + 1 := ti_addz h31 rfl rfl (by omega) (by omega)
        refine mp_a (a_goto (t := 4) dX5_panelCount_39 (by decide)) ?_
        refine MEvP.less (L := [(0, .ref 1), (1, .int z27), (2, .int z30)]) rfl rfl ⟨rfl, rfl, rfl, trivial⟩ ?_
        have i33 : 0 ≤ z30.toInt := by omega
        exact ih _ (by omega) _ _ i33 rfl

set_option maxHeartbeats 4000000 in
theorem c_CS_panelCount_NState {Po : mP}  (hT : Typ Po) (hX : XR Po)   : EvP 2 113 [.ref 1] Po (fun r P' => (∃ x : Int32, r = some (.int x) ∧ (True)) ∧ P' = Po) := by
  refine EvP.of qm_113 (Nat.le_of_ble_eq_true rfl) rfl ?_
  show MEvP _ none q_113 0 [(0, .ref 1)] [] _ 0 0 _
  refine mp_a (a_iconst (v := 0) dX5_panelCount_0 rfl) (mpp 1 rfl ?_)
  refine mp_a (a_istore_n (L' := [(1, .int 0), (0, .ref 1)]) dX5_panelCount_1 (by decide) rfl) (mpp 2 rfl ?_)
  refine mp_a (a_iconst (v := 0) dX5_panelCount_2 rfl) (mpp 3 rfl ?_)
  refine mp_a (a_istore_n (L' := [(2, .int 0), (1, .int 0), (0, .ref 1)]) dX5_panelCount_3 (by decide) rfl) (mpp 4 rfl ?_)
  refine MEvP.less (L := [(0, .ref 1), (1, .int 0), (2, .int 0)]) rfl rfl ⟨rfl, rfl, rfl, trivial⟩ ?_
  have i1 : 0 ≤ (0 : Int) := by omega
  exact c_CS_panelCount_NState_l4 hT hX   _ _ _ i1 rfl

set_option maxHeartbeats 4000000 in
theorem c_CS_creasesOf_NState_l4 {Po : mP} {t1 : Int32} (hT : Typ Po) (hX : XR Po)   : ∀ (n : Nat) (v2 : Int32) (v3 : Int32), (0 ≤ v2.toInt) → (v2.toInt ≤ 64) → (v2.toInt ≤ 8 * v3.toInt) → (0 ≤ v3.toInt) → (2147483647 - v3.toInt).toNat = n → MEvP 2 none q_114 4 [(0, .ref 1), (1, .int t1), (2, .int v2), (3, .int v3)] [] Po 0 0 (fun r P' => (∃ x : Int32, r = some (.int x) ∧ (0 ≤ x.toInt ∧ x.toInt ≤ 64)) ∧ P' = Po) := by
  intro n
  induction n using Nat.strongRecOn with | _ n ih => ?_
  intro v2 v3 i_0 i_1 i_2 i_3 hm
  have w_t1 := ti_full t1
  have w_v2 := ti_full v2
  have w_v3 := ti_full v3
  refine mp_a (a_iload_n dX5_creasesOf_4 rfl) (mpp 5 rfl ?_)
  refine mp_a (a_aload_n dX5_creasesOf_5 rfl) (mpp 6 rfl ?_)
  have g1 : (0 : Int) ≤ (fv Po 1 1).toInt ∧ (fv Po 1 1).toInt ≤ 8 := Typ.rng hT rl_1 (by decide) (by decide) rfl
  refine mt_getI (i := 22) (k := 1) hT dX5_creasesOf_6 rfl rl_1 (by decide) rfl (by decide) rfl (fun g2 g3 => mpp 9 rfl ?_)
  refine mp_Tb (t := 39) (j_icmp_ge dX5_creasesOf_9) (by decide) (fun c4 => ?_) (fun c4 => mpp 12 rfl ?_)
  · have c4 : v3.toInt ≥ (fv Po 1 1).toInt := ti_ge c4
    refine mp_a (a_iload_n dX5_creasesOf_39 rfl) (mpp 40 rfl ?_)
    have u5 : 0 ≤ v2.toInt ∧ v2.toInt ≤ 64 := by omega
    exact mp_iret ⟨⟨_, rfl, u5⟩, rfl⟩ dX5_creasesOf_40 (Or.inl rfl)
  · have c4 : v3.toInt < (fv Po 1 1).toInt := ti_ge_n c4
    refine mp_a (a_aload_n dX5_creasesOf_12 rfl) (mpp 13 rfl ?_)
    refine mp_a (a_iload_n dX5_creasesOf_13 rfl) (mpp 14 rfl ?_)
    refine mt_callv (i := 28) (q' := q_9) (As := [.int v3]) (rest := []) hT dX5_creasesOf_14 rfl qm_9 (by decide) rfl rl_1 (by decide) rfl (Nat.le_of_ble_eq_true rfl) rfl ⟨rfl, rfl⟩ ⟨Nat.le_of_ble_eq_true rfl, Nat.le_of_ble_eq_true rfl⟩ (EvP.mono (by decide) (c_CS_pieceAt_NState hT hX )) (fun r6 P7 g8 => mpp 17 rfl ?_)
    obtain ⟨g8, e9⟩ := g8
    have e9 := e9.symm
    subst e9
    rcases g8 with ⟨rfl, q11n⟩ | ⟨b10, rfl, q11, q11r⟩
    · show MEvP _ none q_114 17 [(0, .ref 1), (1, .int t1), (2, .int v2), (3, .int v3)] [.null] _ _ _ _
      replace q11n : v3.toInt < 0 ∨ (fv Po 1 1).toInt ≤ v3.toInt ∨ 8 ≤ v3.toInt := q11n
      refine mp_a (a_astoreN (L' := [(4, .null), (0, .ref 1), (1, .int t1), (2, .int v2), (3, .int v3)]) dX5_creasesOf_17 (by decide) rfl) (mpp 19 rfl ?_)
      refine mp_a (a_aloadN dX5_creasesOf_19 rfl) (mpp 21 rfl ?_)
      refine mp_t (s_ifnullN (t := 33) dX5_creasesOf_21 (by decide)) ?_
      obtain ⟨z12, h13⟩ := ti_ex (v3 + 1 : Int32)
      have wz12 := ti_full z12
      refine mp_a (a_iinc (v := z12) (L' := [(3, .int z12), (4, .null), (0, .ref 1), (1, .int t1), (2, .int v2)]) dX5_creasesOf_33 (by decide) rfl h13 rfl) (mpp 36 rfl ?_)
      try have e14 : z12.toInt = v3.toInt + 1 := ti_addz h13 rfl rfl (by omega) (by omega)
      refine mp_a (a_goto (t := 4) dX5_creasesOf_36 (by decide)) ?_
      refine MEvP.less (L := [(0, .ref 1), (1, .int t1), (2, .int v2), (3, .int z12)]) rfl rfl ⟨rfl, rfl, rfl, rfl, trivial⟩ ?_
      have i15 : 0 ≤ v2.toInt := by omega
      have i16 : v2.toInt ≤ 64 := by omega
      have i17 : v2.toInt ≤ 8 * z12.toInt := by omega
      have i18 : 0 ≤ z12.toInt := by omega
      exact ih _ (by omega) _ _ i15 i16 i17 i18 rfl
    · show MEvP _ none q_114 17 [(0, .ref 1), (1, .int t1), (2, .int v2), (3, .int v3)] [.ref b10] _ _ _ _
      replace q11r : 0 ≤ v3.toInt ∧ v3.toInt ≤ 7 ∧ v3.toInt + 1 ≤ (fv Po 1 1).toInt ∧ rv Po 2 v3.toInt.toNat = b10 := q11r
      have w19 := np_ar q11
      refine mp_a (a_astore (L' := [(4, .ref b10), (0, .ref 1), (1, .int t1), (2, .int v2), (3, .int v3)]) dX5_creasesOf_17 (by decide) rfl) (mpp 19 rfl ?_)
      refine mp_a (a_aload dX5_creasesOf_19 rfl) (mpp 21 rfl ?_)
      refine mp_t (s_ifnullR dX5_creasesOf_21) (mpp 24 rfl ?_)
      refine mp_a (a_iload_n dX5_creasesOf_24 rfl) (mpp 25 rfl ?_)
      refine mp_a (a_aload dX5_creasesOf_25 rfl) (mpp 27 rfl ?_)
      refine mp_a (a_iload_n dX5_creasesOf_27 rfl) (mpp 28 rfl ?_)
      refine mt_callv (i := 47) (q' := q_32) (As := [.int t1]) (rest := [.int v2]) hT dX5_creasesOf_28 rfl qm_32 (by decide) rfl q11 (by decide) rfl (Nat.le_of_ble_eq_true rfl) rfl ⟨rfl, rfl⟩ ⟨Nat.le_of_ble_eq_true rfl, Nat.le_of_ble_eq_true rfl⟩ (EvP.mono (by decide) (c_CP_countOf_NPiece hT hX q11)) (fun r20 P21 g22 => mpp 31 rfl ?_)
      obtain ⟨⟨x23, rfl, g24⟩, e25⟩ := g22
      have e25 := e25.symm
      subst e25
      have wx23 := ti_full x23
      replace g24 : 0 ≤ x23.toInt ∧ x23.toInt ≤ 8 ∧ x23.toInt = cntF (fun j : Nat => fv Po (b10 + 2) j) t1.toInt (nC (fv Po b10 0).toInt (fv Po b10 1).toInt) := g24
      have g26 := ti_full (fv Po b10 0)
      have g27 : (0 : Int) ≤ (fv Po b10 1).toInt ∧ (fv Po b10 1).toInt ≤ 8 := Typ.rng hT q11 (by decide) (by decide) rfl
      show MEvP _ none q_114 31 [(4, .ref b10), (0, .ref 1), (1, .int t1), (2, .int v2), (3, .int v3)] [.int x23, .int v2] _ _ _ _
      obtain ⟨z28, h29⟩ := ti_ex (v2 + x23 : Int32)
      have wz28 := ti_full z28
      refine mp_t (s_iadd (v := z28) dX5_creasesOf_31 h29) (mpp 32 rfl ?_)
      try have e30 : z28.toInt = v2.toInt + x23.toInt := ti_addz h29 rfl rfl (by omega) (by omega)
      refine mp_a (a_istore_n (L' := [(2, .int z28), (4, .ref b10), (0, .ref 1), (1, .int t1), (3, .int v3)]) dX5_creasesOf_32 (by decide) rfl) (mpp 33 rfl ?_)
      obtain ⟨z31, h32⟩ := ti_ex (v3 + 1 : Int32)
      have wz31 := ti_full z31
      refine mp_a (a_iinc (v := z31) (L' := [(3, .int z31), (2, .int z28), (4, .ref b10), (0, .ref 1), (1, .int t1)]) dX5_creasesOf_33 (by decide) rfl h32 rfl) (mpp 36 rfl ?_)
      try have e33 : z31.toInt = v3.toInt + 1 := ti_addz h32 rfl rfl (by omega) (by omega)
      refine mp_a (a_goto (t := 4) dX5_creasesOf_36 (by decide)) ?_
      refine MEvP.less (L := [(0, .ref 1), (1, .int t1), (2, .int z28), (3, .int z31)]) rfl rfl ⟨rfl, rfl, rfl, rfl, trivial⟩ ?_
      have i34 : 0 ≤ z28.toInt := by omega
      have i35 : z28.toInt ≤ 64 := by omega
      have i36 : z28.toInt ≤ 8 * z31.toInt := by omega
      have i37 : 0 ≤ z31.toInt := by omega
      exact ih _ (by omega) _ _ i34 i35 i36 i37 rfl

set_option maxHeartbeats 4000000 in
theorem c_CS_creasesOf_NState {Po : mP} {t1 : Int32} (hT : Typ Po) (hX : XR Po)   : EvP 3 114 [.ref 1, .int t1] Po (fun r P' => (∃ x : Int32, r = some (.int x) ∧ (0 ≤ x.toInt ∧ x.toInt ≤ 64)) ∧ P' = Po) := by
  refine EvP.of qm_114 (Nat.le_of_ble_eq_true rfl) rfl ?_
  show MEvP _ none q_114 0 [(0, .ref 1), (1, .int t1)] [] _ 0 0 _
  have w_t1 := ti_full t1
  refine mp_a (a_iconst (v := 0) dX5_creasesOf_0 rfl) (mpp 1 rfl ?_)
  refine mp_a (a_istore_n (L' := [(2, .int 0), (0, .ref 1), (1, .int t1)]) dX5_creasesOf_1 (by decide) rfl) (mpp 2 rfl ?_)
  refine mp_a (a_iconst (v := 0) dX5_creasesOf_2 rfl) (mpp 3 rfl ?_)
  refine mp_a (a_istore_n (L' := [(3, .int 0), (2, .int 0), (0, .ref 1), (1, .int t1)]) dX5_creasesOf_3 (by decide) rfl) (mpp 4 rfl ?_)
  refine MEvP.less (L := [(0, .ref 1), (1, .int t1), (2, .int 0), (3, .int 0)]) rfl rfl ⟨rfl, rfl, rfl, rfl, trivial⟩ ?_
  have i1 : 0 ≤ (0 : Int) := by omega
  have i2 : (0 : Int) ≤ 64 := by omega
  have i3 : (0 : Int) ≤ 8 * (0 : Int) := by omega
  have i4 : 0 ≤ (0 : Int) := by omega
  exact c_CS_creasesOf_NState_l4 hT hX   _ _ _ i1 i2 i3 i4 rfl

