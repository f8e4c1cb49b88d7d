/-! methods on typed pools, 15 (written by a program) -/
set_option maxHeartbeats 4000000 in
theorem c_F_read_l58 {Po : mP}   : ∀ (n : Nat) (v1 : Int32) (v2 : Int32) (v3 : Int32), ∀ (P : mP), Typ P → KW [9, 10, 11, 12, 65, 66, 67, 192, 193, 194, 256, 320, 385, 386, 387, 513, 514, 515, 516, 517, 518, 519, 640, 641, 704, 768, 1985, 1986, 1987, 2112, 2113, 2114] Po P → (0 ≤ v2.toInt) → (2147483647 - v2.toInt).toNat = n → MEvP 6 none q_94 58 [(0, .ref 0), (1, .int v1), (2, .int v2), (3, .int v3)] [] P 0 0 (fun r P' => (∃ x : Int32, r = some (.int x) ∧ ((fv P' 289 1).toInt = 0)) ∧ Typ P' ∧ KW [9, 10, 11, 12, 65, 66, 67, 192, 193, 194, 256, 320, 385, 386, 387, 513, 514, 515, 516, 517, 518, 519, 640, 641, 704, 768, 1985, 1986, 1987, 2112, 2113, 2114] Po P' ∧ True) := by
  intro n
  induction n using Nat.strongRecOn with | _ n ih => ?_
  intro v1 v2 v3 P hT hK i_0 hm
  have w_v1 := ti_full v1
  have w_v2 := ti_full v2
  have w_v3 := ti_full v3
  refine mp_a (a_iload_n dX6_read_58 rfl) (mpp 59 rfl ?_)
  refine mp_a (a_bipush (v := 80) dX6_read_59 rfl) (mpp 61 rfl ?_)
  refine mp_Tb (t := 104) (j_icmp_ge dX6_read_61) (by decide) (fun c1 => ?_) (fun c1 => mpp 64 rfl ?_)
  · have c1 : v2.toInt ≥ 80 := ti_ge c1
    refine mp_a (a_aload_n dX6_read_104 rfl) (mpp 105 rfl ?_)
    refine mp_a (a_sipush (v := -1004) dX6_read_105 rfl) (mpp 108 rfl ?_)
    refine mt_putI (i := 57) (k := 9) (x := (-1004)) hT dX6_read_108 rfl rl_0 (by decide) rfl (by decide) rfl (by decide) rfl rfl (fun P2 hT3 f4 f5 => mpp 111 rfl ?_)
    have k6 : KW [9, 10, 11, 12, 65, 66, 67, 192, 193, 194, 256, 320, 385, 386, 387, 513, 514, 515, 516, 517, 518, 519, 640, 641, 704, 768, 1985, 1986, 1987, 2112, 2113, 2114] Po P2 := KW.step hK rl_0 rfl f5
    have e7 : (fv P2 0 9).toInt = (-1004) := congrArg Int32.toInt f4
    refine mp_a (a_aload_n dX6_read_111 rfl) (mpp 112 rfl ?_)
    refine mt_getU (i := 25) (k := 3) (A := 79) hT3 dX6_read_112 rfl rl_0 (by decide) rfl (by decide) rfl un_6 (mpp 115 rfl ?_)
    refine mp_a (a_iconst (v := 0) dX6_read_115 rfl) (mpp 116 rfl ?_)
    refine mt_putI (i := 230) (k := 3) (x := 0) hT3 dX6_read_116 rfl rl_79 (by decide) rfl (by decide) rfl (by decide) rfl rfl (fun P8 hT9 f10 f11 => mpp 119 rfl ?_)
    have k12 : KW [9, 10, 11, 12, 65, 66, 67, 192, 193, 194, 256, 320, 385, 386, 387, 513, 514, 515, 516, 517, 518, 519, 640, 641, 704, 768, 1985, 1986, 1987, 2112, 2113, 2114] Po P8 := KW.step k6 rl_79 rfl f11
    have e13 : (fv P8 79 3).toInt = 0 := congrArg Int32.toInt f10
    refine mp_a (a_aload_n dX6_read_119 rfl) (mpp 120 rfl ?_)
    refine mt_getU (i := 32) (k := 4) (A := 289) hT9 dX6_read_120 rfl rl_0 (by decide) rfl (by decide) rfl un_8 (mpp 123 rfl ?_)
    refine mt_callv (i := 225) (q' := q_106) (As := []) (rest := []) hT9 dX6_read_123 rfl qm_106 (by decide) rfl rl_289 (by decide) rfl (Nat.le_of_ble_eq_true rfl) rfl ⟨rfl, rfl⟩ ⟨Nat.le_of_ble_eq_true rfl, Nat.le_of_ble_eq_true rfl⟩ (EvP.mono (by decide) (c_CS_clear_Script hT9 )) (fun r14 P15 g16 => mpp 126 rfl ?_)
    obtain ⟨⟨rfl, g18⟩, hT19, k20, R21⟩ := g16
    have k22 : KW [9, 10, 11, 12, 65, 66, 67, 192, 193, 194, 256, 320, 385, 386, 387, 513, 514, 515, 516, 517, 518, 519, 640, 641, 704, 768, 1985, 1986, 1987, 2112, 2113, 2114] Po P15 := KW.trans k12 k20 rfl
    have g18 : (fv P15 289 1).toInt = 0 := g18
    have g23 : (0 : Int) ≤ (fv P15 289 1).toInt ∧ (fv P15 289 1).toInt ≤ 80 := Typ.rng hT19 rl_289 (by decide) (by decide) rfl
    show MEvP _ none q_94 126 [(0, .ref 0), (1, .int v1), (2, .int v2), (3, .int v3)] [] _ _ _ _
    refine mp_a (a_iload_n dX6_read_126 rfl) (mpp 127 rfl ?_)
    refine mp_Tb (t := 158) (j_if_ge dX6_read_127) (by decide) (fun c24 => ?_) (fun c24 => mpp 130 rfl ?_)
    · have c24 : v3.toInt ≥ 0 := ti_ge c24
      refine mp_a (a_aload_n dX6_read_158 rfl) (mpp 159 rfl ?_)
      refine mt_getU (i := 25) (k := 3) (A := 79) hT19 dX6_read_159 rfl rl_0 (by decide) rfl (by decide) rfl un_6 (mpp 162 rfl ?_)
      refine mp_a (a_aload_n dX6_read_162 rfl) (mpp 163 rfl ?_)
      refine mt_getR (i := 16) (k := 1) hT19 dX6_read_163 rfl rl_0 (by decide) rfl (by decide) rfl (fun q25 => mpp 166 rfl ?_)
      generalize rv P15 0 1 = b26 at q25 ⊢
      refine mt_callv (i := 72) (q' := q_15) (As := [.ref b26]) (rest := []) hT19 dX6_read_166 rfl qm_15 (by decide) rfl rl_79 (by decide) rfl (Nat.le_of_ble_eq_true rfl) rfl ⟨rfl, rfl⟩ ⟨Nat.le_of_ble_eq_true rfl, Nat.le_of_ble_eq_true rfl⟩ (EvP.mono (by decide) (c_CH_push_History_State hT19 q25)) (fun r27 P28 g29 => mpp 169 rfl ?_)
      obtain ⟨⟨rfl, g31⟩, hT32, k33, R34⟩ := g29
      have k35 : KW [9, 10, 11, 12, 65, 66, 67, 192, 193, 194, 256, 320, 385, 386, 387, 513, 514, 515, 516, 517, 518, 519, 640, 641, 704, 768, 1985, 1986, 1987, 2112, 2113, 2114] Po P28 := KW.trans k22 k33 rfl
      show MEvP _ none q_94 169 [(0, .ref 0), (1, .int v1), (2, .int v2), (3, .int v3)] [] _ _ _ _
      refine mp_a (a_iload_n dX6_read_169 rfl) (mpp 170 rfl ?_)
      have e36 : (fv P28 289 1).toInt = (fv P15 289 1).toInt := congrArg Int32.toInt (KW.at k33 1 rl_289 rfl)
      have u37 : (fv P28 289 1).toInt = 0 := by omega
      exact mp_iret ⟨⟨_, rfl, u37⟩, hT32, k35, trivial⟩ dX6_read_170 (Or.inl rfl)
    · have c24 : v3.toInt < 0 := ti_ge_n c24
      refine mp_a (a_aload_n dX6_read_130 rfl) (mpp 131 rfl ?_)
      refine mt_getU (i := 10) (k := 0) (A := 1) hT19 dX6_read_131 rfl rl_0 (by decide) rfl (by decide) rfl un_31 (mpp 134 rfl ?_)
      refine mp_a (a_aload_n dX6_read_134 rfl) (mpp 135 rfl ?_)
      refine mt_getR (i := 16) (k := 1) hT19 dX6_read_135 rfl rl_0 (by decide) rfl (by decide) rfl (fun q38 => mpp 138 rfl ?_)
      generalize rv P15 0 1 = b39 at q38 ⊢
      refine mt_callv (i := 228) (q' := q_17) (As := [.ref b39]) (rest := []) hT19 dX6_read_138 rfl qm_17 (by decide) rfl rl_1 (by decide) rfl (Nat.le_of_ble_eq_true rfl) rfl ⟨rfl, rfl⟩ ⟨Nat.le_of_ble_eq_true rfl, Nat.le_of_ble_eq_true rfl⟩ (EvP.mono (by decide) (c_CS_copyFrom_NState_State hT19 q38)) (fun r40 P41 g42 => mpp 141 rfl ?_)
      obtain ⟨⟨rfl, g44⟩, hT45, k46, R47⟩ := g42
      have k48 : KW [9, 10, 11, 12, 65, 66, 67, 192, 193, 194, 256, 320, 385, 386, 387, 513, 514, 515, 516, 517, 518, 519, 640, 641, 704, 768, 1985, 1986, 1987, 2112, 2113, 2114] Po P41 := KW.trans k22 k46 rfl
      show MEvP _ none q_94 141 [(0, .ref 0), (1, .int v1), (2, .int v2), (3, .int v3)] [] _ _ _ _
      refine mp_a (a_iload_n dX6_read_141 rfl) (mpp 142 rfl ?_)
      refine mp_a (a_sipush (v := -1003) dX6_read_142 rfl) (mpp 145 rfl ?_)
      refine mp_Tb (t := 154) (j_icmp_ne dX6_read_145) (by decide) (fun c49 => ?_) (fun c49 => mpp 148 rfl ?_)
      · have c49 : v3.toInt ≠ (-1003) := ti_ne c49
        refine mp_a (a_sipush (v := -1002) dX6_read_154 rfl) (mpp 157 rfl ?_)
        have e50 : (fv P41 289 1).toInt = (fv P15 289 1).toInt := congrArg Int32.toInt (KW.at k46 1 rl_289 rfl)
        have u51 : (fv P41 289 1).toInt = 0 := by omega
        exact mp_iret ⟨⟨_, rfl, u51⟩, hT45, k48, trivial⟩ dX6_read_157 (Or.inl rfl)
      · have c49 : v3.toInt = (-1003) := ti_ne_n c49
        refine mp_a (a_sipush (v := -1003) dX6_read_148 rfl) (mpp 151 rfl ?_)
        refine mp_a (a_goto (t := 157) dX6_read_151 (by decide)) ?_
        have e52 : (fv P41 289 1).toInt = (fv P15 289 1).toInt := congrArg Int32.toInt (KW.at k46 1 rl_289 rfl)
        have u53 : (fv P41 289 1).toInt = 0 := by omega
        exact mp_iret ⟨⟨_, rfl, u53⟩, hT45, k48, trivial⟩ dX6_read_157 (Or.inl rfl)
  · have c1 : v2.toInt < 80 := ti_ge_n c1
    refine mp_a (a_iload_n dX6_read_64 rfl) (mpp 65 rfl ?_)
    refine mp_Tb (t := 104) (j_if_lt dX6_read_65) (by decide) (fun c54 => ?_) (fun c54 => mpp 68 rfl ?_)
    · have c54 : v3.toInt < 0 := ti_lt c54
      refine mp_a (a_aload_n dX6_read_104 rfl) (mpp 105 rfl ?_)
      refine mp_a (a_sipush (v := -1004) dX6_read_105 rfl) (mpp 108 rfl ?_)
      refine mt_putI (i := 57) (k := 9) (x := (-1004)) hT dX6_read_108 rfl rl_0 (by decide) rfl (by decide) rfl (by decide) rfl rfl (fun P55 hT56 f57 f58 => mpp 111 rfl ?_)
      have k59 : KW [9, 10, 11, 12, 65, 66, 67, 192, 193, 194, 256, 320, 385, 386, 387, 513, 514, 515, 516, 517, 518, 519, 640, 641, 704, 768, 1985, 1986, 1987, 2112, 2113, 2114] Po P55 := KW.step hK rl_0 rfl f58
      have e60 : (fv P55 0 9).toInt = (-1004) := congrArg Int32.toInt f57
      refine mp_a (a_aload_n dX6_read_111 rfl) (mpp 112 rfl ?_)
      refine mt_getU (i := 25) (k := 3) (A := 79) hT56 dX6_read_112 rfl rl_0 (by decide) rfl (by decide) rfl un_6 (mpp 115 rfl ?_)
      refine mp_a (a_iconst (v := 0) dX6_read_115 rfl) (mpp 116 rfl ?_)
      refine mt_putI (i := 230) (k := 3) (x := 0) hT56 dX6_read_116 rfl rl_79 (by decide) rfl (by decide) rfl (by decide) rfl rfl (fun P61 hT62 f63 f64 => mpp 119 rfl ?_)
      have k65 : KW [9, 10, 11, 12, 65, 66, 67, 192, 193, 194, 256, 320, 385, 386, 387, 513, 514, 515, 516, 517, 518, 519, 640, 641, 704, 768, 1985, 1986, 1987, 2112, 2113, 2114] Po P61 := KW.step k59 rl_79 rfl f64
      have e66 : (fv P61 79 3).toInt = 0 := congrArg Int32.toInt f63
      refine mp_a (a_aload_n dX6_read_119 rfl) (mpp 120 rfl ?_)
      refine mt_getU (i := 32) (k := 4) (A := 289) hT62 dX6_read_120 rfl rl_0 (by decide) rfl (by decide) rfl un_8 (mpp 123 rfl ?_)
      refine mt_callv (i := 225) (q' := q_106) (As := []) (rest := []) hT62 dX6_read_123 rfl qm_106 (by decide) rfl rl_289 (by decide) rfl (Nat.le_of_ble_eq_true rfl) rfl ⟨rfl, rfl⟩ ⟨Nat.le_of_ble_eq_true rfl, Nat.le_of_ble_eq_true rfl⟩ (EvP.mono (by decide) (c_CS_clear_Script hT62 )) (fun r67 P68 g69 => mpp 126 rfl ?_)
      obtain ⟨⟨rfl, g71⟩, hT72, k73, R74⟩ := g69
      have k75 : KW [9, 10, 11, 12, 65, 66, 67, 192, 193, 194, 256, 320, 385, 386, 387, 513, 514, 515, 516, 517, 518, 519, 640, 641, 704, 768, 1985, 1986, 1987, 2112, 2113, 2114] Po P68 := KW.trans k65 k73 rfl
      have g71 : (fv P68 289 1).toInt = 0 := g71
      have g76 : (0 : Int) ≤ (fv P68 289 1).toInt ∧ (fv P68 289 1).toInt ≤ 80 := Typ.rng hT72 rl_289 (by decide) (by decide) rfl
      show MEvP _ none q_94 126 [(0, .ref 0), (1, .int v1), (2, .int v2), (3, .int v3)] [] _ _ _ _
      refine mp_a (a_iload_n dX6_read_126 rfl) (mpp 127 rfl ?_)
      refine mp_Tb (t := 158) (j_if_ge dX6_read_127) (by decide) (fun c77 => ?_) (fun c77 => mpp 130 rfl ?_)
      · have c77 : v3.toInt ≥ 0 := ti_ge c77
        refine mp_a (a_aload_n dX6_read_158 rfl) (mpp 159 rfl ?_)
        refine mt_getU (i := 25) (k := 3) (A := 79) hT72 dX6_read_159 rfl rl_0 (by decide) rfl (by decide) rfl un_6 (mpp 162 rfl ?_)
        refine mp_a (a_aload_n dX6_read_162 rfl) (mpp 163 rfl ?_)
        refine mt_getR (i := 16) (k := 1) hT72 dX6_read_163 rfl rl_0 (by decide) rfl (by decide) rfl (fun q78 => mpp 166 rfl ?_)
        generalize rv P68 0 1 = b79 at q78 ⊢
        refine mt_callv (i := 72) (q' := q_15) (As := [.ref b79]) (rest := []) hT72 dX6_read_166 rfl qm_15 (by decide) rfl rl_79 (by decide) rfl (Nat.le_of_ble_eq_true rfl) rfl ⟨rfl, rfl⟩ ⟨Nat.le_of_ble_eq_true rfl, Nat.le_of_ble_eq_true rfl⟩ (EvP.mono (by decide) (c_CH_push_History_State hT72 q78)) (fun r80 P81 g82 => mpp 169 rfl ?_)
        obtain ⟨⟨rfl, g84⟩, hT85, k86, R87⟩ := g82
        have k88 : KW [9, 10, 11, 12, 65, 66, 67, 192, 193, 194, 256, 320, 385, 386, 387, 513, 514, 515, 516, 517, 518, 519, 640, 641, 704, 768, 1985, 1986, 1987, 2112, 2113, 2114] Po P81 := KW.trans k75 k86 rfl
        show MEvP _ none q_94 169 [(0, .ref 0), (1, .int v1), (2, .int v2), (3, .int v3)] [] _ _ _ _
        refine mp_a (a_iload_n dX6_read_169 rfl) (mpp 170 rfl ?_)
        have e89 : (fv P81 289 1).toInt = (fv P68 289 1).toInt := congrArg Int32.toInt (KW.at k86 1 rl_289 rfl)
        have u90 : (fv P81 289 1).toInt = 0 := by omega
        exact mp_iret ⟨⟨_, rfl, u90⟩, hT85, k88, trivial⟩ dX6_read_170 (Or.inl rfl)
      · have c77 : v3.toInt < 0 := ti_ge_n c77
        refine mp_a (a_aload_n dX6_read_130 rfl) (mpp 131 rfl ?_)
        refine mt_getU (i := 10) (k := 0) (A := 1) hT72 dX6_read_131 rfl rl_0 (by decide) rfl (by decide) rfl un_31 (mpp 134 rfl ?_)
        refine mp_a (a_aload_n dX6_read_134 rfl) (mpp 135 rfl ?_)
        refine mt_getR (i := 16) (k := 1) hT72 dX6_read_135 rfl rl_0 (by decide) rfl (by decide) rfl (fun q91 => mpp 138 rfl ?_)
        generalize rv P68 0 1 = b92 at q91 ⊢
        refine mt_callv (i := 228) (q' := q_17) (As := [.ref b92]) (rest := []) hT72 dX6_read_138 rfl qm_17 (by decide) rfl rl_1 (by decide) rfl (Nat.le_of_ble_eq_true rfl) rfl ⟨rfl, rfl⟩ ⟨Nat.le_of_ble_eq_true rfl, Nat.le_of_ble_eq_true rfl⟩ (EvP.mono (by decide) (c_CS_copyFrom_NState_State hT72 q91)) (fun r93 P94 g95 => mpp 141 rfl ?_)
        obtain ⟨⟨rfl, g97⟩, hT98, k99, R100⟩ := g95
        have k101 : KW [9, 10, 11, 12, 65, 66, 67, 192, 193, 194, 256, 320, 385, 386, 387, 513, 514, 515, 516, 517, 518, 519, 640, 641, 704, 768, 1985, 1986, 1987, 2112, 2113, 2114] Po P94 := KW.trans k75 k99 rfl
        show MEvP _ none q_94 141 [(0, .ref 0), (1, .int v1), (2, .int v2), (3, .int v3)] [] _ _ _ _
        refine mp_a (a_iload_n dX6_read_141 rfl) (mpp 142 rfl ?_)
        refine mp_a (a_sipush (v := -1003) dX6_read_142 rfl) (mpp 145 rfl ?_)
        refine mp_Tb (t := 154) (j_icmp_ne dX6_read_145) (by decide) (fun c102 => ?_) (fun c102 => mpp 148 rfl ?_)
        · have c102 : v3.toInt ≠ (-1003) := ti_ne c102
          refine mp_a (a_sipush (v := -1002) dX6_read_154 rfl) (mpp 157 rfl ?_)
          have e103 : (fv P94 289 1).toInt = (fv P68 289 1).toInt := congrArg Int32.toInt (KW.at k99 1 rl_289 rfl)
          have u104 : (fv P94 289 1).toInt = 0 := by omega
          exact mp_iret ⟨⟨_, rfl, u104⟩, hT98, k101, trivial⟩ dX6_read_157 (Or.inl rfl)
        · have c102 : v3.toInt = (-1003) := ti_ne_n c102
          refine mp_a (a_sipush (v := -1003) dX6_read_148 rfl) (mpp 151 rfl ?_)
          refine mp_a (a_goto (t := 157) dX6_read_151 (by decide)) ?_
          have e105 : (fv P94 289 1).toInt = (fv P68 289 1).toInt := congrArg Int32.toInt (KW.at k99 1 rl_289 rfl)
          have u106 : (fv P94 289 1).toInt = 0 := by omega
          exact mp_iret ⟨⟨_, rfl, u106⟩, hT98, k101, trivial⟩ dX6_read_157 (Or.inl rfl)
    · have c54 : v3.toInt ≥ 0 := ti_lt_n c54
      refine mp_a (a_aload_n dX6_read_68 rfl) (mpp 69 rfl ?_)
      refine mt_getU (i := 32) (k := 4) (A := 289) hT dX6_read_69 rfl rl_0 (by decide) rfl (by decide) rfl un_8 (mpp 72 rfl ?_)
      refine mt_callv (i := 236) (q' := q_97) (As := []) (rest := []) hT dX6_read_72 rfl qm_97 (by decide) rfl rl_289 (by decide) rfl (Nat.le_of_ble_eq_true rfl) rfl ⟨rfl, rfl⟩ ⟨Nat.le_of_ble_eq_true rfl, Nat.le_of_ble_eq_true rfl⟩ (EvP.mono (by decide) (c_CS_takeCommand_Script hT )) (fun r107 P108 g109 => mpp 75 rfl ?_)
      obtain ⟨⟨x110, rfl, g111⟩, hT112, k113, R114⟩ := g109
      have k115 : KW [9, 10, 11, 12, 65, 66, 67, 192, 193, 194, 256, 320, 385, 386, 387, 513, 514, 515, 516, 517, 518, 519, 640, 641, 704, 768, 1985, 1986, 1987, 2112, 2113, 2114] Po P108 := KW.trans hK k113 rfl
      have wx110 := ti_full x110
      have g111 : 0 ≤ x110.toInt ∧ x110.toInt ≤ 1 := g111
      show MEvP _ none q_94 75 [(0, .ref 0), (1, .int v1), (2, .int v2), (3, .int v3)] [.int x110] _ _ _ _
      refine mp_Tb (t := 104) (j_if_eq dX6_read_75) (by decide) (fun c116 => ?_) (fun c116 => mpp 78 rfl ?_)
      · have c116 : x110.toInt = 0 := ti_eq c116
        refine mp_a (a_aload_n dX6_read_104 rfl) (mpp 105 rfl ?_)
        refine mp_a (a_sipush (v := -1004) dX6_read_105 rfl) (mpp 108 rfl ?_)
        refine mt_putI (i := 57) (k := 9) (x := (-1004)) hT112 dX6_read_108 rfl rl_0 (by decide) rfl (by decide) rfl (by decide) rfl rfl (fun P117 hT118 f119 f120 => mpp 111 rfl ?_)
        have k121 : KW [9, 10, 11, 12, 65, 66, 67, 192, 193, 194, 256, 320, 385, 386, 387, 513, 514, 515, 516, 517, 518, 519, 640, 641, 704, 768, 1985, 1986, 1987, 2112, 2113, 2114] Po P117 := KW.step k115 rl_0 rfl f120
        have e122 : (fv P117 0 9).toInt = (-1004) := congrArg Int32.toInt f119
        refine mp_a (a_aload_n dX6_read_111 rfl) (mpp 112 rfl ?_)
        refine mt_getU (i := 25) (k := 3) (A := 79) hT118 dX6_read_112 rfl rl_0 (by decide) rfl (by decide) rfl un_6 (mpp 115 rfl ?_)
        refine mp_a (a_iconst (v := 0) dX6_read_115 rfl) (mpp 116 rfl ?_)
        refine mt_putI (i := 230) (k := 3) (x := 0) hT118 dX6_read_116 rfl rl_79 (by decide) rfl (by decide) rfl (by decide) rfl rfl (fun P123 hT124 f125 f126 => mpp 119 rfl ?_)
        have k127 : KW [9, 10, 11, 12, 65, 66, 67, 192, 193, 194, 256, 320, 385, 386, 387, 513, 514, 515, 516, 517, 518, 519, 640, 641, 704, 768, 1985, 1986, 1987, 2112, 2113, 2114] Po P123 := KW.step k121 rl_79 rfl f126
        have e128 : (fv P123 79 3).toInt = 0 := congrArg Int32.toInt f125
        refine mp_a (a_aload_n dX6_read_119 rfl) (mpp 120 rfl ?_)
        refine mt_getU (i := 32) (k := 4) (A := 289) hT124 dX6_read_120 rfl rl_0 (by decide) rfl (by decide) rfl un_8 (mpp 123 rfl ?_)
        refine mt_callv (i := 225) (q' := q_106) (As := []) (rest := []) hT124 dX6_read_123 rfl qm_106 (by decide) rfl rl_289 (by decide) rfl (Nat.le_of_ble_eq_true rfl) rfl ⟨rfl, rfl⟩ ⟨Nat.le_of_ble_eq_true rfl, Nat.le_of_ble_eq_true rfl⟩ (EvP.mono (by decide) (c_CS_clear_Script hT124 )) (fun r129 P130 g131 => mpp 126 rfl ?_)
        obtain ⟨⟨rfl, g133⟩, hT134, k135, R136⟩ := g131
        have k137 : KW [9, 10, 11, 12, 65, 66, 67, 192, 193, 194, 256, 320, 385, 386, 387, 513, 514, 515, 516, 517, 518, 519, 640, 641, 704, 768, 1985, 1986, 1987, 2112, 2113, 2114] Po P130 := KW.trans k127 k135 rfl
        have g133 : (fv P130 289 1).toInt = 0 := g133
        have g138 : (0 : Int) ≤ (fv P130 289 1).toInt ∧ (fv P130 289 1).toInt ≤ 80 := Typ.rng hT134 rl_289 (by decide) (by decide) rfl
        show MEvP _ none q_94 126 [(0, .ref 0), (1, .int v1), (2, .int v2), (3, .int v3)] [] _ _ _ _
        refine mp_a (a_iload_n dX6_read_126 rfl) (mpp 127 rfl ?_)
        refine mp_Tb (t := 158) (j_if_ge dX6_read_127) (by decide) (fun c139 => ?_) (fun c139 => mpp 130 rfl ?_)
        · have c139 : v3.toInt ≥ 0 := ti_ge c139
          refine mp_a (a_aload_n dX6_read_158 rfl) (mpp 159 rfl ?_)
          refine mt_getU (i := 25) (k := 3) (A := 79) hT134 dX6_read_159 rfl rl_0 (by decide) rfl (by decide) rfl un_6 (mpp 162 rfl ?_)
          refine mp_a (a_aload_n dX6_read_162 rfl) (mpp 163 rfl ?_)
          refine mt_getR (i := 16) (k := 1) hT134 dX6_read_163 rfl rl_0 (by decide) rfl (by decide) rfl (fun q140 => mpp 166 rfl ?_)
          generalize rv P130 0 1 = b141 at q140 ⊢
          refine mt_callv (i := 72) (q' := q_15) (As := [.ref b141]) (rest := []) hT134 dX6_read_166 rfl qm_15 (by decide) rfl rl_79 (by decide) rfl (Nat.le_of_ble_eq_true rfl) rfl ⟨rfl, rfl⟩ ⟨Nat.le_of_ble_eq_true rfl, Nat.le_of_ble_eq_true rfl⟩ (EvP.mono (by decide) (c_CH_push_History_State hT134 q140)) (fun r142 P143 g144 => mpp 169 rfl ?_)
          obtain ⟨⟨rfl, g146⟩, hT147, k148, R149⟩ := g144
          have k150 : KW [9, 10, 11, 12, 65, 66, 67, 192, 193, 194, 256, 320, 385, 386, 387, 513, 514, 515, 516, 517, 518, 519, 640, 641, 704, 768, 1985, 1986, 1987, 2112, 2113, 2114] Po P143 := KW.trans k137 k148 rfl
          show MEvP _ none q_94 169 [(0, .ref 0), (1, .int v1), (2, .int v2), (3, .int v3)] [] _ _ _ _
          refine mp_a (a_iload_n dX6_read_169 rfl) (mpp 170 rfl ?_)
          have e151 : (fv P143 289 1).toInt = (fv P130 289 1).toInt := congrArg Int32.toInt (KW.at k148 1 rl_289 rfl)
          have u152 : (fv P143 289 1).toInt = 0 := by omega
          exact mp_iret ⟨⟨_, rfl, u152⟩, hT147, k150, trivial⟩ dX6_read_170 (Or.inl rfl)
        · have c139 : v3.toInt < 0 := ti_ge_n c139
          refine mp_a (a_aload_n dX6_read_130 rfl) (mpp 131 rfl ?_)
          refine mt_getU (i := 10) (k := 0) (A := 1) hT134 dX6_read_131 rfl rl_0 (by decide) rfl (by decide) rfl un_31 (mpp 134 rfl ?_)
          refine mp_a (a_aload_n dX6_read_134 rfl) (mpp 135 rfl ?_)
          refine mt_getR (i := 16) (k := 1) hT134 dX6_read_135 rfl rl_0 (by decide) rfl (by decide) rfl (fun q153 => mpp 138 rfl ?_)
          generalize rv P130 0 1 = b154 at q153 ⊢
          refine mt_callv (i := 228) (q' := q_17) (As := [.ref b154]) (rest := []) hT134 dX6_read_138 rfl qm_17 (by decide) rfl rl_1 (by decide) rfl (Nat.le_of_ble_eq_true rfl) rfl ⟨rfl, rfl⟩ ⟨Nat.le_of_ble_eq_true rfl, Nat.le_of_ble_eq_true rfl⟩ (EvP.mono (by decide) (c_CS_copyFrom_NState_State hT134 q153)) (fun r155 P156 g157 => mpp 141 rfl ?_)
          obtain ⟨⟨rfl, g159⟩, hT160, k161, R162⟩ := g157
          have k163 : KW [9, 10, 11, 12, 65, 66, 67, 192, 193, 194, 256, 320, 385, 386, 387, 513, 514, 515, 516, 517, 518, 519, 640, 641, 704, 768, 1985, 1986, 1987, 2112, 2113, 2114] Po P156 := KW.trans k137 k161 rfl
          show MEvP _ none q_94 141 [(0, .ref 0), (1, .int v1), (2, .int v2), (3, .int v3)] [] _ _ _ _
          refine mp_a (a_iload_n dX6_read_141 rfl) (mpp 142 rfl ?_)
          refine mp_a (a_sipush (v := -1003) dX6_read_142 rfl) (mpp 145 rfl ?_)
          refine mp_Tb (t := 154) (j_icmp_ne dX6_read_145) (by decide) (fun c164 => ?_) (fun c164 => mpp 148 rfl ?_)
          · have c164 : v3.toInt ≠ (-1003) := ti_ne c164
            refine mp_a (a_sipush (v := -1002) dX6_read_154 rfl) (mpp 157 rfl ?_)
            have e165 : (fv P156 289 1).toInt = (fv P130 289 1).toInt := congrArg Int32.toInt (KW.at k161 1 rl_289 rfl)
            have u166 : (fv P156 289 1).toInt = 0 := by omega
            exact mp_iret ⟨⟨_, rfl, u166⟩, hT160, k163, trivial⟩ dX6_read_157 (Or.inl rfl)
          · have c164 : v3.toInt = (-1003) := ti_ne_n c164
            refine mp_a (a_sipush (v := -1003) dX6_read_148 rfl) (mpp 151 rfl ?_)
            refine mp_a (a_goto (t := 157) dX6_read_151 (by decide)) ?_
            have e167 : (fv P156 289 1).toInt = (fv P130 289 1).toInt := congrArg Int32.toInt (KW.at k161 1 rl_289 rfl)
            have u168 : (fv P156 289 1).toInt = 0 := by omega
            exact mp_iret ⟨⟨_, rfl, u168⟩, hT160, k163, trivial⟩ dX6_read_157 (Or.inl rfl)
      · have c116 : x110.toInt ≠ 0 := ti_eq_n c116
        refine mp_a (a_aload_n dX6_read_78 rfl) (mpp 79 rfl ?_)
        refine mp_a (a_iload_n dX6_read_79 rfl) (mpp 80 rfl ?_)
        refine mt_putI (i := 57) (k := 9) (x := v2) hT112 dX6_read_80 rfl rl_0 (by decide) rfl (by decide) rfl (ti_full v2) rfl rfl (fun P169 hT170 f171 f172 => mpp 83 rfl ?_)
        have k173 : KW [9, 10, 11, 12, 65, 66, 67, 192, 193, 194, 256, 320, 385, 386, 387, 513, 514, 515, 516, 517, 518, 519, 640, 641, 704, 768, 1985, 1986, 1987, 2112, 2113, 2114] Po P169 := KW.step k115 rl_0 rfl f172
        have e174 : (fv P169 0 9).toInt = v2.toInt := congrArg Int32.toInt f171
        refine mp_a (a_aload_n dX6_read_83 rfl) (mpp 84 rfl ?_)
        refine mt_callv (i := 239) (q' := q_107) (As := []) (rest := []) hT170 dX6_read_84 rfl qm_107 (by decide) rfl rl_0 (by decide) rfl (Nat.le_of_ble_eq_true rfl) rfl ⟨rfl, rfl⟩ ⟨Nat.le_of_ble_eq_true rfl, Nat.le_of_ble_eq_true rfl⟩ (EvP.mono (by decide) (c_F_perform hT170 )) (fun r175 P176 g177 => mpp 87 rfl ?_)
        obtain ⟨⟨x178, rfl, g179⟩, hT180, k181, R182⟩ := g177
        have k183 : KW [9, 10, 11, 12, 65, 66, 67, 192, 193, 194, 256, 320, 385, 386, 387, 513, 514, 515, 516, 517, 518, 519, 640, 641, 704, 768, 1985, 1986, 1987, 2112, 2113, 2114] Po P176 := KW.trans k173 k181 rfl
        have wx178 := ti_full x178
        show MEvP _ none q_94 87 [(0, .ref 0), (1, .int v1), (2, .int v2), (3, .int v3)] [.int x178] _ _ _ _
        refine mp_a (a_istore_n (L' := [(3, .int x178), (0, .ref 0), (1, .int v1), (2, .int v2)]) dX6_read_87 (by decide) rfl) (mpp 88 rfl ?_)
        obtain ⟨z184, h185⟩ := ti_ex (v2 + 1 : Int32)
        have wz184 := ti_full z184
        refine mp_a (a_iinc (v := z184) (L' := [(2, .int z184), (3, .int x178), (0, .ref 0), (1, .int v1)]) dX6_read_88 (by decide) rfl h185 rfl) (mpp 91 rfl ?_)
        try have e186 : z184.toInt = v2.toInt + 1 := ti_addz h185 rfl rfl (by omega) (by omega)
        refine mp_a (a_aload_n dX6_read_91 rfl) (mpp 92 rfl ?_)
        refine mt_getU (i := 32) (k := 4) (A := 289) hT180 dX6_read_92 rfl rl_0 (by decide) rfl (by decide) rfl un_8 (mpp 95 rfl ?_)
        refine mp_a (a_bipush (v := 59) dX6_read_95 rfl) (mpp 97 rfl ?_)
        refine mt_callv (i := 242) (q' := q_100) (As := [.int 59]) (rest := []) hT180 dX6_read_97 rfl qm_100 (by decide) rfl rl_289 (by decide) rfl (Nat.le_of_ble_eq_true rfl) rfl ⟨rfl, rfl⟩ ⟨Nat.le_of_ble_eq_true rfl, Nat.le_of_ble_eq_true rfl⟩ (EvP.mono (by decide) (c_CS_takeSign_Script hT180 )) (fun r187 P188 g189 => mpp 100 rfl ?_)
        obtain ⟨⟨x190, rfl, g191⟩, hT192, k193, R194⟩ := g189
        have k195 : KW [9, 10, 11, 12, 65, 66, 67, 192, 193, 194, 256, 320, 385, 386, 387, 513, 514, 515, 516, 517, 518, 519, 640, 641, 704, 768, 1985, 1986, 1987, 2112, 2113, 2114] Po P188 := KW.trans k183 k193 rfl
        have wx190 := ti_full x190
        have g191 : 0 ≤ x190.toInt ∧ x190.toInt ≤ 1 := g191
        show MEvP _ none q_94 100 [(2, .int z184), (3, .int x178), (0, .ref 0), (1, .int v1)] [.int x190] _ _ _ _
        refine mp_t (s_pop dX6_read_100 rfl) (mpp 101 rfl ?_)
        refine mp_a (a_goto (t := 58) dX6_read_101 (by decide)) ?_
        refine MEvP.less (L := [(0, .ref 0), (1, .int v1), (2, .int z184), (3, .int x178)]) rfl rfl ⟨rfl, rfl, rfl, rfl, trivial⟩ ?_
        have i196 : 0 ≤ z184.toInt := by omega
        exact ih _ (by omega) _ _ _ P188 hT192 k195 i196 rfl

set_option maxHeartbeats 4000000 in
theorem c_F_read {Po : mP}  (hT : Typ Po)   : EvP 7 94 [.ref 0] Po (fun r P' => (∃ x : Int32, r = some (.int x) ∧ ((fv P' 289 1).toInt = 0)) ∧ Typ P' ∧ KW [9, 10, 11, 12, 65, 66, 67, 192, 193, 194, 256, 320, 385, 386, 387, 513, 514, 515, 516, 517, 518, 519, 640, 641, 704, 768, 1985, 1986, 1987, 2112, 2113, 2114] Po P' ∧ True) := by
  refine EvP.of qm_94 (Nat.le_of_ble_eq_true rfl) rfl ?_
  show MEvP _ none q_94 0 [(0, .ref 0)] [] _ 0 0 _
  refine mp_a (a_aload_n dX6_read_0 rfl) (mpp 1 rfl ?_)
  refine mt_getU (i := 32) (k := 4) (A := 289) hT dX6_read_1 rfl rl_0 (by decide) rfl (by decide) rfl un_8 (mpp 4 rfl ?_)
  refine mt_callv (i := 222) (q' := q_95) (As := []) (rest := []) hT dX6_read_4 rfl qm_95 (by decide) rfl rl_289 (by decide) rfl (Nat.le_of_ble_eq_true rfl) rfl ⟨rfl, rfl⟩ ⟨Nat.le_of_ble_eq_true rfl, Nat.le_of_ble_eq_true rfl⟩ (EvP.mono (by decide) (c_CS_faultPosition_Script hT )) (fun r1 P2 g3 => mpp 7 rfl ?_)
  obtain ⟨⟨x4, rfl, g5⟩, hT6, k7, R8⟩ := g3
  have k9 : KW [9, 10, 11, 12, 65, 66, 67, 192, 193, 194, 256, 320, 385, 386, 387, 513, 514, 515, 516, 517, 518, 519, 640, 641, 704, 768, 1985, 1986, 1987, 2112, 2113, 2114] Po P2 := KW.trans KW.refl k7 rfl
  have wx4 := ti_full x4
  show MEvP _ none q_94 7 [(0, .ref 0)] [.int x4] _ _ _ _
  refine mp_a (a_istore_n (L' := [(1, .int x4), (0, .ref 0)]) dX6_read_7 (by decide) rfl) (mpp 8 rfl ?_)
  refine mp_a (a_iload_n dX6_read_8 rfl) (mpp 9 rfl ?_)
  refine mp_a (a_sipush (v := -1004) dX6_read_9 rfl) (mpp 12 rfl ?_)
  refine mp_Tb (t := 28) (j_icmp_eq dX6_read_12) (by decide) (fun c10 => ?_) (fun c10 => mpp 15 rfl ?_)
  · have c10 : x4.toInt = (-1004) := ti_eq c10
    refine mp_a (a_aload_n dX6_read_28 rfl) (mpp 29 rfl ?_)
    refine mt_getR (i := 16) (k := 1) hT6 dX6_read_29 rfl rl_0 (by decide) rfl (by decide) rfl (fun q11 => mpp 32 rfl ?_)
    generalize rv P2 0 1 = b12 at q11 ⊢
    refine mp_a (a_aload_n dX6_read_32 rfl) (mpp 33 rfl ?_)
    refine mt_getU (i := 10) (k := 0) (A := 1) hT6 dX6_read_33 rfl rl_0 (by decide) rfl (by decide) rfl un_31 (mpp 36 rfl ?_)
    refine mt_callv (i := 228) (q' := q_17) (As := [.ref 1]) (rest := []) hT6 dX6_read_36 rfl qm_17 (by decide) rfl q11 (by decide) rfl (Nat.le_of_ble_eq_true rfl) rfl ⟨rfl, rfl⟩ ⟨Nat.le_of_ble_eq_true rfl, Nat.le_of_ble_eq_true rfl⟩ (EvP.mono (by decide) (c_CS_copyFrom_State_NState hT6 q11)) (fun r13 P14 g15 => mpp 39 rfl ?_)
    obtain ⟨⟨rfl, g17⟩, hT18, k19, R20⟩ := g15
    have k21 : KW [9, 10, 11, 12, 65, 66, 67, 192, 193, 194, 256, 320, 385, 386, 387, 513, 514, 515, 516, 517, 518, 519, 640, 641, 704, 768, 1985, 1986, 1987, 2112, 2113, 2114] Po P14 := KW.trans k9 k19 rfl
    show MEvP _ none q_94 39 [(1, .int x4), (0, .ref 0)] [] _ _ _ _
    refine mp_a (a_aload_n dX6_read_39 rfl) (mpp 40 rfl ?_)
    refine mt_getU (i := 25) (k := 3) (A := 79) hT18 dX6_read_40 rfl rl_0 (by decide) rfl (by decide) rfl un_6 (mpp 43 rfl ?_)
    refine mp_a (a_iconst (v := 1) dX6_read_43 rfl) (mpp 44 rfl ?_)
    refine mt_putI (i := 230) (k := 3) (x := 1) hT18 dX6_read_44 rfl rl_79 (by decide) rfl (by decide) rfl (by decide) rfl rfl (fun P22 hT23 f24 f25 => mpp 47 rfl ?_)
    have k26 : KW [9, 10, 11, 12, 65, 66, 67, 192, 193, 194, 256, 320, 385, 386, 387, 513, 514, 515, 516, 517, 518, 519, 640, 641, 704, 768, 1985, 1986, 1987, 2112, 2113, 2114] Po P22 := KW.step k21 rl_79 rfl f25
    have e27 : (fv P22 79 3).toInt = 1 := congrArg Int32.toInt f24
    refine mp_a (a_aload_n dX6_read_47 rfl) (mpp 48 rfl ?_)
    refine mt_getU (i := 32) (k := 4) (A := 289) hT23 dX6_read_48 rfl rl_0 (by decide) rfl (by decide) rfl un_8 (mpp 51 rfl ?_)
    refine mt_callv (i := 233) (q' := q_96) (As := []) (rest := []) hT23 dX6_read_51 rfl qm_96 (by decide) rfl rl_289 (by decide) rfl (Nat.le_of_ble_eq_true rfl) rfl ⟨rfl, rfl⟩ ⟨Nat.le_of_ble_eq_true rfl, Nat.le_of_ble_eq_true rfl⟩ (EvP.mono (by decide) (c_CS_rewind_Script hT23 )) (fun r28 P29 g30 => mpp 54 rfl ?_)
    obtain ⟨⟨rfl, g32⟩, hT33, k34, R35⟩ := g30
    have k36 : KW [9, 10, 11, 12, 65, 66, 67, 192, 193, 194, 256, 320, 385, 386, 387, 513, 514, 515, 516, 517, 518, 519, 640, 641, 704, 768, 1985, 1986, 1987, 2112, 2113, 2114] Po P29 := KW.trans k26 k34 rfl
    show MEvP _ none q_94 54 [(1, .int x4), (0, .ref 0)] [] _ _ _ _
    refine mp_a (a_iconst (v := 0) dX6_read_54 rfl) (mpp 55 rfl ?_)
    refine mp_a (a_istore_n (L' := [(2, .int 0), (1, .int x4), (0, .ref 0)]) dX6_read_55 (by decide) rfl) (mpp 56 rfl ?_)
    refine mp_a (a_iconst (v := 0) dX6_read_56 rfl) (mpp 57 rfl ?_)
    refine mp_a (a_istore_n (L' := [(3, .int 0), (2, .int 0), (1, .int x4), (0, .ref 0)]) dX6_read_57 (by decide) rfl) (mpp 58 rfl ?_)
    refine MEvP.less (L := [(0, .ref 0), (1, .int x4), (2, .int 0), (3, .int 0)]) rfl rfl ⟨rfl, rfl, rfl, rfl, trivial⟩ ?_
    have i37 : 0 ≤ (0 : Int) := by omega
    exact c_F_read_l58   _ _ _ _ P29 hT33 k36 i37 rfl
  · have c10 : x4.toInt ≠ (-1004) := ti_eq_n c10
    refine mp_a (a_aload_n dX6_read_15 rfl) (mpp 16 rfl ?_)
    refine mt_getU (i := 32) (k := 4) (A := 289) hT6 dX6_read_16 rfl rl_0 (by decide) rfl (by decide) rfl un_8 (mpp 19 rfl ?_)
    refine mt_callv (i := 225) (q' := q_106) (As := []) (rest := []) hT6 dX6_read_19 rfl qm_106 (by decide) rfl rl_289 (by decide) rfl (Nat.le_of_ble_eq_true rfl) rfl ⟨rfl, rfl⟩ ⟨Nat.le_of_ble_eq_true rfl, Nat.le_of_ble_eq_true rfl⟩ (EvP.mono (by decide) (c_CS_clear_Script hT6 )) (fun r38 P39 g40 => mpp 22 rfl ?_)
    obtain ⟨⟨rfl, g42⟩, hT43, k44, R45⟩ := g40
    have k46 : KW [9, 10, 11, 12, 65, 66, 67, 192, 193, 194, 256, 320, 385, 386, 387, 513, 514, 515, 516, 517, 518, 519, 640, 641, 704, 768, 1985, 1986, 1987, 2112, 2113, 2114] Po P39 := KW.trans k9 k44 rfl
    have g42 : (fv P39 289 1).toInt = 0 := g42
    have g47 : (0 : Int) ≤ (fv P39 289 1).toInt ∧ (fv P39 289 1).toInt ≤ 80 := Typ.rng hT43 rl_289 (by decide) (by decide) rfl
    show MEvP _ none q_94 22 [(1, .int x4), (0, .ref 0)] [] _ _ _ _
    refine mp_a (a_sipush (v := -2000) dX6_read_22 rfl) (mpp 25 rfl ?_)
    refine mp_a (a_iload_n dX6_read_25 rfl) (mpp 26 rfl ?_)
    obtain ⟨z48, h49⟩ := ti_ex ((-2000) - x4 : Int32)
    have wz48 := ti_full z48
    refine mp_t (s_isub (v := z48) dX6_read_26 h49) (mpp 27 rfl ?_)
    try have e50 : z48.toInt = (-2000) - x4.toInt := ti_subz h49 rfl rfl (by omega) (by omega)
    have u51 : (fv P39 289 1).toInt = 0 := by omega
    exact mp_iret ⟨⟨_, rfl, u51⟩, hT43, k46, trivial⟩ dX6_read_27 (Or.inl rfl)

set_option maxHeartbeats 4000000 in
theorem c_F_refusal {Po : mP} {t1 : Int32} (hT : Typ Po)   : EvP 1 109 [.ref 0, .int t1] Po (fun r P' => (∃ x : Int32, r = some (.int x) ∧ (True)) ∧ P' = Po) := by
  refine EvP.of qm_109 (Nat.le_of_ble_eq_true rfl) rfl ?_
  show MEvP _ none q_109 0 [(0, .ref 0), (1, .int t1)] [] _ 0 0 _
  refine mp_a (a_iload_n dX6_refusal_0 rfl) (mpp 1 rfl ?_)
  refine mp_Tb (t := 9) (j_if_lt dX6_refusal_1) (by decide) (fun c1 => ?_) (fun c1 => mpp 4 rfl ?_)
  · have c1 : t1.toInt < 0 := ti_lt c1
    refine mp_a (a_sipush (v := -1002) dX6_refusal_9 rfl) (mpp 12 rfl ?_)
    exact mp_iret ⟨⟨_, rfl, trivial⟩, rfl⟩ dX6_refusal_12 (Or.inl rfl)
  · have c1 : t1.toInt ≥ 0 := ti_lt_n c1
    refine mp_a (a_iload_n dX6_refusal_4 rfl) (mpp 5 rfl ?_)
    refine mp_a (a_iconst (v := 2) dX6_refusal_5 rfl) (mpp 6 rfl ?_)
    refine mp_Tb (t := 13) (j_icmp_le dX6_refusal_6) (by decide) (fun c2 => ?_) (fun c2 => mpp 9 rfl ?_)
    · have c2 : t1.toInt ≤ 2 := ti_le c2
      refine mp_a (a_aload_n dX6_refusal_13 rfl) (mpp 14 rfl ?_)
      have g3 := ti_full (fv Po 0 10)
      refine mt_getI (i := 246) (k := 10) hT dX6_refusal_14 rfl rl_0 (by decide) rfl (by decide) rfl (fun g4 g5 => mpp 17 rfl ?_)
      refine mp_Tb (t := 24) (j_if_ne dX6_refusal_17) (by decide) (fun c6 => ?_) (fun c6 => mpp 20 rfl ?_)
      · have c6 : (fv Po 0 10).toInt ≠ 0 := ti_ne c6
        refine mp_a (a_iload_n dX6_refusal_24 rfl) (mpp 25 rfl ?_)
        refine mp_Tb (t := 33) (j_if_ne dX6_refusal_25) (by decide) (fun c7 => ?_) (fun c7 => mpp 28 rfl ?_)
        · have c7 : t1.toInt ≠ 0 := ti_ne c7
          refine mp_a (a_iload_n dX6_refusal_33 rfl) (mpp 34 rfl ?_)
          refine mp_a (a_iconst (v := 1) dX6_refusal_34 rfl) (mpp 35 rfl ?_)
          refine mp_Tb (t := 45) (j_icmp_ne dX6_refusal_35) (by decide) (fun c8 => ?_) (fun c8 => mpp 38 rfl ?_)
          · have c8 : t1.toInt ≠ 1 := ti_ne c8
            refine mp_a (a_aload_n dX6_refusal_45 rfl) (mpp 46 rfl ?_)
            have g9 := ti_full (fv Po 0 12)
            refine mt_getI (i := 61) (k := 12) hT dX6_refusal_46 rfl rl_0 (by decide) rfl (by decide) rfl (fun g10 g11 => mpp 49 rfl ?_)
            exact mp_iret ⟨⟨_, rfl, trivial⟩, rfl⟩ dX6_refusal_49 (Or.inl rfl)
          · have c8 : t1.toInt = 1 := ti_ne_n c8
            refine mp_a (a_aload_n dX6_refusal_38 rfl) (mpp 39 rfl ?_)
            have g12 := ti_full (fv Po 0 11)
            refine mt_getI (i := 249) (k := 11) hT dX6_refusal_39 rfl rl_0 (by decide) rfl (by decide) rfl (fun g13 g14 => mpp 42 rfl ?_)
            refine mp_a (a_goto (t := 49) dX6_refusal_42 (by decide)) ?_
            exact mp_iret ⟨⟨_, rfl, trivial⟩, rfl⟩ dX6_refusal_49 (Or.inl rfl)
        · have c7 : t1.toInt = 0 := ti_ne_n c7
          refine mp_a (a_aload_n dX6_refusal_28 rfl) (mpp 29 rfl ?_)
          refine mt_getI (i := 246) (k := 10) hT dX6_refusal_29 rfl rl_0 (by decide) rfl (by decide) rfl (fun g15 g16 => mpp 32 rfl ?_)
          exact mp_iret ⟨⟨_, rfl, trivial⟩, rfl⟩ dX6_refusal_32 (Or.inl rfl)
      · have c6 : (fv Po 0 10).toInt = 0 := ti_ne_n c6
        refine mp_a (a_sipush (v := -1004) dX6_refusal_20 rfl) (mpp 23 rfl ?_)
        exact mp_iret ⟨⟨_, rfl, trivial⟩, rfl⟩ dX6_refusal_23 (Or.inl rfl)
    · have c2 : t1.toInt > 2 := ti_le_n c2
      refine mp_a (a_sipush (v := -1002) dX6_refusal_9 rfl) (mpp 12 rfl ?_)
      exact mp_iret ⟨⟨_, rfl, trivial⟩, rfl⟩ dX6_refusal_12 (Or.inl rfl)

set_option maxHeartbeats 4000000 in
theorem c_CS_countOfKind_NState_l4 {Po : mP} {t1 : Int32} (hT : Typ Po)   : ∀ (n : Nat) (v2 : Int32) (v3 : Int32), (0 ≤ v3.toInt) → (2147483647 - v3.toInt).toNat = n → MEvP 1 none q_111 4 [(0, .ref 1), (1, .int t1), (2, .int v2), (3, .int v3)] [] Po 0 0 (fun r P' => (∃ x : Int32, r = some (.int x) ∧ (True)) ∧ P' = Po) := by
  intro n
  induction n using Nat.strongRecOn with | _ n ih => ?_
  intro v2 v3 i_0 hm
  have w_t1 := ti_full t1
  have w_v2 := ti_full v2
  have w_v3 := ti_full v3
  refine mp_a (a_iload_n dX5_countOfKind_4 rfl) (mpp 5 rfl ?_)
  refine mp_a (a_aload_n dX5_countOfKind_5 rfl) (mpp 6 rfl ?_)
  have g1 := ti_full (fv Po 1 1)
  refine mt_getI (i := 22) (k := 1) hT dX5_countOfKind_6 rfl rl_1 (by decide) rfl (by decide) rfl (fun g2 g3 => mpp 9 rfl ?_)
  refine mp_Tb (t := 42) (j_icmp_ge dX5_countOfKind_9) (by decide) (fun c4 => ?_) (fun c4 => mpp 12 rfl ?_)
  · have c4 : v3.toInt ≥ (fv Po 1 1).toInt := ti_ge c4
    refine mp_a (a_iload_n dX5_countOfKind_42 rfl) (mpp 43 rfl ?_)
    exact mp_iret ⟨⟨_, rfl, trivial⟩, rfl⟩ dX5_countOfKind_43 (Or.inl rfl)
  · have c4 : v3.toInt < (fv Po 1 1).toInt := ti_ge_n c4
    refine mp_a (a_aload_n dX5_countOfKind_12 rfl) (mpp 13 rfl ?_)
    refine mp_a (a_iload_n dX5_countOfKind_13 rfl) (mpp 14 rfl ?_)
    refine mt_callv (i := 28) (q' := q_9) (As := [.int v3]) (rest := []) hT dX5_countOfKind_14 rfl qm_9 (by decide) rfl rl_1 (by decide) rfl (Nat.le_of_ble_eq_true rfl) rfl ⟨rfl, rfl⟩ ⟨Nat.le_of_ble_eq_true rfl, Nat.le_of_ble_eq_true rfl⟩ (EvP.mono (by decide) (c_CS_pieceAt_NState hT )) (fun r5 P6 g7 => mpp 17 rfl ?_)
    obtain ⟨g7, e8⟩ := g7
    have e8 := e8.symm
    subst e8
    rcases g7 with rfl | ⟨b9, rfl, q10, q10r⟩
    · show MEvP _ none q_111 17 [(0, .ref 1), (1, .int t1), (2, .int v2), (3, .int v3)] [.null] _ _ _ _
      refine mp_a (a_astoreN (L' := [(4, .null), (0, .ref 1), (1, .int t1), (2, .int v2), (3, .int v3)]) dX5_countOfKind_17 (by decide) rfl) (mpp 19 rfl ?_)
      refine mp_a (a_aloadN dX5_countOfKind_19 rfl) (mpp 21 rfl ?_)
      refine mp_t (s_ifnullN (t := 36) dX5_countOfKind_21 (by decide)) ?_
      obtain ⟨z11, h12⟩ := ti_ex (v3 + 1 : Int32)
      have wz11 := ti_full z11
      refine mp_a (a_iinc (v := z11) (L' := [(3, .int z11), (4, .null), (0, .ref 1), (1, .int t1), (2, .int v2)]) dX5_countOfKind_36 (by decide) rfl h12 rfl) (mpp 39 rfl ?_)
      try have e13 : z11.toInt = v3.toInt + 1 := ti_addz h12 rfl rfl (by omega) (by omega)
      refine mp_a (a_goto (t := 4) dX5_countOfKind_39 (by decide)) ?_
      refine MEvP.less (L := [(0, .ref 1), (1, .int t1), (2, .int v2), (3, .int z11)]) rfl rfl ⟨rfl, rfl, rfl, rfl, trivial⟩ ?_
      have i14 : 0 ≤ z11.toInt := by omega
      exact ih _ (by omega) _ _ i14 rfl
    · show MEvP _ none q_111 17 [(0, .ref 1), (1, .int t1), (2, .int v2), (3, .int v3)] [.ref b9] _ _ _ _
      refine mp_a (a_astore (L' := [(4, .ref b9), (0, .ref 1), (1, .int t1), (2, .int v2), (3, .int v3)]) dX5_countOfKind_17 (by decide) rfl) (mpp 19 rfl ?_)
      refine mp_a (a_aload dX5_countOfKind_19 rfl) (mpp 21 rfl ?_)
      refine mp_t (s_ifnullR dX5_countOfKind_21) (mpp 24 rfl ?_)
      refine mp_a (a_aload dX5_countOfKind_24 rfl) (mpp 26 rfl ?_)
      have g15 := ti_full (fv Po b9 0)
      refine mt_getI (i := 43) (k := 0) hT dX5_countOfKind_26 rfl q10 (by decide) rfl (by decide) rfl (fun g16 g17 => mpp 29 rfl ?_)
      refine mp_a (a_iload_n dX5_countOfKind_29 rfl) (mpp 30 rfl ?_)
      refine mp_Tb (t := 36) (j_icmp_ne dX5_countOfKind_30) (by decide) (fun c18 => ?_) (fun c18 => mpp 33 rfl ?_)
      · have c18 : (fv Po b9 0).toInt ≠ t1.toInt := ti_ne c18
        obtain ⟨z19, h20⟩ := ti_ex (v3 + 1 : Int32)
        have wz19 := ti_full z19
        refine mp_a (a_iinc (v := z19) (L' := [(3, .int z19), (4, .ref b9), (0, .ref 1), (1, .int t1), (2, .int v2)]) dX5_countOfKind_36 (by decide) rfl h20 rfl) (mpp 39 rfl ?_)
        try have e21 : z19.toInt = v3.toInt + 1 := ti_addz h20 rfl rfl (by omega) (by omega)
        refine mp_a (a_goto (t := 4) dX5_countOfKind_39 (by decide)) ?_
        refine MEvP.less (L := [(0, .ref 1), (1, .int t1), (2, .int v2), (3, .int z19)]) rfl rfl ⟨rfl, rfl, rfl, rfl, trivial⟩ ?_
        have i22 : 0 ≤ z19.toInt := by omega
        exact ih _ (by omega) _ _ i22 rfl
      · have c18 : (fv Po b9 0).toInt = t1.toInt := ti_ne_n c18
        obtain ⟨z23, h24⟩ := ti_ex (v2 + 1 : Int32)
        have wz23 := ti_full z23
        refine mp_a (a_iinc (v := z23) (L' := [(2, .int z23), (4, .ref b9), (0, .ref 1), (1, .int t1), (3, .int v3)]) dX5_countOfKind_33 (by decide) rfl h24 rfl) (mpp 36 rfl ?_)
        try have e25 : z23.toInt = v2.toInt + 1 := ti_addz h24 rfl rfl (by omega) (by omega)
        obtain ⟨z26, h27⟩ := ti_ex (v3 + 1 : Int32)
        have wz26 := ti_full z26
        refine mp_a (a_iinc (v := z26) (L' := [(3, .int z26), (2, .int z23), (4, .ref b9), (0, .ref 1), (1, .int t1)]) dX5_countOfKind_36 (by decide) rfl h27 rfl) (mpp 39 rfl ?_)
        try have e28 : z26.toInt = v3.toInt + 1 := ti_addz h27 rfl rfl (by omega) (by omega)
        refine mp_a (a_goto (t := 4) dX5_countOfKind_39 (by decide)) ?_
        refine MEvP.less (L := [(0, .ref 1), (1, .int t1), (2, .int z23), (3, .int z26)]) rfl rfl ⟨rfl, rfl, rfl, rfl, trivial⟩ ?_
        have i29 : 0 ≤ z26.toInt := by omega
        exact ih _ (by omega) _ _ i29 rfl

set_option maxHeartbeats 4000000 in
theorem c_CS_countOfKind_NState {Po : mP} {t1 : Int32} (hT : Typ Po)   : EvP 2 111 [.ref 1, .int t1] Po (fun r P' => (∃ x : Int32, r = some (.int x) ∧ (True)) ∧ P' = Po) := by
  refine EvP.of qm_111 (Nat.le_of_ble_eq_true rfl) rfl ?_
  show MEvP _ none q_111 0 [(0, .ref 1), (1, .int t1)] [] _ 0 0 _
  refine mp_a (a_iconst (v := 0) dX5_countOfKind_0 rfl) (mpp 1 rfl ?_)
  refine mp_a (a_istore_n (L' := [(2, .int 0), (0, .ref 1), (1, .int t1)]) dX5_countOfKind_1 (by decide) rfl) (mpp 2 rfl ?_)
  refine mp_a (a_iconst (v := 0) dX5_countOfKind_2 rfl) (mpp 3 rfl ?_)
  refine mp_a (a_istore_n (L' := [(3, .int 0), (2, .int 0), (0, .ref 1), (1, .int t1)]) dX5_countOfKind_3 (by decide) rfl) (mpp 4 rfl ?_)
  refine MEvP.less (L := [(0, .ref 1), (1, .int t1), (2, .int 0), (3, .int 0)]) rfl rfl ⟨rfl, rfl, rfl, rfl, trivial⟩ ?_
  have i1 : 0 ≤ (0 : Int) := by omega
  exact c_CS_countOfKind_NState_l4 hT  _ _ _ i1 rfl

set_option maxHeartbeats 4000000 in
theorem c_CS_foldedCount_NState_l4 {Po : mP}  (hT : Typ Po)   : ∀ (n : Nat) (v1 : Int32) (v2 : Int32), (0 ≤ v2.toInt) → (2147483647 - v2.toInt).toNat = n → MEvP 1 none q_112 4 [(0, .ref 1), (1, .int v1), (2, .int v2)] [] Po 0 0 (fun r P' => (∃ x : Int32, r = some (.int x) ∧ (True)) ∧ P' = Po) := by
  intro n
  induction n using Nat.strongRecOn with | _ n ih => ?_
  intro v1 v2 i_0 hm
  have w_v1 := ti_full v1
  have w_v2 := ti_full v2
  refine mp_a (a_iload_n dX5_foldedCount_4 rfl) (mpp 5 rfl ?_)
  refine mp_a (a_aload_n dX5_foldedCount_5 rfl) (mpp 6 rfl ?_)
  have g1 := ti_full (fv Po 1 1)
  refine mt_getI (i := 22) (k := 1) hT dX5_foldedCount_6 rfl rl_1 (by decide) rfl (by decide) rfl (fun g2 g3 => mpp 9 rfl ?_)
  refine mp_Tb (t := 38) (j_icmp_ge dX5_foldedCount_9) (by decide) (fun c4 => ?_) (fun c4 => mpp 12 rfl ?_)
  · have c4 : v2.toInt ≥ (fv Po 1 1).toInt := ti_ge c4
    refine mp_a (a_iload_n dX5_foldedCount_38 rfl) (mpp 39 rfl ?_)
    exact mp_iret ⟨⟨_, rfl, trivial⟩, rfl⟩ dX5_foldedCount_39 (Or.inl rfl)
  · have c4 : v2.toInt < (fv Po 1 1).toInt := ti_ge_n c4
    refine mp_a (a_aload_n dX5_foldedCount_12 rfl) (mpp 13 rfl ?_)
    refine mp_a (a_iload_n dX5_foldedCount_13 rfl) (mpp 14 rfl ?_)
    refine mt_callv (i := 28) (q' := q_9) (As := [.int v2]) (rest := []) hT dX5_foldedCount_14 rfl qm_9 (by decide) rfl rl_1 (by decide) rfl (Nat.le_of_ble_eq_true rfl) rfl ⟨rfl, rfl⟩ ⟨Nat.le_of_ble_eq_true rfl, Nat.le_of_ble_eq_true rfl⟩ (EvP.mono (by decide) (c_CS_pieceAt_NState hT )) (fun r5 P6 g7 => mpp 17 rfl ?_)
    obtain ⟨g7, e8⟩ := g7
    have e8 := e8.symm
    subst e8
    rcases g7 with rfl | ⟨b9, rfl, q10, q10r⟩
    · show MEvP _ none q_112 17 [(0, .ref 1), (1, .int v1), (2, .int v2)] [.null] _ _ _ _
      refine mp_a (a_astore_nN (L' := [(3, .null), (0, .ref 1), (1, .int v1), (2, .int v2)]) dX5_foldedCount_17 (by decide) rfl) (mpp 18 rfl ?_)
      refine mp_a (a_aload_nN dX5_foldedCount_18 rfl) (mpp 19 rfl ?_)
      refine mp_t (s_ifnullN (t := 32) dX5_foldedCount_19 (by decide)) ?_
      obtain ⟨z11, h12⟩ := ti_ex (v2 + 1 : Int32)
      have wz11 := ti_full z11
      refine mp_a (a_iinc (v := z11) (L' := [(2, .int z11), (3, .null), (0, .ref 1), (1, .int v1)]) dX5_foldedCount_32 (by decide) rfl h12 rfl) (mpp 35 rfl ?_)
      try have e13 : z11.toInt = v2.toInt + 1 := ti_addz h12 rfl rfl (by omega) (by omega)
      refine mp_a (a_goto (t := 4) dX5_foldedCount_35 (by decide)) ?_
      refine MEvP.less (L := [(0, .ref 1), (1, .int v1), (2, .int z11)]) rfl rfl ⟨rfl, rfl, rfl, trivial⟩ ?_
      have i14 : 0 ≤ z11.toInt := by omega
      exact ih _ (by omega) _ _ i14 rfl
    · show MEvP _ none q_112 17 [(0, .ref 1), (1, .int v1), (2, .int v2)] [.ref b9] _ _ _ _
      refine mp_a (a_astore_n (L' := [(3, .ref b9), (0, .ref 1), (1, .int v1), (2, .int v2)]) dX5_foldedCount_17 (by decide) rfl) (mpp 18 rfl ?_)
      refine mp_a (a_aload_n dX5_foldedCount_18 rfl) (mpp 19 rfl ?_)
      refine mp_t (s_ifnullR dX5_foldedCount_19) (mpp 22 rfl ?_)
      refine mp_a (a_aload_n dX5_foldedCount_22 rfl) (mpp 23 rfl ?_)
      have g15 : (0 : Int) ≤ (fv Po b9 2).toInt ∧ (fv Po b9 2).toInt ≤ 1 := Typ.rng hT q10 (by decide) (by decide) rfl
      refine mt_getI (i := 36) (k := 2) hT dX5_foldedCount_23 rfl q10 (by decide) rfl (by decide) rfl (fun g16 g17 => mpp 26 rfl ?_)
      refine mp_Tb (t := 32) (j_if_eq dX5_foldedCount_26) (by decide) (fun c18 => ?_) (fun c18 => mpp 29 rfl ?_)
      · have c18 : (fv Po b9 2).toInt = 0 := ti_eq c18
        obtain ⟨z19, h20⟩ := ti_ex (v2 + 1 : Int32)
        have wz19 := ti_full z19
        refine mp_a (a_iinc (v := z19) (L' := [(2, .int z19), (3, .ref b9), (0, .ref 1), (1, .int v1)]) dX5_foldedCount_32 (by decide) rfl h20 rfl) (mpp 35 rfl ?_)
        try have e21 : z19.toInt = v2.toInt + 1 := ti_addz h20 rfl rfl (by omega) (by omega)
        refine mp_a (a_goto (t := 4) dX5_foldedCount_35 (by decide)) ?_
        refine MEvP.less (L := [(0, .ref 1), (1, .int v1), (2, .int z19)]) rfl rfl ⟨rfl, rfl, rfl, trivial⟩ ?_
        have i22 : 0 ≤ z19.toInt := by omega
        exact ih _ (by omega) _ _ i22 rfl
      · have c18 : (fv Po b9 2).toInt ≠ 0 := ti_eq_n c18
        obtain ⟨z23, h24⟩ := ti_ex (v1 + 1 : Int32)
        have wz23 := ti_full z23
        refine mp_a (a_iinc (v := z23) (L' := [(1, .int z23), (3, .ref b9), (0, .ref 1), (2, .int v2)]) dX5_foldedCount_29 (by decide) rfl h24 rfl) (mpp 32 rfl ?_)
        try have e25 : z23.toInt = v1.toInt + 1 := ti_addz h24 rfl rfl (by omega) (by omega)
        obtain ⟨z26, h27⟩ := ti_ex (v2 + 1 : Int32)
        have wz26 := ti_full z26
        refine mp_a (a_iinc (v := z26) (L' := [(2, .int z26), (1, .int z23), (3, .ref b9), (0, .ref 1)]) dX5_foldedCount_32 (by decide) rfl h27 rfl) (mpp 35 rfl ?_)
        try have e28 : z26.toInt = v2.toInt + 1 := ti_addz h27 rfl rfl (by omega) (by omega)
        refine mp_a (a_goto (t := 4) dX5_foldedCount_35 (by decide)) ?_
        refine MEvP.less (L := [(0, .ref 1), (1, .int z23), (2, .int z26)]) rfl rfl ⟨rfl, rfl, rfl, trivial⟩ ?_
        have i29 : 0 ≤ z26.toInt := by omega
        exact ih _ (by omega) _ _ i29 rfl

set_option maxHeartbeats 4000000 in
theorem c_CS_foldedCount_NState {Po : mP}  (hT : Typ Po)   : EvP 2 112 [.ref 1] Po (fun r P' => (∃ x : Int32, r = some (.int x) ∧ (True)) ∧ P' = Po) := by
  refine EvP.of qm_112 (Nat.le_of_ble_eq_true rfl) rfl ?_
  show MEvP _ none q_112 0 [(0, .ref 1)] [] _ 0 0 _
  refine mp_a (a_iconst (v := 0) dX5_foldedCount_0 rfl) (mpp 1 rfl ?_)
  refine mp_a (a_istore_n (L' := [(1, .int 0), (0, .ref 1)]) dX5_foldedCount_1 (by decide) rfl) (mpp 2 rfl ?_)
  refine mp_a (a_iconst (v := 0) dX5_foldedCount_2 rfl) (mpp 3 rfl ?_)
  refine mp_a (a_istore_n (L' := [(2, .int 0), (1, .int 0), (0, .ref 1)]) dX5_foldedCount_3 (by decide) rfl) (mpp 4 rfl ?_)
  refine MEvP.less (L := [(0, .ref 1), (1, .int 0), (2, .int 0)]) rfl rfl ⟨rfl, rfl, rfl, trivial⟩ ?_
  have i1 : 0 ≤ (0 : Int) := by omega
  exact c_CS_foldedCount_NState_l4 hT  _ _ _ i1 rfl

set_option maxHeartbeats 4000000 in
theorem c_CS_panelCount_NState_l4 {Po : mP}  (hT : Typ Po)   : ∀ (n : Nat) (v1 : Int32) (v2 : Int32), (0 ≤ v2.toInt) → (2147483647 - v2.toInt).toNat = n → MEvP 1 none q_113 4 [(0, .ref 1), (1, .int v1), (2, .int v2)] [] Po 0 0 (fun r P' => (∃ x : Int32, r = some (.int x) ∧ (True)) ∧ P' = Po) := by
  intro n
  induction n using Nat.strongRecOn with | _ n ih => ?_
  intro v1 v2 i_0 hm
  have w_v1 := ti_full v1
  have w_v2 := ti_full v2
  refine mp_a (a_iload_n dX5_panelCount_4 rfl) (mpp 5 rfl ?_)
  refine mp_a (a_aload_n dX5_panelCount_5 rfl) (mpp 6 rfl ?_)
  have g1 := ti_full (fv Po 1 1)
  refine mt_getI (i := 22) (k := 1) hT dX5_panelCount_6 rfl rl_1 (by decide) rfl (by decide) rfl (fun g2 g3 => mpp 9 rfl ?_)
  refine mp_Tb (t := 42) (j_icmp_ge dX5_panelCount_9) (by decide) (fun c4 => ?_) (fun c4 => mpp 12 rfl ?_)
  · have c4 : v2.toInt ≥ (fv Po 1 1).toInt := ti_ge c4
    refine mp_a (a_iload_n dX5_panelCount_42 rfl) (mpp 43 rfl ?_)
    exact mp_iret ⟨⟨_, rfl, trivial⟩, rfl⟩ dX5_panelCount_43 (Or.inl rfl)
  · have c4 : v2.toInt < (fv Po 1 1).toInt := ti_ge_n c4
    refine mp_a (a_aload_n dX5_panelCount_12 rfl) (mpp 13 rfl ?_)
    refine mp_a (a_iload_n dX5_panelCount_13 rfl) (mpp 14 rfl ?_)
    refine mt_callv (i := 28) (q' := q_9) (As := [.int v2]) (rest := []) hT dX5_panelCount_14 rfl qm_9 (by decide) rfl rl_1 (by decide) rfl (Nat.le_of_ble_eq_true rfl) rfl ⟨rfl, rfl⟩ ⟨Nat.le_of_ble_eq_true rfl, Nat.le_of_ble_eq_true rfl⟩ (EvP.mono (by decide) (c_CS_pieceAt_NState hT )) (fun r5 P6 g7 => mpp 17 rfl ?_)
    obtain ⟨g7, e8⟩ := g7
    have e8 := e8.symm
    subst e8
    rcases g7 with rfl | ⟨b9, rfl, q10, q10r⟩
    · show MEvP _ none q_113 17 [(0, .ref 1), (1, .int v1), (2, .int v2)] [.null] _ _ _ _
      refine mp_a (a_astore_nN (L' := [(3, .null), (0, .ref 1), (1, .int v1), (2, .int v2)]) dX5_panelCount_17 (by decide) rfl) (mpp 18 rfl ?_)
      refine mp_a (a_aload_nN dX5_panelCount_18 rfl) (mpp 19 rfl ?_)
      refine mp_t (s_ifnullN (t := 36) dX5_panelCount_19 (by decide)) ?_
      obtain ⟨z11, h12⟩ := ti_ex (v2 + 1 : Int32)
      have wz11 := ti_full z11
      refine mp_a (a_iinc (v := z11) (L' := [(2, .int z11), (3, .null), (0, .ref 1), (1, .int v1)]) dX5_panelCount_36 (by decide) rfl h12 rfl) (mpp 39 rfl ?_)
      try have e13 : z11.toInt = v2.toInt + 1 := ti_addz h12 rfl rfl (by omega) (by omega)
      refine mp_a (a_goto (t := 4) dX5_panelCount_39 (by decide)) ?_
      refine MEvP.less (L := [(0, .ref 1), (1, .int v1), (2, .int z11)]) rfl rfl ⟨rfl, rfl, rfl, trivial⟩ ?_
      have i14 : 0 ≤ z11.toInt := by omega
      exact ih _ (by omega) _ _ i14 rfl
    · show MEvP _ none q_113 17 [(0, .ref 1), (1, .int v1), (2, .int v2)] [.ref b9] _ _ _ _
      refine mp_a (a_astore_n (L' := [(3, .ref b9), (0, .ref 1), (1, .int v1), (2, .int v2)]) dX5_panelCount_17 (by decide) rfl) (mpp 18 rfl ?_)
      refine mp_a (a_aload_n dX5_panelCount_18 rfl) (mpp 19 rfl ?_)
      refine mp_t (s_ifnullR dX5_panelCount_19) (mpp 22 rfl ?_)
      refine mp_a (a_aload_n dX5_panelCount_22 rfl) (mpp 23 rfl ?_)
      have g15 := ti_full (fv Po b9 0)
      refine mt_getI (i := 43) (k := 0) hT dX5_panelCount_23 rfl q10 (by decide) rfl (by decide) rfl (fun g16 g17 => mpp 26 rfl ?_)
      refine mp_Tb (t := 36) (j_if_ne dX5_panelCount_26) (by decide) (fun c18 => ?_) (fun c18 => mpp 29 rfl ?_)
      · have c18 : (fv Po b9 0).toInt ≠ 0 := ti_ne c18
        obtain ⟨z19, h20⟩ := ti_ex (v2 + 1 : Int32)
        have wz19 := ti_full z19
        refine mp_a (a_iinc (v := z19) (L' := [(2, .int z19), (3, .ref b9), (0, .ref 1), (1, .int v1)]) dX5_panelCount_36 (by decide) rfl h20 rfl) (mpp 39 rfl ?_)
        try have e21 : z19.toInt = v2.toInt + 1 := ti_addz h20 rfl rfl (by omega) (by omega)
        refine mp_a (a_goto (t := 4) dX5_panelCount_39 (by decide)) ?_
        refine MEvP.less (L := [(0, .ref 1), (1, .int v1), (2, .int z19)]) rfl rfl ⟨rfl, rfl, rfl, trivial⟩ ?_
        have i22 : 0 ≤ z19.toInt := by omega
        exact ih _ (by omega) _ _ i22 rfl
      · have c18 : (fv Po b9 0).toInt = 0 := ti_ne_n c18
        refine mp_a (a_iload_n dX5_panelCount_29 rfl) (mpp 30 rfl ?_)
        refine mp_a (a_aload_n dX5_panelCount_30 rfl) (mpp 31 rfl ?_)
        have g23 : (0 : Int) ≤ (fv Po b9 1).toInt ∧ (fv Po b9 1).toInt ≤ 8 := Typ.rng hT q10 (by decide) (by decide) rfl
        refine mt_getI (i := 46) (k := 1) hT dX5_panelCount_31 rfl q10 (by decide) rfl (by decide) rfl (fun g24 g25 => mpp 34 rfl ?_)
        obtain ⟨z26, h27⟩ := ti_ex (v1 + (fv Po b9 1) : Int32)
        have wz26 := ti_full z26
        refine mp_t (s_iadd (v := z26) dX5_panelCount_34 h27) (mpp 35 rfl ?_)
        try have e28 : z26.toInt = v1.toInt + (fv Po b9 1).toInt := ti_addz h27 rfl rfl (by omega) (by omega)
        refine mp_a (a_istore_n (L' := [(1, .int z26), (3, .ref b9), (0, .ref 1), (2, .int v2)]) dX5_panelCount_35 (by decide) rfl) (mpp 36 rfl ?_)
        obtain ⟨z29, h30⟩ := ti_ex (v2 + 1 : Int32)
        have wz29 := ti_full z29
        refine mp_a (a_iinc (v := z29) (L' := [(2, .int z29), (1, .int z26), (3, .ref b9), (0, .ref 1)]) dX5_panelCount_36 (by decide) rfl h30 rfl) (mpp 39 rfl ?_)
        try have e31 : z29.toInt = v2.toInt + 1 := ti_addz h30 rfl rfl (by omega) (by omega)
        refine mp_a (a_goto (t := 4) dX5_panelCount_39 (by decide)) ?_
        refine MEvP.less (L := [(0, .ref 1), (1, .int z26), (2, .int z29)]) rfl rfl ⟨rfl, rfl, rfl, trivial⟩ ?_
        have i32 : 0 ≤ z29.toInt := by omega
        exact ih _ (by omega) _ _ i32 rfl

set_option maxHeartbeats 4000000 in
theorem c_CS_panelCount_NState {Po : mP}  (hT : Typ Po)   : EvP 2 113 [.ref 1] Po (fun r P' => (∃ x : Int32, r = some (.int x) ∧ (True)) ∧ P' = Po) := by
  refine EvP.of qm_113 (Nat.le_of_ble_eq_true rfl) rfl ?_
  show MEvP _ none q_113 0 [(0, .ref 1)] [] _ 0 0 _
  refine mp_a (a_iconst (v := 0) dX5_panelCount_0 rfl) (mpp 1 rfl ?_)
  refine mp_a (a_istore_n (L' := [(1, .int 0), (0, .ref 1)]) dX5_panelCount_1 (by decide) rfl) (mpp 2 rfl ?_)
  refine mp_a (a_iconst (v := 0) dX5_panelCount_2 rfl) (mpp 3 rfl ?_)
  refine mp_a (a_istore_n (L' := [(2, .int 0), (1, .int 0), (0, .ref 1)]) dX5_panelCount_3 (by decide) rfl) (mpp 4 rfl ?_)
  refine MEvP.less (L := [(0, .ref 1), (1, .int 0), (2, .int 0)]) rfl rfl ⟨rfl, rfl, rfl, trivial⟩ ?_
  have i1 : 0 ≤ (0 : Int) := by omega
  exact c_CS_panelCount_NState_l4 hT  _ _ _ i1 rfl

set_option maxHeartbeats 4000000 in
theorem c_CS_creasesOf_NState_l4 {Po : mP} {t1 : Int32} (hT : Typ Po)   : ∀ (n : Nat) (v2 : Int32) (v3 : Int32), (0 ≤ v2.toInt) → (v2.toInt ≤ 64) → (v2.toInt ≤ 8 * v3.toInt) → (0 ≤ v3.toInt) → (2147483647 - v3.toInt).toNat = n → MEvP 2 none q_114 4 [(0, .ref 1), (1, .int t1), (2, .int v2), (3, .int v3)] [] Po 0 0 (fun r P' => (∃ x : Int32, r = some (.int x) ∧ (0 ≤ x.toInt ∧ x.toInt ≤ 64)) ∧ P' = Po) := by
  intro n
  induction n using Nat.strongRecOn with | _ n ih => ?_
  intro v2 v3 i_0 i_1 i_2 i_3 hm
  have w_t1 := ti_full t1
  have w_v2 := ti_full v2
  have w_v3 := ti_full v3
  refine mp_a (a_iload_n dX5_creasesOf_4 rfl) (mpp 5 rfl ?_)
  refine mp_a (a_aload_n dX5_creasesOf_5 rfl) (mpp 6 rfl ?_)
  have g1 := ti_full (fv Po 1 1)
  refine mt_getI (i := 22) (k := 1) hT dX5_creasesOf_6 rfl rl_1 (by decide) rfl (by decide) rfl (fun g2 g3 => mpp 9 rfl ?_)
  refine mp_Tb (t := 39) (j_icmp_ge dX5_creasesOf_9) (by decide) (fun c4 => ?_) (fun c4 => mpp 12 rfl ?_)
  · have c4 : v3.toInt ≥ (fv Po 1 1).toInt := ti_ge c4
    refine mp_a (a_iload_n dX5_creasesOf_39 rfl) (mpp 40 rfl ?_)
    have u5 : 0 ≤ v2.toInt ∧ v2.toInt ≤ 64 := by omega
    exact mp_iret ⟨⟨_, rfl, u5⟩, rfl⟩ dX5_creasesOf_40 (Or.inl rfl)
  · have c4 : v3.toInt < (fv Po 1 1).toInt := ti_ge_n c4
    refine mp_a (a_aload_n dX5_creasesOf_12 rfl) (mpp 13 rfl ?_)
    refine mp_a (a_iload_n dX5_creasesOf_13 rfl) (mpp 14 rfl ?_)
    refine mt_callv (i := 28) (q' := q_9) (As := [.int v3]) (rest := []) hT dX5_creasesOf_14 rfl qm_9 (by decide) rfl rl_1 (by decide) rfl (Nat.le_of_ble_eq_true rfl) rfl ⟨rfl, rfl⟩ ⟨Nat.le_of_ble_eq_true rfl, Nat.le_of_ble_eq_true rfl⟩ (EvP.mono (by decide) (c_CS_pieceAt_NState hT )) (fun r6 P7 g8 => mpp 17 rfl ?_)
    obtain ⟨g8, e9⟩ := g8
    have e9 := e9.symm
    subst e9
    rcases g8 with rfl | ⟨b10, rfl, q11, q11r⟩
    · show MEvP _ none q_114 17 [(0, .ref 1), (1, .int t1), (2, .int v2), (3, .int v3)] [.null] _ _ _ _
      refine mp_a (a_astoreN (L' := [(4, .null), (0, .ref 1), (1, .int t1), (2, .int v2), (3, .int v3)]) dX5_creasesOf_17 (by decide) rfl) (mpp 19 rfl ?_)
      refine mp_a (a_aloadN dX5_creasesOf_19 rfl) (mpp 21 rfl ?_)
      refine mp_t (s_ifnullN (t := 33) dX5_creasesOf_21 (by decide)) ?_
      obtain ⟨z12, h13⟩ := ti_ex (v3 + 1 : Int32)
      have wz12 := ti_full z12
      refine mp_a (a_iinc (v := z12) (L' := [(3, .int z12), (4, .null), (0, .ref 1), (1, .int t1), (2, .int v2)]) dX5_creasesOf_33 (by decide) rfl h13 rfl) (mpp 36 rfl ?_)
      try have e14 : z12.toInt = v3.toInt + 1 := ti_addz h13 rfl rfl (by omega) (by omega)
      refine mp_a (a_goto (t := 4) dX5_creasesOf_36 (by decide)) ?_
      refine MEvP.less (L := [(0, .ref 1), (1, .int t1), (2, .int v2), (3, .int z12)]) rfl rfl ⟨rfl, rfl, rfl, rfl, trivial⟩ ?_
      have i15 : 0 ≤ v2.toInt := by omega
      have i16 : v2.toInt ≤ 64 := by omega
      have i17 : v2.toInt ≤ 8 * z12.toInt := by omega
      have i18 : 0 ≤ z12.toInt := by omega
      exact ih _ (by omega) _ _ i15 i16 i17 i18 rfl
    · show MEvP _ none q_114 17 [(0, .ref 1), (1, .int t1), (2, .int v2), (3, .int v3)] [.ref b10] _ _ _ _
      refine mp_a (a_astore (L' := [(4, .ref b10), (0, .ref 1), (1, .int t1), (2, .int v2), (3, .int v3)]) dX5_creasesOf_17 (by decide) rfl) (mpp 19 rfl ?_)
      refine mp_a (a_aload dX5_creasesOf_19 rfl) (mpp 21 rfl ?_)
      refine mp_t (s_ifnullR dX5_creasesOf_21) (mpp 24 rfl ?_)
      refine mp_a (a_iload_n dX5_creasesOf_24 rfl) (mpp 25 rfl ?_)
      refine mp_a (a_aload dX5_creasesOf_25 rfl) (mpp 27 rfl ?_)
      refine mp_a (a_iload_n dX5_creasesOf_27 rfl) (mpp 28 rfl ?_)
      refine mt_callv (i := 47) (q' := q_32) (As := [.int t1]) (rest := [.int v2]) hT dX5_creasesOf_28 rfl qm_32 (by decide) rfl q11 (by decide) rfl (Nat.le_of_ble_eq_true rfl) rfl ⟨rfl, rfl⟩ ⟨Nat.le_of_ble_eq_true rfl, Nat.le_of_ble_eq_true rfl⟩ (EvP.mono (by decide) (c_CP_countOf_NPiece hT q11)) (fun r19 P20 g21 => mpp 31 rfl ?_)
      obtain ⟨⟨x22, rfl, g23⟩, e24⟩ := g21
      have e24 := e24.symm
      subst e24
      have wx22 := ti_full x22
      have g23 : 0 ≤ x22.toInt ∧ x22.toInt ≤ 8 := g23
      show MEvP _ none q_114 31 [(4, .ref b10), (0, .ref 1), (1, .int t1), (2, .int v2), (3, .int v3)] [.int x22, .int v2] _ _ _ _
      obtain ⟨z25, h26⟩ := ti_ex (v2 + x22 : Int32)
      have wz25 := ti_full z25
      refine mp_t (s_iadd (v := z25) dX5_creasesOf_31 h26) (mpp 32 rfl ?_)
      try have e27 : z25.toInt = v2.toInt + x22.toInt := ti_addz h26 rfl rfl (by omega) (by omega)
      refine mp_a (a_istore_n (L' := [(2, .int z25), (4, .ref b10), (0, .ref 1), (1, .int t1), (3, .int v3)]) dX5_creasesOf_32 (by decide) rfl) (mpp 33 rfl ?_)
      obtain ⟨z28, h29⟩ := ti_ex (v3 + 1 : Int32)
      have wz28 := ti_full z28
      refine mp_a (a_iinc (v := z28) (L' := [(3, .int z28), (2, .int z25), (4, .ref b10), (0, .ref 1), (1, .int t1)]) dX5_creasesOf_33 (by decide) rfl h29 rfl) (mpp 36 rfl ?_)
      try have e30 : z28.toInt = v3.toInt + 1 := ti_addz h29 rfl rfl (by omega) (by omega)
      refine mp_a (a_goto (t := 4) dX5_creasesOf_36 (by decide)) ?_
      refine MEvP.less (L := [(0, .ref 1), (1, .int t1), (2, .int z25), (3, .int z28)]) rfl rfl ⟨rfl, rfl, rfl, rfl, trivial⟩ ?_
      have i31 : 0 ≤ z25.toInt := by omega
      have i32 : z25.toInt ≤ 64 := by omega
      have i33 : z25.toInt ≤ 8 * z28.toInt := by omega
      have i34 : 0 ≤ z28.toInt := by omega
      exact ih _ (by omega) _ _ i31 i32 i33 i34 rfl

set_option maxHeartbeats 4000000 in
theorem c_CS_creasesOf_NState {Po : mP} {t1 : Int32} (hT : Typ Po)   : EvP 3 114 [.ref 1, .int t1] Po (fun r P' => (∃ x : Int32, r = some (.int x) ∧ (0 ≤ x.toInt ∧ x.toInt ≤ 64)) ∧ P' = Po) := by
  refine EvP.of qm_114 (Nat.le_of_ble_eq_true rfl) rfl ?_
  show MEvP _ none q_114 0 [(0, .ref 1), (1, .int t1)] [] _ 0 0 _
  refine mp_a (a_iconst (v := 0) dX5_creasesOf_0 rfl) (mpp 1 rfl ?_)
  refine mp_a (a_istore_n (L' := [(2, .int 0), (0, .ref 1), (1, .int t1)]) dX5_creasesOf_1 (by decide) rfl) (mpp 2 rfl ?_)
  refine mp_a (a_iconst (v := 0) dX5_creasesOf_2 rfl) (mpp 3 rfl ?_)
  refine mp_a (a_istore_n (L' := [(3, .int 0), (2, .int 0), (0, .ref 1), (1, .int t1)]) dX5_creasesOf_3 (by decide) rfl) (mpp 4 rfl ?_)
  refine MEvP.less (L := [(0, .ref 1), (1, .int t1), (2, .int 0), (3, .int 0)]) rfl rfl ⟨rfl, rfl, rfl, rfl, trivial⟩ ?_
  have i1 : 0 ≤ (0 : Int) := by omega
  have i2 : (0 : Int) ≤ 64 := by omega
  have i3 : (0 : Int) ≤ 8 * (0 : Int) := by omega
  have i4 : 0 ≤ (0 : Int) := by omega
  exact c_CS_creasesOf_NState_l4 hT  _ _ _ i1 i2 i3 i4 rfl

