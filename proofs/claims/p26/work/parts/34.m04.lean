/-! methods on typed pools, 4 (written by a program) -/
set_option maxHeartbeats 4000000 in
theorem c_CS_removeAt_NState_l18 {Po : mP} {t1 : Int32}  : ∀ (n : Nat) (b2_ : Nat) (v3 : Int32) (v4 : Int32), rl b2_ = 33 → ∀ (P : mP), Typ P → KW [1985] Po P → (2147483647 - v4.toInt).toNat = n → MEvP 1 none q_38 18 [(0, .ref 1), (1, .int t1), (2, .ref b2_), (3, .int v3), (4, .int v4)] [] P 0 0 (fun r P' => (r = none ∧ (True)) ∧ Typ P' ∧ KW [1985] Po P' ∧ True) := by
  intro n
  induction n using Nat.strongRecOn with | _ n ih => ?_
  intro b2_ v3 v4 hb2 P hT hK  hm
  have w_t1 := ti_full t1
  have w_v3 := ti_full v3
  have w_v4 := ti_full v4
  refine mp_a (a_iload dX5_removeAt_18 rfl) (mpp 20 rfl ?_)
  refine mp_Tb (t := 67) (j_if_le dX5_removeAt_20) (by decide) (fun c1 => ?_) (fun c1 => mpp 23 rfl ?_)
  · have c1 : v4.toInt ≤ 0 := ti_le c1
    refine mp_a (a_iload_n dX5_removeAt_67 rfl) (mpp 68 rfl ?_)
    refine mp_Tb (t := 87) (j_if_lt dX5_removeAt_68) (by decide) (fun c2 => ?_) (fun c2 => mpp 71 rfl ?_)
    · have c2 : v3.toInt < 0 := ti_lt c2
      refine mp_a (a_aload_n dX5_removeAt_87 rfl) (mpp 88 rfl ?_)
      refine mp_t (s_dup dX5_removeAt_88 rfl) (mpp 89 rfl ?_)
      have g3 := ti_full (fv P 1 1)
      refine mt_getI (i := 22) (k := 1) hT dX5_removeAt_89 rfl rl_1 (by decide) rfl (by decide) rfl (fun g4 g5 => mpp 92 rfl ?_)
      refine mp_a (a_iconst (v := 1) dX5_removeAt_92 rfl) (mpp 93 rfl ?_)
      obtain ⟨z6, h7⟩ := ti_ex ((fv P 1 1) - 1 : Int32)
      have wz6 := ti_full z6
      refine mp_t (s_isub (v := z6) dX5_removeAt_93 h7) (mpp 94 rfl ?_)
      try have e8 : z6.toInt = (fv P 1 1).toInt - 1 := ti_subz h7 rfl rfl (by omega) (by omega)
      refine mt_putI (i := 22) (k := 1) (x := z6) hT dX5_removeAt_94 rfl rl_1 (by decide) rfl (by decide) rfl (ti_full z6) rfl rfl (fun P9 hT10 f11 f12 => mpp 97 rfl ?_)
      have k13 : KW [1985] Po P9 := KW.step hK rl_1 rfl f12
      have e14 : (fv P9 1 1).toInt = z6.toInt := congrArg Int32.toInt f11
      exact mp_ret ⟨⟨rfl, trivial⟩, hT10, k13, trivial⟩ dX5_removeAt_97 rfl
    · have c2 : v3.toInt ≥ 0 := ti_lt_n c2
      refine mp_a (a_iload_n dX5_removeAt_71 rfl) (mpp 72 rfl ?_)
      refine mp_a (a_aload_n dX5_removeAt_72 rfl) (mpp 73 rfl ?_)
      refine mt_getU (i := 11) (k := 0) (A := 2) hT dX5_removeAt_73 rfl rl_1 (by decide) rfl (by decide) rfl un_32 (mpp 76 rfl ?_)
      refine mt_len (n := 8) hT dX5_removeAt_76 rl_2 (by decide) (by decide) rfl (mpp 77 rfl ?_)
      refine mp_Tb (t := 87) (j_icmp_ge dX5_removeAt_77) (by decide) (fun c15 => ?_) (fun c15 => mpp 80 rfl ?_)
      · have c15 : v3.toInt ≥ 8 := ti_ge c15
        refine mp_a (a_aload_n dX5_removeAt_87 rfl) (mpp 88 rfl ?_)
        refine mp_t (s_dup dX5_removeAt_88 rfl) (mpp 89 rfl ?_)
        have g16 := ti_full (fv P 1 1)
        refine mt_getI (i := 22) (k := 1) hT dX5_removeAt_89 rfl rl_1 (by decide) rfl (by decide) rfl (fun g17 g18 => mpp 92 rfl ?_)
        refine mp_a (a_iconst (v := 1) dX5_removeAt_92 rfl) (mpp 93 rfl ?_)
        obtain ⟨z19, h20⟩ := ti_ex ((fv P 1 1) - 1 : Int32)
        have wz19 := ti_full z19
        refine mp_t (s_isub (v := z19) dX5_removeAt_93 h20) (mpp 94 rfl ?_)
        try have e21 : z19.toInt = (fv P 1 1).toInt - 1 := ti_subz h20 rfl rfl (by omega) (by omega)
        refine mt_putI (i := 22) (k := 1) (x := z19) hT dX5_removeAt_94 rfl rl_1 (by decide) rfl (by decide) rfl (ti_full z19) rfl rfl (fun P22 hT23 f24 f25 => mpp 97 rfl ?_)
        have k26 : KW [1985] Po P22 := KW.step hK rl_1 rfl f25
        have e27 : (fv P22 1 1).toInt = z19.toInt := congrArg Int32.toInt f24
        exact mp_ret ⟨⟨rfl, trivial⟩, hT23, k26, trivial⟩ dX5_removeAt_97 rfl
      · have c15 : v3.toInt < 8 := ti_ge_n c15
        refine mp_a (a_aload_n dX5_removeAt_80 rfl) (mpp 81 rfl ?_)
        refine mt_getU (i := 11) (k := 0) (A := 2) hT dX5_removeAt_81 rfl rl_1 (by decide) rfl (by decide) rfl un_32 (mpp 84 rfl ?_)
        refine mp_a (a_iload_n dX5_removeAt_84 rfl) (mpp 85 rfl ?_)
        refine mp_a (a_aload_n dX5_removeAt_85 rfl) (mpp 86 rfl ?_)
        refine mt_aas (n := 8) hT dX5_removeAt_86 rl_2 (by decide) (ci := 2) hb2 (by decide) (by decide) (by decide) rfl (by omega) (by omega) rfl (fun _ => (by decide : (34 : Nat) ≠ 0)) (fun P28 hT29 f30 => mpp 87 rfl ?_)
        have k31 : KW [1985] Po P28 := KW.all hK f30
        refine mp_a (a_aload_n dX5_removeAt_87 rfl) (mpp 88 rfl ?_)
        refine mp_t (s_dup dX5_removeAt_88 rfl) (mpp 89 rfl ?_)
        have g32 := ti_full (fv P28 1 1)
        refine mt_getI (i := 22) (k := 1) hT29 dX5_removeAt_89 rfl rl_1 (by decide) rfl (by decide) rfl (fun g33 g34 => mpp 92 rfl ?_)
        refine mp_a (a_iconst (v := 1) dX5_removeAt_92 rfl) (mpp 93 rfl ?_)
        obtain ⟨z35, h36⟩ := ti_ex ((fv P28 1 1) - 1 : Int32)
        have wz35 := ti_full z35
        refine mp_t (s_isub (v := z35) dX5_removeAt_93 h36) (mpp 94 rfl ?_)
        try have e37 : z35.toInt = (fv P28 1 1).toInt - 1 := ti_subz h36 rfl rfl (by omega) (by omega)
        refine mt_putI (i := 22) (k := 1) (x := z35) hT29 dX5_removeAt_94 rfl rl_1 (by decide) rfl (by decide) rfl (ti_full z35) rfl rfl (fun P38 hT39 f40 f41 => mpp 97 rfl ?_)
        have k42 : KW [1985] Po P38 := KW.step k31 rl_1 rfl f41
        have e43 : (fv P38 1 1).toInt = z35.toInt := congrArg Int32.toInt f40
        exact mp_ret ⟨⟨rfl, trivial⟩, hT39, k42, trivial⟩ dX5_removeAt_97 rfl
  · have c1 : v4.toInt > 0 := ti_le_n c1
    refine mp_a (a_iload dX5_removeAt_23 rfl) (mpp 25 rfl ?_)
    refine mp_a (a_aload_n dX5_removeAt_25 rfl) (mpp 26 rfl ?_)
    have g44 := ti_full (fv P 1 1)
    refine mt_getI (i := 22) (k := 1) hT dX5_removeAt_26 rfl rl_1 (by decide) rfl (by decide) rfl (fun g45 g46 => mpp 29 rfl ?_)
    refine mp_Tb (t := 67) (j_icmp_ge dX5_removeAt_29) (by decide) (fun c47 => ?_) (fun c47 => mpp 32 rfl ?_)
    · have c47 : v4.toInt ≥ (fv P 1 1).toInt := ti_ge c47
      refine mp_a (a_iload_n dX5_removeAt_67 rfl) (mpp 68 rfl ?_)
      refine mp_Tb (t := 87) (j_if_lt dX5_removeAt_68) (by decide) (fun c48 => ?_) (fun c48 => mpp 71 rfl ?_)
      · have c48 : v3.toInt < 0 := ti_lt c48
        refine mp_a (a_aload_n dX5_removeAt_87 rfl) (mpp 88 rfl ?_)
        refine mp_t (s_dup dX5_removeAt_88 rfl) (mpp 89 rfl ?_)
        refine mt_getI (i := 22) (k := 1) hT dX5_removeAt_89 rfl rl_1 (by decide) rfl (by decide) rfl (fun g49 g50 => mpp 92 rfl ?_)
        refine mp_a (a_iconst (v := 1) dX5_removeAt_92 rfl) (mpp 93 rfl ?_)
        obtain ⟨z51, h52⟩ := ti_ex ((fv P 1 1) - 1 : Int32)
        have wz51 := ti_full z51
        refine mp_t (s_isub (v := z51) dX5_removeAt_93 h52) (mpp 94 rfl ?_)
        try have e53 : z51.toInt = (fv P 1 1).toInt - 1 := ti_subz h52 rfl rfl (by omega) (by omega)
        refine mt_putI (i := 22) (k := 1) (x := z51) hT dX5_removeAt_94 rfl rl_1 (by decide) rfl (by decide) rfl (ti_full z51) rfl rfl (fun P54 hT55 f56 f57 => mpp 97 rfl ?_)
        have k58 : KW [1985] Po P54 := KW.step hK rl_1 rfl f57
        have e59 : (fv P54 1 1).toInt = z51.toInt := congrArg Int32.toInt f56
        exact mp_ret ⟨⟨rfl, trivial⟩, hT55, k58, trivial⟩ dX5_removeAt_97 rfl
      · have c48 : v3.toInt ≥ 0 := ti_lt_n c48
        refine mp_a (a_iload_n dX5_removeAt_71 rfl) (mpp 72 rfl ?_)
        refine mp_a (a_aload_n dX5_removeAt_72 rfl) (mpp 73 rfl ?_)
        refine mt_getU (i := 11) (k := 0) (A := 2) hT dX5_removeAt_73 rfl rl_1 (by decide) rfl (by decide) rfl un_32 (mpp 76 rfl ?_)
        refine mt_len (n := 8) hT dX5_removeAt_76 rl_2 (by decide) (by decide) rfl (mpp 77 rfl ?_)
        refine mp_Tb (t := 87) (j_icmp_ge dX5_removeAt_77) (by decide) (fun c60 => ?_) (fun c60 => mpp 80 rfl ?_)
        · have c60 : v3.toInt ≥ 8 := ti_ge c60
          refine mp_a (a_aload_n dX5_removeAt_87 rfl) (mpp 88 rfl ?_)
          refine mp_t (s_dup dX5_removeAt_88 rfl) (mpp 89 rfl ?_)
          refine mt_getI (i := 22) (k := 1) hT dX5_removeAt_89 rfl rl_1 (by decide) rfl (by decide) rfl (fun g61 g62 => mpp 92 rfl ?_)
          refine mp_a (a_iconst (v := 1) dX5_removeAt_92 rfl) (mpp 93 rfl ?_)
          obtain ⟨z63, h64⟩ := ti_ex ((fv P 1 1) - 1 : Int32)
          have wz63 := ti_full z63
          refine mp_t (s_isub (v := z63) dX5_removeAt_93 h64) (mpp 94 rfl ?_)
          try have e65 : z63.toInt = (fv P 1 1).toInt - 1 := ti_subz h64 rfl rfl (by omega) (by omega)
          refine mt_putI (i := 22) (k := 1) (x := z63) hT dX5_removeAt_94 rfl rl_1 (by decide) rfl (by decide) rfl (ti_full z63) rfl rfl (fun P66 hT67 f68 f69 => mpp 97 rfl ?_)
          have k70 : KW [1985] Po P66 := KW.step hK rl_1 rfl f69
          have e71 : (fv P66 1 1).toInt = z63.toInt := congrArg Int32.toInt f68
          exact mp_ret ⟨⟨rfl, trivial⟩, hT67, k70, trivial⟩ dX5_removeAt_97 rfl
        · have c60 : v3.toInt < 8 := ti_ge_n c60
          refine mp_a (a_aload_n dX5_removeAt_80 rfl) (mpp 81 rfl ?_)
          refine mt_getU (i := 11) (k := 0) (A := 2) hT dX5_removeAt_81 rfl rl_1 (by decide) rfl (by decide) rfl un_32 (mpp 84 rfl ?_)
          refine mp_a (a_iload_n dX5_removeAt_84 rfl) (mpp 85 rfl ?_)
          refine mp_a (a_aload_n dX5_removeAt_85 rfl) (mpp 86 rfl ?_)
          refine mt_aas (n := 8) hT dX5_removeAt_86 rl_2 (by decide) (ci := 2) hb2 (by decide) (by decide) (by decide) rfl (by omega) (by omega) rfl (fun _ => (by decide : (34 : Nat) ≠ 0)) (fun P72 hT73 f74 => mpp 87 rfl ?_)
          have k75 : KW [1985] Po P72 := KW.all hK f74
          refine mp_a (a_aload_n dX5_removeAt_87 rfl) (mpp 88 rfl ?_)
          refine mp_t (s_dup dX5_removeAt_88 rfl) (mpp 89 rfl ?_)
          have e76 : (fv P72 1 1).toInt = (fv P 1 1).toInt := congrArg Int32.toInt (f74 1 1)
          refine mt_getI (i := 22) (k := 1) hT73 dX5_removeAt_89 rfl rl_1 (by decide) rfl (by decide) rfl (fun g77 g78 => mpp 92 rfl ?_)
          refine mp_a (a_iconst (v := 1) dX5_removeAt_92 rfl) (mpp 93 rfl ?_)
          obtain ⟨z79, h80⟩ := ti_ex ((fv P72 1 1) - 1 : Int32)
          have wz79 := ti_full z79
          refine mp_t (s_isub (v := z79) dX5_removeAt_93 h80) (mpp 94 rfl ?_)
          try have e81 : z79.toInt = (fv P72 1 1).toInt - 1 := ti_subz h80 rfl rfl (by omega) (by omega)
          refine mt_putI (i := 22) (k := 1) (x := z79) hT73 dX5_removeAt_94 rfl rl_1 (by decide) rfl (by decide) rfl (ti_full z79) rfl rfl (fun P82 hT83 f84 f85 => mpp 97 rfl ?_)
          have k86 : KW [1985] Po P82 := KW.step k75 rl_1 rfl f85
          have e87 : (fv P82 1 1).toInt = z79.toInt := congrArg Int32.toInt f84
          exact mp_ret ⟨⟨rfl, trivial⟩, hT83, k86, trivial⟩ dX5_removeAt_97 rfl
    · have c47 : v4.toInt < (fv P 1 1).toInt := ti_ge_n c47
      refine mp_a (a_iload dX5_removeAt_32 rfl) (mpp 34 rfl ?_)
      refine mp_a (a_aload_n dX5_removeAt_34 rfl) (mpp 35 rfl ?_)
      refine mt_getU (i := 11) (k := 0) (A := 2) hT dX5_removeAt_35 rfl rl_1 (by decide) rfl (by decide) rfl un_32 (mpp 38 rfl ?_)
      refine mt_len (n := 8) hT dX5_removeAt_38 rl_2 (by decide) (by decide) rfl (mpp 39 rfl ?_)
      refine mp_Tb (t := 67) (j_icmp_ge dX5_removeAt_39) (by decide) (fun c88 => ?_) (fun c88 => mpp 42 rfl ?_)
      · have c88 : v4.toInt ≥ 8 := ti_ge c88
        refine mp_a (a_iload_n dX5_removeAt_67 rfl) (mpp 68 rfl ?_)
        refine mp_Tb (t := 87) (j_if_lt dX5_removeAt_68) (by decide) (fun c89 => ?_) (fun c89 => mpp 71 rfl ?_)
        · have c89 : v3.toInt < 0 := ti_lt c89
          refine mp_a (a_aload_n dX5_removeAt_87 rfl) (mpp 88 rfl ?_)
          refine mp_t (s_dup dX5_removeAt_88 rfl) (mpp 89 rfl ?_)
          refine mt_getI (i := 22) (k := 1) hT dX5_removeAt_89 rfl rl_1 (by decide) rfl (by decide) rfl (fun g90 g91 => mpp 92 rfl ?_)
          refine mp_a (a_iconst (v := 1) dX5_removeAt_92 rfl) (mpp 93 rfl ?_)
          obtain ⟨z92, h93⟩ := ti_ex ((fv P 1 1) - 1 : Int32)
          have wz92 := ti_full z92
          refine mp_t (s_isub (v := z92) dX5_removeAt_93 h93) (mpp 94 rfl ?_)
          try have e94 : z92.toInt = (fv P 1 1).toInt - 1 := ti_subz h93 rfl rfl (by omega) (by omega)
          refine mt_putI (i := 22) (k := 1) (x := z92) hT dX5_removeAt_94 rfl rl_1 (by decide) rfl (by decide) rfl (ti_full z92) rfl rfl (fun P95 hT96 f97 f98 => mpp 97 rfl ?_)
          have k99 : KW [1985] Po P95 := KW.step hK rl_1 rfl f98
          have e100 : (fv P95 1 1).toInt = z92.toInt := congrArg Int32.toInt f97
          exact mp_ret ⟨⟨rfl, trivial⟩, hT96, k99, trivial⟩ dX5_removeAt_97 rfl
        · have c89 : v3.toInt ≥ 0 := ti_lt_n c89
          refine mp_a (a_iload_n dX5_removeAt_71 rfl) (mpp 72 rfl ?_)
          refine mp_a (a_aload_n dX5_removeAt_72 rfl) (mpp 73 rfl ?_)
          refine mt_getU (i := 11) (k := 0) (A := 2) hT dX5_removeAt_73 rfl rl_1 (by decide) rfl (by decide) rfl un_32 (mpp 76 rfl ?_)
          refine mt_len (n := 8) hT dX5_removeAt_76 rl_2 (by decide) (by decide) rfl (mpp 77 rfl ?_)
          refine mp_Tb (t := 87) (j_icmp_ge dX5_removeAt_77) (by decide) (fun c101 => ?_) (fun c101 => mpp 80 rfl ?_)
          · have c101 : v3.toInt ≥ 8 := ti_ge c101
            refine mp_a (a_aload_n dX5_removeAt_87 rfl) (mpp 88 rfl ?_)
            refine mp_t (s_dup dX5_removeAt_88 rfl) (mpp 89 rfl ?_)
            refine mt_getI (i := 22) (k := 1) hT dX5_removeAt_89 rfl rl_1 (by decide) rfl (by decide) rfl (fun g102 g103 => mpp 92 rfl ?_)
            refine mp_a (a_iconst (v := 1) dX5_removeAt_92 rfl) (mpp 93 rfl ?_)
            obtain ⟨z104, h105⟩ := ti_ex ((fv P 1 1) - 1 : Int32)
            have wz104 := ti_full z104
            refine mp_t (s_isub (v := z104) dX5_removeAt_93 h105) (mpp 94 rfl ?_)
            try have e106 : z104.toInt = (fv P 1 1).toInt - 1 := ti_subz h105 rfl rfl (by omega) (by omega)
            refine mt_putI (i := 22) (k := 1) (x := z104) hT dX5_removeAt_94 rfl rl_1 (by decide) rfl (by decide) rfl (ti_full z104) rfl rfl (fun P107 hT108 f109 f110 => mpp 97 rfl ?_)
            have k111 : KW [1985] Po P107 := KW.step hK rl_1 rfl f110
            have e112 : (fv P107 1 1).toInt = z104.toInt := congrArg Int32.toInt f109
            exact mp_ret ⟨⟨rfl, trivial⟩, hT108, k111, trivial⟩ dX5_removeAt_97 rfl
          · have c101 : v3.toInt < 8 := ti_ge_n c101
            refine mp_a (a_aload_n dX5_removeAt_80 rfl) (mpp 81 rfl ?_)
            refine mt_getU (i := 11) (k := 0) (A := 2) hT dX5_removeAt_81 rfl rl_1 (by decide) rfl (by decide) rfl un_32 (mpp 84 rfl ?_)
            refine mp_a (a_iload_n dX5_removeAt_84 rfl) (mpp 85 rfl ?_)
            refine mp_a (a_aload_n dX5_removeAt_85 rfl) (mpp 86 rfl ?_)
            refine mt_aas (n := 8) hT dX5_removeAt_86 rl_2 (by decide) (ci := 2) hb2 (by decide) (by decide) (by decide) rfl (by omega) (by omega) rfl (fun _ => (by decide : (34 : Nat) ≠ 0)) (fun P113 hT114 f115 => mpp 87 rfl ?_)
            have k116 : KW [1985] Po P113 := KW.all hK f115
            refine mp_a (a_aload_n dX5_removeAt_87 rfl) (mpp 88 rfl ?_)
            refine mp_t (s_dup dX5_removeAt_88 rfl) (mpp 89 rfl ?_)
            have e117 : (fv P113 1 1).toInt = (fv P 1 1).toInt := congrArg Int32.toInt (f115 1 1)
            refine mt_getI (i := 22) (k := 1) hT114 dX5_removeAt_89 rfl rl_1 (by decide) rfl (by decide) rfl (fun g118 g119 => mpp 92 rfl ?_)
            refine mp_a (a_iconst (v := 1) dX5_removeAt_92 rfl) (mpp 93 rfl ?_)
            obtain ⟨z120, h121⟩ := ti_ex ((fv P113 1 1) - 1 : Int32)
            have wz120 := ti_full z120
            refine mp_t (s_isub (v := z120) dX5_removeAt_93 h121) (mpp 94 rfl ?_)
            try have e122 : z120.toInt = (fv P113 1 1).toInt - 1 := ti_subz h121 rfl rfl (by omega) (by omega)
            refine mt_putI (i := 22) (k := 1) (x := z120) hT114 dX5_removeAt_94 rfl rl_1 (by decide) rfl (by decide) rfl (ti_full z120) rfl rfl (fun P123 hT124 f125 f126 => mpp 97 rfl ?_)
            have k127 : KW [1985] Po P123 := KW.step k116 rl_1 rfl f126
            have e128 : (fv P123 1 1).toInt = z120.toInt := congrArg Int32.toInt f125
            exact mp_ret ⟨⟨rfl, trivial⟩, hT124, k127, trivial⟩ dX5_removeAt_97 rfl
      · have c88 : v4.toInt < 8 := ti_ge_n c88
        refine mp_a (a_aload_n dX5_removeAt_42 rfl) (mpp 43 rfl ?_)
        refine mt_getU (i := 11) (k := 0) (A := 2) hT dX5_removeAt_43 rfl rl_1 (by decide) rfl (by decide) rfl un_32 (mpp 46 rfl ?_)
        refine mp_a (a_iload dX5_removeAt_46 rfl) (mpp 48 rfl ?_)
        refine mp_a (a_iconst (v := 1) dX5_removeAt_48 rfl) (mpp 49 rfl ?_)
        obtain ⟨z129, h130⟩ := ti_ex (v4 - 1 : Int32)
        have wz129 := ti_full z129
        refine mp_t (s_isub (v := z129) dX5_removeAt_49 h130) (mpp 50 rfl ?_)
        try have e131 : z129.toInt = v4.toInt - 1 := ti_subz h130 rfl rfl (by omega) (by omega)
        refine mp_a (a_aload_n dX5_removeAt_50 rfl) (mpp 51 rfl ?_)
        refine mt_getU (i := 11) (k := 0) (A := 2) hT dX5_removeAt_51 rfl rl_1 (by decide) rfl (by decide) rfl un_32 (mpp 54 rfl ?_)
        refine mp_a (a_iload dX5_removeAt_54 rfl) (mpp 56 rfl ?_)
        refine mt_aal (n := 8) hT dX5_removeAt_56 rl_2 (by decide) (by decide) rfl (by omega) (by omega) rfl (fun q132 => mpp 57 rfl ?_)
        generalize rv P 2 v4.toInt.toNat = b133 at q132 ⊢
        refine mt_aas (n := 8) hT dX5_removeAt_57 rl_2 (by decide) (ci := 2) q132 (by decide) (by decide) (by decide) rfl (by omega) (by omega) rfl (fun _ => (by decide : (34 : Nat) ≠ 0)) (fun P134 hT135 f136 => mpp 58 rfl ?_)
        have k137 : KW [1985] Po P134 := KW.all hK f136
        refine mp_a (a_iload dX5_removeAt_58 rfl) (mpp 60 rfl ?_)
        refine mp_a (a_istore_n (L' := [(3, .int v4), (0, .ref 1), (1, .int t1), (2, .ref b2_), (4, .int v4)]) dX5_removeAt_60 (by decide) rfl) (mpp 61 rfl ?_)
        obtain ⟨z138, h139⟩ := ti_ex (v4 + 1 : Int32)
        have wz138 := ti_full z138
        refine mp_a (a_iinc (v := z138) (L' := [(4, .int z138), (3, .int v4), (0, .ref 1), (1, .int t1), (2, .ref b2_)]) dX5_removeAt_61 (by decide) rfl h139 rfl) (mpp 64 rfl ?_)
        try have e140 : z138.toInt = v4.toInt + 1 := ti_addz h139 rfl rfl (by omega) (by omega)
        refine mp_a (a_goto (t := 18) dX5_removeAt_64 (by decide)) ?_
        refine MEvP.less (L := [(0, .ref 1), (1, .int t1), (2, .ref b2_), (3, .int v4), (4, .int z138)]) rfl rfl ⟨rfl, rfl, rfl, rfl, rfl, trivial⟩ ?_
        exact ih _ (by omega) _ _ _ hb2 P134 hT135 k137 rfl

set_option maxHeartbeats 4000000 in
theorem c_CS_removeAt_NState {Po : mP} {t1 : Int32} (hT : Typ Po)   : EvP 2 38 [.ref 1, .int t1] Po (fun r P' => (r = none ∧ (True)) ∧ Typ P' ∧ KW [1985] Po P' ∧ True) := by
  refine EvP.of qm_38 (Nat.le_of_ble_eq_true rfl) rfl ?_
  show MEvP _ none q_38 0 [(0, .ref 1), (1, .int t1)] [] _ 0 0 _
  refine mp_a (a_aload_n dX5_removeAt_0 rfl) (mpp 1 rfl ?_)
  refine mp_a (a_iload_n dX5_removeAt_1 rfl) (mpp 2 rfl ?_)
  refine mt_callv (i := 28) (q' := q_9) (As := [.int t1]) (rest := []) hT dX5_removeAt_2 rfl qm_9 (by decide) rfl rl_1 (by decide) rfl (Nat.le_of_ble_eq_true rfl) rfl ⟨rfl, rfl⟩ ⟨Nat.le_of_ble_eq_true rfl, Nat.le_of_ble_eq_true rfl⟩ (EvP.mono (by decide) (c_CS_pieceAt_NState hT )) (fun r1 P2 g3 => mpp 5 rfl ?_)
  obtain ⟨g3, e4⟩ := g3
  have e4 := e4.symm
  subst e4
  rcases g3 with rfl | ⟨b5, rfl, q6, q6r⟩
  · show MEvP _ none q_38 5 [(0, .ref 1), (1, .int t1)] [.null] _ _ _ _
    refine mp_a (a_astore_nN (L' := [(2, .null), (0, .ref 1), (1, .int t1)]) dX5_removeAt_5 (by decide) rfl) (mpp 6 rfl ?_)
    refine mp_a (a_aload_nN dX5_removeAt_6 rfl) (mpp 7 rfl ?_)
    refine mp_t (s_ifnonnullN dX5_removeAt_7) (mpp 10 rfl ?_)
    exact mp_ret ⟨⟨rfl, trivial⟩, hT, KW.refl, trivial⟩ dX5_removeAt_10 rfl
  · show MEvP _ none q_38 5 [(0, .ref 1), (1, .int t1)] [.ref b5] _ _ _ _
    refine mp_a (a_astore_n (L' := [(2, .ref b5), (0, .ref 1), (1, .int t1)]) dX5_removeAt_5 (by decide) rfl) (mpp 6 rfl ?_)
    refine mp_a (a_aload_n dX5_removeAt_6 rfl) (mpp 7 rfl ?_)
    refine mp_t (s_ifnonnullR (t := 11) dX5_removeAt_7 (by decide)) ?_
    refine mp_a (a_iload_n dX5_removeAt_11 rfl) (mpp 12 rfl ?_)
    refine mp_a (a_istore_n (L' := [(3, .int t1), (2, .ref b5), (0, .ref 1), (1, .int t1)]) dX5_removeAt_12 (by decide) rfl) (mpp 13 rfl ?_)
    refine mp_a (a_iload_n dX5_removeAt_13 rfl) (mpp 14 rfl ?_)
    refine mp_a (a_iconst (v := 1) dX5_removeAt_14 rfl) (mpp 15 rfl ?_)
    obtain ⟨z7, h8⟩ := ti_ex (t1 + 1 : Int32)
    have wz7 := ti_full z7
    refine mp_t (s_iadd (v := z7) dX5_removeAt_15 h8) (mpp 16 rfl ?_)
    try have e9 : z7.toInt = t1.toInt + 1 := ti_addz h8 rfl rfl (by omega) (by omega)
    refine mp_a (a_istore (L' := [(4, .int z7), (3, .int t1), (2, .ref b5), (0, .ref 1), (1, .int t1)]) dX5_removeAt_16 (by decide) rfl) (mpp 18 rfl ?_)
    refine MEvP.less (L := [(0, .ref 1), (1, .int t1), (2, .ref b5), (3, .int t1), (4, .int z7)]) rfl rfl ⟨rfl, rfl, rfl, rfl, rfl, trivial⟩ ?_
    exact c_CS_removeAt_NState_l18   _ _ _ _ q6 Po hT KW.refl rfl

set_option maxHeartbeats 4000000 in
theorem c_F_join {Po : mP} {t1 : Int32} {t2 : Int32} {t3 : Int32} (hT : Typ Po)   : EvP 5 36 [.ref 0, .int t1, .int t2, .int t3] Po (fun r P' => (∃ x : Int32, r = some (.int x) ∧ (True)) ∧ Typ P' ∧ KW [10, 11, 12, 65, 66, 67, 192, 193, 194, 256, 320, 385, 386, 1985, 2113] Po P' ∧ True) := by
  refine EvP.of qm_36 (Nat.le_of_ble_eq_true rfl) rfl ?_
  show MEvP _ none q_36 0 [(0, .ref 0), (1, .int t1), (2, .int t2), (3, .int t3)] [] _ 0 0 _
  refine mp_a (a_aload_n dX6_join_0 rfl) (mpp 1 rfl ?_)
  refine mt_getU (i := 10) (k := 0) (A := 1) hT dX6_join_1 rfl rl_0 (by decide) rfl (by decide) rfl un_31 (mpp 4 rfl ?_)
  refine mp_a (a_iload_n dX6_join_4 rfl) (mpp 5 rfl ?_)
  refine mt_callv (i := 94) (q' := q_9) (As := [.int t1]) (rest := []) hT dX6_join_5 rfl qm_9 (by decide) rfl rl_1 (by decide) rfl (Nat.le_of_ble_eq_true rfl) rfl ⟨rfl, rfl⟩ ⟨Nat.le_of_ble_eq_true rfl, Nat.le_of_ble_eq_true rfl⟩ (EvP.mono (by decide) (c_CS_pieceAt_NState hT )) (fun r1 P2 g3 => mpp 8 rfl ?_)
  obtain ⟨g3, e4⟩ := g3
  have e4 := e4.symm
  subst e4
  rcases g3 with rfl | ⟨b5, rfl, q6, q6r⟩
  · show MEvP _ none q_36 8 [(0, .ref 0), (1, .int t1), (2, .int t2), (3, .int t3)] [.null] _ _ _ _
    refine mp_a (a_astoreN (L' := [(4, .null), (0, .ref 0), (1, .int t1), (2, .int t2), (3, .int t3)]) dX6_join_8 (by decide) rfl) (mpp 10 rfl ?_)
    refine mp_a (a_aload_n dX6_join_10 rfl) (mpp 11 rfl ?_)
    refine mt_getU (i := 10) (k := 0) (A := 1) hT dX6_join_11 rfl rl_0 (by decide) rfl (by decide) rfl un_31 (mpp 14 rfl ?_)
    refine mp_a (a_iload_n dX6_join_14 rfl) (mpp 15 rfl ?_)
    refine mt_callv (i := 94) (q' := q_9) (As := [.int t2]) (rest := []) hT dX6_join_15 rfl qm_9 (by decide) rfl rl_1 (by decide) rfl (Nat.le_of_ble_eq_true rfl) rfl ⟨rfl, rfl⟩ ⟨Nat.le_of_ble_eq_true rfl, Nat.le_of_ble_eq_true rfl⟩ (EvP.mono (by decide) (c_CS_pieceAt_NState hT )) (fun r7 P8 g9 => mpp 18 rfl ?_)
    obtain ⟨g9, e10⟩ := g9
    have e10 := e10.symm
    subst e10
    rcases g9 with rfl | ⟨b11, rfl, q12, q12r⟩
    · show MEvP _ none q_36 18 [(4, .null), (0, .ref 0), (1, .int t1), (2, .int t2), (3, .int t3)] [.null] _ _ _ _
      refine mp_a (a_astoreN (L' := [(5, .null), (4, .null), (0, .ref 0), (1, .int t1), (2, .int t2), (3, .int t3)]) dX6_join_18 (by decide) rfl) (mpp 20 rfl ?_)
      refine mp_a (a_aloadN dX6_join_20 rfl) (mpp 22 rfl ?_)
      refine mp_t (s_ifnullN (t := 35) dX6_join_22 (by decide)) ?_
      refine mp_a (a_sipush (v := -1001) dX6_join_35 rfl) (mpp 38 rfl ?_)
      exact mp_iret ⟨⟨_, rfl, trivial⟩, hT, KW.refl, trivial⟩ dX6_join_38 (Or.inl rfl)
    · show MEvP _ none q_36 18 [(4, .null), (0, .ref 0), (1, .int t1), (2, .int t2), (3, .int t3)] [.ref b11] _ _ _ _
      refine mp_a (a_astore (L' := [(5, .ref b11), (4, .null), (0, .ref 0), (1, .int t1), (2, .int t2), (3, .int t3)]) dX6_join_18 (by decide) rfl) (mpp 20 rfl ?_)
      refine mp_a (a_aloadN dX6_join_20 rfl) (mpp 22 rfl ?_)
      refine mp_t (s_ifnullN (t := 35) dX6_join_22 (by decide)) ?_
      refine mp_a (a_sipush (v := -1001) dX6_join_35 rfl) (mpp 38 rfl ?_)
      exact mp_iret ⟨⟨_, rfl, trivial⟩, hT, KW.refl, trivial⟩ dX6_join_38 (Or.inl rfl)
  · show MEvP _ none q_36 8 [(0, .ref 0), (1, .int t1), (2, .int t2), (3, .int t3)] [.ref b5] _ _ _ _
    refine mp_a (a_astore (L' := [(4, .ref b5), (0, .ref 0), (1, .int t1), (2, .int t2), (3, .int t3)]) dX6_join_8 (by decide) rfl) (mpp 10 rfl ?_)
    refine mp_a (a_aload_n dX6_join_10 rfl) (mpp 11 rfl ?_)
    refine mt_getU (i := 10) (k := 0) (A := 1) hT dX6_join_11 rfl rl_0 (by decide) rfl (by decide) rfl un_31 (mpp 14 rfl ?_)
    refine mp_a (a_iload_n dX6_join_14 rfl) (mpp 15 rfl ?_)
    refine mt_callv (i := 94) (q' := q_9) (As := [.int t2]) (rest := []) hT dX6_join_15 rfl qm_9 (by decide) rfl rl_1 (by decide) rfl (Nat.le_of_ble_eq_true rfl) rfl ⟨rfl, rfl⟩ ⟨Nat.le_of_ble_eq_true rfl, Nat.le_of_ble_eq_true rfl⟩ (EvP.mono (by decide) (c_CS_pieceAt_NState hT )) (fun r13 P14 g15 => mpp 18 rfl ?_)
    obtain ⟨g15, e16⟩ := g15
    have e16 := e16.symm
    subst e16
    rcases g15 with rfl | ⟨b17, rfl, q18, q18r⟩
    · show MEvP _ none q_36 18 [(4, .ref b5), (0, .ref 0), (1, .int t1), (2, .int t2), (3, .int t3)] [.null] _ _ _ _
      refine mp_a (a_astoreN (L' := [(5, .null), (4, .ref b5), (0, .ref 0), (1, .int t1), (2, .int t2), (3, .int t3)]) dX6_join_18 (by decide) rfl) (mpp 20 rfl ?_)
      refine mp_a (a_aload dX6_join_20 rfl) (mpp 22 rfl ?_)
      refine mp_t (s_ifnullR dX6_join_22) (mpp 25 rfl ?_)
      refine mp_a (a_aloadN dX6_join_25 rfl) (mpp 27 rfl ?_)
      refine mp_t (s_ifnullN (t := 35) dX6_join_27 (by decide)) ?_
      refine mp_a (a_sipush (v := -1001) dX6_join_35 rfl) (mpp 38 rfl ?_)
      exact mp_iret ⟨⟨_, rfl, trivial⟩, hT, KW.refl, trivial⟩ dX6_join_38 (Or.inl rfl)
    · show MEvP _ none q_36 18 [(4, .ref b5), (0, .ref 0), (1, .int t1), (2, .int t2), (3, .int t3)] [.ref b17] _ _ _ _
      refine mp_a (a_astore (L' := [(5, .ref b17), (4, .ref b5), (0, .ref 0), (1, .int t1), (2, .int t2), (3, .int t3)]) dX6_join_18 (by decide) rfl) (mpp 20 rfl ?_)
      refine mp_a (a_aload dX6_join_20 rfl) (mpp 22 rfl ?_)
      refine mp_t (s_ifnullR dX6_join_22) (mpp 25 rfl ?_)
      refine mp_a (a_aload dX6_join_25 rfl) (mpp 27 rfl ?_)
      refine mp_t (s_ifnullR dX6_join_27) (mpp 30 rfl ?_)
      refine mp_a (a_iload_n dX6_join_30 rfl) (mpp 31 rfl ?_)
      refine mp_a (a_iload_n dX6_join_31 rfl) (mpp 32 rfl ?_)
      refine mp_Tb (t := 39) (j_icmp_ne dX6_join_32) (by decide) (fun c19 => ?_) (fun c19 => mpp 35 rfl ?_)
      · have c19 : t1.toInt ≠ t2.toInt := ti_ne c19
        refine mp_a (a_iload_n dX6_join_39 rfl) (mpp 40 rfl ?_)
        refine mp_calls (i := 101) (q' := q_26) (As := [.int t3]) (rest := []) dX6_join_40 rfl qm_26 (by decide) rfl (Nat.le_of_ble_eq_true rfl) rfl ⟨rfl, rfl⟩ ⟨Nat.le_of_ble_eq_true rfl, Nat.le_of_ble_eq_true rfl⟩ (EvP.mono (by decide) (c_F_isCreaseKind hT )) (fun r20 P21 g22 => mpp 43 rfl ?_)
        obtain ⟨⟨x23, rfl, g24⟩, e25⟩ := g22
        have e25 := e25.symm
        subst e25
        have wx23 := ti_full x23
        have g24 : 0 ≤ x23.toInt ∧ x23.toInt ≤ 1 := g24
        show MEvP _ none q_36 43 [(5, .ref b17), (4, .ref b5), (0, .ref 0), (1, .int t1), (2, .int t2), (3, .int t3)] [.int x23] _ _ _ _
        refine mp_Tb (t := 50) (j_if_ne dX6_join_43) (by decide) (fun c26 => ?_) (fun c26 => mpp 46 rfl ?_)
        · have c26 : x23.toInt ≠ 0 := ti_ne c26
          refine mp_a (a_aload dX6_join_50 rfl) (mpp 52 rfl ?_)
          have g27 : (0 : Int) ≤ (fv Po b5 2).toInt ∧ (fv Po b5 2).toInt ≤ 1 := Typ.rng hT q6 (by decide) (by decide) rfl
          refine mt_getI (i := 104) (k := 2) hT dX6_join_52 rfl q6 (by decide) rfl (by decide) rfl (fun g28 g29 => mpp 55 rfl ?_)
          refine mp_Tb (t := 66) (j_if_ne dX6_join_55) (by decide) (fun c30 => ?_) (fun c30 => mpp 58 rfl ?_)
          · have c30 : (fv Po b5 2).toInt ≠ 0 := ti_ne c30
            refine mp_a (a_aload_n dX6_join_66 rfl) (mpp 67 rfl ?_)
            refine mp_a (a_iconst (v := 2) dX6_join_67 rfl) (mpp 68 rfl ?_)
            refine mp_a (a_aload dX6_join_68 rfl) (mpp 70 rfl ?_)
            refine mt_getI (i := 104) (k := 2) hT dX6_join_70 rfl q6 (by decide) rfl (by decide) rfl (fun g31 g32 => mpp 73 rfl ?_)
            refine mp_Tb (t := 80) (j_if_eq dX6_join_73) (by decide) (fun c33 => ?_) (fun c33 => mpp 76 rfl ?_)
            · have c33 : (fv Po b5 2).toInt = 0 := ti_eq c33
              refine mp_a (a_iload_n dX6_join_80 rfl) (mpp 81 rfl ?_)
              refine mt_callv (i := 68) (q' := q_14) (As := [.int 2, .int t2]) (rest := []) hT dX6_join_81 rfl qm_14 (by decide) rfl rl_0 (by decide) rfl (Nat.le_of_ble_eq_true rfl) rfl ⟨rfl, rfl⟩ ⟨Nat.le_of_ble_eq_true rfl, Nat.le_of_ble_eq_true rfl⟩ (EvP.mono (by decide) (c_F_refuse hT )) (fun r34 P35 g36 => mpp 84 rfl ?_)
              obtain ⟨⟨x37, rfl, g38⟩, hT39, k40, R41⟩ := g36
              have k42 : KW [10, 11, 12, 65, 66, 67, 192, 193, 194, 256, 320, 385, 386, 1985, 2113] Po P35 := KW.trans KW.refl k40 rfl
              have wx37 := ti_full x37
              show MEvP _ none q_36 84 [(5, .ref b17), (4, .ref b5), (0, .ref 0), (1, .int t1), (2, .int t2), (3, .int t3)] [.int x37] _ _ _ _
              exact mp_iret ⟨⟨_, rfl, trivial⟩, hT39, k42, trivial⟩ dX6_join_84 (Or.inl rfl)
            · have c33 : (fv Po b5 2).toInt ≠ 0 := ti_eq_n c33
              refine mp_a (a_iload_n dX6_join_76 rfl) (mpp 77 rfl ?_)
              refine mp_a (a_goto (t := 81) dX6_join_77 (by decide)) ?_
              refine mt_callv (i := 68) (q' := q_14) (As := [.int 2, .int t1]) (rest := []) hT dX6_join_81 rfl qm_14 (by decide) rfl rl_0 (by decide) rfl (Nat.le_of_ble_eq_true rfl) rfl ⟨rfl, rfl⟩ ⟨Nat.le_of_ble_eq_true rfl, Nat.le_of_ble_eq_true rfl⟩ (EvP.mono (by decide) (c_F_refuse hT )) (fun r43 P44 g45 => mpp 84 rfl ?_)
              obtain ⟨⟨x46, rfl, g47⟩, hT48, k49, R50⟩ := g45
              have k51 : KW [10, 11, 12, 65, 66, 67, 192, 193, 194, 256, 320, 385, 386, 1985, 2113] Po P44 := KW.trans KW.refl k49 rfl
              have wx46 := ti_full x46
              show MEvP _ none q_36 84 [(5, .ref b17), (4, .ref b5), (0, .ref 0), (1, .int t1), (2, .int t2), (3, .int t3)] [.int x46] _ _ _ _
              exact mp_iret ⟨⟨_, rfl, trivial⟩, hT48, k51, trivial⟩ dX6_join_84 (Or.inl rfl)
          · have c30 : (fv Po b5 2).toInt = 0 := ti_ne_n c30
            refine mp_a (a_aload dX6_join_58 rfl) (mpp 60 rfl ?_)
            have g52 : (0 : Int) ≤ (fv Po b17 2).toInt ∧ (fv Po b17 2).toInt ≤ 1 := Typ.rng hT q18 (by decide) (by decide) rfl
            refine mt_getI (i := 104) (k := 2) hT dX6_join_60 rfl q18 (by decide) rfl (by decide) rfl (fun g53 g54 => mpp 63 rfl ?_)
            refine mp_Tb (t := 85) (j_if_eq dX6_join_63) (by decide) (fun c55 => ?_) (fun c55 => mpp 66 rfl ?_)
            · have c55 : (fv Po b17 2).toInt = 0 := ti_eq c55
              refine mp_a (a_aload dX6_join_85 rfl) (mpp 87 rfl ?_)
              have g56 := ti_full (fv Po b5 0)
              refine mt_getI (i := 130) (k := 0) hT dX6_join_87 rfl q6 (by decide) rfl (by decide) rfl (fun g57 g58 => mpp 90 rfl ?_)
              refine mp_Tb (t := 101) (j_if_ne dX6_join_90) (by decide) (fun c59 => ?_) (fun c59 => mpp 93 rfl ?_)
              · have c59 : (fv Po b5 0).toInt ≠ 0 := ti_ne c59
                refine mp_a (a_aload_n dX6_join_101 rfl) (mpp 102 rfl ?_)
                refine mp_a (a_iconst (v := 3) dX6_join_102 rfl) (mpp 103 rfl ?_)
                refine mp_a (a_aload dX6_join_103 rfl) (mpp 105 rfl ?_)
                refine mt_getI (i := 130) (k := 0) hT dX6_join_105 rfl q6 (by decide) rfl (by decide) rfl (fun g60 g61 => mpp 108 rfl ?_)
                refine mp_Tb (t := 115) (j_if_eq dX6_join_108) (by decide) (fun c62 => ?_) (fun c62 => mpp 111 rfl ?_)
                · have c62 : (fv Po b5 0).toInt = 0 := ti_eq c62
                  refine mp_a (a_iload_n dX6_join_115 rfl) (mpp 116 rfl ?_)
                  refine mt_callv (i := 68) (q' := q_14) (As := [.int 3, .int t2]) (rest := []) hT dX6_join_116 rfl qm_14 (by decide) rfl rl_0 (by decide) rfl (Nat.le_of_ble_eq_true rfl) rfl ⟨rfl, rfl⟩ ⟨Nat.le_of_ble_eq_true rfl, Nat.le_of_ble_eq_true rfl⟩ (EvP.mono (by decide) (c_F_refuse hT )) (fun r63 P64 g65 => mpp 119 rfl ?_)
                  obtain ⟨⟨x66, rfl, g67⟩, hT68, k69, R70⟩ := g65
                  have k71 : KW [10, 11, 12, 65, 66, 67, 192, 193, 194, 256, 320, 385, 386, 1985, 2113] Po P64 := KW.trans KW.refl k69 rfl
                  have wx66 := ti_full x66
                  show MEvP _ none q_36 119 [(5, .ref b17), (4, .ref b5), (0, .ref 0), (1, .int t1), (2, .int t2), (3, .int t3)] [.int x66] _ _ _ _
                  exact mp_iret ⟨⟨_, rfl, trivial⟩, hT68, k71, trivial⟩ dX6_join_119 (Or.inl rfl)
                · have c62 : (fv Po b5 0).toInt ≠ 0 := ti_eq_n c62
                  refine mp_a (a_iload_n dX6_join_111 rfl) (mpp 112 rfl ?_)
                  refine mp_a (a_goto (t := 116) dX6_join_112 (by decide)) ?_
                  refine mt_callv (i := 68) (q' := q_14) (As := [.int 3, .int t1]) (rest := []) hT dX6_join_116 rfl qm_14 (by decide) rfl rl_0 (by decide) rfl (Nat.le_of_ble_eq_true rfl) rfl ⟨rfl, rfl⟩ ⟨Nat.le_of_ble_eq_true rfl, Nat.le_of_ble_eq_true rfl⟩ (EvP.mono (by decide) (c_F_refuse hT )) (fun r72 P73 g74 => mpp 119 rfl ?_)
                  obtain ⟨⟨x75, rfl, g76⟩, hT77, k78, R79⟩ := g74
                  have k80 : KW [10, 11, 12, 65, 66, 67, 192, 193, 194, 256, 320, 385, 386, 1985, 2113] Po P73 := KW.trans KW.refl k78 rfl
                  have wx75 := ti_full x75
                  show MEvP _ none q_36 119 [(5, .ref b17), (4, .ref b5), (0, .ref 0), (1, .int t1), (2, .int t2), (3, .int t3)] [.int x75] _ _ _ _
                  exact mp_iret ⟨⟨_, rfl, trivial⟩, hT77, k80, trivial⟩ dX6_join_119 (Or.inl rfl)
              · have c59 : (fv Po b5 0).toInt = 0 := ti_ne_n c59
                refine mp_a (a_aload dX6_join_93 rfl) (mpp 95 rfl ?_)
                have g81 := ti_full (fv Po b17 0)
                refine mt_getI (i := 130) (k := 0) hT dX6_join_95 rfl q18 (by decide) rfl (by decide) rfl (fun g82 g83 => mpp 98 rfl ?_)
                refine mp_Tb (t := 120) (j_if_eq dX6_join_98) (by decide) (fun c84 => ?_) (fun c84 => mpp 101 rfl ?_)
                · have c84 : (fv Po b17 0).toInt = 0 := ti_eq c84
                  refine mp_a (a_aload dX6_join_120 rfl) (mpp 122 rfl ?_)
                  have g85 : (0 : Int) ≤ (fv Po b5 1).toInt ∧ (fv Po b5 1).toInt ≤ 8 := Typ.rng hT q6 (by decide) (by decide) rfl
                  refine mt_getI (i := 143) (k := 1) hT dX6_join_122 rfl q6 (by decide) rfl (by decide) rfl (fun g86 g87 => mpp 125 rfl ?_)
                  refine mp_a (a_aload dX6_join_125 rfl) (mpp 127 rfl ?_)
                  have g88 : (0 : Int) ≤ (fv Po b17 1).toInt ∧ (fv Po b17 1).toInt ≤ 8 := Typ.rng hT q18 (by decide) (by decide) rfl
                  refine mt_getI (i := 143) (k := 1) hT dX6_join_127 rfl q18 (by decide) rfl (by decide) rfl (fun g89 g90 => mpp 130 rfl ?_)
                  obtain ⟨z91, h92⟩ := ti_ex ((fv Po b5 1) + (fv Po b17 1) : Int32)
                  have wz91 := ti_full z91
                  refine mp_t (s_iadd (v := z91) dX6_join_130 h92) (mpp 131 rfl ?_)
                  try have e93 : z91.toInt = (fv Po b5 1).toInt + (fv Po b17 1).toInt := ti_addz h92 rfl rfl (by omega) (by omega)
                  refine mp_a (a_istore (L' := [(6, .int z91), (5, .ref b17), (4, .ref b5), (0, .ref 0), (1, .int t1), (2, .int t2), (3, .int t3)]) dX6_join_131 (by decide) rfl) (mpp 133 rfl ?_)
                  refine mp_a (a_iload dX6_join_133 rfl) (mpp 135 rfl ?_)
                  refine mp_a (a_bipush (v := 7) dX6_join_135 rfl) (mpp 137 rfl ?_)
                  refine mp_Tb (t := 149) (j_icmp_le dX6_join_137) (by decide) (fun c94 => ?_) (fun c94 => mpp 140 rfl ?_)
                  · have c94 : z91.toInt ≤ 7 := ti_le c94
                    refine mp_a (a_aload_n dX6_join_149 rfl) (mpp 150 rfl ?_)
                    refine mt_getU (i := 25) (k := 3) (A := 79) hT dX6_join_150 rfl rl_0 (by decide) rfl (by decide) rfl un_6 (mpp 153 rfl ?_)
                    refine mp_a (a_aload_n dX6_join_153 rfl) (mpp 154 rfl ?_)
                    refine mt_getU (i := 10) (k := 0) (A := 1) hT dX6_join_154 rfl rl_0 (by decide) rfl (by decide) rfl un_31 (mpp 157 rfl ?_)
                    refine mt_callv (i := 72) (q' := q_15) (As := [.ref 1]) (rest := []) hT dX6_join_157 rfl qm_15 (by decide) rfl rl_79 (by decide) rfl (Nat.le_of_ble_eq_true rfl) rfl ⟨rfl, rfl⟩ ⟨Nat.le_of_ble_eq_true rfl, Nat.le_of_ble_eq_true rfl⟩ (EvP.mono (by decide) (c_CH_push_History_NState hT )) (fun r95 P96 g97 => mpp 160 rfl ?_)
                    obtain ⟨⟨rfl, g99⟩, hT100, k101, R102⟩ := g97
                    have k103 : KW [10, 11, 12, 65, 66, 67, 192, 193, 194, 256, 320, 385, 386, 1985, 2113] Po P96 := KW.trans KW.refl k101 rfl
                    show MEvP _ none q_36 160 [(6, .int z91), (5, .ref b17), (4, .ref b5), (0, .ref 0), (1, .int t1), (2, .int t2), (3, .int t3)] [] _ _ _ _
                    refine mp_a (a_aload dX6_join_160 rfl) (mpp 162 rfl ?_)
                    refine mp_a (a_aload dX6_join_162 rfl) (mpp 164 rfl ?_)
                    refine mp_a (a_iload_n dX6_join_164 rfl) (mpp 165 rfl ?_)
                    have e104 : (fv P96 b5 1).toInt = (fv Po b5 1).toInt := congrArg Int32.toInt (KW.at k101 1 q6 rfl)
                    have e105 : (fv P96 b17 1).toInt = (fv Po b17 1).toInt := congrArg Int32.toInt (KW.at k101 1 q18 rfl)
                    have p106 : (fv P96 b5 1).toInt + (fv P96 b17 1).toInt ≤ 8 := by omega
                    refine mt_callv (i := 144) (q' := q_37) (As := [.ref b17, .int t3]) (rest := []) hT100 dX6_join_165 rfl qm_37 (by decide) rfl q6 (by decide) rfl (Nat.le_of_ble_eq_true rfl) rfl ⟨rfl, rfl⟩ ⟨Nat.le_of_ble_eq_true rfl, Nat.le_of_ble_eq_true rfl⟩ (EvP.mono (by decide) (c_CP_lengthenBy_NPiece_NPiece hT100 p106 q6 q18)) (fun r107 P108 g109 => mpp 168 rfl ?_)
                    obtain ⟨⟨rfl, g111⟩, hT112, k113, R114⟩ := g109
                    have k115 : KW [10, 11, 12, 65, 66, 67, 192, 193, 194, 256, 320, 385, 386, 1985, 2113] Po P108 := KW.trans k103 k113 rfl
                    show MEvP _ none q_36 168 [(6, .int z91), (5, .ref b17), (4, .ref b5), (0, .ref 0), (1, .int t1), (2, .int t2), (3, .int t3)] [] _ _ _ _
                    refine mp_a (a_aload_n dX6_join_168 rfl) (mpp 169 rfl ?_)
                    refine mt_getU (i := 10) (k := 0) (A := 1) hT112 dX6_join_169 rfl rl_0 (by decide) rfl (by decide) rfl un_31 (mpp 172 rfl ?_)
                    refine mp_a (a_iload_n dX6_join_172 rfl) (mpp 173 rfl ?_)
                    refine mt_callv (i := 147) (q' := q_38) (As := [.int t2]) (rest := []) hT112 dX6_join_173 rfl qm_38 (by decide) rfl rl_1 (by decide) rfl (Nat.le_of_ble_eq_true rfl) rfl ⟨rfl, rfl⟩ ⟨Nat.le_of_ble_eq_true rfl, Nat.le_of_ble_eq_true rfl⟩ (EvP.mono (by decide) (c_CS_removeAt_NState hT112 )) (fun r116 P117 g118 => mpp 176 rfl ?_)
                    obtain ⟨⟨rfl, g120⟩, hT121, k122, R123⟩ := g118
                    have k124 : KW [10, 11, 12, 65, 66, 67, 192, 193, 194, 256, 320, 385, 386, 1985, 2113] Po P117 := KW.trans k115 k122 rfl
                    show MEvP _ none q_36 176 [(6, .int z91), (5, .ref b17), (4, .ref b5), (0, .ref 0), (1, .int t1), (2, .int t2), (3, .int t3)] [] _ _ _ _
                    refine mp_a (a_iload dX6_join_176 rfl) (mpp 178 rfl ?_)
                    exact mp_iret ⟨⟨_, rfl, trivial⟩, hT121, k124, trivial⟩ dX6_join_178 (Or.inl rfl)
                  · have c94 : z91.toInt > 7 := ti_le_n c94
                    refine mp_a (a_aload_n dX6_join_140 rfl) (mpp 141 rfl ?_)
                    refine mp_a (a_bipush (v := 6) dX6_join_141 rfl) (mpp 143 rfl ?_)
                    refine mp_a (a_iload dX6_join_143 rfl) (mpp 145 rfl ?_)
                    refine mt_callv (i := 68) (q' := q_14) (As := [.int 6, .int z91]) (rest := []) hT dX6_join_145 rfl qm_14 (by decide) rfl rl_0 (by decide) rfl (Nat.le_of_ble_eq_true rfl) rfl ⟨rfl, rfl⟩ ⟨Nat.le_of_ble_eq_true rfl, Nat.le_of_ble_eq_true rfl⟩ (EvP.mono (by decide) (c_F_refuse hT )) (fun r125 P126 g127 => mpp 148 rfl ?_)
                    obtain ⟨⟨x128, rfl, g129⟩, hT130, k131, R132⟩ := g127
                    have k133 : KW [10, 11, 12, 65, 66, 67, 192, 193, 194, 256, 320, 385, 386, 1985, 2113] Po P126 := KW.trans KW.refl k131 rfl
                    have wx128 := ti_full x128
                    show MEvP _ none q_36 148 [(6, .int z91), (5, .ref b17), (4, .ref b5), (0, .ref 0), (1, .int t1), (2, .int t2), (3, .int t3)] [.int x128] _ _ _ _
                    exact mp_iret ⟨⟨_, rfl, trivial⟩, hT130, k133, trivial⟩ dX6_join_148 (Or.inl rfl)
                · have c84 : (fv Po b17 0).toInt ≠ 0 := ti_eq_n c84
                  refine mp_a (a_aload_n dX6_join_101 rfl) (mpp 102 rfl ?_)
                  refine mp_a (a_iconst (v := 3) dX6_join_102 rfl) (mpp 103 rfl ?_)
                  refine mp_a (a_aload dX6_join_103 rfl) (mpp 105 rfl ?_)
                  refine mt_getI (i := 130) (k := 0) hT dX6_join_105 rfl q6 (by decide) rfl (by decide) rfl (fun g134 g135 => mpp 108 rfl ?_)
                  refine mp_Tb (t := 115) (j_if_eq dX6_join_108) (by decide) (fun c136 => ?_) (fun c136 => mpp 111 rfl ?_)
                  · have c136 : (fv Po b5 0).toInt = 0 := ti_eq c136
                    refine mp_a (a_iload_n dX6_join_115 rfl) (mpp 116 rfl ?_)
                    refine mt_callv (i := 68) (q' := q_14) (As := [.int 3, .int t2]) (rest := []) hT dX6_join_116 rfl qm_14 (by decide) rfl rl_0 (by decide) rfl (Nat.le_of_ble_eq_true rfl) rfl ⟨rfl, rfl⟩ ⟨Nat.le_of_ble_eq_true rfl, Nat.le_of_ble_eq_true rfl⟩ (EvP.mono (by decide) (c_F_refuse hT )) (fun r137 P138 g139 => mpp 119 rfl ?_)
                    obtain ⟨⟨x140, rfl, g141⟩, hT142, k143, R144⟩ := g139
                    have k145 : KW [10, 11, 12, 65, 66, 67, 192, 193, 194, 256, 320, 385, 386, 1985, 2113] Po P138 := KW.trans KW.refl k143 rfl
                    have wx140 := ti_full x140
                    show MEvP _ none q_36 119 [(5, .ref b17), (4, .ref b5), (0, .ref 0), (1, .int t1), (2, .int t2), (3, .int t3)] [.int x140] _ _ _ _
                    exact mp_iret ⟨⟨_, rfl, trivial⟩, hT142, k145, trivial⟩ dX6_join_119 (Or.inl rfl)
                  · have c136 : (fv Po b5 0).toInt ≠ 0 := ti_eq_n c136
                    refine mp_a (a_iload_n dX6_join_111 rfl) (mpp 112 rfl ?_)
                    refine mp_a (a_goto (t := 116) dX6_join_112 (by decide)) ?_
                    refine mt_callv (i := 68) (q' := q_14) (As := [.int 3, .int t1]) (rest := []) hT dX6_join_116 rfl qm_14 (by decide) rfl rl_0 (by decide) rfl (Nat.le_of_ble_eq_true rfl) rfl ⟨rfl, rfl⟩ ⟨Nat.le_of_ble_eq_true rfl, Nat.le_of_ble_eq_true rfl⟩ (EvP.mono (by decide) (c_F_refuse hT )) (fun r146 P147 g148 => mpp 119 rfl ?_)
                    obtain ⟨⟨x149, rfl, g150⟩, hT151, k152, R153⟩ := g148
                    have k154 : KW [10, 11, 12, 65, 66, 67, 192, 193, 194, 256, 320, 385, 386, 1985, 2113] Po P147 := KW.trans KW.refl k152 rfl
                    have wx149 := ti_full x149
                    show MEvP _ none q_36 119 [(5, .ref b17), (4, .ref b5), (0, .ref 0), (1, .int t1), (2, .int t2), (3, .int t3)] [.int x149] _ _ _ _
                    exact mp_iret ⟨⟨_, rfl, trivial⟩, hT151, k154, trivial⟩ dX6_join_119 (Or.inl rfl)
            · have c55 : (fv Po b17 2).toInt ≠ 0 := ti_eq_n c55
              refine mp_a (a_aload_n dX6_join_66 rfl) (mpp 67 rfl ?_)
              refine mp_a (a_iconst (v := 2) dX6_join_67 rfl) (mpp 68 rfl ?_)
              refine mp_a (a_aload dX6_join_68 rfl) (mpp 70 rfl ?_)
              refine mt_getI (i := 104) (k := 2) hT dX6_join_70 rfl q6 (by decide) rfl (by decide) rfl (fun g155 g156 => mpp 73 rfl ?_)
              refine mp_Tb (t := 80) (j_if_eq dX6_join_73) (by decide) (fun c157 => ?_) (fun c157 => mpp 76 rfl ?_)
              · have c157 : (fv Po b5 2).toInt = 0 := ti_eq c157
                refine mp_a (a_iload_n dX6_join_80 rfl) (mpp 81 rfl ?_)
                refine mt_callv (i := 68) (q' := q_14) (As := [.int 2, .int t2]) (rest := []) hT dX6_join_81 rfl qm_14 (by decide) rfl rl_0 (by decide) rfl (Nat.le_of_ble_eq_true rfl) rfl ⟨rfl, rfl⟩ ⟨Nat.le_of_ble_eq_true rfl, Nat.le_of_ble_eq_true rfl⟩ (EvP.mono (by decide) (c_F_refuse hT )) (fun r158 P159 g160 => mpp 84 rfl ?_)
                obtain ⟨⟨x161, rfl, g162⟩, hT163, k164, R165⟩ := g160
                have k166 : KW [10, 11, 12, 65, 66, 67, 192, 193, 194, 256, 320, 385, 386, 1985, 2113] Po P159 := KW.trans KW.refl k164 rfl
                have wx161 := ti_full x161
                show MEvP _ none q_36 84 [(5, .ref b17), (4, .ref b5), (0, .ref 0), (1, .int t1), (2, .int t2), (3, .int t3)] [.int x161] _ _ _ _
                exact mp_iret ⟨⟨_, rfl, trivial⟩, hT163, k166, trivial⟩ dX6_join_84 (Or.inl rfl)
              · have c157 : (fv Po b5 2).toInt ≠ 0 := ti_eq_n c157
                refine mp_a (a_iload_n dX6_join_76 rfl) (mpp 77 rfl ?_)
                refine mp_a (a_goto (t := 81) dX6_join_77 (by decide)) ?_
                refine mt_callv (i := 68) (q' := q_14) (As := [.int 2, .int t1]) (rest := []) hT dX6_join_81 rfl qm_14 (by decide) rfl rl_0 (by decide) rfl (Nat.le_of_ble_eq_true rfl) rfl ⟨rfl, rfl⟩ ⟨Nat.le_of_ble_eq_true rfl, Nat.le_of_ble_eq_true rfl⟩ (EvP.mono (by decide) (c_F_refuse hT )) (fun r167 P168 g169 => mpp 84 rfl ?_)
                obtain ⟨⟨x170, rfl, g171⟩, hT172, k173, R174⟩ := g169
                have k175 : KW [10, 11, 12, 65, 66, 67, 192, 193, 194, 256, 320, 385, 386, 1985, 2113] Po P168 := KW.trans KW.refl k173 rfl
                have wx170 := ti_full x170
                show MEvP _ none q_36 84 [(5, .ref b17), (4, .ref b5), (0, .ref 0), (1, .int t1), (2, .int t2), (3, .int t3)] [.int x170] _ _ _ _
                exact mp_iret ⟨⟨_, rfl, trivial⟩, hT172, k175, trivial⟩ dX6_join_84 (Or.inl rfl)
        · have c26 : x23.toInt = 0 := ti_ne_n c26
          refine mp_a (a_sipush (v := -1002) dX6_join_46 rfl) (mpp 49 rfl ?_)
          exact mp_iret ⟨⟨_, rfl, trivial⟩, hT, KW.refl, trivial⟩ dX6_join_49 (Or.inl rfl)
      · have c19 : t1.toInt = t2.toInt := ti_ne_n c19
        refine mp_a (a_sipush (v := -1001) dX6_join_35 rfl) (mpp 38 rfl ?_)
        exact mp_iret ⟨⟨_, rfl, trivial⟩, hT, KW.refl, trivial⟩ dX6_join_38 (Or.inl rfl)

set_option maxHeartbeats 4000000 in
theorem c_CP_becomeEndOf_Piece_NPiece_l22 {Po : mP} {a0_ : Nat} {a1_ : Nat} {t2 : Int32} (hp0 : 0 ≤ t2.toInt) (hp1 : t2.toInt ≤ (fv Po a1_ 1).toInt) (ha0 : rl a0_ = 3) (ha1 : rl a1_ = 33) : ∀ (n : Nat) (v3 : Int32), ∀ (P : mP), Typ P → KW [192, 193, 194, 256, 320] Po P → (0 ≤ v3.toInt) → (2147483647 - v3.toInt).toNat = n → MEvP 1 none q_40 22 [(0, .ref a0_), (1, .ref a1_), (2, .int t2), (3, .int v3)] [] P 0 0 (fun r P' => (r = none ∧ (True)) ∧ Typ P' ∧ KW [192, 193, 194, 256, 320] Po P' ∧ True) := by
  intro n
  induction n using Nat.strongRecOn with | _ n ih => ?_
  intro v3 P hT hK i_0 hm
  have w_t2 := ti_full t2
  have w_v3 := ti_full v3
  refine mp_a (a_iload_n dX2_becomeEndOf_22 rfl) (mpp 23 rfl ?_)
  refine mp_a (a_aload_n dX2_becomeEndOf_23 rfl) (mpp 24 rfl ?_)
  have g1 : (0 : Int) ≤ (fv P a0_ 1).toInt ∧ (fv P a0_ 1).toInt ≤ 8 := Typ.rng hT ha0 (by decide) (by decide) rfl
  refine mt_getI (i := 26) (k := 1) hT dX2_becomeEndOf_24 rfl ha0 (by decide) rfl (by decide) rfl (fun g2 g3 => mpp 27 rfl ?_)
  refine mp_Tb (t := 72) (j_icmp_ge dX2_becomeEndOf_27) (by decide) (fun c4 => ?_) (fun c4 => mpp 30 rfl ?_)
  · have c4 : v3.toInt ≥ (fv P a0_ 1).toInt := ti_ge c4
    exact mp_ret ⟨⟨rfl, trivial⟩, hT, hK, trivial⟩ dX2_becomeEndOf_72 rfl
  · have c4 : v3.toInt < (fv P a0_ 1).toInt := ti_ge_n c4
    refine mp_a (a_aload_n dX2_becomeEndOf_30 rfl) (mpp 31 rfl ?_)
    refine mt_getR (i := 9) (k := 3) hT dX2_becomeEndOf_31 rfl ha0 (by decide) rfl (by decide) rfl (fun q5 => mpp 34 rfl ?_)
    generalize rv P a0_ 3 = b6 at q5 ⊢
    refine mp_a (a_iload_n dX2_becomeEndOf_34 rfl) (mpp 35 rfl ?_)
    refine mp_a (a_aload_n dX2_becomeEndOf_35 rfl) (mpp 36 rfl ?_)
    refine mt_getR (i := 9) (k := 3) hT dX2_becomeEndOf_36 rfl ha1 (by decide) rfl (by decide) rfl (fun q7 => mpp 39 rfl ?_)
    generalize rv P a1_ 3 = b8 at q7 ⊢
    refine mp_a (a_iload_n dX2_becomeEndOf_39 rfl) (mpp 40 rfl ?_)
    refine mp_a (a_iload_n dX2_becomeEndOf_40 rfl) (mpp 41 rfl ?_)
    obtain ⟨z9, h10⟩ := ti_ex (t2 + v3 : Int32)
    have wz9 := ti_full z9
    refine mp_t (s_iadd (v := z9) dX2_becomeEndOf_41 h10) (mpp 42 rfl ?_)
    try have e11 : z9.toInt = t2.toInt + v3.toInt := ti_addz h10 rfl rfl (by omega) (by omega)
    refine mp_calls (i := 48) (q' := q_12) (As := [.ref b8, .int z9]) (rest := [.int v3, .ref b6]) dX2_becomeEndOf_42 rfl qm_12 (by decide) rfl (Nat.le_of_ble_eq_true rfl) rfl ⟨rfl, rfl⟩ ⟨Nat.le_of_ble_eq_true rfl, Nat.le_of_ble_eq_true rfl⟩ (EvP.mono (by decide) (c_F_at_sizes hT q7)) (fun r12 P13 g14 => mpp 45 rfl ?_)
    obtain ⟨⟨x15, rfl, g16⟩, e17⟩ := g14
    have e17 := e17.symm
    subst e17
    have wx15 := ti_full x15
    show MEvP _ none q_40 45 [(0, .ref a0_), (1, .ref a1_), (2, .int t2), (3, .int v3)] [.int x15, .int v3, .ref b6] _ _ _ _
    refine mp_calls (i := 29) (q' := q_22) (As := [.ref b6, .int v3, .int x15]) (rest := []) dX2_becomeEndOf_45 rfl qm_22 (by decide) rfl (Nat.le_of_ble_eq_true rfl) rfl ⟨rfl, rfl⟩ ⟨Nat.le_of_ble_eq_true rfl, Nat.le_of_ble_eq_true rfl⟩ (EvP.mono (by decide) (c_F_put_sizes hT q5)) (fun r18 P19 g20 => mpp 48 rfl ?_)
    obtain ⟨⟨rfl, g22⟩, hT23, k24, R25⟩ := g20
    have k26 : KW [192, 193, 194, 256, 320] Po P19 := KW.trans hK k24 rfl
    show MEvP _ none q_40 48 [(0, .ref a0_), (1, .ref a1_), (2, .int t2), (3, .int v3)] [] _ _ _ _
    refine mp_a (a_aload_n dX2_becomeEndOf_48 rfl) (mpp 49 rfl ?_)
    refine mt_getR (i := 15) (k := 4) hT23 dX2_becomeEndOf_49 rfl ha0 (by decide) rfl (by decide) rfl (fun q27 => mpp 52 rfl ?_)
    generalize rv P19 a0_ 4 = b28 at q27 ⊢
    refine mp_a (a_iload_n dX2_becomeEndOf_52 rfl) (mpp 53 rfl ?_)
    refine mp_a (a_aload_n dX2_becomeEndOf_53 rfl) (mpp 54 rfl ?_)
    refine mt_getR (i := 15) (k := 4) hT23 dX2_becomeEndOf_54 rfl ha1 (by decide) rfl (by decide) rfl (fun q29 => mpp 57 rfl ?_)
    generalize rv P19 a1_ 4 = b30 at q29 ⊢
    refine mp_a (a_iload_n dX2_becomeEndOf_57 rfl) (mpp 58 rfl ?_)
    refine mp_a (a_iload_n dX2_becomeEndOf_58 rfl) (mpp 59 rfl ?_)
    obtain ⟨z31, h32⟩ := ti_ex (t2 + v3 : Int32)
    have wz31 := ti_full z31
    refine mp_t (s_iadd (v := z31) dX2_becomeEndOf_59 h32) (mpp 60 rfl ?_)
    try have e33 : z31.toInt = t2.toInt + v3.toInt := ti_addz h32 rfl rfl (by omega) (by omega)
    refine mp_calls (i := 48) (q' := q_12) (As := [.ref b30, .int z31]) (rest := [.int v3, .ref b28]) dX2_becomeEndOf_60 rfl qm_12 (by decide) rfl (Nat.le_of_ble_eq_true rfl) rfl ⟨rfl, rfl⟩ ⟨Nat.le_of_ble_eq_true rfl, Nat.le_of_ble_eq_true rfl⟩ (EvP.mono (by decide) (c_F_at_creases hT23 q29)) (fun r34 P35 g36 => mpp 63 rfl ?_)
    obtain ⟨⟨x37, rfl, g38⟩, e39⟩ := g36
    have e39 := e39.symm
    subst e39
    have wx37 := ti_full x37
    show MEvP _ none q_40 63 [(0, .ref a0_), (1, .ref a1_), (2, .int t2), (3, .int v3)] [.int x37, .int v3, .ref b28] _ _ _ _
    refine mp_calls (i := 29) (q' := q_22) (As := [.ref b28, .int v3, .int x37]) (rest := []) dX2_becomeEndOf_63 rfl qm_22 (by decide) rfl (Nat.le_of_ble_eq_true rfl) rfl ⟨rfl, rfl⟩ ⟨Nat.le_of_ble_eq_true rfl, Nat.le_of_ble_eq_true rfl⟩ (EvP.mono (by decide) (c_F_put_creases hT23 q27)) (fun r40 P41 g42 => mpp 66 rfl ?_)
    obtain ⟨⟨rfl, g44⟩, hT45, k46, R47⟩ := g42
    have k48 : KW [192, 193, 194, 256, 320] Po P41 := KW.trans k26 k46 rfl
    show MEvP _ none q_40 66 [(0, .ref a0_), (1, .ref a1_), (2, .int t2), (3, .int v3)] [] _ _ _ _
    obtain ⟨z49, h50⟩ := ti_ex (v3 + 1 : Int32)
    have wz49 := ti_full z49
    refine mp_a (a_iinc (v := z49) (L' := [(3, .int z49), (0, .ref a0_), (1, .ref a1_), (2, .int t2)]) dX2_becomeEndOf_66 (by decide) rfl h50 rfl) (mpp 69 rfl ?_)
    try have e51 : z49.toInt = v3.toInt + 1 := ti_addz h50 rfl rfl (by omega) (by omega)
    refine mp_a (a_goto (t := 22) dX2_becomeEndOf_69 (by decide)) ?_
    refine MEvP.less (L := [(0, .ref a0_), (1, .ref a1_), (2, .int t2), (3, .int z49)]) rfl rfl ⟨rfl, rfl, rfl, rfl, trivial⟩ ?_
    have i52 : 0 ≤ z49.toInt := by omega
    exact ih _ (by omega) _ P41 hT45 k48 i52 rfl

set_option maxHeartbeats 4000000 in
theorem c_CP_becomeEndOf_Piece_NPiece {Po : mP} {a0_ : Nat} {a1_ : Nat} {t2 : Int32} (hT : Typ Po)  (hp0 : 0 ≤ t2.toInt) (hp1 : t2.toInt ≤ (fv Po a1_ 1).toInt) (ha0 : rl a0_ = 3) (ha1 : rl a1_ = 33) : EvP 2 40 [.ref a0_, .ref a1_, .int t2] Po (fun r P' => (r = none ∧ (True)) ∧ Typ P' ∧ KW [192, 193, 194, 256, 320] Po P' ∧ True) := by
  refine EvP.of qm_40 (Nat.le_of_ble_eq_true rfl) rfl ?_
  show MEvP _ none q_40 0 [(0, .ref a0_), (1, .ref a1_), (2, .int t2)] [] _ 0 0 _
  have g1 : (0 : Int) ≤ (fv Po a1_ 1).toInt ∧ (fv Po a1_ 1).toInt ≤ 8 := Typ.rng hT ha1 (by decide) (by decide) rfl
  refine mp_a (a_aload_n dX2_becomeEndOf_0 rfl) (mpp 1 rfl ?_)
  refine mp_a (a_iconst (v := 0) dX2_becomeEndOf_1 rfl) (mpp 2 rfl ?_)
  refine mt_putI (i := 18) (k := 0) (x := 0) hT dX2_becomeEndOf_2 rfl ha0 (by decide) rfl (by decide) rfl (by decide) rfl rfl (fun P2 hT3 f4 f5 => mpp 5 rfl ?_)
  have k6 : KW [192, 193, 194, 256, 320] Po P2 := KW.step KW.refl ha0 rfl f5
  have e7 : (fv P2 a0_ 0).toInt = 0 := congrArg Int32.toInt f4
  refine mp_a (a_aload_n dX2_becomeEndOf_5 rfl) (mpp 6 rfl ?_)
  refine mp_a (a_iconst (v := 0) dX2_becomeEndOf_6 rfl) (mpp 7 rfl ?_)
  refine mt_putI (i := 22) (k := 2) (x := 0) hT3 dX2_becomeEndOf_7 rfl ha0 (by decide) rfl (by decide) rfl (by decide) rfl rfl (fun P8 hT9 f10 f11 => mpp 10 rfl ?_)
  have k12 : KW [192, 193, 194, 256, 320] Po P8 := KW.step k6 ha0 rfl f11
  have e13 : (fv P8 a0_ 2).toInt = 0 := congrArg Int32.toInt f10
  refine mp_a (a_aload_n dX2_becomeEndOf_10 rfl) (mpp 11 rfl ?_)
  refine mp_a (a_aload_n dX2_becomeEndOf_11 rfl) (mpp 12 rfl ?_)
  have e14 : (fv P8 a1_ 1).toInt = (fv Po a1_ 1).toInt := congrArg Int32.toInt ((f11 a1_ 1 (ne_r ha1 ha0 rfl)).trans (f5 a1_ 1 (ne_r ha1 ha0 rfl)))
  refine mt_getI (i := 26) (k := 1) hT9 dX2_becomeEndOf_12 rfl ha1 (by decide) rfl (by decide) rfl (fun g15 g16 => mpp 15 rfl ?_)
  refine mp_a (a_iload_n dX2_becomeEndOf_15 rfl) (mpp 16 rfl ?_)
  obtain ⟨z17, h18⟩ := ti_ex ((fv P8 a1_ 1) - t2 : Int32)
  have wz17 := ti_full z17
  refine mp_t (s_isub (v := z17) dX2_becomeEndOf_16 h18) (mpp 17 rfl ?_)
  try have e19 : z17.toInt = (fv P8 a1_ 1).toInt - t2.toInt := ti_subz h18 rfl rfl (by omega) (by omega)
  refine mt_putI (i := 26) (k := 1) (x := z17) hT9 dX2_becomeEndOf_17 rfl ha0 (by decide) rfl (by decide) rfl ⟨by omega, by omega⟩ rfl rfl (fun P20 hT21 f22 f23 => mpp 20 rfl ?_)
  have k24 : KW [192, 193, 194, 256, 320] Po P20 := KW.step k12 ha0 rfl f23
  have e25 : (fv P20 a0_ 1).toInt = z17.toInt := congrArg Int32.toInt f22
  refine mp_a (a_iconst (v := 0) dX2_becomeEndOf_20 rfl) (mpp 21 rfl ?_)
  refine mp_a (a_istore_n (L' := [(3, .int 0), (0, .ref a0_), (1, .ref a1_), (2, .int t2)]) dX2_becomeEndOf_21 (by decide) rfl) (mpp 22 rfl ?_)
  refine MEvP.less (L := [(0, .ref a0_), (1, .ref a1_), (2, .int t2), (3, .int 0)]) rfl rfl ⟨rfl, rfl, rfl, rfl, trivial⟩ ?_
  have i26 : 0 ≤ (0 : Int) := by omega
  exact c_CP_becomeEndOf_Piece_NPiece_l22  hp0 hp1 ha0 ha1 _ _ P20 hT21 k24 i26 rfl

