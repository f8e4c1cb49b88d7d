/-! methods on typed pools, 37 (written by a program) -/
set_option maxHeartbeats 4000000 in
theorem c_M_addsSigned {Po : mP}  (hT : Typ Po) (hR : Rel Po)  : EvP 7 227 [.ref 301] Po (fun r P' => (∃ x : Int32, r = some (.int x) ∧ (True)) ∧ Typ P' ∧ KW [1093, 1094, 1152, 1408, 1472] Po P' ∧ Rel P') := by
  refine EvP.of qm_227 (Nat.le_of_ble_eq_true rfl) rfl ?_
  show MEvP _ none q_227 0 [(0, .ref 301)] [] _ 0 0 _
  refine mp_a (a_aload_n dX7_addsSigned_0 rfl) (mpp 1 rfl ?_)
  have g1 := ti_full (fv Po 301 25)
  refine mt_getI (i := 321) (k := 25) hT dX7_addsSigned_1 rfl rl_301 (by decide) rfl (by decide) rfl (fun g2 g3 => mpp 4 rfl ?_)
  refine mp_a (a_bipush (v := 115) dX7_addsSigned_4 rfl) (mpp 6 rfl ?_)
  refine mp_Tb (t := 13) (j_icmp_ne dX7_addsSigned_6) (by decide) (fun c4 => ?_) (fun c4 => mpp 9 rfl ?_)
  · have c4 : (fv Po 301 25).toInt ≠ 115 := ti_ne c4
    refine mp_a (a_iconst (v := 1) dX7_addsSigned_13 rfl) (mpp 14 rfl ?_)
    refine mp_a (a_istore_n (L' := [(1, .int 1), (0, .ref 301)]) dX7_addsSigned_14 (by decide) rfl) (mpp 15 rfl ?_)
    refine mp_a (a_aload_n dX7_addsSigned_15 rfl) (mpp 16 rfl ?_)
    refine mp_a (a_aload_n dX7_addsSigned_16 rfl) (mpp 17 rfl ?_)
    have g5 := ti_full (fv Po 301 26)
    refine mt_getI (i := 300) (k := 26) hT dX7_addsSigned_17 rfl rl_301 (by decide) rfl (by decide) rfl (fun g6 g7 => mpp 20 rfl ?_)
    refine mt_callv (i := 104) (q' := q_128) (As := [.int (fv Po 301 26)]) (rest := []) hT dX7_addsSigned_20 rfl qm_128 (by decide) rfl rl_301 (by decide) rfl (Nat.le_of_ble_eq_true rfl) rfl ⟨rfl, rfl⟩ ⟨Nat.le_of_ble_eq_true rfl, Nat.le_of_ble_eq_true rfl⟩ (EvP.mono (by decide) (c_M_laysSizes hT )) (fun r8 P9 g10 => mpp 23 rfl ?_)
    obtain ⟨⟨x11, rfl, g12⟩, hT13, k14, R15⟩ := g10
    have k16 : KW [1093, 1094, 1152, 1408, 1472] Po P9 := KW.trans KW.refl k14 rfl
    have R17 := Rel.kw hR k14 rfl
    have wx11 := ti_full x11
    have g12 : 0 ≤ x11.toInt ∧ x11.toInt ≤ 8 := g12
    show MEvP _ none q_227 23 [(1, .int 1), (0, .ref 301)] [.int x11] _ _ _ _
    refine mp_a (a_istore_n (L' := [(2, .int x11), (1, .int 1), (0, .ref 301)]) dX7_addsSigned_23 (by decide) rfl) (mpp 24 rfl ?_)
    refine mp_a (a_aload_n dX7_addsSigned_24 rfl) (mpp 25 rfl ?_)
    refine mp_a (a_iload_n dX7_addsSigned_25 rfl) (mpp 26 rfl ?_)
    refine mp_a (a_iload_n dX7_addsSigned_26 rfl) (mpp 27 rfl ?_)
    have p18 : x11.toInt ≤ 8 := by omega
    refine mt_callv (i := 107) (q' := q_130) (As := [.int 1, .int x11]) (rest := []) hT13 dX7_addsSigned_27 rfl qm_130 (by decide) rfl rl_301 (by decide) rfl (Nat.le_of_ble_eq_true rfl) rfl ⟨rfl, rfl⟩ ⟨Nat.le_of_ble_eq_true rfl, Nat.le_of_ble_eq_true rfl⟩ (EvP.mono (by decide) (c_M_areSizes hT13 p18 )) (fun r19 P20 g21 => mpp 30 rfl ?_)
    obtain ⟨⟨x22, rfl, g23⟩, e24⟩ := g21
    have e24 := e24.symm
    subst e24
    have wx22 := ti_full x22
    have g23 : 0 ≤ x22.toInt ∧ x22.toInt ≤ 1 ∧ (x22.toInt = 0 ∨ (2 ≤ x11.toInt ∧ ((1 : Int) ≠ 0 ∨ x11.toInt ≤ 7))) := g23
    show MEvP _ none q_227 30 [(2, .int x11), (1, .int 1), (0, .ref 301)] [.int x22] _ _ _ _
    refine mp_Tb (t := 45) (j_if_eq dX7_addsSigned_30) (by decide) (fun c25 => ?_) (fun c25 => mpp 33 rfl ?_)
    · have c25 : x22.toInt = 0 := ti_eq c25
      refine mp_a (a_sipush (v := -1002) dX7_addsSigned_45 rfl) (mpp 48 rfl ?_)
      exact mp_iret ⟨⟨_, rfl, trivial⟩, hT13, k16, R17⟩ dX7_addsSigned_48 (Or.inl rfl)
    · have c25 : x22.toInt ≠ 0 := ti_eq_n c25
      refine mp_a (a_aload_n dX7_addsSigned_33 rfl) (mpp 34 rfl ?_)
      have g26 := ti_full (fv P9 301 28)
      refine mt_getI (i := 306) (k := 28) hT13 dX7_addsSigned_34 rfl rl_301 (by decide) rfl (by decide) rfl (fun g27 g28 => mpp 37 rfl ?_)
      refine mp_a (a_iload_n dX7_addsSigned_37 rfl) (mpp 38 rfl ?_)
      refine mp_a (a_iconst (v := 1) dX7_addsSigned_38 rfl) (mpp 39 rfl ?_)
      obtain ⟨z29, h30⟩ := ti_ex (x11 - 1 : Int32)
      have wz29 := ti_full z29
      refine mp_t (s_isub (v := z29) dX7_addsSigned_39 h30) (mpp 40 rfl ?_)
      try have e31 : z29.toInt = x11.toInt - 1 := ti_subz h30 rfl rfl (by omega) (by omega)
      refine mp_a (a_iload_n dX7_addsSigned_40 rfl) (mpp 41 rfl ?_)
      obtain ⟨z32, h33⟩ := ti_ex (z29 + 1 : Int32)
      have wz32 := ti_full z32
      refine mp_t (s_iadd (v := z32) dX7_addsSigned_41 h33) (mpp 42 rfl ?_)
      try have e34 : z32.toInt = z29.toInt + 1 := ti_addz h33 rfl rfl (by omega) (by omega)
      refine mp_Tb (t := 49) (j_icmp_eq dX7_addsSigned_42) (by decide) (fun c35 => ?_) (fun c35 => mpp 45 rfl ?_)
      · have c35 : (fv P9 301 28).toInt = z32.toInt := ti_eq c35
        refine mp_a (a_aload_n dX7_addsSigned_49 rfl) (mpp 50 rfl ?_)
        refine mp_a (a_iload_n dX7_addsSigned_50 rfl) (mpp 51 rfl ?_)
        refine mp_a (a_aload_n dX7_addsSigned_51 rfl) (mpp 52 rfl ?_)
        have e36 : (fv P9 301 26).toInt = (fv Po 301 26).toInt := congrArg Int32.toInt (KW.at k14 26 rl_301 rfl)
        refine mt_getI (i := 300) (k := 26) hT13 dX7_addsSigned_52 rfl rl_301 (by decide) rfl (by decide) rfl (fun g37 g38 => mpp 55 rfl ?_)
        refine mp_a (a_aload_n dX7_addsSigned_55 rfl) (mpp 56 rfl ?_)
        have g39 := ti_full (fv P9 301 27)
        refine mt_getI (i := 303) (k := 27) hT13 dX7_addsSigned_56 rfl rl_301 (by decide) rfl (by decide) rfl (fun g40 g41 => mpp 59 rfl ?_)
        refine mt_callv (i := 120) (q' := q_126) (As := [.int 1, .int (fv P9 301 26), .int (fv P9 301 27)]) (rest := []) hT13 dX7_addsSigned_59 rfl qm_126 (by decide) rfl rl_301 (by decide) rfl (Nat.le_of_ble_eq_true rfl) rfl ⟨rfl, rfl⟩ ⟨Nat.le_of_ble_eq_true rfl, Nat.le_of_ble_eq_true rfl⟩ (EvP.mono (by decide) (c_M_addsTold hT13 R17 )) (fun r42 P43 g44 => mpp 62 rfl ?_)
        obtain ⟨⟨x45, rfl, g46⟩, hT47, k48, R49⟩ := g44
        have k50 : KW [1093, 1094, 1152, 1408, 1472] Po P43 := KW.trans k16 k48 rfl
        have wx45 := ti_full x45
        show MEvP _ none q_227 62 [(2, .int x11), (1, .int 1), (0, .ref 301)] [.int x45] _ _ _ _
        exact mp_iret ⟨⟨_, rfl, trivial⟩, hT47, k50, R49⟩ dX7_addsSigned_62 (Or.inl rfl)
      · have c35 : (fv P9 301 28).toInt ≠ z32.toInt := ti_eq_n c35
        refine mp_a (a_sipush (v := -1002) dX7_addsSigned_45 rfl) (mpp 48 rfl ?_)
        exact mp_iret ⟨⟨_, rfl, trivial⟩, hT13, k16, R17⟩ dX7_addsSigned_48 (Or.inl rfl)
  · have c4 : (fv Po 301 25).toInt = 115 := ti_ne_n c4
    refine mp_a (a_iconst (v := 0) dX7_addsSigned_9 rfl) (mpp 10 rfl ?_)
    refine mp_a (a_goto (t := 14) dX7_addsSigned_10 (by decide)) ?_
    refine mp_a (a_istore_n (L' := [(1, .int 0), (0, .ref 301)]) dX7_addsSigned_14 (by decide) rfl) (mpp 15 rfl ?_)
    refine mp_a (a_aload_n dX7_addsSigned_15 rfl) (mpp 16 rfl ?_)
    refine mp_a (a_aload_n dX7_addsSigned_16 rfl) (mpp 17 rfl ?_)
    have g51 := ti_full (fv Po 301 26)
    refine mt_getI (i := 300) (k := 26) hT dX7_addsSigned_17 rfl rl_301 (by decide) rfl (by decide) rfl (fun g52 g53 => mpp 20 rfl ?_)
    refine mt_callv (i := 104) (q' := q_128) (As := [.int (fv Po 301 26)]) (rest := []) hT dX7_addsSigned_20 rfl qm_128 (by decide) rfl rl_301 (by decide) rfl (Nat.le_of_ble_eq_true rfl) rfl ⟨rfl, rfl⟩ ⟨Nat.le_of_ble_eq_true rfl, Nat.le_of_ble_eq_true rfl⟩ (EvP.mono (by decide) (c_M_laysSizes hT )) (fun r54 P55 g56 => mpp 23 rfl ?_)
    obtain ⟨⟨x57, rfl, g58⟩, hT59, k60, R61⟩ := g56
    have k62 : KW [1093, 1094, 1152, 1408, 1472] Po P55 := KW.trans KW.refl k60 rfl
    have R63 := Rel.kw hR k60 rfl
    have wx57 := ti_full x57
    have g58 : 0 ≤ x57.toInt ∧ x57.toInt ≤ 8 := g58
    show MEvP _ none q_227 23 [(1, .int 0), (0, .ref 301)] [.int x57] _ _ _ _
    refine mp_a (a_istore_n (L' := [(2, .int x57), (1, .int 0), (0, .ref 301)]) dX7_addsSigned_23 (by decide) rfl) (mpp 24 rfl ?_)
    refine mp_a (a_aload_n dX7_addsSigned_24 rfl) (mpp 25 rfl ?_)
    refine mp_a (a_iload_n dX7_addsSigned_25 rfl) (mpp 26 rfl ?_)
    refine mp_a (a_iload_n dX7_addsSigned_26 rfl) (mpp 27 rfl ?_)
    have p64 : x57.toInt ≤ 8 := by omega
    refine mt_callv (i := 107) (q' := q_130) (As := [.int 0, .int x57]) (rest := []) hT59 dX7_addsSigned_27 rfl qm_130 (by decide) rfl rl_301 (by decide) rfl (Nat.le_of_ble_eq_true rfl) rfl ⟨rfl, rfl⟩ ⟨Nat.le_of_ble_eq_true rfl, Nat.le_of_ble_eq_true rfl⟩ (EvP.mono (by decide) (c_M_areSizes hT59 p64 )) (fun r65 P66 g67 => mpp 30 rfl ?_)
    obtain ⟨⟨x68, rfl, g69⟩, e70⟩ := g67
    have e70 := e70.symm
    subst e70
    have wx68 := ti_full x68
    have g69 : 0 ≤ x68.toInt ∧ x68.toInt ≤ 1 ∧ (x68.toInt = 0 ∨ (2 ≤ x57.toInt ∧ ((0 : Int) ≠ 0 ∨ x57.toInt ≤ 7))) := g69
    show MEvP _ none q_227 30 [(2, .int x57), (1, .int 0), (0, .ref 301)] [.int x68] _ _ _ _
    refine mp_Tb (t := 45) (j_if_eq dX7_addsSigned_30) (by decide) (fun c71 => ?_) (fun c71 => mpp 33 rfl ?_)
    · have c71 : x68.toInt = 0 := ti_eq c71
      refine mp_a (a_sipush (v := -1002) dX7_addsSigned_45 rfl) (mpp 48 rfl ?_)
      exact mp_iret ⟨⟨_, rfl, trivial⟩, hT59, k62, R63⟩ dX7_addsSigned_48 (Or.inl rfl)
    · have c71 : x68.toInt ≠ 0 := ti_eq_n c71
      refine mp_a (a_aload_n dX7_addsSigned_33 rfl) (mpp 34 rfl ?_)
      have g72 := ti_full (fv P55 301 28)
      refine mt_getI (i := 306) (k := 28) hT59 dX7_addsSigned_34 rfl rl_301 (by decide) rfl (by decide) rfl (fun g73 g74 => mpp 37 rfl ?_)
      refine mp_a (a_iload_n dX7_addsSigned_37 rfl) (mpp 38 rfl ?_)
      refine mp_a (a_iconst (v := 1) dX7_addsSigned_38 rfl) (mpp 39 rfl ?_)
      obtain ⟨z75, h76⟩ := ti_ex (x57 - 1 : Int32)
      have wz75 := ti_full z75
      refine mp_t (s_isub (v := z75) dX7_addsSigned_39 h76) (mpp 40 rfl ?_)
      try have e77 : z75.toInt = x57.toInt - 1 := ti_subz h76 rfl rfl (by omega) (by omega)
      refine mp_a (a_iload_n dX7_addsSigned_40 rfl) (mpp 41 rfl ?_)
      obtain ⟨z78, h79⟩ := ti_ex (z75 + 0 : Int32)
      have wz78 := ti_full z78
      refine mp_t (s_iadd (v := z78) dX7_addsSigned_41 h79) (mpp 42 rfl ?_)
      try have e80 : z78.toInt = z75.toInt + 0 := ti_addz h79 rfl rfl (by omega) (by omega)
      refine mp_Tb (t := 49) (j_icmp_eq dX7_addsSigned_42) (by decide) (fun c81 => ?_) (fun c81 => mpp 45 rfl ?_)
      · have c81 : (fv P55 301 28).toInt = z78.toInt := ti_eq c81
        refine mp_a (a_aload_n dX7_addsSigned_49 rfl) (mpp 50 rfl ?_)
        refine mp_a (a_iload_n dX7_addsSigned_50 rfl) (mpp 51 rfl ?_)
        refine mp_a (a_aload_n dX7_addsSigned_51 rfl) (mpp 52 rfl ?_)
        have e82 : (fv P55 301 26).toInt = (fv Po 301 26).toInt := congrArg Int32.toInt (KW.at k60 26 rl_301 rfl)
        refine mt_getI (i := 300) (k := 26) hT59 dX7_addsSigned_52 rfl rl_301 (by decide) rfl (by decide) rfl (fun g83 g84 => mpp 55 rfl ?_)
        refine mp_a (a_aload_n dX7_addsSigned_55 rfl) (mpp 56 rfl ?_)
        have g85 := ti_full (fv P55 301 27)
        refine mt_getI (i := 303) (k := 27) hT59 dX7_addsSigned_56 rfl rl_301 (by decide) rfl (by decide) rfl (fun g86 g87 => mpp 59 rfl ?_)
        refine mt_callv (i := 120) (q' := q_126) (As := [.int 0, .int (fv P55 301 26), .int (fv P55 301 27)]) (rest := []) hT59 dX7_addsSigned_59 rfl qm_126 (by decide) rfl rl_301 (by decide) rfl (Nat.le_of_ble_eq_true rfl) rfl ⟨rfl, rfl⟩ ⟨Nat.le_of_ble_eq_true rfl, Nat.le_of_ble_eq_true rfl⟩ (EvP.mono (by decide) (c_M_addsTold hT59 R63 )) (fun r88 P89 g90 => mpp 62 rfl ?_)
        obtain ⟨⟨x91, rfl, g92⟩, hT93, k94, R95⟩ := g90
        have k96 : KW [1093, 1094, 1152, 1408, 1472] Po P89 := KW.trans k62 k94 rfl
        have wx91 := ti_full x91
        show MEvP _ none q_227 62 [(2, .int x57), (1, .int 0), (0, .ref 301)] [.int x91] _ _ _ _
        exact mp_iret ⟨⟨_, rfl, trivial⟩, hT93, k96, R95⟩ dX7_addsSigned_62 (Or.inl rfl)
      · have c81 : (fv P55 301 28).toInt ≠ z78.toInt := ti_eq_n c81
        refine mp_a (a_sipush (v := -1002) dX7_addsSigned_45 rfl) (mpp 48 rfl ?_)
        exact mp_iret ⟨⟨_, rfl, trivial⟩, hT59, k62, R63⟩ dX7_addsSigned_48 (Or.inl rfl)

set_option maxHeartbeats 4000000 in
theorem c_M_does {Po : mP}  (hT : Typ Po) (hR : Rel Po)  : EvP 9 226 [.ref 301] Po (fun r P' => (∃ x : Int32, r = some (.int x) ∧ (True)) ∧ Typ P' ∧ KW [1093, 1094, 1101, 1102, 1152, 1408, 1472, 1536, 1600] Po P' ∧ Rel P') := by
  refine EvP.of qm_226 (Nat.le_of_ble_eq_true rfl) rfl ?_
  show MEvP _ none q_226 0 [(0, .ref 301)] [] _ 0 0 _
  refine mp_a (a_aload_n dX7_does_0 rfl) (mpp 1 rfl ?_)
  have g1 := ti_full (fv Po 301 25)
  refine mt_getI (i := 321) (k := 25) hT dX7_does_1 rfl rl_301 (by decide) rfl (by decide) rfl (fun g2 g3 => mpp 4 rfl ?_)
  have c4 : ((fv Po 301 25).toInt ≠ 102 ∧ (fv Po 301 25).toInt ≠ 109 ∧ (fv Po 301 25).toInt ≠ 116 ∧ (fv Po 301 25).toInt ≠ 117 ∧ (fv Po 301 25).toInt ≠ 120) ∨ (fv Po 301 25).toInt = 102 ∨ (fv Po 301 25).toInt = 109 ∨ (fv Po 301 25).toInt = 116 ∨ (fv Po 301 25).toInt = 117 ∨ (fv Po 301 25).toInt = 120 := by omega
  rcases c4 with c4 | c4 | c4 | c4 | c4 | c4
  · refine mp_t (s_lok (t := 109) (off := 105) dX7_does_4 rfl (by obtain ⟨n0, n1, n2, n3, n4⟩ := c4; simp [Op.lookupswitch.offset, Ne.symm n0, Ne.symm n1, Ne.symm n2, Ne.symm n3, Ne.symm n4]) (by decide)) ?_
    refine mp_a (a_aload_n dX7_does_109 rfl) (mpp 110 rfl ?_)
    refine mt_callv (i := 336) (q' := q_227) (As := []) (rest := []) hT dX7_does_110 rfl qm_227 (by decide) rfl rl_301 (by decide) rfl (Nat.le_of_ble_eq_true rfl) rfl ⟨rfl, rfl⟩ ⟨Nat.le_of_ble_eq_true rfl, Nat.le_of_ble_eq_true rfl⟩ (EvP.mono (by decide) (c_M_addsSigned hT hR )) (fun r5 P6 g7 => mpp 113 rfl ?_)
    obtain ⟨⟨x8, rfl, g9⟩, hT10, k11, R12⟩ := g7
    have k13 : KW [1093, 1094, 1101, 1102, 1152, 1408, 1472, 1536, 1600] Po P6 := KW.trans KW.refl k11 rfl
    have wx8 := ti_full x8
    show MEvP _ none q_226 113 [(0, .ref 301)] [.int x8] _ _ _ _
    exact mp_iret ⟨⟨_, rfl, trivial⟩, hT10, k13, R12⟩ dX7_does_113 (Or.inl rfl)
  · refine mp_t (s_lok (t := 82) (off := 78) dX7_does_4 rfl (by rw [c4]; rfl) (by decide)) ?_
    refine mp_a (a_aload_n dX7_does_82 rfl) (mpp 83 rfl ?_)
    refine mp_a (a_aload_n dX7_does_83 rfl) (mpp 84 rfl ?_)
    have g14 := ti_full (fv Po 301 26)
    refine mt_getI (i := 300) (k := 26) hT dX7_does_84 rfl rl_301 (by decide) rfl (by decide) rfl (fun g15 g16 => mpp 87 rfl ?_)
    refine mt_callv (i := 240) (q' := q_188) (As := [.int (fv Po 301 26)]) (rest := []) hT dX7_does_87 rfl qm_188 (by decide) rfl rl_301 (by decide) rfl (Nat.le_of_ble_eq_true rfl) rfl ⟨rfl, rfl⟩ ⟨Nat.le_of_ble_eq_true rfl, Nat.le_of_ble_eq_true rfl⟩ (EvP.mono (by decide) (c_M_foldsOnStage hT hR )) (fun r17 P18 g19 => mpp 90 rfl ?_)
    obtain ⟨⟨x20, rfl, g21⟩, hT22, k23, R24⟩ := g19
    have k25 : KW [1093, 1094, 1101, 1102, 1152, 1408, 1472, 1536, 1600] Po P18 := KW.trans KW.refl k23 rfl
    have wx20 := ti_full x20
    show MEvP _ none q_226 90 [(0, .ref 301)] [.int x20] _ _ _ _
    exact mp_iret ⟨⟨_, rfl, trivial⟩, hT22, k25, R24⟩ dX7_does_90 (Or.inl rfl)
  · refine mp_t (s_lok (t := 56) (off := 52) dX7_does_4 rfl (by rw [c4]; rfl) (by decide)) ?_
    refine mp_a (a_aload_n dX7_does_56 rfl) (mpp 57 rfl ?_)
    refine mp_a (a_aload_n dX7_does_57 rfl) (mpp 58 rfl ?_)
    have g26 := ti_full (fv Po 301 26)
    refine mt_getI (i := 300) (k := 26) hT dX7_does_58 rfl rl_301 (by decide) rfl (by decide) rfl (fun g27 g28 => mpp 61 rfl ?_)
    refine mp_a (a_aload_n dX7_does_61 rfl) (mpp 62 rfl ?_)
    have g29 := ti_full (fv Po 301 27)
    refine mt_getI (i := 303) (k := 27) hT dX7_does_62 rfl rl_301 (by decide) rfl (by decide) rfl (fun g30 g31 => mpp 65 rfl ?_)
    refine mp_a (a_aload_n dX7_does_65 rfl) (mpp 66 rfl ?_)
    have g32 := ti_full (fv Po 301 29)
    refine mt_getI (i := 318) (k := 29) hT dX7_does_66 rfl rl_301 (by decide) rfl (by decide) rfl (fun g33 g34 => mpp 69 rfl ?_)
    refine mt_callv (i := 133) (q' := q_142) (As := [.int (fv Po 301 26), .int (fv Po 301 27), .int (fv Po 301 29)]) (rest := []) hT dX7_does_69 rfl qm_142 (by decide) rfl rl_301 (by decide) rfl (Nat.le_of_ble_eq_true rfl) rfl ⟨rfl, rfl⟩ ⟨Nat.le_of_ble_eq_true rfl, Nat.le_of_ble_eq_true rfl⟩ (EvP.mono (by decide) (c_M_marks hT hR )) (fun r35 P36 g37 => mpp 72 rfl ?_)
    obtain ⟨⟨x38, rfl, g39⟩, hT40, k41, R42⟩ := g37
    have k43 : KW [1093, 1094, 1101, 1102, 1152, 1408, 1472, 1536, 1600] Po P36 := KW.trans KW.refl k41 rfl
    have wx38 := ti_full x38
    show MEvP _ none q_226 72 [(0, .ref 301)] [.int x38] _ _ _ _
    exact mp_iret ⟨⟨_, rfl, trivial⟩, hT40, k43, R42⟩ dX7_does_72 (Or.inl rfl)
  · refine mp_t (s_lok (t := 73) (off := 69) dX7_does_4 rfl (by rw [c4]; rfl) (by decide)) ?_
    refine mp_a (a_aload_n dX7_does_73 rfl) (mpp 74 rfl ?_)
    refine mp_a (a_aload_n dX7_does_74 rfl) (mpp 75 rfl ?_)
    have g44 := ti_full (fv Po 301 26)
    refine mt_getI (i := 300) (k := 26) hT dX7_does_75 rfl rl_301 (by decide) rfl (by decide) rfl (fun g45 g46 => mpp 78 rfl ?_)
    refine mt_callv (i := 139) (q' := q_148) (As := [.int (fv Po 301 26)]) (rest := []) hT dX7_does_78 rfl qm_148 (by decide) rfl rl_301 (by decide) rfl (Nat.le_of_ble_eq_true rfl) rfl ⟨rfl, rfl⟩ ⟨Nat.le_of_ble_eq_true rfl, Nat.le_of_ble_eq_true rfl⟩ (EvP.mono (by decide) (c_M_turns hT hR )) (fun r47 P48 g49 => mpp 81 rfl ?_)
    obtain ⟨⟨x50, rfl, g51⟩, hT52, k53, R54⟩ := g49
    have k55 : KW [1093, 1094, 1101, 1102, 1152, 1408, 1472, 1536, 1600] Po P48 := KW.trans KW.refl k53 rfl
    have wx50 := ti_full x50
    show MEvP _ none q_226 81 [(0, .ref 301)] [.int x50] _ _ _ _
    exact mp_iret ⟨⟨_, rfl, trivial⟩, hT52, k55, R54⟩ dX7_does_81 (Or.inl rfl)
  · refine mp_t (s_lok (t := 91) (off := 87) dX7_does_4 rfl (by rw [c4]; rfl) (by decide)) ?_
    refine mp_a (a_aload_n dX7_does_91 rfl) (mpp 92 rfl ?_)
    refine mp_a (a_aload_n dX7_does_92 rfl) (mpp 93 rfl ?_)
    have g56 := ti_full (fv Po 301 26)
    refine mt_getI (i := 300) (k := 26) hT dX7_does_93 rfl rl_301 (by decide) rfl (by decide) rfl (fun g57 g58 => mpp 96 rfl ?_)
    refine mt_callv (i := 243) (q' := q_191) (As := [.int (fv Po 301 26)]) (rest := []) hT dX7_does_96 rfl qm_191 (by decide) rfl rl_301 (by decide) rfl (Nat.le_of_ble_eq_true rfl) rfl ⟨rfl, rfl⟩ ⟨Nat.le_of_ble_eq_true rfl, Nat.le_of_ble_eq_true rfl⟩ (EvP.mono (by decide) (c_M_unfolds hT hR )) (fun r59 P60 g61 => mpp 99 rfl ?_)
    obtain ⟨⟨x62, rfl, g63⟩, hT64, k65, R66⟩ := g61
    have k67 : KW [1093, 1094, 1101, 1102, 1152, 1408, 1472, 1536, 1600] Po P60 := KW.trans KW.refl k65 rfl
    have wx62 := ti_full x62
    show MEvP _ none q_226 99 [(0, .ref 301)] [.int x62] _ _ _ _
    exact mp_iret ⟨⟨_, rfl, trivial⟩, hT64, k67, R66⟩ dX7_does_99 (Or.inl rfl)
  · refine mp_t (s_lok (t := 100) (off := 96) dX7_does_4 rfl (by rw [c4]; rfl) (by decide)) ?_
    refine mp_a (a_aload_n dX7_does_100 rfl) (mpp 101 rfl ?_)
    refine mp_a (a_aload_n dX7_does_101 rfl) (mpp 102 rfl ?_)
    have g68 := ti_full (fv Po 301 26)
    refine mt_getI (i := 300) (k := 26) hT dX7_does_102 rfl rl_301 (by decide) rfl (by decide) rfl (fun g69 g70 => mpp 105 rfl ?_)
    refine mt_callv (i := 246) (q' := q_193) (As := [.int (fv Po 301 26)]) (rest := []) hT dX7_does_105 rfl qm_193 (by decide) rfl rl_301 (by decide) rfl (Nat.le_of_ble_eq_true rfl) rfl ⟨rfl, rfl⟩ ⟨Nat.le_of_ble_eq_true rfl, Nat.le_of_ble_eq_true rfl⟩ (EvP.mono (by decide) (c_M_drops hT hR )) (fun r71 P72 g73 => mpp 108 rfl ?_)
    obtain ⟨⟨x74, rfl, g75⟩, hT76, k77, R78⟩ := g73
    have k79 : KW [1093, 1094, 1101, 1102, 1152, 1408, 1472, 1536, 1600] Po P72 := KW.trans KW.refl k77 rfl
    have wx74 := ti_full x74
    show MEvP _ none q_226 108 [(0, .ref 301)] [.int x74] _ _ _ _
    exact mp_iret ⟨⟨_, rfl, trivial⟩, hT76, k79, R78⟩ dX7_does_108 (Or.inl rfl)

set_option maxHeartbeats 4000000 in
theorem c_M_doesAll_l7 {Po : mP}   : ∀ (n : Nat) (v1 : Int32), ∀ (P : mP), Typ P → KW [1093, 1094, 1095, 1101, 1102, 1112, 1113, 1114, 1115, 1116, 1117, 1152, 1408, 1472, 1536, 1600] Po P → Rel P → (82 - (fv P 301 24).toInt).toNat = n → MEvP 9 none q_225 7 [(0, .ref 301), (1, .int v1)] [] P 0 0 (fun r P' => (∃ x : Int32, r = some (.int x) ∧ (True)) ∧ Typ P' ∧ KW [1093, 1094, 1095, 1101, 1102, 1112, 1113, 1114, 1115, 1116, 1117, 1152, 1408, 1472, 1536, 1600] Po P' ∧ Rel P') := by
  intro n
  induction n using Nat.strongRecOn with | _ n ih => ?_
  intro v1 P hT hK hR  hm
  have w_v1 := ti_full v1
  have g1 : (0 : Int) ≤ (fv P 301 24).toInt ∧ (fv P 301 24).toInt ≤ 81 := Typ.rng hT rl_301 (by decide) (by decide) rfl
  have g2 : (0 : Int) ≤ (fv P 301 24).toInt ∧ (fv P 301 24).toInt ≤ 81 := Typ.rng hT rl_301 (by decide) (by decide) rfl
  refine mp_a (a_aload_n dX7_doesAll_7 rfl) (mpp 8 rfl ?_)
  refine mt_getI (i := 294) (k := 24) hT dX7_doesAll_8 rfl rl_301 (by decide) rfl (by decide) rfl (fun g3 g4 => mpp 11 rfl ?_)
  refine mp_a (a_aload_n dX7_doesAll_11 rfl) (mpp 12 rfl ?_)
  have g5 : (0 : Int) ≤ (fv P 301 23).toInt ∧ (fv P 301 23).toInt ≤ 80 := Typ.rng hT rl_301 (by decide) (by decide) rfl
  refine mt_getI (i := 291) (k := 23) hT dX7_doesAll_12 rfl rl_301 (by decide) rfl (by decide) rfl (fun g6 g7 => mpp 15 rfl ?_)
  refine mp_Tb (t := 93) (j_icmp_ge dX7_doesAll_15) (by decide) (fun c8 => ?_) (fun c8 => mpp 18 rfl ?_)
  · have c8 : (fv P 301 24).toInt ≥ (fv P 301 23).toInt := ti_ge c8
    refine mp_a (a_iload_n dX7_doesAll_93 rfl) (mpp 94 rfl ?_)
    exact mp_iret ⟨⟨_, rfl, trivial⟩, hT, hK, hR⟩ dX7_doesAll_94 (Or.inl rfl)
  · have c8 : (fv P 301 24).toInt < (fv P 301 23).toInt := ti_ge_n c8
    refine mp_a (a_aload_n dX7_doesAll_18 rfl) (mpp 19 rfl ?_)
    have p9 : (fv P 301 24).toInt ≤ (fv P 301 23).toInt := by omega
    refine mt_callv (i := 333) (q' := q_217) (As := []) (rest := []) hT dX7_doesAll_19 rfl qm_217 (by decide) rfl rl_301 (by decide) rfl (Nat.le_of_ble_eq_true rfl) rfl ⟨rfl, rfl⟩ ⟨Nat.le_of_ble_eq_true rfl, Nat.le_of_ble_eq_true rfl⟩ (EvP.mono (by decide) (c_M_readsCommand hT p9 )) (fun r10 P11 g12 => mpp 22 rfl ?_)
    obtain ⟨⟨x13, rfl, g14⟩, hT15, k16, R17⟩ := g12
    have k18 : KW [1093, 1094, 1095, 1101, 1102, 1112, 1113, 1114, 1115, 1116, 1117, 1152, 1408, 1472, 1536, 1600] Po P11 := KW.trans hK k16 rfl
    have R19 := Rel.kw hR k16 rfl
    have wx13 := ti_full x13
    have g14 : 0 ≤ x13.toInt ∧ x13.toInt ≤ 1 ∧ ((fv P 301 24).toInt ≤ (fv P11 301 24).toInt ∧ (fv P11 301 24).toInt ≤ (fv P 301 23).toInt) := g14
    have g20 : (0 : Int) ≤ (fv P11 301 24).toInt ∧ (fv P11 301 24).toInt ≤ 81 := Typ.rng hT15 rl_301 (by decide) (by decide) rfl
    have g21 : (0 : Int) ≤ (fv P11 301 24).toInt ∧ (fv P11 301 24).toInt ≤ 81 := Typ.rng hT15 rl_301 (by decide) (by decide) rfl
    show MEvP _ none q_225 22 [(0, .ref 301), (1, .int v1)] [.int x13] _ _ _ _
    refine mp_a (a_istore_n (L' := [(2, .int x13), (0, .ref 301), (1, .int v1)]) dX7_doesAll_22 (by decide) rfl) (mpp 23 rfl ?_)
    refine mp_a (a_aload_n dX7_doesAll_23 rfl) (mpp 24 rfl ?_)
    refine mt_callv (i := 339) (q' := q_226) (As := []) (rest := []) hT15 dX7_doesAll_24 rfl qm_226 (by decide) rfl rl_301 (by decide) rfl (Nat.le_of_ble_eq_true rfl) rfl ⟨rfl, rfl⟩ ⟨Nat.le_of_ble_eq_true rfl, Nat.le_of_ble_eq_true rfl⟩ (EvP.mono (by decide) (c_M_does hT15 R19 )) (fun r22 P23 g24 => mpp 27 rfl ?_)
    obtain ⟨⟨x25, rfl, g26⟩, hT27, k28, R29⟩ := g24
    have k30 : KW [1093, 1094, 1095, 1101, 1102, 1112, 1113, 1114, 1115, 1116, 1117, 1152, 1408, 1472, 1536, 1600] Po P23 := KW.trans k18 k28 rfl
    have wx25 := ti_full x25
    show MEvP _ none q_225 27 [(2, .int x13), (0, .ref 301), (1, .int v1)] [.int x25] _ _ _ _
    refine mp_a (a_istore_n (L' := [(3, .int x25), (2, .int x13), (0, .ref 301), (1, .int v1)]) dX7_doesAll_27 (by decide) rfl) (mpp 28 rfl ?_)
    refine mp_a (a_iload_n dX7_doesAll_28 rfl) (mpp 29 rfl ?_)
    refine mp_a (a_sipush (v := -1004) dX7_doesAll_29 rfl) (mpp 32 rfl ?_)
    refine mp_a (a_sipush (v := -1001) dX7_doesAll_32 rfl) (mpp 35 rfl ?_)
    refine mp_calls (i := 61) (q' := q_127) (As := [.int x25, .int (-1004), .int (-1001)]) (rest := []) dX7_doesAll_35 rfl qm_127 (by decide) rfl (Nat.le_of_ble_eq_true rfl) rfl ⟨rfl, rfl⟩ ⟨Nat.le_of_ble_eq_true rfl, Nat.le_of_ble_eq_true rfl⟩ (EvP.mono (by decide) (c_M_isIn hT27 )) (fun r31 P32 g33 => mpp 38 rfl ?_)
    obtain ⟨⟨x34, rfl, g35⟩, e36⟩ := g33
    have e36 := e36.symm
    subst e36
    have wx34 := ti_full x34
    have g35 : 0 ≤ x34.toInt ∧ x34.toInt ≤ 1 ∧ ((x34.toInt = 1 ∧ (-1004 : Int) ≤ x25.toInt ∧ x25.toInt ≤ (-1001 : Int)) ∨ (x34.toInt = 0 ∧ (x25.toInt < (-1004 : Int) ∨ (-1001 : Int) < x25.toInt))) := g35
    show MEvP _ none q_225 38 [(3, .int x25), (2, .int x13), (0, .ref 301), (1, .int v1)] [.int x34] _ _ _ _
    refine mp_Tb (t := 77) (j_if_eq dX7_doesAll_38) (by decide) (fun c37 => ?_) (fun c37 => mpp 41 rfl ?_)
    · have c37 : x34.toInt = 0 := ti_eq c37
      refine mp_a (a_aload_n dX7_doesAll_77 rfl) (mpp 78 rfl ?_)
      refine mp_t (s_dup dX7_doesAll_78 rfl) (mpp 79 rfl ?_)
      have e38 : (fv P23 301 24).toInt = (fv P11 301 24).toInt := congrArg Int32.toInt (KW.at k28 24 rl_301 rfl)
      refine mt_getI (i := 294) (k := 24) hT27 dX7_doesAll_79 rfl rl_301 (by decide) rfl (by decide) rfl (fun g39 g40 => mpp 82 rfl ?_)
      refine mp_a (a_iconst (v := 1) dX7_doesAll_82 rfl) (mpp 83 rfl ?_)
      obtain ⟨z41, h42⟩ := ti_ex ((fv P23 301 24) + 1 : Int32)
      have wz41 := ti_full z41
      refine mp_t (s_iadd (v := z41) dX7_doesAll_83 h42) (mpp 84 rfl ?_)
      try have e43 : z41.toInt = (fv P23 301 24).toInt + 1 := ti_addz h42 rfl rfl (by omega) (by omega)
      refine mt_putI (i := 294) (k := 24) (x := z41) hT27 dX7_doesAll_84 rfl rl_301 (by decide) rfl (by decide) rfl ⟨by omega, by omega⟩ rfl rfl (fun P44 hT45 f46 f47 => mpp 87 rfl ?_)
      have k48 : KW [1093, 1094, 1095, 1101, 1102, 1112, 1113, 1114, 1115, 1116, 1117, 1152, 1408, 1472, 1536, 1600] Po P44 := KW.step k30 rl_301 rfl f47
      have R49 := Rel.ne R29 rl_301 rfl f47
      have e50 : (fv P44 301 24).toInt = z41.toInt := congrArg Int32.toInt f46
      obtain ⟨z51, h52⟩ := ti_ex (v1 + 1 : Int32)
      have wz51 := ti_full z51
      refine mp_a (a_iinc (v := z51) (L' := [(1, .int z51), (3, .int x25), (2, .int x13), (0, .ref 301)]) dX7_doesAll_87 (by decide) rfl h52 rfl) (mpp 90 rfl ?_)
      try have e53 : z51.toInt = v1.toInt + 1 := ti_addz h52 rfl rfl (by omega) (by omega)
      refine mp_a (a_goto (t := 7) dX7_doesAll_90 (by decide)) ?_
      refine MEvP.less (L := [(0, .ref 301), (1, .int z51)]) rfl rfl ⟨rfl, rfl, trivial⟩ ?_
      exact ih _ (by omega) _ P44 hT45 k48 R49 rfl
    · have c37 : x34.toInt ≠ 0 := ti_eq_n c37
      refine mp_a (a_aload_n dX7_doesAll_41 rfl) (mpp 42 rfl ?_)
      refine mp_a (a_iload_n dX7_doesAll_42 rfl) (mpp 43 rfl ?_)
      refine mp_a (a_sipush (v := -1003) dX7_doesAll_43 rfl) (mpp 46 rfl ?_)
      refine mp_Tb (t := 53) (j_icmp_ne dX7_doesAll_46) (by decide) (fun c54 => ?_) (fun c54 => mpp 49 rfl ?_)
      · have c54 : x25.toInt ≠ (-1003) := ti_ne c54
        refine mp_a (a_aload_n dX7_doesAll_53 rfl) (mpp 54 rfl ?_)
        have g55 := ti_full (fv P23 301 7)
        refine mt_getI (i := 50) (k := 7) hT27 dX7_doesAll_54 rfl rl_301 (by decide) rfl (by decide) rfl (fun g56 g57 => mpp 57 rfl ?_)
        refine mt_putI (i := 50) (k := 7) (x := (fv P23 301 7)) hT27 dX7_doesAll_57 rfl rl_301 (by decide) rfl (by decide) rfl (ti_full (fv P23 301 7)) rfl rfl (fun P58 hT59 f60 f61 => mpp 60 rfl ?_)
        have k62 : KW [1093, 1094, 1095, 1101, 1102, 1112, 1113, 1114, 1115, 1116, 1117, 1152, 1408, 1472, 1536, 1600] Po P58 := KW.step k30 rl_301 rfl f61
        have R63 := Rel.ne R29 rl_301 rfl f61
        have e64 : (fv P58 301 7).toInt = (fv P23 301 7).toInt := congrArg Int32.toInt f60
        refine mp_a (a_iload_n dX7_doesAll_60 rfl) (mpp 61 rfl ?_)
        refine mp_a (a_sipush (v := -1003) dX7_doesAll_61 rfl) (mpp 64 rfl ?_)
        refine mp_Tb (t := 73) (j_icmp_ne dX7_doesAll_64) (by decide) (fun c65 => ?_) (fun c65 => mpp 67 rfl ?_)
        · have c65 : x25.toInt ≠ (-1003) := ti_ne c65
          refine mp_a (a_sipush (v := -1002) dX7_doesAll_73 rfl) (mpp 76 rfl ?_)
          exact mp_iret ⟨⟨_, rfl, trivial⟩, hT59, k62, R63⟩ dX7_doesAll_76 (Or.inl rfl)
        · have c65 : x25.toInt = (-1003) := ti_ne_n c65
          refine mp_a (a_sipush (v := -1003) dX7_doesAll_67 rfl) (mpp 70 rfl ?_)
          refine mp_a (a_goto (t := 76) dX7_doesAll_70 (by decide)) ?_
          exact mp_iret ⟨⟨_, rfl, trivial⟩, hT59, k62, R63⟩ dX7_doesAll_76 (Or.inl rfl)
      · have c54 : x25.toInt = (-1003) := ti_ne_n c54
        refine mp_a (a_iload_n dX7_doesAll_49 rfl) (mpp 50 rfl ?_)
        refine mp_a (a_goto (t := 57) dX7_doesAll_50 (by decide)) ?_
        refine mt_putI (i := 50) (k := 7) (x := v1) hT27 dX7_doesAll_57 rfl rl_301 (by decide) rfl (by decide) rfl (ti_full v1) rfl rfl (fun P66 hT67 f68 f69 => mpp 60 rfl ?_)
        have k70 : KW [1093, 1094, 1095, 1101, 1102, 1112, 1113, 1114, 1115, 1116, 1117, 1152, 1408, 1472, 1536, 1600] Po P66 := KW.step k30 rl_301 rfl f69
        have R71 := Rel.ne R29 rl_301 rfl f69
        have e72 : (fv P66 301 7).toInt = v1.toInt := congrArg Int32.toInt f68
        refine mp_a (a_iload_n dX7_doesAll_60 rfl) (mpp 61 rfl ?_)
        refine mp_a (a_sipush (v := -1003) dX7_doesAll_61 rfl) (mpp 64 rfl ?_)
        refine mp_Tb (t := 73) (j_icmp_ne dX7_doesAll_64) (by decide) (fun c73 => ?_) (fun c73 => mpp 67 rfl ?_)
        · have c73 : x25.toInt ≠ (-1003) := ti_ne c73
          refine mp_a (a_sipush (v := -1002) dX7_doesAll_73 rfl) (mpp 76 rfl ?_)
          exact mp_iret ⟨⟨_, rfl, trivial⟩, hT67, k70, R71⟩ dX7_doesAll_76 (Or.inl rfl)
        · have c73 : x25.toInt = (-1003) := ti_ne_n c73
          refine mp_a (a_sipush (v := -1003) dX7_doesAll_67 rfl) (mpp 70 rfl ?_)
          refine mp_a (a_goto (t := 76) dX7_doesAll_70 (by decide)) ?_
          exact mp_iret ⟨⟨_, rfl, trivial⟩, hT67, k70, R71⟩ dX7_doesAll_76 (Or.inl rfl)

set_option maxHeartbeats 4000000 in
theorem c_M_doesAll {Po : mP}  (hT : Typ Po) (hR : Rel Po)  : EvP 10 225 [.ref 301] Po (fun r P' => (∃ x : Int32, r = some (.int x) ∧ (True)) ∧ Typ P' ∧ KW [1093, 1094, 1095, 1101, 1102, 1112, 1113, 1114, 1115, 1116, 1117, 1152, 1408, 1472, 1536, 1600] Po P' ∧ Rel P') := by
  refine EvP.of qm_225 (Nat.le_of_ble_eq_true rfl) rfl ?_
  show MEvP _ none q_225 0 [(0, .ref 301)] [] _ 0 0 _
  refine mp_a (a_iconst (v := 0) dX7_doesAll_0 rfl) (mpp 1 rfl ?_)
  refine mp_a (a_istore_n (L' := [(1, .int 0), (0, .ref 301)]) dX7_doesAll_1 (by decide) rfl) (mpp 2 rfl ?_)
  refine mp_a (a_aload_n dX7_doesAll_2 rfl) (mpp 3 rfl ?_)
  refine mp_a (a_iconst (v := 0) dX7_doesAll_3 rfl) (mpp 4 rfl ?_)
  refine mt_putI (i := 294) (k := 24) (x := 0) hT dX7_doesAll_4 rfl rl_301 (by decide) rfl (by decide) rfl (by decide) rfl rfl (fun P1 hT2 f3 f4 => mpp 7 rfl ?_)
  have k5 : KW [1093, 1094, 1095, 1101, 1102, 1112, 1113, 1114, 1115, 1116, 1117, 1152, 1408, 1472, 1536, 1600] Po P1 := KW.step KW.refl rl_301 rfl f4
  have R6 := Rel.ne hR rl_301 rfl f4
  have e7 : (fv P1 301 24).toInt = 0 := congrArg Int32.toInt f3
  refine MEvP.less (L := [(0, .ref 301), (1, .int 0)]) rfl rfl ⟨rfl, rfl, trivial⟩ ?_
  exact c_M_doesAll_l7   _ _ P1 hT2 k5 R6 rfl

set_option maxHeartbeats 4000000 in
theorem c_M_copies_was_s_l3 {Po : mP} {t1 : Int32} {t3 : Int32} (hp0 : 0 ≤ t1.toInt) (hp1 : t1.toInt + 155 ≤ 155) (hp2 : t1.toInt % 155 = 0) (hp3 : 0 ≤ t3.toInt) (hp4 : t3.toInt + 155 ≤ 155) (hp5 : t3.toInt % 155 = 0)  : ∀ (n : Nat) (v4 : Int32), ∀ (P : mP), Typ P → KW [1152] Po P → (CPY Po P 303 t1.toInt.toNat 302 t3.toInt.toNat v4.toInt.toNat) → (v4.toInt ≤ 155) → (0 ≤ v4.toInt) → (2147483647 - v4.toInt).toNat = n → MEvP 0 none q_125 3 [(0, .ref 303), (1, .int t1), (2, .ref 302), (3, .int t3), (4, .int v4)] [] P 0 0 (fun r P' => (r = none ∧ (CPY Po P' 303 t1.toInt.toNat 302 t3.toInt.toNat 155)) ∧ Typ P' ∧ KW [1152] Po P' ∧ True) := by
  intro n
  induction n using Nat.strongRecOn with | _ n ih => ?_
  intro v4 P hT hK i_0 i_1 i_2 hm
  have w_t1 := ti_full t1
  have w_t3 := ti_full t3
  have w_v4 := ti_full v4
  refine mp_a (a_iload dX7_copies_3 rfl) (mpp 5 rfl ?_)
  refine mp_a (a_sipush (v := 155) dX7_copies_5 rfl) (mpp 8 rfl ?_)
  refine mp_Tb (t := 29) (j_icmp_ge dX7_copies_8) (by decide) (fun c1 => ?_) (fun c1 => mpp 11 rfl ?_)
  · have c1 : v4.toInt ≥ 155 := ti_ge c1
    have u2 : CPY Po P 303 t1.toInt.toNat 302 t3.toInt.toNat 155 := CPY.fin i_0 (by omega)
    exact mp_ret ⟨⟨rfl, u2⟩, hT, hK, trivial⟩ dX7_copies_29 rfl
  · have c1 : v4.toInt < 155 := ti_ge_n c1
    refine mp_a (a_aload_n dX7_copies_11 rfl) (mpp 12 rfl ?_)
    refine mp_a (a_iload_n dX7_copies_12 rfl) (mpp 13 rfl ?_)
    refine mp_a (a_iload dX7_copies_13 rfl) (mpp 15 rfl ?_)
    obtain ⟨z3, h4⟩ := ti_ex (t3 + v4 : Int32)
    have wz3 := ti_full z3
    refine mp_t (s_iadd (v := z3) dX7_copies_15 h4) (mpp 16 rfl ?_)
    try have e5 : z3.toInt = t3.toInt + v4.toInt := ti_addz h4 rfl rfl (by omega) (by omega)
    refine mp_a (a_aload_n dX7_copies_16 rfl) (mpp 17 rfl ?_)
    refine mp_a (a_iload_n dX7_copies_17 rfl) (mpp 18 rfl ?_)
    refine mp_a (a_iload dX7_copies_18 rfl) (mpp 20 rfl ?_)
    obtain ⟨z6, h7⟩ := ti_ex (t1 + v4 : Int32)
    have wz6 := ti_full z6
    refine mp_t (s_iadd (v := z6) dX7_copies_20 h7) (mpp 21 rfl ?_)
    try have e8 : z6.toInt = t1.toInt + v4.toInt := ti_addz h7 rfl rfl (by omega) (by omega)
    refine mt_ialX (n := 155) hT dX7_copies_21 rl_303 (by decide) rfl rfl (by omega) (by omega) ssp_0 (fun g9 => mpp 22 rfl ?_)
    have we11 := ti_full (fv P 303 z6.toInt.toNat)
    refine mt_iasX (n := 155) hT dX7_copies_22 rl_302 (by decide) rfl rfl (by omega) (by omega) (okS_pp (f := (rsp 19).2.2) (g := (rsp 18).2.2) (sspm (by omega)) (sspm (by omega)) g9 (by omega)) (fun P12 hT13 f14 f15 => mpp 23 rfl ?_)
    have k16 : KW [1152] Po P12 := KW.step hK rl_302 rfl f15
    obtain ⟨z17, h18⟩ := ti_ex (v4 + 1 : Int32)
    have wz17 := ti_full z17
    refine mp_a (a_iinc (v := z17) (L' := [(4, .int z17), (0, .ref 303), (1, .int t1), (2, .ref 302), (3, .int t3)]) dX7_copies_23 (by decide) rfl h18 rfl) (mpp 26 rfl ?_)
    try have e19 : z17.toInt = v4.toInt + 1 := ti_addz h18 rfl rfl (by omega) (by omega)
    refine mp_a (a_goto (t := 3) dX7_copies_26 (by decide)) ?_
    refine MEvP.less (L := [(0, .ref 303), (1, .int t1), (2, .ref 302), (3, .int t3), (4, .int z17)]) rfl rfl ⟨rfl, rfl, rfl, rfl, rfl, trivial⟩ ?_
    have i20 : CPY Po P12 303 t1.toInt.toNat 302 t3.toInt.toNat z17.toInt.toNat := CPY.step i_0 f14 f15 (by omega) (by omega) (by omega) (Or.inl (by decide))
    have i21 : z17.toInt ≤ 155 := by omega
    have i22 : 0 ≤ z17.toInt := by omega
    exact ih _ (by omega) _ P12 hT13 k16 i20 i21 i22 rfl

set_option maxHeartbeats 4000000 in
theorem c_M_copies_was_s {Po : mP} {t1 : Int32} {t3 : Int32} (hT : Typ Po)  (hp0 : 0 ≤ t1.toInt) (hp1 : t1.toInt + 155 ≤ 155) (hp2 : t1.toInt % 155 = 0) (hp3 : 0 ≤ t3.toInt) (hp4 : t3.toInt + 155 ≤ 155) (hp5 : t3.toInt % 155 = 0)  : EvP 1 125 [.ref 303, .int t1, .ref 302, .int t3] Po (fun r P' => (r = none ∧ (CPY Po P' 303 t1.toInt.toNat 302 t3.toInt.toNat 155)) ∧ Typ P' ∧ KW [1152] Po P' ∧ True) := by
  refine EvP.of qm_125 (Nat.le_of_ble_eq_true rfl) rfl ?_
  show MEvP _ none q_125 0 [(0, .ref 303), (1, .int t1), (2, .ref 302), (3, .int t3)] [] _ 0 0 _
  refine mp_a (a_iconst (v := 0) dX7_copies_0 rfl) (mpp 1 rfl ?_)
  refine mp_a (a_istore (L' := [(4, .int 0), (0, .ref 303), (1, .int t1), (2, .ref 302), (3, .int t3)]) dX7_copies_1 (by decide) rfl) (mpp 3 rfl ?_)
  refine MEvP.less (L := [(0, .ref 303), (1, .int t1), (2, .ref 302), (3, .int t3), (4, .int 0)]) rfl rfl ⟨rfl, rfl, rfl, rfl, rfl, trivial⟩ ?_
  have i1 : CPY Po Po 303 t1.toInt.toNat 302 t3.toInt.toNat (0 : Int).toNat := CPY.start (by decide)
  have i2 : (0 : Int) ≤ 155 := by omega
  have i3 : 0 ≤ (0 : Int) := by omega
  exact c_M_copies_was_s_l3  hp0 hp1 hp2 hp3 hp4 hp5 _ _ Po hT KW.refl i1 i2 i3 rfl

set_option maxHeartbeats 4000000 in
theorem c_M_read {Po : mP}  (hT : Typ Po) (hR : Rel Po)  : EvP 11 215 [.ref 301] Po (fun r P' => (∃ x : Int32, r = some (.int x) ∧ ((fv P' 301 23).toInt = 0)) ∧ Typ P' ∧ KW [1092, 1093, 1094, 1095, 1101, 1102, 1111, 1112, 1113, 1114, 1115, 1116, 1117, 1152, 1216, 1344, 1408, 1472, 1536, 1600] Po P' ∧ Rel P') := by
  refine EvP.of qm_215 (Nat.le_of_ble_eq_true rfl) rfl ?_
  show MEvP _ none q_215 0 [(0, .ref 301)] [] _ 0 0 _
  refine mp_a (a_aload_n dX7_read_0 rfl) (mpp 1 rfl ?_)
  refine mt_callv (i := 342) (q' := q_216) (As := []) (rest := []) hT dX7_read_1 rfl qm_216 (by decide) rfl rl_301 (by decide) rfl (Nat.le_of_ble_eq_true rfl) rfl ⟨rfl, rfl⟩ ⟨Nat.le_of_ble_eq_true rfl, Nat.le_of_ble_eq_true rfl⟩ (EvP.mono (by decide) (c_M_isText hT )) (fun r1 P2 g3 => mpp 4 rfl ?_)
  obtain ⟨⟨x4, rfl, g5⟩, hT6, k7, R8⟩ := g3
  have k9 : KW [1092, 1093, 1094, 1095, 1101, 1102, 1111, 1112, 1113, 1114, 1115, 1116, 1117, 1152, 1216, 1344, 1408, 1472, 1536, 1600] Po P2 := KW.trans KW.refl k7 rfl
  have R10 := Rel.kw hR k7 rfl
  have wx4 := ti_full x4
  have g5 : 0 ≤ x4.toInt ∧ x4.toInt ≤ 1 := g5
  show MEvP _ none q_215 4 [(0, .ref 301)] [.int x4] _ _ _ _
  refine mp_Tb (t := 21) (j_if_ne dX7_read_4) (by decide) (fun c11 => ?_) (fun c11 => mpp 7 rfl ?_)
  · have c11 : x4.toInt ≠ 0 := ti_ne c11
    refine mp_a (a_aload_n dX7_read_21 rfl) (mpp 22 rfl ?_)
    refine mt_callv (i := 117) (q' := q_124) (As := []) (rest := []) hT6 dX7_read_22 rfl qm_124 (by decide) rfl rl_301 (by decide) rfl (Nat.le_of_ble_eq_true rfl) rfl ⟨rfl, rfl⟩ ⟨Nat.le_of_ble_eq_true rfl, Nat.le_of_ble_eq_true rfl⟩ (EvP.mono (by decide) (c_M_keeps hT6 R10 )) (fun r12 P13 g14 => mpp 25 rfl ?_)
    obtain ⟨⟨rfl, g16⟩, hT17, k18, R19⟩ := g14
    have k20 : KW [1092, 1093, 1094, 1095, 1101, 1102, 1111, 1112, 1113, 1114, 1115, 1116, 1117, 1152, 1216, 1344, 1408, 1472, 1536, 1600] Po P13 := KW.trans k9 k18 rfl
    show MEvP _ none q_215 25 [(0, .ref 301)] [] _ _ _ _
    refine mp_a (a_aload_n dX7_read_25 rfl) (mpp 26 rfl ?_)
    refine mt_callv (i := 345) (q' := q_225) (As := []) (rest := []) hT17 dX7_read_26 rfl qm_225 (by decide) rfl rl_301 (by decide) rfl (Nat.le_of_ble_eq_true rfl) rfl ⟨rfl, rfl⟩ ⟨Nat.le_of_ble_eq_true rfl, Nat.le_of_ble_eq_true rfl⟩ (EvP.mono (by decide) (c_M_doesAll hT17 R19 )) (fun r21 P22 g23 => mpp 29 rfl ?_)
    obtain ⟨⟨x24, rfl, g25⟩, hT26, k27, R28⟩ := g23
    have k29 : KW [1092, 1093, 1094, 1095, 1101, 1102, 1111, 1112, 1113, 1114, 1115, 1116, 1117, 1152, 1216, 1344, 1408, 1472, 1536, 1600] Po P22 := KW.trans k20 k27 rfl
    have wx24 := ti_full x24
    show MEvP _ none q_215 29 [(0, .ref 301)] [.int x24] _ _ _ _
    refine mp_a (a_istore_n (L' := [(1, .int x24), (0, .ref 301)]) dX7_read_29 (by decide) rfl) (mpp 30 rfl ?_)
    refine mp_a (a_aload_n dX7_read_30 rfl) (mpp 31 rfl ?_)
    refine mp_a (a_iconst (v := 0) dX7_read_31 rfl) (mpp 32 rfl ?_)
    refine mt_putI (i := 291) (k := 23) (x := 0) hT26 dX7_read_32 rfl rl_301 (by decide) rfl (by decide) rfl (by decide) rfl rfl (fun P30 hT31 f32 f33 => mpp 35 rfl ?_)
    have k34 : KW [1092, 1093, 1094, 1095, 1101, 1102, 1111, 1112, 1113, 1114, 1115, 1116, 1117, 1152, 1216, 1344, 1408, 1472, 1536, 1600] Po P30 := KW.step k29 rl_301 rfl f33
    have R35 := Rel.ne R28 rl_301 rfl f33
    have e36 : (fv P30 301 23).toInt = 0 := congrArg Int32.toInt f32
    refine mp_a (a_iload_n dX7_read_35 rfl) (mpp 36 rfl ?_)
    refine mp_Tb (t := 54) (j_if_ge dX7_read_36) (by decide) (fun c37 => ?_) (fun c37 => mpp 39 rfl ?_)
    · have c37 : x24.toInt ≥ 0 := ti_ge c37
      refine mp_a (a_aload_n dX7_read_54 rfl) (mpp 55 rfl ?_)
      refine mt_callv (i := 65) (q' := q_140) (As := []) (rest := []) hT31 dX7_read_55 rfl qm_140 (by decide) rfl rl_301 (by decide) rfl (Nat.le_of_ble_eq_true rfl) rfl ⟨rfl, rfl⟩ ⟨Nat.le_of_ble_eq_true rfl, Nat.le_of_ble_eq_true rfl⟩ (EvP.mono (by decide) (c_M_changed hT31 R35 )) (fun r38 P39 g40 => mpp 58 rfl ?_)
      obtain ⟨⟨rfl, g42⟩, hT43, k44, R45⟩ := g40
      have k46 : KW [1092, 1093, 1094, 1095, 1101, 1102, 1111, 1112, 1113, 1114, 1115, 1116, 1117, 1152, 1216, 1344, 1408, 1472, 1536, 1600] Po P39 := KW.trans k34 k44 rfl
      show MEvP _ none q_215 58 [(1, .int x24), (0, .ref 301)] [] _ _ _ _
      refine mp_a (a_iload_n dX7_read_58 rfl) (mpp 59 rfl ?_)
      have e47 : (fv P39 301 23).toInt = (fv P30 301 23).toInt := congrArg Int32.toInt (KW.at k44 23 rl_301 rfl)
      have u48 : (fv P39 301 23).toInt = 0 := by omega
      exact mp_iret ⟨⟨_, rfl, u48⟩, hT43, k46, R45⟩ dX7_read_59 (Or.inl rfl)
    · have c37 : x24.toInt < 0 := ti_ge_n c37
      refine mp_a (a_aload_n dX7_read_39 rfl) (mpp 40 rfl ?_)
      refine mt_getU (i := 13) (k := 1) (A := 303) hT31 dX7_read_40 rfl rl_301 (by decide) rfl (by decide) rfl un_19 (mpp 43 rfl ?_)
      refine mp_a (a_iconst (v := 0) dX7_read_43 rfl) (mpp 44 rfl ?_)
      refine mp_a (a_aload_n dX7_read_44 rfl) (mpp 45 rfl ?_)
      refine mt_getU (i := 9) (k := 0) (A := 302) hT31 dX7_read_45 rfl rl_301 (by decide) rfl (by decide) rfl un_18 (mpp 48 rfl ?_)
      refine mp_a (a_iconst (v := 0) dX7_read_48 rfl) (mpp 49 rfl ?_)
      have p49 : 0 ≤ (0 : Int) := by omega
      have p50 : (0 : Int) + 155 ≤ 155 := by omega
      have p51 : (0 : Int) % 155 = 0 := by omega
      have p52 : 0 ≤ (0 : Int) := by omega
      have p53 : (0 : Int) + 155 ≤ 155 := by omega
      have p54 : (0 : Int) % 155 = 0 := by omega
      refine mp_calls (i := 54) (q' := q_125) (As := [.ref 303, .int 0, .ref 302, .int 0]) (rest := []) dX7_read_49 rfl qm_125 (by decide) rfl (Nat.le_of_ble_eq_true rfl) rfl ⟨rfl, rfl⟩ ⟨Nat.le_of_ble_eq_true rfl, Nat.le_of_ble_eq_true rfl⟩ (EvP.mono (by decide) (c_M_copies_was_s hT31 p49 p50 p51 p52 p53 p54 )) (fun r55 P56 g57 => mpp 52 rfl ?_)
      obtain ⟨⟨rfl, g59⟩, hT60, k61, R62⟩ := g57
      have k63 : KW [1092, 1093, 1094, 1095, 1101, 1102, 1111, 1112, 1113, 1114, 1115, 1116, 1117, 1152, 1216, 1344, 1408, 1472, 1536, 1600] Po P56 := KW.trans k34 k61 rfl
      have g59 : CPY P30 P56 303 (0 : Int).toNat 302 (0 : Int).toNat 155 := g59
      show MEvP _ none q_215 52 [(1, .int x24), (0, .ref 301)] [] _ _ _ _
      have R64 := Rel.cpy R35 g59 (Or.inl ⟨by decide, by first | rfl | omega⟩) (Or.inl ⟨by decide, by first | rfl | omega⟩)
      refine mp_a (a_iload_n dX7_read_52 rfl) (mpp 53 rfl ?_)
      have e65 : (fv P56 301 23).toInt = (fv P30 301 23).toInt := congrArg Int32.toInt (KW.at k61 23 rl_301 rfl)
      have u66 : (fv P56 301 23).toInt = 0 := by omega
      exact mp_iret ⟨⟨_, rfl, u66⟩, hT60, k63, R64⟩ dX7_read_53 (Or.inl rfl)
  · have c11 : x4.toInt = 0 := ti_ne_n c11
    refine mp_a (a_aload_n dX7_read_7 rfl) (mpp 8 rfl ?_)
    refine mp_a (a_iconst (v := 0) dX7_read_8 rfl) (mpp 9 rfl ?_)
    refine mt_putI (i := 291) (k := 23) (x := 0) hT6 dX7_read_9 rfl rl_301 (by decide) rfl (by decide) rfl (by decide) rfl rfl (fun P67 hT68 f69 f70 => mpp 12 rfl ?_)
    have k71 : KW [1092, 1093, 1094, 1095, 1101, 1102, 1111, 1112, 1113, 1114, 1115, 1116, 1117, 1152, 1216, 1344, 1408, 1472, 1536, 1600] Po P67 := KW.step k9 rl_301 rfl f70
    have R72 := Rel.ne R10 rl_301 rfl f70
    have e73 : (fv P67 301 23).toInt = 0 := congrArg Int32.toInt f69
    refine mp_a (a_sipush (v := -2000) dX7_read_12 rfl) (mpp 15 rfl ?_)
    refine mp_a (a_aload_n dX7_read_15 rfl) (mpp 16 rfl ?_)
    have g74 : (0 : Int) ≤ (fv P67 301 24).toInt ∧ (fv P67 301 24).toInt ≤ 81 := Typ.rng hT68 rl_301 (by decide) (by decide) rfl
    refine mt_getI (i := 294) (k := 24) hT68 dX7_read_16 rfl rl_301 (by decide) rfl (by decide) rfl (fun g75 g76 => mpp 19 rfl ?_)
    obtain ⟨z77, h78⟩ := ti_ex ((-2000) - (fv P67 301 24) : Int32)
    have wz77 := ti_full z77
    refine mp_t (s_isub (v := z77) dX7_read_19 h78) (mpp 20 rfl ?_)
    try have e79 : z77.toInt = (-2000) - (fv P67 301 24).toInt := ti_subz h78 rfl rfl (by omega) (by omega)
    have u80 : (fv P67 301 23).toInt = 0 := by omega
    exact mp_iret ⟨⟨_, rfl, u80⟩, hT68, k71, R72⟩ dX7_read_20 (Or.inl rfl)

set_option maxHeartbeats 4000000 in
theorem c_M_refusal {Po : mP} {t1 : Int32} (hT : Typ Po)   : EvP 2 228 [.ref 301, .int t1] Po (fun r P' => (∃ x : Int32, r = some (.int x) ∧ (True)) ∧ P' = Po) := by
  refine EvP.of qm_228 (Nat.le_of_ble_eq_true rfl) rfl ?_
  show MEvP _ none q_228 0 [(0, .ref 301), (1, .int t1)] [] _ 0 0 _
  refine mp_a (a_iload_n dX7_refusal_0 rfl) (mpp 1 rfl ?_)
  refine mp_a (a_iconst (v := 0) dX7_refusal_1 rfl) (mpp 2 rfl ?_)
  refine mp_a (a_iconst (v := 2) dX7_refusal_2 rfl) (mpp 3 rfl ?_)
  refine mp_calls (i := 61) (q' := q_127) (As := [.int t1, .int 0, .int 2]) (rest := []) dX7_refusal_3 rfl qm_127 (by decide) rfl (Nat.le_of_ble_eq_true rfl) rfl ⟨rfl, rfl⟩ ⟨Nat.le_of_ble_eq_true rfl, Nat.le_of_ble_eq_true rfl⟩ (EvP.mono (by decide) (c_M_isIn hT )) (fun r1 P2 g3 => mpp 6 rfl ?_)
  obtain ⟨⟨x4, rfl, g5⟩, e6⟩ := g3
  have e6 := e6.symm
  subst e6
  have wx4 := ti_full x4
  have g5 : 0 ≤ x4.toInt ∧ x4.toInt ≤ 1 ∧ ((x4.toInt = 1 ∧ (0 : Int) ≤ t1.toInt ∧ t1.toInt ≤ (2 : Int)) ∨ (x4.toInt = 0 ∧ (t1.toInt < (0 : Int) ∨ (2 : Int) < t1.toInt))) := g5
  show MEvP _ none q_228 6 [(0, .ref 301), (1, .int t1)] [.int x4] _ _ _ _
  refine mp_Tb (t := 13) (j_if_ne dX7_refusal_6) (by decide) (fun c7 => ?_) (fun c7 => mpp 9 rfl ?_)
  · have c7 : x4.toInt ≠ 0 := ti_ne c7
    refine mp_a (a_aload_n dX7_refusal_13 rfl) (mpp 14 rfl ?_)
    have g8 := ti_full (fv Po 301 5)
    refine mt_getI (i := 68) (k := 5) hT dX7_refusal_14 rfl rl_301 (by decide) rfl (by decide) rfl (fun g9 g10 => mpp 17 rfl ?_)
    refine mp_Tb (t := 26) (j_if_ne dX7_refusal_17) (by decide) (fun c11 => ?_) (fun c11 => mpp 20 rfl ?_)
    · have c11 : (fv Po 301 5).toInt ≠ 0 := ti_ne c11
      refine mp_a (a_iload_n dX7_refusal_26 rfl) (mpp 27 rfl ?_)
      refine mp_Tb (t := 37) (j_if_ne dX7_refusal_27) (by decide) (fun c12 => ?_) (fun c12 => mpp 30 rfl ?_)
      · have c12 : t1.toInt ≠ 0 := ti_ne c12
        refine mp_a (a_iload_n dX7_refusal_37 rfl) (mpp 38 rfl ?_)
        refine mp_a (a_iconst (v := 1) dX7_refusal_38 rfl) (mpp 39 rfl ?_)
        refine mp_Tb (t := 49) (j_icmp_ne dX7_refusal_39) (by decide) (fun c13 => ?_) (fun c13 => mpp 42 rfl ?_)
        · have c13 : t1.toInt ≠ 1 := ti_ne c13
          refine mp_a (a_aload_n dX7_refusal_49 rfl) (mpp 50 rfl ?_)
          have g14 := ti_full (fv Po 301 7)
          refine mt_getI (i := 50) (k := 7) hT dX7_refusal_50 rfl rl_301 (by decide) rfl (by decide) rfl (fun g15 g16 => mpp 53 rfl ?_)
          exact mp_iret ⟨⟨_, rfl, trivial⟩, rfl⟩ dX7_refusal_53 (Or.inl rfl)
        · have c13 : t1.toInt = 1 := ti_ne_n c13
          refine mp_a (a_aload_n dX7_refusal_42 rfl) (mpp 43 rfl ?_)
          have g17 := ti_full (fv Po 301 6)
          refine mt_getI (i := 71) (k := 6) hT dX7_refusal_43 rfl rl_301 (by decide) rfl (by decide) rfl (fun g18 g19 => mpp 46 rfl ?_)
          refine mp_a (a_goto (t := 53) dX7_refusal_46 (by decide)) ?_
          exact mp_iret ⟨⟨_, rfl, trivial⟩, rfl⟩ dX7_refusal_53 (Or.inl rfl)
      · have c12 : t1.toInt = 0 := ti_ne_n c12
        refine mp_a (a_aload_n dX7_refusal_30 rfl) (mpp 31 rfl ?_)
        refine mt_getI (i := 68) (k := 5) hT dX7_refusal_31 rfl rl_301 (by decide) rfl (by decide) rfl (fun g20 g21 => mpp 34 rfl ?_)
        refine mp_a (a_goto (t := 53) dX7_refusal_34 (by decide)) ?_
        exact mp_iret ⟨⟨_, rfl, trivial⟩, rfl⟩ dX7_refusal_53 (Or.inl rfl)
    · have c11 : (fv Po 301 5).toInt = 0 := ti_ne_n c11
      refine mp_a (a_sipush (v := -1004) dX7_refusal_20 rfl) (mpp 23 rfl ?_)
      refine mp_a (a_goto (t := 53) dX7_refusal_23 (by decide)) ?_
      exact mp_iret ⟨⟨_, rfl, trivial⟩, rfl⟩ dX7_refusal_53 (Or.inl rfl)
  · have c7 : x4.toInt = 0 := ti_ne_n c7
    refine mp_a (a_sipush (v := -1002) dX7_refusal_9 rfl) (mpp 12 rfl ?_)
    exact mp_iret ⟨⟨_, rfl, trivial⟩, rfl⟩ dX7_refusal_12 (Or.inl rfl)

set_option maxHeartbeats 4000000 in
theorem c_M_piece_c0 {Po : mP} {t1 : Int32} (hT : Typ Po)   : EvP 3 194 [.ref 301, .int t1, .int 0] Po (fun r P' => (∃ x : Int32, r = some (.int x) ∧ (True)) ∧ P' = Po) := by
  refine EvP.of qm_194 (Nat.le_of_ble_eq_true rfl) rfl ?_
  show MEvP _ none q_194 0 [(0, .ref 301), (1, .int t1), (2, .int 0)] [] _ 0 0 _
  refine mp_a (a_aload_n dX7_piece_0 rfl) (mpp 1 rfl ?_)
  refine mp_a (a_iload_n dX7_piece_1 rfl) (mpp 2 rfl ?_)
  refine mt_callv (i := 85) (q' := q_144) (As := [.int t1]) (rest := []) hT dX7_piece_2 rfl qm_144 (by decide) rfl rl_301 (by decide) rfl (Nat.le_of_ble_eq_true rfl) rfl ⟨rfl, rfl⟩ ⟨Nat.le_of_ble_eq_true rfl, Nat.le_of_ble_eq_true rfl⟩ (EvP.mono (by decide) (c_M_isPiece hT )) (fun r1 P2 g3 => mpp 5 rfl ?_)
  obtain ⟨⟨x4, rfl, g5⟩, e6⟩ := g3
  have e6 := e6.symm
  subst e6
  have wx4 := ti_full x4
  have g5 : 0 ≤ x4.toInt ∧ x4.toInt ≤ 1 ∧ ((x4.toInt = 1 ∧ 0 ≤ t1.toInt ∧ t1.toInt + 1 ≤ (fv Po 302 0).toInt ∧ t1.toInt ≤ 7) ∨ (x4.toInt = 0 ∧ (t1.toInt < 0 ∨ (fv Po 302 0).toInt ≤ t1.toInt))) := g5
  have g7 : (0 : Int) ≤ (fv Po 302 0).toInt ∧ (fv Po 302 0).toInt ≤ 8 := Typ.rng hT rl_302 (by decide) (by decide) rfl
  show MEvP _ none q_194 5 [(0, .ref 301), (1, .int t1), (2, .int 0)] [.int x4] _ _ _ _
  refine mp_Tb (t := 12) (j_if_ne dX7_piece_5) (by decide) (fun c8 => ?_) (fun c8 => mpp 8 rfl ?_)
  · have c8 : x4.toInt ≠ 0 := ti_ne c8
    refine mp_a (a_iload_n dX7_piece_12 rfl) (mpp 13 rfl ?_)
    refine mp_t (s_tabIn (t := 64) dX7_piece_13 (by decide) rfl (by decide)) ?_
    refine mp_a (a_aload_n dX7_piece_64 rfl) (mpp 65 rfl ?_)
    refine mp_a (a_iload_n dX7_piece_65 rfl) (mpp 66 rfl ?_)
    refine mp_a (a_iconst (v := 0) dX7_piece_66 rfl) (mpp 67 rfl ?_)
    have p9 : 0 ≤ t1.toInt := by omega
    have p10 : t1.toInt ≤ 7 := by omega
    have p11 : 0 ≤ (0 : Int) := by omega
    have p12 : (0 : Int) ≤ 18 := by omega
    refine mt_callv (i := 78) (q' := q_137) (As := [.int t1, .int 0]) (rest := []) hT dX7_piece_67 rfl qm_137 (by decide) rfl rl_301 (by decide) rfl (Nat.le_of_ble_eq_true rfl) rfl ⟨rfl, rfl⟩ ⟨Nat.le_of_ble_eq_true rfl, Nat.le_of_ble_eq_true rfl⟩ (EvP.mono (by decide) (c_M_of_c0 hT p9 p10 p11 p12 )) (fun r13 P14 g15 => mpp 70 rfl ?_)
    obtain ⟨⟨x16, rfl, g17⟩, e18⟩ := g15
    have e18 := e18.symm
    subst e18
    have wx16 := ti_full x16
    have g17 : x16.toInt = (fv Po 302 (3 + 19 * t1.toInt.toNat)).toInt ∧ 0 ≤ x16.toInt ∧ x16.toInt ≤ 1 := g17
    have g19 := ti_full (fv Po 302 (3 + 19 * t1.toInt.toNat))
    show MEvP _ none q_194 70 [(0, .ref 301), (1, .int t1), (2, .int 0)] [.int x16] _ _ _ _
    exact mp_iret ⟨⟨_, rfl, trivial⟩, rfl⟩ dX7_piece_70 (Or.inl rfl)
  · have c8 : x4.toInt = 0 := ti_ne_n c8
    refine mp_a (a_sipush (v := -1001) dX7_piece_8 rfl) (mpp 11 rfl ?_)
    exact mp_iret ⟨⟨_, rfl, trivial⟩, rfl⟩ dX7_piece_11 (Or.inl rfl)

set_option maxHeartbeats 4000000 in
theorem c_M_allOf_c0_l4 {Po : mP}  (hT : Typ Po) (hR : Rel Po)  : ∀ (n : Nat) (v2 : Int32) (v3 : Int32), (0 ≤ v3.toInt) → (2147483647 - v3.toInt).toNat = n → MEvP 3 none q_230 4 [(0, .ref 301), (1, .int 0), (2, .int v2), (3, .int v3)] [] Po 0 0 (fun r P' => (∃ x : Int32, r = some (.int x) ∧ (True)) ∧ P' = Po) := by
  intro n
  induction n using Nat.strongRecOn with | _ n ih => ?_
  intro v2 v3 i_0 hm
  have w_v2 := ti_full v2
  have w_v3 := ti_full v3
  refine mp_a (a_iload_n dX7_allOf_4 rfl) (mpp 5 rfl ?_)
  refine mp_a (a_aload_n dX7_allOf_5 rfl) (mpp 6 rfl ?_)
  refine mt_getU (i := 9) (k := 0) (A := 302) hT dX7_allOf_6 rfl rl_301 (by decide) rfl (by decide) rfl un_18 (mpp 9 rfl ?_)
  refine mp_a (a_iconst (v := 0) dX7_allOf_9 rfl) (mpp 10 rfl ?_)
  have g3 : (0 : Int) ≤ (fv Po 302 0).toInt ∧ (fv Po 302 0).toInt ≤ 8 := Typ.rng hT rl_302 (by decide) (by decide) rfl
  refine mt_ialX (n := 155) hT dX7_allOf_10 rl_302 (by decide) rfl rfl (by decide) (by decide) ssp_0 (fun g1 => mpp 11 rfl ?_)
  have we4 := ti_full (fv Po 302 0)
  refine mp_Tb (t := 29) (j_icmp_ge dX7_allOf_11) (by decide) (fun c5 => ?_) (fun c5 => mpp 14 rfl ?_)
  · have c5 : v3.toInt ≥ (fv Po 302 0).toInt := ti_ge c5
    refine mp_a (a_iload_n dX7_allOf_29 rfl) (mpp 30 rfl ?_)
    exact mp_iret ⟨⟨_, rfl, trivial⟩, rfl⟩ dX7_allOf_30 (Or.inl rfl)
  · have c5 : v3.toInt < (fv Po 302 0).toInt := ti_ge_n c5
    refine mp_a (a_iload_n dX7_allOf_14 rfl) (mpp 15 rfl ?_)
    refine mp_a (a_aload_n dX7_allOf_15 rfl) (mpp 16 rfl ?_)
    refine mp_a (a_iload_n dX7_allOf_16 rfl) (mpp 17 rfl ?_)
    refine mp_a (a_iload_n dX7_allOf_17 rfl) (mpp 18 rfl ?_)
    refine mt_callv (i := 348) (q' := q_194) (As := [.int v3, .int 0]) (rest := [.int v2]) hT dX7_allOf_18 rfl qm_194 (by decide) rfl rl_301 (by decide) rfl (Nat.le_of_ble_eq_true rfl) rfl ⟨rfl, rfl⟩ ⟨Nat.le_of_ble_eq_true rfl, Nat.le_of_ble_eq_true rfl⟩ (EvP.mono (by decide) (c_M_piece_c0 hT )) (fun r6 P7 g8 => mpp 21 rfl ?_)
    obtain ⟨⟨x9, rfl, g10⟩, e11⟩ := g8
    have e11 := e11.symm
    subst e11
    have wx9 := ti_full x9
    show MEvP _ none q_230 21 [(0, .ref 301), (1, .int 0), (2, .int v2), (3, .int v3)] [.int x9, .int v2] _ _ _ _
    obtain ⟨z12, h13⟩ := ti_ex (v2 + x9 : Int32)
    have wz12 := ti_full z12
    refine mp_t (s_iadd (v := z12) dX7_allOf_21 h13) (mpp 22 rfl ?_)
    try have e14 : z12.toInt = v2.toInt + x9.toInt := ti_addz h13 rfl rfl (by omega) (by omega)
    refine mp_a (a_istore_n (L' := [(2, .int z12), (0, .ref 301), (1, .int 0), (3, .int v3)]) dX7_allOf_22 (by decide) rfl) (mpp 23 rfl ?_)
    obtain ⟨z15, h16⟩ := ti_ex (v3 + 1 : Int32)
    have wz15 := ti_full z15
    refine mp_a (a_iinc (v := z15) (L' := [(3, .int z15), (2, .int z12), (0, .ref 301), (1, .int 0)]) dX7_allOf_23 (by decide) rfl h16 rfl) (mpp 26 rfl ?_)
    try have e17 : z15.toInt = v3.toInt + 1 := ti_addz h16 rfl rfl (by omega) (by omega)
    refine mp_a (a_goto (t := 4) dX7_allOf_26 (by decide)) ?_
    refine MEvP.less (L := [(0, .ref 301), (1, .int 0), (2, .int z12), (3, .int z15)]) rfl rfl ⟨rfl, rfl, rfl, rfl, trivial⟩ ?_
    have i18 : 0 ≤ z15.toInt := by omega
    exact ih _ (by omega) _ _ i18 rfl

set_option maxHeartbeats 4000000 in
theorem c_M_allOf_c0 {Po : mP}  (hT : Typ Po) (hR : Rel Po)  : EvP 4 230 [.ref 301, .int 0] Po (fun r P' => (∃ x : Int32, r = some (.int x) ∧ (True)) ∧ P' = Po) := by
  refine EvP.of qm_230 (Nat.le_of_ble_eq_true rfl) rfl ?_
  show MEvP _ none q_230 0 [(0, .ref 301), (1, .int 0)] [] _ 0 0 _
  refine mp_a (a_iconst (v := 0) dX7_allOf_0 rfl) (mpp 1 rfl ?_)
  refine mp_a (a_istore_n (L' := [(2, .int 0), (0, .ref 301), (1, .int 0)]) dX7_allOf_1 (by decide) rfl) (mpp 2 rfl ?_)
  refine mp_a (a_iconst (v := 0) dX7_allOf_2 rfl) (mpp 3 rfl ?_)
  refine mp_a (a_istore_n (L' := [(3, .int 0), (2, .int 0), (0, .ref 301), (1, .int 0)]) dX7_allOf_3 (by decide) rfl) (mpp 4 rfl ?_)
  refine MEvP.less (L := [(0, .ref 301), (1, .int 0), (2, .int 0), (3, .int 0)]) rfl rfl ⟨rfl, rfl, rfl, rfl, trivial⟩ ?_
  have i1 : 0 ≤ (0 : Int) := by omega
  exact c_M_allOf_c0_l4 hT hR  _ _ _ i1 rfl

set_option maxHeartbeats 4000000 in
theorem c_M_piece_c7 {Po : mP} {t1 : Int32} (hT : Typ Po)   : EvP 3 194 [.ref 301, .int t1, .int 7] Po (fun r P' => (∃ x : Int32, r = some (.int x) ∧ (True)) ∧ P' = Po) := by
  refine EvP.of qm_194 (Nat.le_of_ble_eq_true rfl) rfl ?_
  show MEvP _ none q_194 0 [(0, .ref 301), (1, .int t1), (2, .int 7)] [] _ 0 0 _
  refine mp_a (a_aload_n dX7_piece_0 rfl) (mpp 1 rfl ?_)
  refine mp_a (a_iload_n dX7_piece_1 rfl) (mpp 2 rfl ?_)
  refine mt_callv (i := 85) (q' := q_144) (As := [.int t1]) (rest := []) hT dX7_piece_2 rfl qm_144 (by decide) rfl rl_301 (by decide) rfl (Nat.le_of_ble_eq_true rfl) rfl ⟨rfl, rfl⟩ ⟨Nat.le_of_ble_eq_true rfl, Nat.le_of_ble_eq_true rfl⟩ (EvP.mono (by decide) (c_M_isPiece hT )) (fun r1 P2 g3 => mpp 5 rfl ?_)
  obtain ⟨⟨x4, rfl, g5⟩, e6⟩ := g3
  have e6 := e6.symm
  subst e6
  have wx4 := ti_full x4
  have g5 : 0 ≤ x4.toInt ∧ x4.toInt ≤ 1 ∧ ((x4.toInt = 1 ∧ 0 ≤ t1.toInt ∧ t1.toInt + 1 ≤ (fv Po 302 0).toInt ∧ t1.toInt ≤ 7) ∨ (x4.toInt = 0 ∧ (t1.toInt < 0 ∨ (fv Po 302 0).toInt ≤ t1.toInt))) := g5
  have g7 : (0 : Int) ≤ (fv Po 302 0).toInt ∧ (fv Po 302 0).toInt ≤ 8 := Typ.rng hT rl_302 (by decide) (by decide) rfl
  show MEvP _ none q_194 5 [(0, .ref 301), (1, .int t1), (2, .int 7)] [.int x4] _ _ _ _
  refine mp_Tb (t := 12) (j_if_ne dX7_piece_5) (by decide) (fun c8 => ?_) (fun c8 => mpp 8 rfl ?_)
  · have c8 : x4.toInt ≠ 0 := ti_ne c8
    refine mp_a (a_iload_n dX7_piece_12 rfl) (mpp 13 rfl ?_)
    refine mp_t (s_tabIn (t := 111) dX7_piece_13 (by decide) rfl (by decide)) ?_
    refine mp_a (a_aload_n dX7_piece_111 rfl) (mpp 112 rfl ?_)
    refine mp_a (a_iload_n dX7_piece_112 rfl) (mpp 113 rfl ?_)
    refine mp_a (a_iconst (v := 2) dX7_piece_113 rfl) (mpp 114 rfl ?_)
    have p9 : 0 ≤ t1.toInt := by omega
    have p10 : t1.toInt ≤ 7 := by omega
    have p11 : 0 ≤ (2 : Int) := by omega
    have p12 : (2 : Int) ≤ 18 := by omega
    refine mt_callv (i := 78) (q' := q_137) (As := [.int t1, .int 2]) (rest := []) hT dX7_piece_114 rfl qm_137 (by decide) rfl rl_301 (by decide) rfl (Nat.le_of_ble_eq_true rfl) rfl ⟨rfl, rfl⟩ ⟨Nat.le_of_ble_eq_true rfl, Nat.le_of_ble_eq_true rfl⟩ (EvP.mono (by decide) (c_M_of_c2 hT p9 p10 p11 p12 )) (fun r13 P14 g15 => mpp 117 rfl ?_)
    obtain ⟨⟨x16, rfl, g17⟩, e18⟩ := g15
    have e18 := e18.symm
    subst e18
    have wx16 := ti_full x16
    show MEvP _ none q_194 117 [(0, .ref 301), (1, .int t1), (2, .int 7)] [.int x16] _ _ _ _
    exact mp_iret ⟨⟨_, rfl, trivial⟩, rfl⟩ dX7_piece_117 (Or.inl rfl)
  · have c8 : x4.toInt = 0 := ti_ne_n c8
    refine mp_a (a_sipush (v := -1001) dX7_piece_8 rfl) (mpp 11 rfl ?_)
    exact mp_iret ⟨⟨_, rfl, trivial⟩, rfl⟩ dX7_piece_11 (Or.inl rfl)

set_option maxHeartbeats 4000000 in
theorem c_M_allOf_c7_l4 {Po : mP}  (hT : Typ Po) (hR : Rel Po)  : ∀ (n : Nat) (v2 : Int32) (v3 : Int32), (0 ≤ v3.toInt) → (2147483647 - v3.toInt).toNat = n → MEvP 3 none q_230 4 [(0, .ref 301), (1, .int 7), (2, .int v2), (3, .int v3)] [] Po 0 0 (fun r P' => (∃ x : Int32, r = some (.int x) ∧ (True)) ∧ P' = Po) := by
  intro n
  induction n using Nat.strongRecOn with | _ n ih => ?_
  intro v2 v3 i_0 hm
  have w_v2 := ti_full v2
  have w_v3 := ti_full v3
  refine mp_a (a_iload_n dX7_allOf_4 rfl) (mpp 5 rfl ?_)
  refine mp_a (a_aload_n dX7_allOf_5 rfl) (mpp 6 rfl ?_)
  refine mt_getU (i := 9) (k := 0) (A := 302) hT dX7_allOf_6 rfl rl_301 (by decide) rfl (by decide) rfl un_18 (mpp 9 rfl ?_)
  refine mp_a (a_iconst (v := 0) dX7_allOf_9 rfl) (mpp 10 rfl ?_)
  have g3 : (0 : Int) ≤ (fv Po 302 0).toInt ∧ (fv Po 302 0).toInt ≤ 8 := Typ.rng hT rl_302 (by decide) (by decide) rfl
  refine mt_ialX (n := 155) hT dX7_allOf_10 rl_302 (by decide) rfl rfl (by decide) (by decide) ssp_0 (fun g1 => mpp 11 rfl ?_)
  have we4 := ti_full (fv Po 302 0)
  refine mp_Tb (t := 29) (j_icmp_ge dX7_allOf_11) (by decide) (fun c5 => ?_) (fun c5 => mpp 14 rfl ?_)
  · have c5 : v3.toInt ≥ (fv Po 302 0).toInt := ti_ge c5
    refine mp_a (a_iload_n dX7_allOf_29 rfl) (mpp 30 rfl ?_)
    exact mp_iret ⟨⟨_, rfl, trivial⟩, rfl⟩ dX7_allOf_30 (Or.inl rfl)
  · have c5 : v3.toInt < (fv Po 302 0).toInt := ti_ge_n c5
    refine mp_a (a_iload_n dX7_allOf_14 rfl) (mpp 15 rfl ?_)
    refine mp_a (a_aload_n dX7_allOf_15 rfl) (mpp 16 rfl ?_)
    refine mp_a (a_iload_n dX7_allOf_16 rfl) (mpp 17 rfl ?_)
    refine mp_a (a_iload_n dX7_allOf_17 rfl) (mpp 18 rfl ?_)
    refine mt_callv (i := 348) (q' := q_194) (As := [.int v3, .int 7]) (rest := [.int v2]) hT dX7_allOf_18 rfl qm_194 (by decide) rfl rl_301 (by decide) rfl (Nat.le_of_ble_eq_true rfl) rfl ⟨rfl, rfl⟩ ⟨Nat.le_of_ble_eq_true rfl, Nat.le_of_ble_eq_true rfl⟩ (EvP.mono (by decide) (c_M_piece_c7 hT )) (fun r6 P7 g8 => mpp 21 rfl ?_)
    obtain ⟨⟨x9, rfl, g10⟩, e11⟩ := g8
    have e11 := e11.symm
    subst e11
    have wx9 := ti_full x9
    show MEvP _ none q_230 21 [(0, .ref 301), (1, .int 7), (2, .int v2), (3, .int v3)] [.int x9, .int v2] _ _ _ _
    obtain ⟨z12, h13⟩ := ti_ex (v2 + x9 : Int32)
    have wz12 := ti_full z12
    refine mp_t (s_iadd (v := z12) dX7_allOf_21 h13) (mpp 22 rfl ?_)
    try have e14 : z12.toInt = v2.toInt + x9.toInt := ti_addz h13 rfl rfl (by omega) (by omega)
    refine mp_a (a_istore_n (L' := [(2, .int z12), (0, .ref 301), (1, .int 7), (3, .int v3)]) dX7_allOf_22 (by decide) rfl) (mpp 23 rfl ?_)
    obtain ⟨z15, h16⟩ := ti_ex (v3 + 1 : Int32)
    have wz15 := ti_full z15
    refine mp_a (a_iinc (v := z15) (L' := [(3, .int z15), (2, .int z12), (0, .ref 301), (1, .int 7)]) dX7_allOf_23 (by decide) rfl h16 rfl) (mpp 26 rfl ?_)
    try have e17 : z15.toInt = v3.toInt + 1 := ti_addz h16 rfl rfl (by omega) (by omega)
    refine mp_a (a_goto (t := 4) dX7_allOf_26 (by decide)) ?_
    refine MEvP.less (L := [(0, .ref 301), (1, .int 7), (2, .int z12), (3, .int z15)]) rfl rfl ⟨rfl, rfl, rfl, rfl, trivial⟩ ?_
    have i18 : 0 ≤ z15.toInt := by omega
    exact ih _ (by omega) _ _ i18 rfl

