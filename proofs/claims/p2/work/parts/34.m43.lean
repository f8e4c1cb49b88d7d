/-! methods on typed pools, 43 (written by a program) -/
set_option maxHeartbeats 4000000 in
theorem c_M_addsSigned {Po : mP}  (hT : Typ Po) (hR : Rel Po)  : EvP 7 227 [.ref 301] Po (fun r P' => (∃ x : Int32, r = some (.int x) ∧ (True)) ∧ Typ P' ∧ KW [1093, 1094, 1152, 1408, 1472] Po P' ∧ Rel P') := by
  refine EvP.of qm_227 (Nat.le_of_ble_eq_true rfl) rfl ?_
  show MEvP _ none q_227 0 [(0, .ref 301)] [] _ 0 0 _
  refine mp_a (a_aload_n dX7_addsSigned_0 rfl) (mpp 1 rfl ?_)
  have g1 := ti_full (fv Po 301 25)
  refine mt_getI (i := 321) (k := 25) hT dX7_addsSigned_1 rfl rl_301 (by decide) rfl (by decide) rfl (fun g2 g3 => mpp 4 rfl ?_)
  refine mp_a (a_bipush (v := 115) dX7_addsSigned_4 rfl) (mpp 6 rfl ?_)
  refine mp_Tb (t := 13) (j_icmp_ne dX7_addsSigned_6) (by decide) (fun c4 => ?_) (fun c4 => mpp 9 rfl ?_)
  · have c4 : (fv Po 301 25).toInt ≠ 115 := ti_ne c4
    refine mp_a (a_iconst (v := 1) dX7_addsSigned_13 rfl) (mpp 14 rfl ?_)
    refine mp_a (a_istore_n (L' := [(1, .int 1), (0, .ref 301)]) dX7_addsSigned_14 (by decide) rfl) (mpp 15 rfl ?_)
    refine mp_a (a_aload_n dX7_addsSigned_15 rfl) (mpp 16 rfl ?_)
    refine mp_a (a_aload_n dX7_addsSigned_16 rfl) (mpp 17 rfl ?_)
    have g5 := ti_full (fv Po 301 26)
    refine mt_getI (i := 300) (k := 26) hT dX7_addsSigned_17 rfl rl_301 (by decide) rfl (by decide) rfl (fun g6 g7 => mpp 20 rfl ?_)
    refine mt_callv (i := 104) (q' := q_128) (As := [.int (fv Po 301 26)]) (rest := []) hT dX7_addsSigned_20 rfl qm_128 (by decide) rfl rl_301 (by decide) rfl (Nat.le_of_ble_eq_true rfl) rfl ⟨rfl, rfl⟩ ⟨Nat.le_of_ble_eq_true rfl, Nat.le_of_ble_eq_true rfl⟩ (EvP.mono (by decide) (c_M_laysSizes hT )) (fun r8 P9 g10 => mpp 23 rfl ?_)
    obtain ⟨⟨x11, rfl, g12⟩, hT13, k14, R15⟩ := g10
    have k16 : KW [1093, 1094, 1152, 1408, 1472] Po P9 := KW.trans KW.refl k14 rfl
    have R18 := Rel.kw hR k14 rfl
    have wx11 := ti_full x11
    replace g12 : (x11.toInt = 0 ∧ ∀ c : Nat, ¬ okD (fv Po 301 26).toInt c) ∨ (okD (fv Po 301 26).toInt x11.toInt.toNat ∧ 1 ≤ x11.toInt ∧ x11.toInt ≤ 8 ∧ ∀ j : Nat, j < x11.toInt.toNat → fv P9 306 j = dgI (fv Po 301 26).toInt x11.toInt.toNat j) := g12
    show MEvP _ none q_227 23 [(1, .int 1), (0, .ref 301)] [.int x11] _ _ _ _
    refine mp_a (a_istore_n (L' := [(2, .int x11), (1, .int 1), (0, .ref 301)]) dX7_addsSigned_23 (by decide) rfl) (mpp 24 rfl ?_)
    refine mp_a (a_aload_n dX7_addsSigned_24 rfl) (mpp 25 rfl ?_)
    refine mp_a (a_iload_n dX7_addsSigned_25 rfl) (mpp 26 rfl ?_)
    refine mp_a (a_iload_n dX7_addsSigned_26 rfl) (mpp 27 rfl ?_)
    have p19 : x11.toInt ≤ 8 := by omega
    refine mt_callv (i := 107) (q' := q_130) (As := [.int 1, .int x11]) (rest := []) hT13 dX7_addsSigned_27 rfl qm_130 (by decide) rfl rl_301 (by decide) rfl (Nat.le_of_ble_eq_true rfl) rfl ⟨rfl, rfl⟩ ⟨Nat.le_of_ble_eq_true rfl, Nat.le_of_ble_eq_true rfl⟩ (EvP.mono (by decide) (c_M_areSizes hT13 p19 )) (fun r20 P21 g22 => mpp 30 rfl ?_)
    obtain ⟨⟨x23, rfl, g24⟩, e25⟩ := g22
    have e25 := e25.symm
    subst e25
    have wx23 := ti_full x23
    replace g24 : 0 ≤ x23.toInt ∧ x23.toInt ≤ 1 ∧ ((x23.toInt = 1 ∧ (((1 : Int) = 0 ∧ 2 ≤ x11.toInt ∧ x11.toInt ≤ 7) ∨ (¬ (1 : Int) = 0 ∧ (x11.toInt = 4 ∨ x11.toInt = 6 ∨ x11.toInt = 8) ∧ (smF (fun j : Nat => fv P9 306 j) x11.toInt.toNat).toInt = 24))) ∨ (x23.toInt = 0 ∧ ¬ (((1 : Int) = 0 ∧ 2 ≤ x11.toInt ∧ x11.toInt ≤ 7) ∨ (¬ (1 : Int) = 0 ∧ (x11.toInt = 4 ∨ x11.toInt = 6 ∨ x11.toInt = 8) ∧ (smF (fun j : Nat => fv P9 306 j) x11.toInt.toNat).toInt = 24)))) := g24
    show MEvP _ none q_227 30 [(2, .int x11), (1, .int 1), (0, .ref 301)] [.int x23] _ _ _ _
    refine mp_Tb (t := 45) (j_if_eq dX7_addsSigned_30) (by decide) (fun c26 => ?_) (fun c26 => mpp 33 rfl ?_)
    · have c26 : x23.toInt = 0 := ti_eq c26
      refine mp_a (a_sipush (v := -1002) dX7_addsSigned_45 rfl) (mpp 48 rfl ?_)
      exact mp_iret ⟨⟨_, rfl, trivial⟩, hT13, k16, R18⟩ dX7_addsSigned_48 (Or.inl rfl)
    · have c26 : x23.toInt ≠ 0 := ti_eq_n c26
      refine mp_a (a_aload_n dX7_addsSigned_33 rfl) (mpp 34 rfl ?_)
      have g27 := ti_full (fv P9 301 28)
      refine mt_getI (i := 306) (k := 28) hT13 dX7_addsSigned_34 rfl rl_301 (by decide) rfl (by decide) rfl (fun g28 g29 => mpp 37 rfl ?_)
      refine mp_a (a_iload_n dX7_addsSigned_37 rfl) (mpp 38 rfl ?_)
      refine mp_a (a_iconst (v := 1) dX7_addsSigned_38 rfl) (mpp 39 rfl ?_)
      obtain ⟨z30, h31⟩ := ti_ex (x11 - 1 : Int32)
      have wz30 := ti_full z30
      refine mp_t (s_isub (v := z30) dX7_addsSigned_39 h31) (mpp 40 rfl ?_)
      try have e32 : z30.toInt = x11.toInt - 1 := ti_subz h31 rfl rfl (by omega) (by omega)
      refine mp_a (a_iload_n dX7_addsSigned_40 rfl) (mpp 41 rfl ?_)
      obtain ⟨z33, h34⟩ := ti_ex (z30 + 1 : Int32)
      have wz33 := ti_full z33
      refine mp_t (s_iadd (v := z33) dX7_addsSigned_41 h34) (mpp 42 rfl ?_)
      try have e35 : z33.toInt = z30.toInt + 1 := ti_addz h34 rfl rfl (by omega) (by omega)
      refine mp_Tb (t := 49) (j_icmp_eq dX7_addsSigned_42) (by decide) (fun c36 => ?_) (fun c36 => mpp 45 rfl ?_)
      · have c36 : (fv P9 301 28).toInt = z33.toInt := ti_eq c36
        refine mp_a (a_aload_n dX7_addsSigned_49 rfl) (mpp 50 rfl ?_)
        refine mp_a (a_iload_n dX7_addsSigned_50 rfl) (mpp 51 rfl ?_)
        refine mp_a (a_aload_n dX7_addsSigned_51 rfl) (mpp 52 rfl ?_)
        have e37 : (fv P9 301 26).toInt = (fv Po 301 26).toInt := congrArg Int32.toInt (KW.at k14 26 rl_301 rfl)
        refine mt_getI (i := 300) (k := 26) hT13 dX7_addsSigned_52 rfl rl_301 (by decide) rfl (by decide) rfl (fun g38 g39 => mpp 55 rfl ?_)
        refine mp_a (a_aload_n dX7_addsSigned_55 rfl) (mpp 56 rfl ?_)
        have g40 := ti_full (fv P9 301 27)
        refine mt_getI (i := 303) (k := 27) hT13 dX7_addsSigned_56 rfl rl_301 (by decide) rfl (by decide) rfl (fun g41 g42 => mpp 59 rfl ?_)
        refine mt_callv (i := 120) (q' := q_126) (As := [.int 1, .int (fv P9 301 26), .int (fv P9 301 27)]) (rest := []) hT13 dX7_addsSigned_59 rfl qm_126 (by decide) rfl rl_301 (by decide) rfl (Nat.le_of_ble_eq_true rfl) rfl ⟨rfl, rfl⟩ ⟨Nat.le_of_ble_eq_true rfl, Nat.le_of_ble_eq_true rfl⟩ (EvP.mono (by decide) (c_M_addsTold hT13 R18 )) (fun r43 P44 g45 => mpp 62 rfl ?_)
        obtain ⟨⟨x46, rfl, g47⟩, hT48, k49, R50⟩ := g45
        have k51 : KW [1093, 1094, 1152, 1408, 1472] Po P44 := KW.trans k16 k49 rfl
        have wx46 := ti_full x46
        replace g47 : addsToldM (sr P9) (sr P44) x46.toInt (1 : Int) (fv P9 301 26).toInt (fv P9 301 27).toInt := g47
        show MEvP _ none q_227 62 [(2, .int x11), (1, .int 1), (0, .ref 301)] [.int x46] _ _ _ _
        exact mp_iret ⟨⟨_, rfl, trivial⟩, hT48, k51, R50⟩ dX7_addsSigned_62 (Or.inl rfl)
      · have c36 : (fv P9 301 28).toInt ≠ z33.toInt := ti_eq_n c36
        refine mp_a (a_sipush (v := -1002) dX7_addsSigned_45 rfl) (mpp 48 rfl ?_)
        exact mp_iret ⟨⟨_, rfl, trivial⟩, hT13, k16, R18⟩ dX7_addsSigned_48 (Or.inl rfl)
  · have c4 : (fv Po 301 25).toInt = 115 := ti_ne_n c4
    refine mp_a (a_iconst (v := 0) dX7_addsSigned_9 rfl) (mpp 10 rfl ?_)
    refine mp_a (a_goto (t := 14) dX7_addsSigned_10 (by decide)) ?_
    refine mp_a (a_istore_n (L' := [(1, .int 0), (0, .ref 301)]) dX7_addsSigned_14 (by decide) rfl) (mpp 15 rfl ?_)
    refine mp_a (a_aload_n dX7_addsSigned_15 rfl) (mpp 16 rfl ?_)
    refine mp_a (a_aload_n dX7_addsSigned_16 rfl) (mpp 17 rfl ?_)
    have g53 := ti_full (fv Po 301 26)
    refine mt_getI (i := 300) (k := 26) hT dX7_addsSigned_17 rfl rl_301 (by decide) rfl (by decide) rfl (fun g54 g55 => mpp 20 rfl ?_)
    refine mt_callv (i := 104) (q' := q_128) (As := [.int (fv Po 301 26)]) (rest := []) hT dX7_addsSigned_20 rfl qm_128 (by decide) rfl rl_301 (by decide) rfl (Nat.le_of_ble_eq_true rfl) rfl ⟨rfl, rfl⟩ ⟨Nat.le_of_ble_eq_true rfl, Nat.le_of_ble_eq_true rfl⟩ (EvP.mono (by decide) (c_M_laysSizes hT )) (fun r56 P57 g58 => mpp 23 rfl ?_)
    obtain ⟨⟨x59, rfl, g60⟩, hT61, k62, R63⟩ := g58
    have k64 : KW [1093, 1094, 1152, 1408, 1472] Po P57 := KW.trans KW.refl k62 rfl
    have R66 := Rel.kw hR k62 rfl
    have wx59 := ti_full x59
    replace g60 : (x59.toInt = 0 ∧ ∀ c : Nat, ¬ okD (fv Po 301 26).toInt c) ∨ (okD (fv Po 301 26).toInt x59.toInt.toNat ∧ 1 ≤ x59.toInt ∧ x59.toInt ≤ 8 ∧ ∀ j : Nat, j < x59.toInt.toNat → fv P57 306 j = dgI (fv Po 301 26).toInt x59.toInt.toNat j) := g60
    show MEvP _ none q_227 23 [(1, .int 0), (0, .ref 301)] [.int x59] _ _ _ _
    refine mp_a (a_istore_n (L' := [(2, .int x59), (1, .int 0), (0, .ref 301)]) dX7_addsSigned_23 (by decide) rfl) (mpp 24 rfl ?_)
    refine mp_a (a_aload_n dX7_addsSigned_24 rfl) (mpp 25 rfl ?_)
    refine mp_a (a_iload_n dX7_addsSigned_25 rfl) (mpp 26 rfl ?_)
    refine mp_a (a_iload_n dX7_addsSigned_26 rfl) (mpp 27 rfl ?_)
    have p67 : x59.toInt ≤ 8 := by omega
    refine mt_callv (i := 107) (q' := q_130) (As := [.int 0, .int x59]) (rest := []) hT61 dX7_addsSigned_27 rfl qm_130 (by decide) rfl rl_301 (by decide) rfl (Nat.le_of_ble_eq_true rfl) rfl ⟨rfl, rfl⟩ ⟨Nat.le_of_ble_eq_true rfl, Nat.le_of_ble_eq_true rfl⟩ (EvP.mono (by decide) (c_M_areSizes hT61 p67 )) (fun r68 P69 g70 => mpp 30 rfl ?_)
    obtain ⟨⟨x71, rfl, g72⟩, e73⟩ := g70
    have e73 := e73.symm
    subst e73
    have wx71 := ti_full x71
    replace g72 : 0 ≤ x71.toInt ∧ x71.toInt ≤ 1 ∧ ((x71.toInt = 1 ∧ (((0 : Int) = 0 ∧ 2 ≤ x59.toInt ∧ x59.toInt ≤ 7) ∨ (¬ (0 : Int) = 0 ∧ (x59.toInt = 4 ∨ x59.toInt = 6 ∨ x59.toInt = 8) ∧ (smF (fun j : Nat => fv P57 306 j) x59.toInt.toNat).toInt = 24))) ∨ (x71.toInt = 0 ∧ ¬ (((0 : Int) = 0 ∧ 2 ≤ x59.toInt ∧ x59.toInt ≤ 7) ∨ (¬ (0 : Int) = 0 ∧ (x59.toInt = 4 ∨ x59.toInt = 6 ∨ x59.toInt = 8) ∧ (smF (fun j : Nat => fv P57 306 j) x59.toInt.toNat).toInt = 24)))) := g72
    show MEvP _ none q_227 30 [(2, .int x59), (1, .int 0), (0, .ref 301)] [.int x71] _ _ _ _
    refine mp_Tb (t := 45) (j_if_eq dX7_addsSigned_30) (by decide) (fun c74 => ?_) (fun c74 => mpp 33 rfl ?_)
    · have c74 : x71.toInt = 0 := ti_eq c74
      refine mp_a (a_sipush (v := -1002) dX7_addsSigned_45 rfl) (mpp 48 rfl ?_)
      exact mp_iret ⟨⟨_, rfl, trivial⟩, hT61, k64, R66⟩ dX7_addsSigned_48 (Or.inl rfl)
    · have c74 : x71.toInt ≠ 0 := ti_eq_n c74
      refine mp_a (a_aload_n dX7_addsSigned_33 rfl) (mpp 34 rfl ?_)
      have g75 := ti_full (fv P57 301 28)
      refine mt_getI (i := 306) (k := 28) hT61 dX7_addsSigned_34 rfl rl_301 (by decide) rfl (by decide) rfl (fun g76 g77 => mpp 37 rfl ?_)
      refine mp_a (a_iload_n dX7_addsSigned_37 rfl) (mpp 38 rfl ?_)
      refine mp_a (a_iconst (v := 1) dX7_addsSigned_38 rfl) (mpp 39 rfl ?_)
      obtain ⟨z78, h79⟩ := ti_ex (x59 - 1 : Int32)
      have wz78 := ti_full z78
      refine mp_t (s_isub (v := z78) dX7_addsSigned_39 h79) (mpp 40 rfl ?_)
      try have e80 : z78.toInt = x59.toInt - 1 := ti_subz h79 rfl rfl (by omega) (by omega)
      refine mp_a (a_iload_n dX7_addsSigned_40 rfl) (mpp 41 rfl ?_)
      obtain ⟨z81, h82⟩ := ti_ex (z78 + 0 : Int32)
      have wz81 := ti_full z81
      refine mp_t (s_iadd (v := z81) dX7_addsSigned_41 h82) (mpp 42 rfl ?_)
      try have e83 : z81.toInt = z78.toInt + 0 := ti_addz h82 rfl rfl (by omega) (by omega)
      refine mp_Tb (t := 49) (j_icmp_eq dX7_addsSigned_42) (by decide) (fun c84 => ?_) (fun c84 => mpp 45 rfl ?_)
      · have c84 : (fv P57 301 28).toInt = z81.toInt := ti_eq c84
        refine mp_a (a_aload_n dX7_addsSigned_49 rfl) (mpp 50 rfl ?_)
        refine mp_a (a_iload_n dX7_addsSigned_50 rfl) (mpp 51 rfl ?_)
        refine mp_a (a_aload_n dX7_addsSigned_51 rfl) (mpp 52 rfl ?_)
        have e85 : (fv P57 301 26).toInt = (fv Po 301 26).toInt := congrArg Int32.toInt (KW.at k62 26 rl_301 rfl)
        refine mt_getI (i := 300) (k := 26) hT61 dX7_addsSigned_52 rfl rl_301 (by decide) rfl (by decide) rfl (fun g86 g87 => mpp 55 rfl ?_)
        refine mp_a (a_aload_n dX7_addsSigned_55 rfl) (mpp 56 rfl ?_)
        have g88 := ti_full (fv P57 301 27)
        refine mt_getI (i := 303) (k := 27) hT61 dX7_addsSigned_56 rfl rl_301 (by decide) rfl (by decide) rfl (fun g89 g90 => mpp 59 rfl ?_)
        refine mt_callv (i := 120) (q' := q_126) (As := [.int 0, .int (fv P57 301 26), .int (fv P57 301 27)]) (rest := []) hT61 dX7_addsSigned_59 rfl qm_126 (by decide) rfl rl_301 (by decide) rfl (Nat.le_of_ble_eq_true rfl) rfl ⟨rfl, rfl⟩ ⟨Nat.le_of_ble_eq_true rfl, Nat.le_of_ble_eq_true rfl⟩ (EvP.mono (by decide) (c_M_addsTold hT61 R66 )) (fun r91 P92 g93 => mpp 62 rfl ?_)
        obtain ⟨⟨x94, rfl, g95⟩, hT96, k97, R98⟩ := g93
        have k99 : KW [1093, 1094, 1152, 1408, 1472] Po P92 := KW.trans k64 k97 rfl
        have wx94 := ti_full x94
        replace g95 : addsToldM (sr P57) (sr P92) x94.toInt (0 : Int) (fv P57 301 26).toInt (fv P57 301 27).toInt := g95
        show MEvP _ none q_227 62 [(2, .int x59), (1, .int 0), (0, .ref 301)] [.int x94] _ _ _ _
        exact mp_iret ⟨⟨_, rfl, trivial⟩, hT96, k99, R98⟩ dX7_addsSigned_62 (Or.inl rfl)
      · have c84 : (fv P57 301 28).toInt ≠ z81.toInt := ti_eq_n c84
        refine mp_a (a_sipush (v := -1002) dX7_addsSigned_45 rfl) (mpp 48 rfl ?_)
        exact mp_iret ⟨⟨_, rfl, trivial⟩, hT61, k64, R66⟩ dX7_addsSigned_48 (Or.inl rfl)

set_option maxHeartbeats 4000000 in
theorem c_M_does {Po : mP}  (hT : Typ Po) (hR : Rel Po)  : EvP 9 226 [.ref 301] Po (fun r P' => (∃ x : Int32, r = some (.int x) ∧ (True)) ∧ Typ P' ∧ KW [1093, 1094, 1101, 1102, 1152, 1408, 1472, 1536, 1600] Po P' ∧ Rel P') := by
  refine EvP.of qm_226 (Nat.le_of_ble_eq_true rfl) rfl ?_
  show MEvP _ none q_226 0 [(0, .ref 301)] [] _ 0 0 _
  refine mp_a (a_aload_n dX7_does_0 rfl) (mpp 1 rfl ?_)
  have g1 := ti_full (fv Po 301 25)
  refine mt_getI (i := 321) (k := 25) hT dX7_does_1 rfl rl_301 (by decide) rfl (by decide) rfl (fun g2 g3 => mpp 4 rfl ?_)
  have c4 : ((fv Po 301 25).toInt ≠ 102 ∧ (fv Po 301 25).toInt ≠ 109 ∧ (fv Po 301 25).toInt ≠ 116 ∧ (fv Po 301 25).toInt ≠ 117 ∧ (fv Po 301 25).toInt ≠ 120) ∨ (fv Po 301 25).toInt = 102 ∨ (fv Po 301 25).toInt = 109 ∨ (fv Po 301 25).toInt = 116 ∨ (fv Po 301 25).toInt = 117 ∨ (fv Po 301 25).toInt = 120 := by omega
  rcases c4 with c4 | c4 | c4 | c4 | c4 | c4
  · refine mp_t (s_lok (t := 109) (off := 105) dX7_does_4 rfl (by obtain ⟨n0, n1, n2, n3, n4⟩ := c4; simp [Op.lookupswitch.offset, Ne.symm n0, Ne.symm n1, Ne.symm n2, Ne.symm n3, Ne.symm n4]) (by decide)) ?_
    refine mp_a (a_aload_n dX7_does_109 rfl) (mpp 110 rfl ?_)
    refine mt_callv (i := 336) (q' := q_227) (As := []) (rest := []) hT dX7_does_110 rfl qm_227 (by decide) rfl rl_301 (by decide) rfl (Nat.le_of_ble_eq_true rfl) rfl ⟨rfl, rfl⟩ ⟨Nat.le_of_ble_eq_true rfl, Nat.le_of_ble_eq_true rfl⟩ (EvP.mono (by decide) (c_M_addsSigned hT hR )) (fun r5 P6 g7 => mpp 113 rfl ?_)
    obtain ⟨⟨x8, rfl, g9⟩, hT10, k11, R12⟩ := g7
    have k13 : KW [1093, 1094, 1101, 1102, 1152, 1408, 1472, 1536, 1600] Po P6 := KW.trans KW.refl k11 rfl
    have wx8 := ti_full x8
    show MEvP _ none q_226 113 [(0, .ref 301)] [.int x8] _ _ _ _
    exact mp_iret ⟨⟨_, rfl, trivial⟩, hT10, k13, R12⟩ dX7_does_113 (Or.inl rfl)
  · refine mp_t (s_lok (t := 82) (off := 78) dX7_does_4 rfl (by rw [c4]; rfl) (by decide)) ?_
    refine mp_a (a_aload_n dX7_does_82 rfl) (mpp 83 rfl ?_)
    refine mp_a (a_aload_n dX7_does_83 rfl) (mpp 84 rfl ?_)
    have g15 := ti_full (fv Po 301 26)
    refine mt_getI (i := 300) (k := 26) hT dX7_does_84 rfl rl_301 (by decide) rfl (by decide) rfl (fun g16 g17 => mpp 87 rfl ?_)
    refine mt_callv (i := 240) (q' := q_188) (As := [.int (fv Po 301 26)]) (rest := []) hT dX7_does_87 rfl qm_188 (by decide) rfl rl_301 (by decide) rfl (Nat.le_of_ble_eq_true rfl) rfl ⟨rfl, rfl⟩ ⟨Nat.le_of_ble_eq_true rfl, Nat.le_of_ble_eq_true rfl⟩ (EvP.mono (by decide) (c_M_foldsOnStage hT hR )) (fun r18 P19 g20 => mpp 90 rfl ?_)
    obtain ⟨⟨x21, rfl, g22⟩, hT23, k24, R25⟩ := g20
    have k26 : KW [1093, 1094, 1101, 1102, 1152, 1408, 1472, 1536, 1600] Po P19 := KW.trans KW.refl k24 rfl
    have wx21 := ti_full x21
    replace g22 : foldsM (sr Po) (sr P19) x21.toInt (fv Po 301 26).toInt := g22
    show MEvP _ none q_226 90 [(0, .ref 301)] [.int x21] _ _ _ _
    exact mp_iret ⟨⟨_, rfl, trivial⟩, hT23, k26, R25⟩ dX7_does_90 (Or.inl rfl)
  · refine mp_t (s_lok (t := 56) (off := 52) dX7_does_4 rfl (by rw [c4]; rfl) (by decide)) ?_
    refine mp_a (a_aload_n dX7_does_56 rfl) (mpp 57 rfl ?_)
    refine mp_a (a_aload_n dX7_does_57 rfl) (mpp 58 rfl ?_)
    have g28 := ti_full (fv Po 301 26)
    refine mt_getI (i := 300) (k := 26) hT dX7_does_58 rfl rl_301 (by decide) rfl (by decide) rfl (fun g29 g30 => mpp 61 rfl ?_)
    refine mp_a (a_aload_n dX7_does_61 rfl) (mpp 62 rfl ?_)
    have g31 := ti_full (fv Po 301 27)
    refine mt_getI (i := 303) (k := 27) hT dX7_does_62 rfl rl_301 (by decide) rfl (by decide) rfl (fun g32 g33 => mpp 65 rfl ?_)
    refine mp_a (a_aload_n dX7_does_65 rfl) (mpp 66 rfl ?_)
    have g34 := ti_full (fv Po 301 29)
    refine mt_getI (i := 318) (k := 29) hT dX7_does_66 rfl rl_301 (by decide) rfl (by decide) rfl (fun g35 g36 => mpp 69 rfl ?_)
    refine mt_callv (i := 133) (q' := q_142) (As := [.int (fv Po 301 26), .int (fv Po 301 27), .int (fv Po 301 29)]) (rest := []) hT dX7_does_69 rfl qm_142 (by decide) rfl rl_301 (by decide) rfl (Nat.le_of_ble_eq_true rfl) rfl ⟨rfl, rfl⟩ ⟨Nat.le_of_ble_eq_true rfl, Nat.le_of_ble_eq_true rfl⟩ (EvP.mono (by decide) (c_M_marks hT hR )) (fun r37 P38 g39 => mpp 72 rfl ?_)
    obtain ⟨⟨x40, rfl, g41⟩, hT42, k43, R44⟩ := g39
    have k45 : KW [1093, 1094, 1101, 1102, 1152, 1408, 1472, 1536, 1600] Po P38 := KW.trans KW.refl k43 rfl
    have wx40 := ti_full x40
    replace g41 : marksM (sr Po) (sr P38) x40.toInt (fv Po 301 26).toInt (fv Po 301 27).toInt (fv Po 301 29).toInt := g41
    show MEvP _ none q_226 72 [(0, .ref 301)] [.int x40] _ _ _ _
    exact mp_iret ⟨⟨_, rfl, trivial⟩, hT42, k45, R44⟩ dX7_does_72 (Or.inl rfl)
  · refine mp_t (s_lok (t := 73) (off := 69) dX7_does_4 rfl (by rw [c4]; rfl) (by decide)) ?_
    refine mp_a (a_aload_n dX7_does_73 rfl) (mpp 74 rfl ?_)
    refine mp_a (a_aload_n dX7_does_74 rfl) (mpp 75 rfl ?_)
    have g47 := ti_full (fv Po 301 26)
    refine mt_getI (i := 300) (k := 26) hT dX7_does_75 rfl rl_301 (by decide) rfl (by decide) rfl (fun g48 g49 => mpp 78 rfl ?_)
    refine mt_callv (i := 139) (q' := q_148) (As := [.int (fv Po 301 26)]) (rest := []) hT dX7_does_78 rfl qm_148 (by decide) rfl rl_301 (by decide) rfl (Nat.le_of_ble_eq_true rfl) rfl ⟨rfl, rfl⟩ ⟨Nat.le_of_ble_eq_true rfl, Nat.le_of_ble_eq_true rfl⟩ (EvP.mono (by decide) (c_M_turns hT hR )) (fun r50 P51 g52 => mpp 81 rfl ?_)
    obtain ⟨⟨x53, rfl, g54⟩, hT55, k56, R57⟩ := g52
    have k58 : KW [1093, 1094, 1101, 1102, 1152, 1408, 1472, 1536, 1600] Po P51 := KW.trans KW.refl k56 rfl
    have wx53 := ti_full x53
    replace g54 : turnsM (sr Po) (sr P51) x53.toInt (fv Po 301 26).toInt := g54
    show MEvP _ none q_226 81 [(0, .ref 301)] [.int x53] _ _ _ _
    exact mp_iret ⟨⟨_, rfl, trivial⟩, hT55, k58, R57⟩ dX7_does_81 (Or.inl rfl)
  · refine mp_t (s_lok (t := 91) (off := 87) dX7_does_4 rfl (by rw [c4]; rfl) (by decide)) ?_
    refine mp_a (a_aload_n dX7_does_91 rfl) (mpp 92 rfl ?_)
    refine mp_a (a_aload_n dX7_does_92 rfl) (mpp 93 rfl ?_)
    have g60 := ti_full (fv Po 301 26)
    refine mt_getI (i := 300) (k := 26) hT dX7_does_93 rfl rl_301 (by decide) rfl (by decide) rfl (fun g61 g62 => mpp 96 rfl ?_)
    refine mt_callv (i := 243) (q' := q_191) (As := [.int (fv Po 301 26)]) (rest := []) hT dX7_does_96 rfl qm_191 (by decide) rfl rl_301 (by decide) rfl (Nat.le_of_ble_eq_true rfl) rfl ⟨rfl, rfl⟩ ⟨Nat.le_of_ble_eq_true rfl, Nat.le_of_ble_eq_true rfl⟩ (EvP.mono (by decide) (c_M_unfolds hT hR )) (fun r63 P64 g65 => mpp 99 rfl ?_)
    obtain ⟨⟨x66, rfl, g67⟩, hT68, k69, R70⟩ := g65
    have k71 : KW [1093, 1094, 1101, 1102, 1152, 1408, 1472, 1536, 1600] Po P64 := KW.trans KW.refl k69 rfl
    have wx66 := ti_full x66
    replace g67 : unfoldsM (sr Po) (sr P64) x66.toInt (fv Po 301 26).toInt := g67
    show MEvP _ none q_226 99 [(0, .ref 301)] [.int x66] _ _ _ _
    exact mp_iret ⟨⟨_, rfl, trivial⟩, hT68, k71, R70⟩ dX7_does_99 (Or.inl rfl)
  · refine mp_t (s_lok (t := 100) (off := 96) dX7_does_4 rfl (by rw [c4]; rfl) (by decide)) ?_
    refine mp_a (a_aload_n dX7_does_100 rfl) (mpp 101 rfl ?_)
    refine mp_a (a_aload_n dX7_does_101 rfl) (mpp 102 rfl ?_)
    have g73 := ti_full (fv Po 301 26)
    refine mt_getI (i := 300) (k := 26) hT dX7_does_102 rfl rl_301 (by decide) rfl (by decide) rfl (fun g74 g75 => mpp 105 rfl ?_)
    refine mt_callv (i := 246) (q' := q_193) (As := [.int (fv Po 301 26)]) (rest := []) hT dX7_does_105 rfl qm_193 (by decide) rfl rl_301 (by decide) rfl (Nat.le_of_ble_eq_true rfl) rfl ⟨rfl, rfl⟩ ⟨Nat.le_of_ble_eq_true rfl, Nat.le_of_ble_eq_true rfl⟩ (EvP.mono (by decide) (c_M_drops hT hR )) (fun r76 P77 g78 => mpp 108 rfl ?_)
    obtain ⟨⟨x79, rfl, g80⟩, hT81, k82, R83⟩ := g78
    have k84 : KW [1093, 1094, 1101, 1102, 1152, 1408, 1472, 1536, 1600] Po P77 := KW.trans KW.refl k82 rfl
    have wx79 := ti_full x79
    replace g80 : dropsM (sr Po) (sr P77) x79.toInt (fv Po 301 26).toInt := g80
    show MEvP _ none q_226 108 [(0, .ref 301)] [.int x79] _ _ _ _
    exact mp_iret ⟨⟨_, rfl, trivial⟩, hT81, k84, R83⟩ dX7_does_108 (Or.inl rfl)

set_option maxHeartbeats 4000000 in
theorem c_M_doesAll_l7 {Po : mP}   : ∀ (n : Nat) (v1 : Int32), ∀ (P : mP), Typ P → KW [1093, 1094, 1095, 1101, 1102, 1112, 1113, 1114, 1115, 1116, 1117, 1152, 1408, 1472, 1536, 1600] Po P → Rel P → (82 - (fv P 301 24).toInt).toNat = n → MEvP 9 none q_225 7 [(0, .ref 301), (1, .int v1)] [] P 0 0 (fun r P' => (∃ x : Int32, r = some (.int x) ∧ (True)) ∧ Typ P' ∧ KW [1093, 1094, 1095, 1101, 1102, 1112, 1113, 1114, 1115, 1116, 1117, 1152, 1408, 1472, 1536, 1600] Po P' ∧ Rel P') := by
  intro n
  induction n using Nat.strongRecOn with | _ n ih => ?_
  intro v1 P hT hK hR  hm
  have w_v1 := ti_full v1
  have g1 : (0 : Int) ≤ (fv P 301 24).toInt ∧ (fv P 301 24).toInt ≤ 81 := Typ.rng hT rl_301 (by decide) (by decide) rfl
  have g2 : (0 : Int) ≤ (fv P 301 24).toInt ∧ (fv P 301 24).toInt ≤ 81 := Typ.rng hT rl_301 (by decide) (by decide) rfl
  refine mp_a (a_aload_n dX7_doesAll_7 rfl) (mpp 8 rfl ?_)
  refine mt_getI (i := 294) (k := 24) hT dX7_doesAll_8 rfl rl_301 (by decide) rfl (by decide) rfl (fun g3 g4 => mpp 11 rfl ?_)
  refine mp_a (a_aload_n dX7_doesAll_11 rfl) (mpp 12 rfl ?_)
  have g5 : (0 : Int) ≤ (fv P 301 23).toInt ∧ (fv P 301 23).toInt ≤ 80 := Typ.rng hT rl_301 (by decide) (by decide) rfl
  refine mt_getI (i := 291) (k := 23) hT dX7_doesAll_12 rfl rl_301 (by decide) rfl (by decide) rfl (fun g6 g7 => mpp 15 rfl ?_)
  refine mp_Tb (t := 93) (j_icmp_ge dX7_doesAll_15) (by decide) (fun c8 => ?_) (fun c8 => mpp 18 rfl ?_)
  · have c8 : (fv P 301 24).toInt ≥ (fv P 301 23).toInt := ti_ge c8
    refine mp_a (a_iload_n dX7_doesAll_93 rfl) (mpp 94 rfl ?_)
    exact mp_iret ⟨⟨_, rfl, trivial⟩, hT, hK, hR⟩ dX7_doesAll_94 (Or.inl rfl)
  · have c8 : (fv P 301 24).toInt < (fv P 301 23).toInt := ti_ge_n c8
    refine mp_a (a_aload_n dX7_doesAll_18 rfl) (mpp 19 rfl ?_)
    have p9 : (fv P 301 24).toInt ≤ (fv P 301 23).toInt := by omega
    refine mt_callv (i := 333) (q' := q_217) (As := []) (rest := []) hT dX7_doesAll_19 rfl qm_217 (by decide) rfl rl_301 (by decide) rfl (Nat.le_of_ble_eq_true rfl) rfl ⟨rfl, rfl⟩ ⟨Nat.le_of_ble_eq_true rfl, Nat.le_of_ble_eq_true rfl⟩ (EvP.mono (by decide) (c_M_readsCommand hT p9 )) (fun r10 P11 g12 => mpp 22 rfl ?_)
    obtain ⟨⟨x13, rfl, g14⟩, hT15, k16, R17⟩ := g12
    have k18 : KW [1093, 1094, 1095, 1101, 1102, 1112, 1113, 1114, 1115, 1116, 1117, 1152, 1408, 1472, 1536, 1600] Po P11 := KW.trans hK k16 rfl
    have R20 := Rel.kw hR k16 rfl
    have wx13 := ti_full x13
    replace g14 : 0 ≤ x13.toInt ∧ x13.toInt ≤ 1 ∧ ((fv P 301 24).toInt ≤ (fv P11 301 24).toInt ∧ (fv P11 301 24).toInt ≤ (fv P 301 23).toInt) := g14
    have g21 : (0 : Int) ≤ (fv P11 301 24).toInt ∧ (fv P11 301 24).toInt ≤ 81 := Typ.rng hT15 rl_301 (by decide) (by decide) rfl
    have g22 : (0 : Int) ≤ (fv P11 301 24).toInt ∧ (fv P11 301 24).toInt ≤ 81 := Typ.rng hT15 rl_301 (by decide) (by decide) rfl
    show MEvP _ none q_225 22 [(0, .ref 301), (1, .int v1)] [.int x13] _ _ _ _
    refine mp_a (a_istore_n (L' := [(2, .int x13), (0, .ref 301), (1, .int v1)]) dX7_doesAll_22 (by decide) rfl) (mpp 23 rfl ?_)
    refine mp_a (a_aload_n dX7_doesAll_23 rfl) (mpp 24 rfl ?_)
    refine mt_callv (i := 339) (q' := q_226) (As := []) (rest := []) hT15 dX7_doesAll_24 rfl qm_226 (by decide) rfl rl_301 (by decide) rfl (Nat.le_of_ble_eq_true rfl) rfl ⟨rfl, rfl⟩ ⟨Nat.le_of_ble_eq_true rfl, Nat.le_of_ble_eq_true rfl⟩ (EvP.mono (by decide) (c_M_does hT15 R20 )) (fun r23 P24 g25 => mpp 27 rfl ?_)
    obtain ⟨⟨x26, rfl, g27⟩, hT28, k29, R30⟩ := g25
    have k31 : KW [1093, 1094, 1095, 1101, 1102, 1112, 1113, 1114, 1115, 1116, 1117, 1152, 1408, 1472, 1536, 1600] Po P24 := KW.trans k18 k29 rfl
    have wx26 := ti_full x26
    show MEvP _ none q_225 27 [(2, .int x13), (0, .ref 301), (1, .int v1)] [.int x26] _ _ _ _
    refine mp_a (a_istore_n (L' := [(3, .int x26), (2, .int x13), (0, .ref 301), (1, .int v1)]) dX7_doesAll_27 (by decide) rfl) (mpp 28 rfl ?_)
    refine mp_a (a_iload_n dX7_doesAll_28 rfl) (mpp 29 rfl ?_)
    refine mp_a (a_sipush (v := -1004) dX7_doesAll_29 rfl) (mpp 32 rfl ?_)
    refine mp_a (a_sipush (v := -1001) dX7_doesAll_32 rfl) (mpp 35 rfl ?_)
    refine mp_calls (i := 61) (q' := q_127) (As := [.int x26, .int (-1004), .int (-1001)]) (rest := []) dX7_doesAll_35 rfl qm_127 (by decide) rfl (Nat.le_of_ble_eq_true rfl) rfl ⟨rfl, rfl⟩ ⟨Nat.le_of_ble_eq_true rfl, Nat.le_of_ble_eq_true rfl⟩ (EvP.mono (by decide) (c_M_isIn hT28 )) (fun r33 P34 g35 => mpp 38 rfl ?_)
    obtain ⟨⟨x36, rfl, g37⟩, e38⟩ := g35
    have e38 := e38.symm
    subst e38
    have wx36 := ti_full x36
    replace g37 : 0 ≤ x36.toInt ∧ x36.toInt ≤ 1 ∧ ((x36.toInt = 1 ∧ (-1004 : Int) ≤ x26.toInt ∧ x26.toInt ≤ (-1001 : Int)) ∨ (x36.toInt = 0 ∧ (x26.toInt < (-1004 : Int) ∨ (-1001 : Int) < x26.toInt))) := g37
    show MEvP _ none q_225 38 [(3, .int x26), (2, .int x13), (0, .ref 301), (1, .int v1)] [.int x36] _ _ _ _
    refine mp_Tb (t := 77) (j_if_eq dX7_doesAll_38) (by decide) (fun c39 => ?_) (fun c39 => mpp 41 rfl ?_)
    · have c39 : x36.toInt = 0 := ti_eq c39
      refine mp_a (a_aload_n dX7_doesAll_77 rfl) (mpp 78 rfl ?_)
      refine mp_t (s_dup dX7_doesAll_78 rfl) (mpp 79 rfl ?_)
      have e40 : (fv P24 301 24).toInt = (fv P11 301 24).toInt := congrArg Int32.toInt (KW.at k29 24 rl_301 rfl)
      refine mt_getI (i := 294) (k := 24) hT28 dX7_doesAll_79 rfl rl_301 (by decide) rfl (by decide) rfl (fun g41 g42 => mpp 82 rfl ?_)
      refine mp_a (a_iconst (v := 1) dX7_doesAll_82 rfl) (mpp 83 rfl ?_)
      obtain ⟨z43, h44⟩ := ti_ex ((fv P24 301 24) + 1 : Int32)
      have wz43 := ti_full z43
      refine mp_t (s_iadd (v := z43) dX7_doesAll_83 h44) (mpp 84 rfl ?_)
      try have e45 : z43.toInt = (fv P24 301 24).toInt + 1 := ti_addz h44 rfl rfl (by omega) (by omega)
      refine mt_putI (i := 294) (k := 24) (x := z43) hT28 dX7_doesAll_84 rfl rl_301 (by decide) rfl (by decide) rfl ⟨by omega, by omega⟩ rfl rfl (fun P46 hT47 f48 f49 f50 => mpp 87 rfl ?_)
      have k51 : KW [1093, 1094, 1095, 1101, 1102, 1112, 1113, 1114, 1115, 1116, 1117, 1152, 1408, 1472, 1536, 1600] Po P46 := KW.step k31 rl_301 rfl f49 f50
      have R52 := Rel.ne R30 rl_301 rfl f49
      have e53 : (fv P46 301 24).toInt = z43.toInt := congrArg Int32.toInt f48
      obtain ⟨z54, h55⟩ := ti_ex (v1 + 1 : Int32)
      have wz54 := ti_full z54
      refine mp_a (a_iinc (v := z54) (L' := [(1, .int z54), (3, .int x26), (2, .int x13), (0, .ref 301)]) dX7_doesAll_87 (by decide) rfl h55 rfl) (mpp 90 rfl ?_)
      try have e56 : z54.toInt = v1.toInt + 1 := ti_addz h55 rfl rfl (by omega) (by omega)
      refine mp_a (a_goto (t := 7) dX7_doesAll_90 (by decide)) ?_
      refine MEvP.less (L := [(0, .ref 301), (1, .int z54)]) rfl rfl ⟨rfl, rfl, trivial⟩ ?_
      exact ih _ (by omega) _ P46 hT47 k51 R52 rfl
    · have c39 : x36.toInt ≠ 0 := ti_eq_n c39
      refine mp_a (a_aload_n dX7_doesAll_41 rfl) (mpp 42 rfl ?_)
      refine mp_a (a_iload_n dX7_doesAll_42 rfl) (mpp 43 rfl ?_)
      refine mp_a (a_sipush (v := -1003) dX7_doesAll_43 rfl) (mpp 46 rfl ?_)
      refine mp_Tb (t := 53) (j_icmp_ne dX7_doesAll_46) (by decide) (fun c57 => ?_) (fun c57 => mpp 49 rfl ?_)
      · have c57 : x26.toInt ≠ (-1003) := ti_ne c57
        refine mp_a (a_aload_n dX7_doesAll_53 rfl) (mpp 54 rfl ?_)
        have g58 := ti_full (fv P24 301 7)
        refine mt_getI (i := 50) (k := 7) hT28 dX7_doesAll_54 rfl rl_301 (by decide) rfl (by decide) rfl (fun g59 g60 => mpp 57 rfl ?_)
        refine mt_putI (i := 50) (k := 7) (x := (fv P24 301 7)) hT28 dX7_doesAll_57 rfl rl_301 (by decide) rfl (by decide) rfl (ti_full (fv P24 301 7)) rfl rfl (fun P61 hT62 f63 f64 f65 => mpp 60 rfl ?_)
        have k66 : KW [1093, 1094, 1095, 1101, 1102, 1112, 1113, 1114, 1115, 1116, 1117, 1152, 1408, 1472, 1536, 1600] Po P61 := KW.step k31 rl_301 rfl f64 f65
        have R67 := Rel.ne R30 rl_301 rfl f64
        have e68 : (fv P61 301 7).toInt = (fv P24 301 7).toInt := congrArg Int32.toInt f63
        refine mp_a (a_iload_n dX7_doesAll_60 rfl) (mpp 61 rfl ?_)
        refine mp_a (a_sipush (v := -1003) dX7_doesAll_61 rfl) (mpp 64 rfl ?_)
        refine mp_Tb (t := 73) (j_icmp_ne dX7_doesAll_64) (by decide) (fun c69 => ?_) (fun c69 => mpp 67 rfl ?_)
        · have c69 : x26.toInt ≠ (-1003) := ti_ne c69
          refine mp_a (a_sipush (v := -1002) dX7_doesAll_73 rfl) (mpp 76 rfl ?_)
          exact mp_iret ⟨⟨_, rfl, trivial⟩, hT62, k66, R67⟩ dX7_doesAll_76 (Or.inl rfl)
        · have c69 : x26.toInt = (-1003) := ti_ne_n c69
          refine mp_a (a_sipush (v := -1003) dX7_doesAll_67 rfl) (mpp 70 rfl ?_)
          refine mp_a (a_goto (t := 76) dX7_doesAll_70 (by decide)) ?_
          exact mp_iret ⟨⟨_, rfl, trivial⟩, hT62, k66, R67⟩ dX7_doesAll_76 (Or.inl rfl)
      · have c57 : x26.toInt = (-1003) := ti_ne_n c57
        refine mp_a (a_iload_n dX7_doesAll_49 rfl) (mpp 50 rfl ?_)
        refine mp_a (a_goto (t := 57) dX7_doesAll_50 (by decide)) ?_
        refine mt_putI (i := 50) (k := 7) (x := v1) hT28 dX7_doesAll_57 rfl rl_301 (by decide) rfl (by decide) rfl (ti_full v1) rfl rfl (fun P70 hT71 f72 f73 f74 => mpp 60 rfl ?_)
        have k75 : KW [1093, 1094, 1095, 1101, 1102, 1112, 1113, 1114, 1115, 1116, 1117, 1152, 1408, 1472, 1536, 1600] Po P70 := KW.step k31 rl_301 rfl f73 f74
        have R76 := Rel.ne R30 rl_301 rfl f73
        have e77 : (fv P70 301 7).toInt = v1.toInt := congrArg Int32.toInt f72
        refine mp_a (a_iload_n dX7_doesAll_60 rfl) (mpp 61 rfl ?_)
        refine mp_a (a_sipush (v := -1003) dX7_doesAll_61 rfl) (mpp 64 rfl ?_)
        refine mp_Tb (t := 73) (j_icmp_ne dX7_doesAll_64) (by decide) (fun c78 => ?_) (fun c78 => mpp 67 rfl ?_)
        · have c78 : x26.toInt ≠ (-1003) := ti_ne c78
          refine mp_a (a_sipush (v := -1002) dX7_doesAll_73 rfl) (mpp 76 rfl ?_)
          exact mp_iret ⟨⟨_, rfl, trivial⟩, hT71, k75, R76⟩ dX7_doesAll_76 (Or.inl rfl)
        · have c78 : x26.toInt = (-1003) := ti_ne_n c78
          refine mp_a (a_sipush (v := -1003) dX7_doesAll_67 rfl) (mpp 70 rfl ?_)
          refine mp_a (a_goto (t := 76) dX7_doesAll_70 (by decide)) ?_
          exact mp_iret ⟨⟨_, rfl, trivial⟩, hT71, k75, R76⟩ dX7_doesAll_76 (Or.inl rfl)

set_option maxHeartbeats 4000000 in
theorem c_M_doesAll {Po : mP}  (hT : Typ Po) (hR : Rel Po)  : EvP 10 225 [.ref 301] Po (fun r P' => (∃ x : Int32, r = some (.int x) ∧ (True)) ∧ Typ P' ∧ KW [1093, 1094, 1095, 1101, 1102, 1112, 1113, 1114, 1115, 1116, 1117, 1152, 1408, 1472, 1536, 1600] Po P' ∧ Rel P') := by
  refine EvP.of qm_225 (Nat.le_of_ble_eq_true rfl) rfl ?_
  show MEvP _ none q_225 0 [(0, .ref 301)] [] _ 0 0 _
  refine mp_a (a_iconst (v := 0) dX7_doesAll_0 rfl) (mpp 1 rfl ?_)
  refine mp_a (a_istore_n (L' := [(1, .int 0), (0, .ref 301)]) dX7_doesAll_1 (by decide) rfl) (mpp 2 rfl ?_)
  refine mp_a (a_aload_n dX7_doesAll_2 rfl) (mpp 3 rfl ?_)
  refine mp_a (a_iconst (v := 0) dX7_doesAll_3 rfl) (mpp 4 rfl ?_)
  refine mt_putI (i := 294) (k := 24) (x := 0) hT dX7_doesAll_4 rfl rl_301 (by decide) rfl (by decide) rfl (by decide) rfl rfl (fun P1 hT2 f3 f4 f5 => mpp 7 rfl ?_)
  have k6 : KW [1093, 1094, 1095, 1101, 1102, 1112, 1113, 1114, 1115, 1116, 1117, 1152, 1408, 1472, 1536, 1600] Po P1 := KW.step KW.refl rl_301 rfl f4 f5
  have R7 := Rel.ne hR rl_301 rfl f4
  have e8 : (fv P1 301 24).toInt = 0 := congrArg Int32.toInt f3
  refine MEvP.less (L := [(0, .ref 301), (1, .int 0)]) rfl rfl ⟨rfl, rfl, trivial⟩ ?_
  exact c_M_doesAll_l7    _ _ P1 hT2 k6 R7 rfl

set_option maxHeartbeats 4000000 in
theorem c_M_copies_was_s_l3 {Po : mP} {t1 : Int32} {t3 : Int32} (hp0 : 0 ≤ t1.toInt) (hp1 : t1.toInt + 155 ≤ 155) (hp2 : t1.toInt % 155 = 0) (hp3 : 0 ≤ t3.toInt) (hp4 : t3.toInt + 155 ≤ 155) (hp5 : t3.toInt % 155 = 0)  : ∀ (n : Nat) (v4 : Int32), ∀ (P : mP), Typ P → KW [1152] Po P → (CPY Po P 303 t1.toInt.toNat 302 t3.toInt.toNat v4.toInt.toNat) → (v4.toInt ≤ 155) → (0 ≤ v4.toInt) → (2147483647 - v4.toInt).toNat = n → MEvP 0 none q_125 3 [(0, .ref 303), (1, .int t1), (2, .ref 302), (3, .int t3), (4, .int v4)] [] P 0 0 (fun r P' => (r = none ∧ (CPY Po P' 303 t1.toInt.toNat 302 t3.toInt.toNat 155)) ∧ Typ P' ∧ KW [1152] Po P' ∧ True) := by
  intro n
  induction n using Nat.strongRecOn with | _ n ih => ?_
  intro v4 P hT hK i_0 i_1 i_2 hm
  have w_t1 := ti_full t1
  have w_t3 := ti_full t3
  have w_v4 := ti_full v4
  refine mp_a (a_iload dX7_copies_3 rfl) (mpp 5 rfl ?_)
  refine mp_a (a_sipush (v := 155) dX7_copies_5 rfl) (mpp 8 rfl ?_)
  refine mp_Tb (t := 29) (j_icmp_ge dX7_copies_8) (by decide) (fun c1 => ?_) (fun c1 => mpp 11 rfl ?_)
  · have c1 : v4.toInt ≥ 155 := ti_ge c1
    have u2 : CPY Po P 303 t1.toInt.toNat 302 t3.toInt.toNat 155 := CPY.fin i_0 (by omega)
    exact mp_ret ⟨⟨rfl, u2⟩, hT, hK, trivial⟩ dX7_copies_29 rfl
  · have c1 : v4.toInt < 155 := ti_ge_n c1
    refine mp_a (a_aload_n dX7_copies_11 rfl) (mpp 12 rfl ?_)
    refine mp_a (a_iload_n dX7_copies_12 rfl) (mpp 13 rfl ?_)
    refine mp_a (a_iload dX7_copies_13 rfl) (mpp 15 rfl ?_)
    obtain ⟨z3, h4⟩ := ti_ex (t3 + v4 : Int32)
    have wz3 := ti_full z3
    refine mp_t (s_iadd (v := z3) dX7_copies_15 h4) (mpp 16 rfl ?_)
    try have e5 : z3.toInt = t3.toInt + v4.toInt := ti_addz h4 rfl rfl (by omega) (by omega)
    refine mp_a (a_aload_n dX7_copies_16 rfl) (mpp 17 rfl ?_)
    refine mp_a (a_iload_n dX7_copies_17 rfl) (mpp 18 rfl ?_)
    refine mp_a (a_iload dX7_copies_18 rfl) (mpp 20 rfl ?_)
    obtain ⟨z6, h7⟩ := ti_ex (t1 + v4 : Int32)
    have wz6 := ti_full z6
    refine mp_t (s_iadd (v := z6) dX7_copies_20 h7) (mpp 21 rfl ?_)
    try have e8 : z6.toInt = t1.toInt + v4.toInt := ti_addz h7 rfl rfl (by omega) (by omega)
    refine mt_ialX (n := 155) hT dX7_copies_21 rl_303 (by decide) rfl rfl (by omega) (by omega) ssp_0 (fun g9 => mpp 22 rfl ?_)
    have we11 := ti_full (fv P 303 z6.toInt.toNat)
    refine mt_iasX (n := 155) hT dX7_copies_22 rl_302 (by decide) rfl rfl (by omega) (by omega) ssp_0 (okS_pp (f := (rsp 19).2.2) (g := (rsp 18).2.2) (sspm (by omega)) (sspm (by omega)) g9 (by omega)) (fun P12 hT13 f14 f15 f16 => mpp 23 rfl ?_)
    have k17 : KW [1152] Po P12 := KW.step hK rl_302 rfl f15 f16
    obtain ⟨z18, h19⟩ := ti_ex (v4 + 1 : Int32)
    have wz18 := ti_full z18
    refine mp_a (a_iinc (v := z18) (L' := [(4, .int z18), (0, .ref 303), (1, .int t1), (2, .ref 302), (3, .int t3)]) dX7_copies_23 (by decide) rfl h19 rfl) (mpp 26 rfl ?_)
    try have e20 : z18.toInt = v4.toInt + 1 := ti_addz h19 rfl rfl (by omega) (by omega)
    refine mp_a (a_goto (t := 3) dX7_copies_26 (by decide)) ?_
    refine MEvP.less (L := [(0, .ref 303), (1, .int t1), (2, .ref 302), (3, .int t3), (4, .int z18)]) rfl rfl ⟨rfl, rfl, rfl, rfl, rfl, trivial⟩ ?_
    have i21 : CPY Po P12 303 t1.toInt.toNat 302 t3.toInt.toNat z18.toInt.toNat := CPY.step i_0 f14 f15 (by omega) (by omega) (by omega) (Or.inl (by decide))
    have i22 : z18.toInt ≤ 155 := by omega
    have i23 : 0 ≤ z18.toInt := by omega
    exact ih _ (by omega) _ P12 hT13 k17 i21 i22 i23 rfl

set_option maxHeartbeats 4000000 in
theorem c_M_copies_was_s {Po : mP} {t1 : Int32} {t3 : Int32} (hT : Typ Po)  (hp0 : 0 ≤ t1.toInt) (hp1 : t1.toInt + 155 ≤ 155) (hp2 : t1.toInt % 155 = 0) (hp3 : 0 ≤ t3.toInt) (hp4 : t3.toInt + 155 ≤ 155) (hp5 : t3.toInt % 155 = 0)  : EvP 1 125 [.ref 303, .int t1, .ref 302, .int t3] Po (fun r P' => (r = none ∧ (CPY Po P' 303 t1.toInt.toNat 302 t3.toInt.toNat 155)) ∧ Typ P' ∧ KW [1152] Po P' ∧ True) := by
  refine EvP.of qm_125 (Nat.le_of_ble_eq_true rfl) rfl ?_
  show MEvP _ none q_125 0 [(0, .ref 303), (1, .int t1), (2, .ref 302), (3, .int t3)] [] _ 0 0 _
  have w_t1 := ti_full t1
  have w_t3 := ti_full t3
  refine mp_a (a_iconst (v := 0) dX7_copies_0 rfl) (mpp 1 rfl ?_)
  refine mp_a (a_istore (L' := [(4, .int 0), (0, .ref 303), (1, .int t1), (2, .ref 302), (3, .int t3)]) dX7_copies_1 (by decide) rfl) (mpp 3 rfl ?_)
  refine MEvP.less (L := [(0, .ref 303), (1, .int t1), (2, .ref 302), (3, .int t3), (4, .int 0)]) rfl rfl ⟨rfl, rfl, rfl, rfl, rfl, trivial⟩ ?_
  have i1 : CPY Po Po 303 t1.toInt.toNat 302 t3.toInt.toNat (0 : Int).toNat := CPY.start (by decide)
  have i2 : (0 : Int) ≤ 155 := by omega
  have i3 : 0 ≤ (0 : Int) := by omega
  exact c_M_copies_was_s_l3   hp0 hp1 hp2 hp3 hp4 hp5 _ _ Po hT KW.refl i1 i2 i3 rfl

set_option maxHeartbeats 4000000 in
theorem c_M_read {Po : mP}  (hT : Typ Po) (hR : Rel Po)  : EvP 11 215 [.ref 301] Po (fun r P' => (∃ x : Int32, r = some (.int x) ∧ ((fv P' 301 23).toInt = 0)) ∧ Typ P' ∧ KW [1092, 1093, 1094, 1095, 1101, 1102, 1111, 1112, 1113, 1114, 1115, 1116, 1117, 1152, 1216, 1344, 1408, 1472, 1536, 1600] Po P' ∧ Rel P') := by
  refine EvP.of qm_215 (Nat.le_of_ble_eq_true rfl) rfl ?_
  show MEvP _ none q_215 0 [(0, .ref 301)] [] _ 0 0 _
  refine mp_a (a_aload_n dX7_read_0 rfl) (mpp 1 rfl ?_)
  refine mt_callv (i := 342) (q' := q_216) (As := []) (rest := []) hT dX7_read_1 rfl qm_216 (by decide) rfl rl_301 (by decide) rfl (Nat.le_of_ble_eq_true rfl) rfl ⟨rfl, rfl⟩ ⟨Nat.le_of_ble_eq_true rfl, Nat.le_of_ble_eq_true rfl⟩ (EvP.mono (by decide) (c_M_isText hT )) (fun r1 P2 g3 => mpp 4 rfl ?_)
  obtain ⟨⟨x4, rfl, g5⟩, hT6, k7, R8⟩ := g3
  have k9 : KW [1092, 1093, 1094, 1095, 1101, 1102, 1111, 1112, 1113, 1114, 1115, 1116, 1117, 1152, 1216, 1344, 1408, 1472, 1536, 1600] Po P2 := KW.trans KW.refl k7 rfl
  have R11 := Rel.kw hR k7 rfl
  have wx4 := ti_full x4
  replace g5 : 0 ≤ x4.toInt ∧ x4.toInt ≤ 1 := g5
  show MEvP _ none q_215 4 [(0, .ref 301)] [.int x4] _ _ _ _
  refine mp_Tb (t := 21) (j_if_ne dX7_read_4) (by decide) (fun c12 => ?_) (fun c12 => mpp 7 rfl ?_)
  · have c12 : x4.toInt ≠ 0 := ti_ne c12
    refine mp_a (a_aload_n dX7_read_21 rfl) (mpp 22 rfl ?_)
    refine mt_callv (i := 117) (q' := q_124) (As := []) (rest := []) hT6 dX7_read_22 rfl qm_124 (by decide) rfl rl_301 (by decide) rfl (Nat.le_of_ble_eq_true rfl) rfl ⟨rfl, rfl⟩ ⟨Nat.le_of_ble_eq_true rfl, Nat.le_of_ble_eq_true rfl⟩ (EvP.mono (by decide) (c_M_keeps hT6 R11 )) (fun r13 P14 g15 => mpp 25 rfl ?_)
    obtain ⟨⟨rfl, g17⟩, hT18, k19, R20r, R20⟩ := g15
    have k21 : KW [1092, 1093, 1094, 1095, 1101, 1102, 1111, 1112, 1113, 1114, 1115, 1116, 1117, 1152, 1216, 1344, 1408, 1472, 1536, 1600] Po P14 := KW.trans k9 k19 rfl
    show MEvP _ none q_215 25 [(0, .ref 301)] [] _ _ _ _
    refine mp_a (a_aload_n dX7_read_25 rfl) (mpp 26 rfl ?_)
    refine mt_callv (i := 345) (q' := q_225) (As := []) (rest := []) hT18 dX7_read_26 rfl qm_225 (by decide) rfl rl_301 (by decide) rfl (Nat.le_of_ble_eq_true rfl) rfl ⟨rfl, rfl⟩ ⟨Nat.le_of_ble_eq_true rfl, Nat.le_of_ble_eq_true rfl⟩ (EvP.mono (by decide) (c_M_doesAll hT18 R20r )) (fun r23 P24 g25 => mpp 29 rfl ?_)
    obtain ⟨⟨x26, rfl, g27⟩, hT28, k29, R30⟩ := g25
    have k31 : KW [1092, 1093, 1094, 1095, 1101, 1102, 1111, 1112, 1113, 1114, 1115, 1116, 1117, 1152, 1216, 1344, 1408, 1472, 1536, 1600] Po P24 := KW.trans k21 k29 rfl
    have wx26 := ti_full x26
    show MEvP _ none q_215 29 [(0, .ref 301)] [.int x26] _ _ _ _
    refine mp_a (a_istore_n (L' := [(1, .int x26), (0, .ref 301)]) dX7_read_29 (by decide) rfl) (mpp 30 rfl ?_)
    refine mp_a (a_aload_n dX7_read_30 rfl) (mpp 31 rfl ?_)
    refine mp_a (a_iconst (v := 0) dX7_read_31 rfl) (mpp 32 rfl ?_)
    refine mt_putI (i := 291) (k := 23) (x := 0) hT28 dX7_read_32 rfl rl_301 (by decide) rfl (by decide) rfl (by decide) rfl rfl (fun P33 hT34 f35 f36 f37 => mpp 35 rfl ?_)
    have k38 : KW [1092, 1093, 1094, 1095, 1101, 1102, 1111, 1112, 1113, 1114, 1115, 1116, 1117, 1152, 1216, 1344, 1408, 1472, 1536, 1600] Po P33 := KW.step k31 rl_301 rfl f36 f37
    have R39 := Rel.ne R30 rl_301 rfl f36
    have e40 : (fv P33 301 23).toInt = 0 := congrArg Int32.toInt f35
    refine mp_a (a_iload_n dX7_read_35 rfl) (mpp 36 rfl ?_)
    refine mp_Tb (t := 54) (j_if_ge dX7_read_36) (by decide) (fun c41 => ?_) (fun c41 => mpp 39 rfl ?_)
    · have c41 : x26.toInt ≥ 0 := ti_ge c41
      refine mp_a (a_aload_n dX7_read_54 rfl) (mpp 55 rfl ?_)
      refine mt_callv (i := 65) (q' := q_140) (As := []) (rest := []) hT34 dX7_read_55 rfl qm_140 (by decide) rfl rl_301 (by decide) rfl (Nat.le_of_ble_eq_true rfl) rfl ⟨rfl, rfl⟩ ⟨Nat.le_of_ble_eq_true rfl, Nat.le_of_ble_eq_true rfl⟩ (EvP.mono (by decide) (c_M_changed hT34 R39 )) (fun r42 P43 g44 => mpp 58 rfl ?_)
      obtain ⟨⟨rfl, g46⟩, hT47, k48, R49r, R49⟩ := g44
      have k50 : KW [1092, 1093, 1094, 1095, 1101, 1102, 1111, 1112, 1113, 1114, 1115, 1116, 1117, 1152, 1216, 1344, 1408, 1472, 1536, 1600] Po P43 := KW.trans k38 k48 rfl
      show MEvP _ none q_215 58 [(1, .int x26), (0, .ref 301)] [] _ _ _ _
      refine mp_a (a_iload_n dX7_read_58 rfl) (mpp 59 rfl ?_)
      have e52 : (fv P43 301 23).toInt = (fv P33 301 23).toInt := congrArg Int32.toInt (KW.at k48 23 rl_301 rfl)
      have u53 : (fv P43 301 23).toInt = 0 := by omega
      exact mp_iret ⟨⟨_, rfl, u53⟩, hT47, k50, R49r⟩ dX7_read_59 (Or.inl rfl)
    · have c41 : x26.toInt < 0 := ti_ge_n c41
      refine mp_a (a_aload_n dX7_read_39 rfl) (mpp 40 rfl ?_)
      refine mt_getU (i := 13) (k := 1) (A := 303) hT34 dX7_read_40 rfl rl_301 (by decide) rfl (by decide) rfl un_19 (mpp 43 rfl ?_)
      refine mp_a (a_iconst (v := 0) dX7_read_43 rfl) (mpp 44 rfl ?_)
      refine mp_a (a_aload_n dX7_read_44 rfl) (mpp 45 rfl ?_)
      refine mt_getU (i := 9) (k := 0) (A := 302) hT34 dX7_read_45 rfl rl_301 (by decide) rfl (by decide) rfl un_18 (mpp 48 rfl ?_)
      refine mp_a (a_iconst (v := 0) dX7_read_48 rfl) (mpp 49 rfl ?_)
      have p54 : 0 ≤ (0 : Int) := by omega
      have p55 : (0 : Int) + 155 ≤ 155 := by omega
      have p56 : (0 : Int) % 155 = 0 := by omega
      have p57 : 0 ≤ (0 : Int) := by omega
      have p58 : (0 : Int) + 155 ≤ 155 := by omega
      have p59 : (0 : Int) % 155 = 0 := by omega
      refine mp_calls (i := 54) (q' := q_125) (As := [.ref 303, .int 0, .ref 302, .int 0]) (rest := []) dX7_read_49 rfl qm_125 (by decide) rfl (Nat.le_of_ble_eq_true rfl) rfl ⟨rfl, rfl⟩ ⟨Nat.le_of_ble_eq_true rfl, Nat.le_of_ble_eq_true rfl⟩ (EvP.mono (by decide) (c_M_copies_was_s hT34 p54 p55 p56 p57 p58 p59 )) (fun r60 P61 g62 => mpp 52 rfl ?_)
      obtain ⟨⟨rfl, g64⟩, hT65, k66, R67⟩ := g62
      have k68 : KW [1092, 1093, 1094, 1095, 1101, 1102, 1111, 1112, 1113, 1114, 1115, 1116, 1117, 1152, 1216, 1344, 1408, 1472, 1536, 1600] Po P61 := KW.trans k38 k66 rfl
      replace g64 : CPY P33 P61 303 (0 : Int).toNat 302 (0 : Int).toNat 155 := g64
      show MEvP _ none q_215 52 [(1, .int x26), (0, .ref 301)] [] _ _ _ _
      have R70 := Rel.cpy R39 g64 (Or.inl ⟨by decide, by first | rfl | omega⟩) (Or.inl ⟨by decide, by first | rfl | omega⟩)
      refine mp_a (a_iload_n dX7_read_52 rfl) (mpp 53 rfl ?_)
      have e71 : (fv P61 301 23).toInt = (fv P33 301 23).toInt := congrArg Int32.toInt (KW.at k66 23 rl_301 rfl)
      have u72 : (fv P61 301 23).toInt = 0 := by omega
      exact mp_iret ⟨⟨_, rfl, u72⟩, hT65, k68, R70⟩ dX7_read_53 (Or.inl rfl)
  · have c12 : x4.toInt = 0 := ti_ne_n c12
    refine mp_a (a_aload_n dX7_read_7 rfl) (mpp 8 rfl ?_)
    refine mp_a (a_iconst (v := 0) dX7_read_8 rfl) (mpp 9 rfl ?_)
    refine mt_putI (i := 291) (k := 23) (x := 0) hT6 dX7_read_9 rfl rl_301 (by decide) rfl (by decide) rfl (by decide) rfl rfl (fun P73 hT74 f75 f76 f77 => mpp 12 rfl ?_)
    have k78 : KW [1092, 1093, 1094, 1095, 1101, 1102, 1111, 1112, 1113, 1114, 1115, 1116, 1117, 1152, 1216, 1344, 1408, 1472, 1536, 1600] Po P73 := KW.step k9 rl_301 rfl f76 f77
    have R79 := Rel.ne R11 rl_301 rfl f76
    have e80 : (fv P73 301 23).toInt = 0 := congrArg Int32.toInt f75
    refine mp_a (a_sipush (v := -2000) dX7_read_12 rfl) (mpp 15 rfl ?_)
    refine mp_a (a_aload_n dX7_read_15 rfl) (mpp 16 rfl ?_)
    have g81 : (0 : Int) ≤ (fv P73 301 24).toInt ∧ (fv P73 301 24).toInt ≤ 81 := Typ.rng hT74 rl_301 (by decide) (by decide) rfl
    refine mt_getI (i := 294) (k := 24) hT74 dX7_read_16 rfl rl_301 (by decide) rfl (by decide) rfl (fun g82 g83 => mpp 19 rfl ?_)
    obtain ⟨z84, h85⟩ := ti_ex ((-2000) - (fv P73 301 24) : Int32)
    have wz84 := ti_full z84
    refine mp_t (s_isub (v := z84) dX7_read_19 h85) (mpp 20 rfl ?_)
    try have e86 : z84.toInt = (-2000) - (fv P73 301 24).toInt := ti_subz h85 rfl rfl (by omega) (by omega)
    have u87 : (fv P73 301 23).toInt = 0 := by omega
    exact mp_iret ⟨⟨_, rfl, u87⟩, hT74, k78, R79⟩ dX7_read_20 (Or.inl rfl)

set_option maxHeartbeats 4000000 in
theorem c_M_refusal {Po : mP} {t1 : Int32} (hT : Typ Po)   : EvP 2 228 [.ref 301, .int t1] Po (fun r P' => (∃ x : Int32, r = some (.int x) ∧ (True)) ∧ P' = Po) := by
  refine EvP.of qm_228 (Nat.le_of_ble_eq_true rfl) rfl ?_
  show MEvP _ none q_228 0 [(0, .ref 301), (1, .int t1)] [] _ 0 0 _
  have w_t1 := ti_full t1
  refine mp_a (a_iload_n dX7_refusal_0 rfl) (mpp 1 rfl ?_)
  refine mp_a (a_iconst (v := 0) dX7_refusal_1 rfl) (mpp 2 rfl ?_)
  refine mp_a (a_iconst (v := 2) dX7_refusal_2 rfl) (mpp 3 rfl ?_)
  refine mp_calls (i := 61) (q' := q_127) (As := [.int t1, .int 0, .int 2]) (rest := []) dX7_refusal_3 rfl qm_127 (by decide) rfl (Nat.le_of_ble_eq_true rfl) rfl ⟨rfl, rfl⟩ ⟨Nat.le_of_ble_eq_true rfl, Nat.le_of_ble_eq_true rfl⟩ (EvP.mono (by decide) (c_M_isIn hT )) (fun r1 P2 g3 => mpp 6 rfl ?_)
  obtain ⟨⟨x4, rfl, g5⟩, e6⟩ := g3
  have e6 := e6.symm
  subst e6
  have wx4 := ti_full x4
  replace g5 : 0 ≤ x4.toInt ∧ x4.toInt ≤ 1 ∧ ((x4.toInt = 1 ∧ (0 : Int) ≤ t1.toInt ∧ t1.toInt ≤ (2 : Int)) ∨ (x4.toInt = 0 ∧ (t1.toInt < (0 : Int) ∨ (2 : Int) < t1.toInt))) := g5
  show MEvP _ none q_228 6 [(0, .ref 301), (1, .int t1)] [.int x4] _ _ _ _
  refine mp_Tb (t := 13) (j_if_ne dX7_refusal_6) (by decide) (fun c7 => ?_) (fun c7 => mpp 9 rfl ?_)
  · have c7 : x4.toInt ≠ 0 := ti_ne c7
    refine mp_a (a_aload_n dX7_refusal_13 rfl) (mpp 14 rfl ?_)
    have g8 := ti_full (fv Po 301 5)
    refine mt_getI (i := 68) (k := 5) hT dX7_refusal_14 rfl rl_301 (by decide) rfl (by decide) rfl (fun g9 g10 => mpp 17 rfl ?_)
    refine mp_Tb (t := 26) (j_if_ne dX7_refusal_17) (by decide) (fun c11 => ?_) (fun c11 => mpp 20 rfl ?_)
    · have c11 : (fv Po 301 5).toInt ≠ 0 := ti_ne c11
      refine mp_a (a_iload_n dX7_refusal_26 rfl) (mpp 27 rfl ?_)
      refine mp_Tb (t := 37) (j_if_ne dX7_refusal_27) (by decide) (fun c12 => ?_) (fun c12 => mpp 30 rfl ?_)
      · have c12 : t1.toInt ≠ 0 := ti_ne c12
        refine mp_a (a_iload_n dX7_refusal_37 rfl) (mpp 38 rfl ?_)
        refine mp_a (a_iconst (v := 1) dX7_refusal_38 rfl) (mpp 39 rfl ?_)
        refine mp_Tb (t := 49) (j_icmp_ne dX7_refusal_39) (by decide) (fun c13 => ?_) (fun c13 => mpp 42 rfl ?_)
        · have c13 : t1.toInt ≠ 1 := ti_ne c13
          refine mp_a (a_aload_n dX7_refusal_49 rfl) (mpp 50 rfl ?_)
          have g14 := ti_full (fv Po 301 7)
          refine mt_getI (i := 50) (k := 7) hT dX7_refusal_50 rfl rl_301 (by decide) rfl (by decide) rfl (fun g15 g16 => mpp 53 rfl ?_)
          exact mp_iret ⟨⟨_, rfl, trivial⟩, rfl⟩ dX7_refusal_53 (Or.inl rfl)
        · have c13 : t1.toInt = 1 := ti_ne_n c13
          refine mp_a (a_aload_n dX7_refusal_42 rfl) (mpp 43 rfl ?_)
          have g17 := ti_full (fv Po 301 6)
          refine mt_getI (i := 71) (k := 6) hT dX7_refusal_43 rfl rl_301 (by decide) rfl (by decide) rfl (fun g18 g19 => mpp 46 rfl ?_)
          refine mp_a (a_goto (t := 53) dX7_refusal_46 (by decide)) ?_
          exact mp_iret ⟨⟨_, rfl, trivial⟩, rfl⟩ dX7_refusal_53 (Or.inl rfl)
      · have c12 : t1.toInt = 0 := ti_ne_n c12
        refine mp_a (a_aload_n dX7_refusal_30 rfl) (mpp 31 rfl ?_)
        refine mt_getI (i := 68) (k := 5) hT dX7_refusal_31 rfl rl_301 (by decide) rfl (by decide) rfl (fun g20 g21 => mpp 34 rfl ?_)
        refine mp_a (a_goto (t := 53) dX7_refusal_34 (by decide)) ?_
        exact mp_iret ⟨⟨_, rfl, trivial⟩, rfl⟩ dX7_refusal_53 (Or.inl rfl)
    · have c11 : (fv Po 301 5).toInt = 0 := ti_ne_n c11
      refine mp_a (a_sipush (v := -1004) dX7_refusal_20 rfl) (mpp 23 rfl ?_)
      refine mp_a (a_goto (t := 53) dX7_refusal_23 (by decide)) ?_
      exact mp_iret ⟨⟨_, rfl, trivial⟩, rfl⟩ dX7_refusal_53 (Or.inl rfl)
  · have c7 : x4.toInt = 0 := ti_ne_n c7
    refine mp_a (a_sipush (v := -1002) dX7_refusal_9 rfl) (mpp 12 rfl ?_)
    exact mp_iret ⟨⟨_, rfl, trivial⟩, rfl⟩ dX7_refusal_12 (Or.inl rfl)

set_option maxHeartbeats 4000000 in
theorem c_M_piece_c0 {Po : mP} {t1 : Int32} (hT : Typ Po)   : EvP 3 194 [.ref 301, .int t1, .int 0] Po (fun r P' => (∃ x : Int32, r = some (.int x) ∧ (True)) ∧ P' = Po) := by
  refine EvP.of qm_194 (Nat.le_of_ble_eq_true rfl) rfl ?_
  show MEvP _ none q_194 0 [(0, .ref 301), (1, .int t1), (2, .int 0)] [] _ 0 0 _
  have w_t1 := ti_full t1
  refine mp_a (a_aload_n dX7_piece_0 rfl) (mpp 1 rfl ?_)
  refine mp_a (a_iload_n dX7_piece_1 rfl) (mpp 2 rfl ?_)
  refine mt_callv (i := 85) (q' := q_144) (As := [.int t1]) (rest := []) hT dX7_piece_2 rfl qm_144 (by decide) rfl rl_301 (by decide) rfl (Nat.le_of_ble_eq_true rfl) rfl ⟨rfl, rfl⟩ ⟨Nat.le_of_ble_eq_true rfl, Nat.le_of_ble_eq_true rfl⟩ (EvP.mono (by decide) (c_M_isPiece hT )) (fun r1 P2 g3 => mpp 5 rfl ?_)
  obtain ⟨⟨x4, rfl, g5⟩, e6⟩ := g3
  have e6 := e6.symm
  subst e6
  have wx4 := ti_full x4
  replace g5 : 0 ≤ x4.toInt ∧ x4.toInt ≤ 1 ∧ ((x4.toInt = 1 ∧ 0 ≤ t1.toInt ∧ t1.toInt + 1 ≤ (fv Po 302 0).toInt ∧ t1.toInt ≤ 7) ∨ (x4.toInt = 0 ∧ (t1.toInt < 0 ∨ (fv Po 302 0).toInt ≤ t1.toInt))) := g5
  have g7 : (0 : Int) ≤ (fv Po 302 0).toInt ∧ (fv Po 302 0).toInt ≤ 8 := Typ.rng hT rl_302 (by decide) (by decide) rfl
  show MEvP _ none q_194 5 [(0, .ref 301), (1, .int t1), (2, .int 0)] [.int x4] _ _ _ _
  refine mp_Tb (t := 12) (j_if_ne dX7_piece_5) (by decide) (fun c8 => ?_) (fun c8 => mpp 8 rfl ?_)
  · have c8 : x4.toInt ≠ 0 := ti_ne c8
    refine mp_a (a_iload_n dX7_piece_12 rfl) (mpp 13 rfl ?_)
    refine mp_t (s_tabIn (t := 64) dX7_piece_13 (by decide) rfl (by decide)) ?_
    refine mp_a (a_aload_n dX7_piece_64 rfl) (mpp 65 rfl ?_)
    refine mp_a (a_iload_n dX7_piece_65 rfl) (mpp 66 rfl ?_)
    refine mp_a (a_iconst (v := 0) dX7_piece_66 rfl) (mpp 67 rfl ?_)
    have p9 : 0 ≤ t1.toInt := by omega
    have p10 : t1.toInt ≤ 7 := by omega
    have p11 : 0 ≤ (0 : Int) := by omega
    have p12 : (0 : Int) ≤ 18 := by omega
    refine mt_callv (i := 78) (q' := q_137) (As := [.int t1, .int 0]) (rest := []) hT dX7_piece_67 rfl qm_137 (by decide) rfl rl_301 (by decide) rfl (Nat.le_of_ble_eq_true rfl) rfl ⟨rfl, rfl⟩ ⟨Nat.le_of_ble_eq_true rfl, Nat.le_of_ble_eq_true rfl⟩ (EvP.mono (by decide) (c_M_of_c0 hT p9 p10 p11 p12 )) (fun r13 P14 g15 => mpp 70 rfl ?_)
    obtain ⟨⟨x16, rfl, g17⟩, e18⟩ := g15
    have e18 := e18.symm
    subst e18
    have wx16 := ti_full x16
    replace g17 : x16.toInt = (fv Po 302 (3 + 19 * t1.toInt.toNat)).toInt ∧ 0 ≤ x16.toInt ∧ x16.toInt ≤ 1 := g17
    try have g19 : (0 : Int) ≤ (fv Po 302 (3 + 19 * t1.toInt.toNat)).toInt ∧ (fv Po 302 (3 + 19 * t1.toInt.toNat)).toInt ≤ 1 := s3_rng hT (by omega)
    show MEvP _ none q_194 70 [(0, .ref 301), (1, .int t1), (2, .int 0)] [.int x16] _ _ _ _
    exact mp_iret ⟨⟨_, rfl, trivial⟩, rfl⟩ dX7_piece_70 (Or.inl rfl)
  · have c8 : x4.toInt = 0 := ti_ne_n c8
    refine mp_a (a_sipush (v := -1001) dX7_piece_8 rfl) (mpp 11 rfl ?_)
    exact mp_iret ⟨⟨_, rfl, trivial⟩, rfl⟩ dX7_piece_11 (Or.inl rfl)

set_option maxHeartbeats 4000000 in
theorem c_M_allOf_c0_l4 {Po : mP}  (hT : Typ Po) (hR : Rel Po)  : ∀ (n : Nat) (v2 : Int32) (v3 : Int32), (0 ≤ v3.toInt) → (2147483647 - v3.toInt).toNat = n → MEvP 3 none q_230 4 [(0, .ref 301), (1, .int 0), (2, .int v2), (3, .int v3)] [] Po 0 0 (fun r P' => (∃ x : Int32, r = some (.int x) ∧ (True)) ∧ P' = Po) := by
  intro n
  induction n using Nat.strongRecOn with | _ n ih => ?_
  intro v2 v3 i_0 hm
  have w_v2 := ti_full v2
  have w_v3 := ti_full v3
  refine mp_a (a_iload_n dX7_allOf_4 rfl) (mpp 5 rfl ?_)
  refine mp_a (a_aload_n dX7_allOf_5 rfl) (mpp 6 rfl ?_)
  refine mt_getU (i := 9) (k := 0) (A := 302) hT dX7_allOf_6 rfl rl_301 (by decide) rfl (by decide) rfl un_18 (mpp 9 rfl ?_)
  refine mp_a (a_iconst (v := 0) dX7_allOf_9 rfl) (mpp 10 rfl ?_)
  have g3 : (0 : Int) ≤ (fv Po 302 0).toInt ∧ (fv Po 302 0).toInt ≤ 8 := Typ.rng hT rl_302 (by decide) (by decide) rfl
  refine mt_ialX (n := 155) hT dX7_allOf_10 rl_302 (by decide) rfl rfl (by decide) (by decide) ssp_0 (fun g1 => mpp 11 rfl ?_)
  have we4 := ti_full (fv Po 302 0)
  refine mp_Tb (t := 29) (j_icmp_ge dX7_allOf_11) (by decide) (fun c5 => ?_) (fun c5 => mpp 14 rfl ?_)
  · have c5 : v3.toInt ≥ (fv Po 302 0).toInt := ti_ge c5
    refine mp_a (a_iload_n dX7_allOf_29 rfl) (mpp 30 rfl ?_)
    exact mp_iret ⟨⟨_, rfl, trivial⟩, rfl⟩ dX7_allOf_30 (Or.inl rfl)
  · have c5 : v3.toInt < (fv Po 302 0).toInt := ti_ge_n c5
    refine mp_a (a_iload_n dX7_allOf_14 rfl) (mpp 15 rfl ?_)
    refine mp_a (a_aload_n dX7_allOf_15 rfl) (mpp 16 rfl ?_)
    refine mp_a (a_iload_n dX7_allOf_16 rfl) (mpp 17 rfl ?_)
    refine mp_a (a_iload_n dX7_allOf_17 rfl) (mpp 18 rfl ?_)
    refine mt_callv (i := 348) (q' := q_194) (As := [.int v3, .int 0]) (rest := [.int v2]) hT dX7_allOf_18 rfl qm_194 (by decide) rfl rl_301 (by decide) rfl (Nat.le_of_ble_eq_true rfl) rfl ⟨rfl, rfl⟩ ⟨Nat.le_of_ble_eq_true rfl, Nat.le_of_ble_eq_true rfl⟩ (EvP.mono (by decide) (c_M_piece_c0 hT )) (fun r6 P7 g8 => mpp 21 rfl ?_)
    obtain ⟨⟨x9, rfl, g10⟩, e11⟩ := g8
    have e11 := e11.symm
    subst e11
    have wx9 := ti_full x9
    show MEvP _ none q_230 21 [(0, .ref 301), (1, .int 0), (2, .int v2), (3, .int v3)] [.int x9, .int v2] _ _ _ _
    obtain ⟨z12, h13⟩ := ti_ex (v2 + x9 : Int32)
    have wz12 := ti_full z12
    refine mp_t (s_iadd (v := z12) dX7_allOf_21 h13) (mpp 22 rfl ?_)
    try have e14 : z12.toInt = v2.toInt + x9.toInt := ti_addz h13 rfl rfl (by omega) (by omega)
    refine mp_a (a_istore_n (L' := [(2, .int z12), (0, .ref 301), (1, .int 0), (3, .int v3)]) dX7_allOf_22 (by decide) rfl) (mpp 23 rfl ?_)
    obtain ⟨z15, h16⟩ := ti_ex (v3 + 1 : Int32)
    have wz15 := ti_full z15
    refine mp_a (a_iinc (v := z15) (L' := [(3, .int z15), (2, .int z12), (0, .ref 301), (1, .int 0)]) dX7_allOf_23 (by decide) rfl h16 rfl) (mpp 26 rfl ?_)
    try have e17 : z15.toInt = v3.toInt + 1 := ti_addz h16 rfl rfl (by omega) (by omega)
    refine mp_a (a_goto (t := 4) dX7_allOf_26 (by decide)) ?_
    refine MEvP.less (L := [(0, .ref 301), (1, .int 0), (2, .int z12), (3, .int z15)]) rfl rfl ⟨rfl, rfl, rfl, rfl, trivial⟩ ?_
    have i18 : 0 ≤ z15.toInt := by omega
    exact ih _ (by omega) _ _ i18 rfl

set_option maxHeartbeats 4000000 in
theorem c_M_allOf_c0 {Po : mP}  (hT : Typ Po) (hR : Rel Po)  : EvP 4 230 [.ref 301, .int 0] Po (fun r P' => (∃ x : Int32, r = some (.int x) ∧ (True)) ∧ P' = Po) := by
  refine EvP.of qm_230 (Nat.le_of_ble_eq_true rfl) rfl ?_
  show MEvP _ none q_230 0 [(0, .ref 301), (1, .int 0)] [] _ 0 0 _
  refine mp_a (a_iconst (v := 0) dX7_allOf_0 rfl) (mpp 1 rfl ?_)
  refine mp_a (a_istore_n (L' := [(2, .int 0), (0, .ref 301), (1, .int 0)]) dX7_allOf_1 (by decide) rfl) (mpp 2 rfl ?_)
  refine mp_a (a_iconst (v := 0) dX7_allOf_2 rfl) (mpp 3 rfl ?_)
  refine mp_a (a_istore_n (L' := [(3, .int 0), (2, .int 0), (0, .ref 301), (1, .int 0)]) dX7_allOf_3 (by decide) rfl) (mpp 4 rfl ?_)
  refine MEvP.less (L := [(0, .ref 301), (1, .int 0), (2, .int 0), (3, .int 0)]) rfl rfl ⟨rfl, rfl, rfl, rfl, trivial⟩ ?_
  have i1 : 0 ≤ (0 : Int) := by omega
  exact c_M_allOf_c0_l4 hT hR  _ _ _ i1 rfl

set_option maxHeartbeats 4000000 in
theorem c_M_piece_c7 {Po : mP} {t1 : Int32} (hT : Typ Po)   : EvP 3 194 [.ref 301, .int t1, .int 7] Po (fun r P' => (∃ x : Int32, r = some (.int x) ∧ (True)) ∧ P' = Po) := by
  refine EvP.of qm_194 (Nat.le_of_ble_eq_true rfl) rfl ?_
  show MEvP _ none q_194 0 [(0, .ref 301), (1, .int t1), (2, .int 7)] [] _ 0 0 _
  have w_t1 := ti_full t1
  refine mp_a (a_aload_n dX7_piece_0 rfl) (mpp 1 rfl ?_)
  refine mp_a (a_iload_n dX7_piece_1 rfl) (mpp 2 rfl ?_)
  refine mt_callv (i := 85) (q' := q_144) (As := [.int t1]) (rest := []) hT dX7_piece_2 rfl qm_144 (by decide) rfl rl_301 (by decide) rfl (Nat.le_of_ble_eq_true rfl) rfl ⟨rfl, rfl⟩ ⟨Nat.le_of_ble_eq_true rfl, Nat.le_of_ble_eq_true rfl⟩ (EvP.mono (by decide) (c_M_isPiece hT )) (fun r1 P2 g3 => mpp 5 rfl ?_)
  obtain ⟨⟨x4, rfl, g5⟩, e6⟩ := g3
  have e6 := e6.symm
  subst e6
  have wx4 := ti_full x4
  replace g5 : 0 ≤ x4.toInt ∧ x4.toInt ≤ 1 ∧ ((x4.toInt = 1 ∧ 0 ≤ t1.toInt ∧ t1.toInt + 1 ≤ (fv Po 302 0).toInt ∧ t1.toInt ≤ 7) ∨ (x4.toInt = 0 ∧ (t1.toInt < 0 ∨ (fv Po 302 0).toInt ≤ t1.toInt))) := g5
  have g7 : (0 : Int) ≤ (fv Po 302 0).toInt ∧ (fv Po 302 0).toInt ≤ 8 := Typ.rng hT rl_302 (by decide) (by decide) rfl
  show MEvP _ none q_194 5 [(0, .ref 301), (1, .int t1), (2, .int 7)] [.int x4] _ _ _ _
  refine mp_Tb (t := 12) (j_if_ne dX7_piece_5) (by decide) (fun c8 => ?_) (fun c8 => mpp 8 rfl ?_)
  · have c8 : x4.toInt ≠ 0 := ti_ne c8
    refine mp_a (a_iload_n dX7_piece_12 rfl) (mpp 13 rfl ?_)
    refine mp_t (s_tabIn (t := 111) dX7_piece_13 (by decide) rfl (by decide)) ?_
    refine mp_a (a_aload_n dX7_piece_111 rfl) (mpp 112 rfl ?_)
    refine mp_a (a_iload_n dX7_piece_112 rfl) (mpp 113 rfl ?_)
    refine mp_a (a_iconst (v := 2) dX7_piece_113 rfl) (mpp 114 rfl ?_)
    have p9 : 0 ≤ t1.toInt := by omega
    have p10 : t1.toInt ≤ 7 := by omega
    have p11 : 0 ≤ (2 : Int) := by omega
    have p12 : (2 : Int) ≤ 18 := by omega
    refine mt_callv (i := 78) (q' := q_137) (As := [.int t1, .int 2]) (rest := []) hT dX7_piece_114 rfl qm_137 (by decide) rfl rl_301 (by decide) rfl (Nat.le_of_ble_eq_true rfl) rfl ⟨rfl, rfl⟩ ⟨Nat.le_of_ble_eq_true rfl, Nat.le_of_ble_eq_true rfl⟩ (EvP.mono (by decide) (c_M_of_c2 hT p9 p10 p11 p12 )) (fun r13 P14 g15 => mpp 117 rfl ?_)
    obtain ⟨⟨x16, rfl, g17⟩, e18⟩ := g15
    have e18 := e18.symm
    subst e18
    have wx16 := ti_full x16
    replace g17 : x16.toInt = (fv Po 302 (5 + 19 * t1.toInt.toNat)).toInt := g17
    have g19 := ti_full (fv Po 302 (5 + 19 * t1.toInt.toNat))
    show MEvP _ none q_194 117 [(0, .ref 301), (1, .int t1), (2, .int 7)] [.int x16] _ _ _ _
    exact mp_iret ⟨⟨_, rfl, trivial⟩, rfl⟩ dX7_piece_117 (Or.inl rfl)
  · have c8 : x4.toInt = 0 := ti_ne_n c8
    refine mp_a (a_sipush (v := -1001) dX7_piece_8 rfl) (mpp 11 rfl ?_)
    exact mp_iret ⟨⟨_, rfl, trivial⟩, rfl⟩ dX7_piece_11 (Or.inl rfl)

