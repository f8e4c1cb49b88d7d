/-! methods on typed pools, 17 (written by a program) -/
set_option maxHeartbeats 4000000 in
theorem c_M_addsTold {Po : mP} {t1 : Int32} {t2 : Int32} {t3 : Int32} (hT : Typ Po) (hR : Rel Po)  : EvP 6 126 [.ref 301, .int t1, .int t2, .int t3] Po (fun r P' => (∃ x : Int32, r = some (.int x) ∧ (True)) ∧ Typ P' ∧ KW [1093, 1094, 1152, 1408, 1472] Po P' ∧ Rel P') := by
  refine EvP.of qm_126 (Nat.le_of_ble_eq_true rfl) rfl ?_
  show MEvP _ none q_126 0 [(0, .ref 301), (1, .int t1), (2, .int t2), (3, .int t3)] [] _ 0 0 _
  refine mp_a (a_iload_n dX7_addsTold_0 rfl) (mpp 1 rfl ?_)
  refine mp_a (a_iconst (v := 0) dX7_addsTold_1 rfl) (mpp 2 rfl ?_)
  refine mp_a (a_iconst (v := 1) dX7_addsTold_2 rfl) (mpp 3 rfl ?_)
  refine mp_calls (i := 61) (q' := q_127) (As := [.int t1, .int 0, .int 1]) (rest := []) dX7_addsTold_3 rfl qm_127 (by decide) rfl (Nat.le_of_ble_eq_true rfl) rfl ⟨rfl, rfl⟩ ⟨Nat.le_of_ble_eq_true rfl, Nat.le_of_ble_eq_true rfl⟩ (EvP.mono (by decide) (c_M_isIn hT )) (fun r1 P2 g3 => mpp 6 rfl ?_)
  obtain ⟨⟨x4, rfl, g5⟩, e6⟩ := g3
  have e6 := e6.symm
  subst e6
  have wx4 := ti_full x4
  have g5 : 0 ≤ x4.toInt ∧ x4.toInt ≤ 1 ∧ ((x4.toInt = 1 ∧ (0 : Int) ≤ t1.toInt ∧ t1.toInt ≤ (1 : Int)) ∨ (x4.toInt = 0 ∧ (t1.toInt < (0 : Int) ∨ (1 : Int) < t1.toInt))) := g5
  show MEvP _ none q_126 6 [(0, .ref 301), (1, .int t1), (2, .int t2), (3, .int t3)] [.int x4] _ _ _ _
  refine mp_Tb (t := 17) (j_if_eq dX7_addsTold_6) (by decide) (fun c7 => ?_) (fun c7 => mpp 9 rfl ?_)
  · have c7 : x4.toInt = 0 := ti_eq c7
    refine mp_a (a_iconst (v := 0) dX7_addsTold_17 rfl) (mpp 18 rfl ?_)
    refine mp_a (a_istore (L' := [(4, .int 0), (0, .ref 301), (1, .int t1), (2, .int t2), (3, .int t3)]) dX7_addsTold_18 (by decide) rfl) (mpp 20 rfl ?_)
    refine mp_a (a_iload dX7_addsTold_20 rfl) (mpp 22 rfl ?_)
    refine mp_Tt (t := 56) (j_if_eq dX7_addsTold_22) (by decide) (by decide) ?_
    refine mp_a (a_sipush (v := -1002) dX7_addsTold_56 rfl) (mpp 59 rfl ?_)
    exact mp_iret ⟨⟨_, rfl, trivial⟩, hT, KW.refl, hR⟩ dX7_addsTold_59 (Or.inl rfl)
  · have c7 : x4.toInt ≠ 0 := ti_eq_n c7
    refine mp_a (a_aload_n dX7_addsTold_9 rfl) (mpp 10 rfl ?_)
    refine mp_a (a_iload_n dX7_addsTold_10 rfl) (mpp 11 rfl ?_)
    refine mt_callv (i := 104) (q' := q_128) (As := [.int t2]) (rest := []) hT dX7_addsTold_11 rfl qm_128 (by decide) rfl rl_301 (by decide) rfl (Nat.le_of_ble_eq_true rfl) rfl ⟨rfl, rfl⟩ ⟨Nat.le_of_ble_eq_true rfl, Nat.le_of_ble_eq_true rfl⟩ (EvP.mono (by decide) (c_M_laysSizes hT )) (fun r8 P9 g10 => mpp 14 rfl ?_)
    obtain ⟨⟨x11, rfl, g12⟩, hT13, k14, R15⟩ := g10
    have k16 : KW [1093, 1094, 1152, 1408, 1472] Po P9 := KW.trans KW.refl k14 rfl
    have R17 := Rel.kw hR k14 rfl
    have wx11 := ti_full x11
    have g12 : 0 ≤ x11.toInt ∧ x11.toInt ≤ 8 := g12
    show MEvP _ none q_126 14 [(0, .ref 301), (1, .int t1), (2, .int t2), (3, .int t3)] [.int x11] _ _ _ _
    refine mp_a (a_goto (t := 18) dX7_addsTold_14 (by decide)) ?_
    refine mp_a (a_istore (L' := [(4, .int x11), (0, .ref 301), (1, .int t1), (2, .int t2), (3, .int t3)]) dX7_addsTold_18 (by decide) rfl) (mpp 20 rfl ?_)
    refine mp_a (a_iload dX7_addsTold_20 rfl) (mpp 22 rfl ?_)
    refine mp_Tb (t := 56) (j_if_eq dX7_addsTold_22) (by decide) (fun c18 => ?_) (fun c18 => mpp 25 rfl ?_)
    · have c18 : x11.toInt = 0 := ti_eq c18
      refine mp_a (a_sipush (v := -1002) dX7_addsTold_56 rfl) (mpp 59 rfl ?_)
      exact mp_iret ⟨⟨_, rfl, trivial⟩, hT13, k16, R17⟩ dX7_addsTold_59 (Or.inl rfl)
    · have c18 : x11.toInt ≠ 0 := ti_eq_n c18
      refine mp_a (a_aload_n dX7_addsTold_25 rfl) (mpp 26 rfl ?_)
      refine mp_a (a_iload_n dX7_addsTold_26 rfl) (mpp 27 rfl ?_)
      refine mp_a (a_iload dX7_addsTold_27 rfl) (mpp 29 rfl ?_)
      have p19 : x11.toInt ≤ 8 := by omega
      refine mt_callv (i := 107) (q' := q_130) (As := [.int t1, .int x11]) (rest := []) hT13 dX7_addsTold_29 rfl qm_130 (by decide) rfl rl_301 (by decide) rfl (Nat.le_of_ble_eq_true rfl) rfl ⟨rfl, rfl⟩ ⟨Nat.le_of_ble_eq_true rfl, Nat.le_of_ble_eq_true rfl⟩ (EvP.mono (by decide) (c_M_areSizes hT13 p19 )) (fun r20 P21 g22 => mpp 32 rfl ?_)
      obtain ⟨⟨x23, rfl, g24⟩, e25⟩ := g22
      have e25 := e25.symm
      subst e25
      have wx23 := ti_full x23
      have g24 : 0 ≤ x23.toInt ∧ x23.toInt ≤ 1 ∧ (x23.toInt = 0 ∨ t1.toInt ≠ 0 ∨ x11.toInt ≤ 7) := g24
      show MEvP _ none q_126 32 [(4, .int x11), (0, .ref 301), (1, .int t1), (2, .int t2), (3, .int t3)] [.int x23] _ _ _ _
      refine mp_Tb (t := 56) (j_if_eq dX7_addsTold_32) (by decide) (fun c26 => ?_) (fun c26 => mpp 35 rfl ?_)
      · have c26 : x23.toInt = 0 := ti_eq c26
        refine mp_a (a_sipush (v := -1002) dX7_addsTold_56 rfl) (mpp 59 rfl ?_)
        exact mp_iret ⟨⟨_, rfl, trivial⟩, hT13, k16, R17⟩ dX7_addsTold_59 (Or.inl rfl)
      · have c26 : x23.toInt ≠ 0 := ti_eq_n c26
        refine mp_a (a_aload_n dX7_addsTold_35 rfl) (mpp 36 rfl ?_)
        refine mp_a (a_iload_n dX7_addsTold_36 rfl) (mpp 37 rfl ?_)
        refine mp_a (a_iload_n dX7_addsTold_37 rfl) (mpp 38 rfl ?_)
        refine mp_Tb (t := 48) (j_if_ne dX7_addsTold_38) (by decide) (fun c27 => ?_) (fun c27 => mpp 41 rfl ?_)
        · have c27 : t1.toInt ≠ 0 := ti_ne c27
          refine mp_a (a_iload dX7_addsTold_48 rfl) (mpp 50 rfl ?_)
          have p28 : x11.toInt ≤ 8 := by omega
          refine mt_callv (i := 111) (q' := q_132) (As := [.int t3, .int x11]) (rest := []) hT13 dX7_addsTold_50 rfl qm_132 (by decide) rfl rl_301 (by decide) rfl (Nat.le_of_ble_eq_true rfl) rfl ⟨rfl, rfl⟩ ⟨Nat.le_of_ble_eq_true rfl, Nat.le_of_ble_eq_true rfl⟩ (EvP.mono (by decide) (c_M_laysCreases hT13 p28 )) (fun r29 P30 g31 => mpp 53 rfl ?_)
          obtain ⟨⟨x32, rfl, g33⟩, hT34, k35, R36⟩ := g31
          have k37 : KW [1093, 1094, 1152, 1408, 1472] Po P30 := KW.trans k16 k35 rfl
          have R38 := Rel.kw R17 k35 rfl
          have wx32 := ti_full x32
          have g33 : 0 ≤ x32.toInt ∧ x32.toInt ≤ 1 := g33
          show MEvP _ none q_126 53 [(4, .int x11), (0, .ref 301), (1, .int t1), (2, .int t2), (3, .int t3)] [.int x32] _ _ _ _
          refine mp_Tb (t := 60) (j_if_ne dX7_addsTold_53) (by decide) (fun c39 => ?_) (fun c39 => mpp 56 rfl ?_)
          · have c39 : x32.toInt ≠ 0 := ti_ne c39
            refine mp_a (a_aload_n dX7_addsTold_60 rfl) (mpp 61 rfl ?_)
            refine mp_a (a_iload_n dX7_addsTold_61 rfl) (mpp 62 rfl ?_)
            refine mp_a (a_iload dX7_addsTold_62 rfl) (mpp 64 rfl ?_)
            have p40 : 0 ≤ t1.toInt := by omega
            have p41 : t1.toInt ≤ 1 := by omega
            have p42 : 0 ≤ x11.toInt := by omega
            have p43 : x11.toInt ≤ 8 := by omega
            have p44 : t1.toInt ≠ 0 ∨ x11.toInt ≤ 7 := by omega
            refine mt_callv (i := 114) (q' := q_133) (As := [.int t1, .int x11]) (rest := []) hT34 dX7_addsTold_64 rfl qm_133 (by decide) rfl rl_301 (by decide) rfl (Nat.le_of_ble_eq_true rfl) rfl ⟨rfl, rfl⟩ ⟨Nat.le_of_ble_eq_true rfl, Nat.le_of_ble_eq_true rfl⟩ (EvP.mono (by decide) (c_M_adds hT34 R38 p40 p41 p42 p43 p44 )) (fun r45 P46 g47 => mpp 67 rfl ?_)
            obtain ⟨⟨x48, rfl, g49⟩, hT50, k51, R52⟩ := g47
            have k53 : KW [1093, 1094, 1152, 1408, 1472] Po P46 := KW.trans k37 k51 rfl
            have wx48 := ti_full x48
            show MEvP _ none q_126 67 [(4, .int x11), (0, .ref 301), (1, .int t1), (2, .int t2), (3, .int t3)] [.int x48] _ _ _ _
            exact mp_iret ⟨⟨_, rfl, trivial⟩, hT50, k53, R52⟩ dX7_addsTold_67 (Or.inl rfl)
          · have c39 : x32.toInt = 0 := ti_ne_n c39
            refine mp_a (a_sipush (v := -1002) dX7_addsTold_56 rfl) (mpp 59 rfl ?_)
            exact mp_iret ⟨⟨_, rfl, trivial⟩, hT34, k37, R38⟩ dX7_addsTold_59 (Or.inl rfl)
        · have c27 : t1.toInt = 0 := ti_ne_n c27
          refine mp_a (a_iload dX7_addsTold_41 rfl) (mpp 43 rfl ?_)
          refine mp_a (a_iconst (v := 1) dX7_addsTold_43 rfl) (mpp 44 rfl ?_)
          obtain ⟨z54, h55⟩ := ti_ex (x11 - 1 : Int32)
          have wz54 := ti_full z54
          refine mp_t (s_isub (v := z54) dX7_addsTold_44 h55) (mpp 45 rfl ?_)
          try have e56 : z54.toInt = x11.toInt - 1 := ti_subz h55 rfl rfl (by omega) (by omega)
          refine mp_a (a_goto (t := 50) dX7_addsTold_45 (by decide)) ?_
          have p57 : z54.toInt ≤ 8 := by omega
          refine mt_callv (i := 111) (q' := q_132) (As := [.int t3, .int z54]) (rest := []) hT13 dX7_addsTold_50 rfl qm_132 (by decide) rfl rl_301 (by decide) rfl (Nat.le_of_ble_eq_true rfl) rfl ⟨rfl, rfl⟩ ⟨Nat.le_of_ble_eq_true rfl, Nat.le_of_ble_eq_true rfl⟩ (EvP.mono (by decide) (c_M_laysCreases hT13 p57 )) (fun r58 P59 g60 => mpp 53 rfl ?_)
          obtain ⟨⟨x61, rfl, g62⟩, hT63, k64, R65⟩ := g60
          have k66 : KW [1093, 1094, 1152, 1408, 1472] Po P59 := KW.trans k16 k64 rfl
          have R67 := Rel.kw R17 k64 rfl
          have wx61 := ti_full x61
          have g62 : 0 ≤ x61.toInt ∧ x61.toInt ≤ 1 := g62
          show MEvP _ none q_126 53 [(4, .int x11), (0, .ref 301), (1, .int t1), (2, .int t2), (3, .int t3)] [.int x61] _ _ _ _
          refine mp_Tb (t := 60) (j_if_ne dX7_addsTold_53) (by decide) (fun c68 => ?_) (fun c68 => mpp 56 rfl ?_)
          · have c68 : x61.toInt ≠ 0 := ti_ne c68
            refine mp_a (a_aload_n dX7_addsTold_60 rfl) (mpp 61 rfl ?_)
            refine mp_a (a_iload_n dX7_addsTold_61 rfl) (mpp 62 rfl ?_)
            refine mp_a (a_iload dX7_addsTold_62 rfl) (mpp 64 rfl ?_)
            have p69 : 0 ≤ t1.toInt := by omega
            have p70 : t1.toInt ≤ 1 := by omega
            have p71 : 0 ≤ x11.toInt := by omega
            have p72 : x11.toInt ≤ 8 := by omega
            have p73 : t1.toInt ≠ 0 ∨ x11.toInt ≤ 7 := by omega
            refine mt_callv (i := 114) (q' := q_133) (As := [.int t1, .int x11]) (rest := []) hT63 dX7_addsTold_64 rfl qm_133 (by decide) rfl rl_301 (by decide) rfl (Nat.le_of_ble_eq_true rfl) rfl ⟨rfl, rfl⟩ ⟨Nat.le_of_ble_eq_true rfl, Nat.le_of_ble_eq_true rfl⟩ (EvP.mono (by decide) (c_M_adds hT63 R67 p69 p70 p71 p72 p73 )) (fun r74 P75 g76 => mpp 67 rfl ?_)
            obtain ⟨⟨x77, rfl, g78⟩, hT79, k80, R81⟩ := g76
            have k82 : KW [1093, 1094, 1152, 1408, 1472] Po P75 := KW.trans k66 k80 rfl
            have wx77 := ti_full x77
            show MEvP _ none q_126 67 [(4, .int x11), (0, .ref 301), (1, .int t1), (2, .int t2), (3, .int t3)] [.int x77] _ _ _ _
            exact mp_iret ⟨⟨_, rfl, trivial⟩, hT79, k82, R81⟩ dX7_addsTold_67 (Or.inl rfl)
          · have c68 : x61.toInt = 0 := ti_ne_n c68
            refine mp_a (a_sipush (v := -1002) dX7_addsTold_56 rfl) (mpp 59 rfl ?_)
            exact mp_iret ⟨⟨_, rfl, trivial⟩, hT63, k66, R67⟩ dX7_addsTold_59 (Or.inl rfl)

set_option maxHeartbeats 4000000 in
theorem c_M_add {Po : mP} {t1 : Int32} {t2 : Int32} {t3 : Int32} (hT : Typ Po) (hR : Rel Po)  : EvP 7 123 [.ref 301, .int t1, .int t2, .int t3] Po (fun r P' => (∃ x : Int32, r = some (.int x) ∧ (True)) ∧ Typ P' ∧ KW [1092, 1093, 1094, 1095, 1152, 1216, 1344, 1408, 1472] Po P' ∧ Rel P') := by
  refine EvP.of qm_123 (Nat.le_of_ble_eq_true rfl) rfl ?_
  show MEvP _ none q_123 0 [(0, .ref 301), (1, .int t1), (2, .int t2), (3, .int t3)] [] _ 0 0 _
  refine mp_a (a_aload_n dX7_add_0 rfl) (mpp 1 rfl ?_)
  refine mt_callv (i := 117) (q' := q_124) (As := []) (rest := []) hT dX7_add_1 rfl qm_124 (by decide) rfl rl_301 (by decide) rfl (Nat.le_of_ble_eq_true rfl) rfl ⟨rfl, rfl⟩ ⟨Nat.le_of_ble_eq_true rfl, Nat.le_of_ble_eq_true rfl⟩ (EvP.mono (by decide) (c_M_keeps hT hR )) (fun r1 P2 g3 => mpp 4 rfl ?_)
  obtain ⟨⟨rfl, g5⟩, hT6, k7, R8⟩ := g3
  have k9 : KW [1092, 1093, 1094, 1095, 1152, 1216, 1344, 1408, 1472] Po P2 := KW.trans KW.refl k7 rfl
  show MEvP _ none q_123 4 [(0, .ref 301), (1, .int t1), (2, .int t2), (3, .int t3)] [] _ _ _ _
  refine mp_a (a_aload_n dX7_add_4 rfl) (mpp 5 rfl ?_)
  refine mp_a (a_aload_n dX7_add_5 rfl) (mpp 6 rfl ?_)
  refine mp_a (a_iload_n dX7_add_6 rfl) (mpp 7 rfl ?_)
  refine mp_a (a_iload_n dX7_add_7 rfl) (mpp 8 rfl ?_)
  refine mp_a (a_iload_n dX7_add_8 rfl) (mpp 9 rfl ?_)
  refine mt_callv (i := 120) (q' := q_126) (As := [.int t1, .int t2, .int t3]) (rest := [.ref 301]) hT6 dX7_add_9 rfl qm_126 (by decide) rfl rl_301 (by decide) rfl (Nat.le_of_ble_eq_true rfl) rfl ⟨rfl, rfl⟩ ⟨Nat.le_of_ble_eq_true rfl, Nat.le_of_ble_eq_true rfl⟩ (EvP.mono (by decide) (c_M_addsTold hT6 R8 )) (fun r10 P11 g12 => mpp 12 rfl ?_)
  obtain ⟨⟨x13, rfl, g14⟩, hT15, k16, R17⟩ := g12
  have k18 : KW [1092, 1093, 1094, 1095, 1152, 1216, 1344, 1408, 1472] Po P11 := KW.trans k9 k16 rfl
  have wx13 := ti_full x13
  show MEvP _ none q_123 12 [(0, .ref 301), (1, .int t1), (2, .int t2), (3, .int t3)] [.int x13, .ref 301] _ _ _ _
  refine mt_callv (i := 124) (q' := q_139) (As := [.int x13]) (rest := []) hT15 dX7_add_12 rfl qm_139 (by decide) rfl rl_301 (by decide) rfl (Nat.le_of_ble_eq_true rfl) rfl ⟨rfl, rfl⟩ ⟨Nat.le_of_ble_eq_true rfl, Nat.le_of_ble_eq_true rfl⟩ (EvP.mono (by decide) (c_M_ends hT15 R17 )) (fun r19 P20 g21 => mpp 15 rfl ?_)
  obtain ⟨⟨x22, rfl, g23⟩, hT24, k25, R26⟩ := g21
  have k27 : KW [1092, 1093, 1094, 1095, 1152, 1216, 1344, 1408, 1472] Po P20 := KW.trans k18 k25 rfl
  have wx22 := ti_full x22
  show MEvP _ none q_123 15 [(0, .ref 301), (1, .int t1), (2, .int t2), (3, .int t3)] [.int x22] _ _ _ _
  exact mp_iret ⟨⟨_, rfl, trivial⟩, hT24, k27, R26⟩ dX7_add_15 (Or.inl rfl)

set_option maxHeartbeats 4000000 in
theorem c_M_isPiece {Po : mP} {t1 : Int32} (hT : Typ Po)   : EvP 2 144 [.ref 301, .int t1] Po (fun r P' => (∃ x : Int32, r = some (.int x) ∧ (0 ≤ x.toInt ∧ x.toInt ≤ 1 ∧ (x.toInt = 0 ∨ (0 ≤ t1.toInt ∧ t1.toInt + 1 ≤ (fv Po 302 0).toInt ∧ t1.toInt ≤ 7)))) ∧ P' = Po) := by
  refine EvP.of qm_144 (Nat.le_of_ble_eq_true rfl) rfl ?_
  show MEvP _ none q_144 0 [(0, .ref 301), (1, .int t1)] [] _ 0 0 _
  have g1 : (0 : Int) ≤ (fv Po 302 0).toInt ∧ (fv Po 302 0).toInt ≤ 8 := Typ.rng hT rl_302 (by decide) (by decide) rfl
  refine mp_a (a_iload_n dX7_isPiece_0 rfl) (mpp 1 rfl ?_)
  refine mp_a (a_iconst (v := 0) dX7_isPiece_1 rfl) (mpp 2 rfl ?_)
  refine mp_a (a_aload_n dX7_isPiece_2 rfl) (mpp 3 rfl ?_)
  refine mt_getU (i := 9) (k := 0) (A := 302) hT dX7_isPiece_3 rfl rl_301 (by decide) rfl (by decide) rfl un_18 (mpp 6 rfl ?_)
  refine mp_a (a_iconst (v := 0) dX7_isPiece_6 rfl) (mpp 7 rfl ?_)
  refine mt_ialX (n := 155) hT dX7_isPiece_7 rl_302 (by decide) rfl rfl (by omega) (by omega) ssp_0 (fun g2 => mpp 8 rfl ?_)
  have we4 := ti_full (fv Po 302 0)
  refine mp_a (a_iconst (v := 1) dX7_isPiece_8 rfl) (mpp 9 rfl ?_)
  obtain ⟨z5, h6⟩ := ti_ex ((fv Po 302 0) - 1 : Int32)
  have wz5 := ti_full z5
  refine mp_t (s_isub (v := z5) dX7_isPiece_9 h6) (mpp 10 rfl ?_)
  try have e7 : z5.toInt = (fv Po 302 0).toInt - 1 := ti_subz h6 rfl rfl (by omega) (by omega)
  refine mp_calls (i := 61) (q' := q_127) (As := [.int t1, .int 0, .int z5]) (rest := []) dX7_isPiece_10 rfl qm_127 (by decide) rfl (Nat.le_of_ble_eq_true rfl) rfl ⟨rfl, rfl⟩ ⟨Nat.le_of_ble_eq_true rfl, Nat.le_of_ble_eq_true rfl⟩ (EvP.mono (by decide) (c_M_isIn hT )) (fun r8 P9 g10 => mpp 13 rfl ?_)
  obtain ⟨⟨x11, rfl, g12⟩, e13⟩ := g10
  have e13 := e13.symm
  subst e13
  have wx11 := ti_full x11
  have g12 : 0 ≤ x11.toInt ∧ x11.toInt ≤ 1 ∧ ((x11.toInt = 1 ∧ (0 : Int) ≤ t1.toInt ∧ t1.toInt ≤ z5.toInt) ∨ (x11.toInt = 0 ∧ (t1.toInt < (0 : Int) ∨ z5.toInt < t1.toInt))) := g12
  show MEvP _ none q_144 13 [(0, .ref 301), (1, .int t1)] [.int x11] _ _ _ _
  have u14 : 0 ≤ x11.toInt ∧ x11.toInt ≤ 1 ∧ (x11.toInt = 0 ∨ (0 ≤ t1.toInt ∧ t1.toInt + 1 ≤ (fv Po 302 0).toInt ∧ t1.toInt ≤ 7)) := by omega
  exact mp_iret ⟨⟨_, rfl, u14⟩, rfl⟩ dX7_isPiece_13 (Or.inr ⟨rfl, ti_01 (by omega)⟩)

set_option maxHeartbeats 4000000 in
theorem c_M_isCrease {Po : mP} {t1 : Int32} {t2 : Int32} (hT : Typ Po)   : EvP 5 143 [.ref 301, .int t1, .int t2] Po (fun r P' => (∃ x : Int32, r = some (.int x) ∧ (0 ≤ x.toInt ∧ x.toInt ≤ 1 ∧ (x.toInt = 0 ∨ (0 ≤ t1.toInt ∧ t1.toInt + 1 ≤ (fv Po 302 0).toInt ∧ t1.toInt ≤ 7 ∧ 0 ≤ t2.toInt ∧ t2.toInt ≤ 7 ∧ t2.toInt + 1 ≤ (fv Po 302 (4 + 19 * t1.toInt.toNat)).toInt)))) ∧ P' = Po) := by
  refine EvP.of qm_143 (Nat.le_of_ble_eq_true rfl) rfl ?_
  show MEvP _ none q_143 0 [(0, .ref 301), (1, .int t1), (2, .int t2)] [] _ 0 0 _
  have g1 : (0 : Int) ≤ (fv Po 302 0).toInt ∧ (fv Po 302 0).toInt ≤ 8 := Typ.rng hT rl_302 (by decide) (by decide) rfl
  refine mp_a (a_aload_n dX7_isCrease_0 rfl) (mpp 1 rfl ?_)
  refine mp_a (a_iload_n dX7_isCrease_1 rfl) (mpp 2 rfl ?_)
  refine mt_callv (i := 85) (q' := q_144) (As := [.int t1]) (rest := []) hT dX7_isCrease_2 rfl qm_144 (by decide) rfl rl_301 (by decide) rfl (Nat.le_of_ble_eq_true rfl) rfl ⟨rfl, rfl⟩ ⟨Nat.le_of_ble_eq_true rfl, Nat.le_of_ble_eq_true rfl⟩ (EvP.mono (by decide) (c_M_isPiece hT )) (fun r2 P3 g4 => mpp 5 rfl ?_)
  obtain ⟨⟨x5, rfl, g6⟩, e7⟩ := g4
  have e7 := e7.symm
  subst e7
  have wx5 := ti_full x5
  have g6 : 0 ≤ x5.toInt ∧ x5.toInt ≤ 1 ∧ (x5.toInt = 0 ∨ (0 ≤ t1.toInt ∧ t1.toInt + 1 ≤ (fv Po 302 0).toInt ∧ t1.toInt ≤ 7)) := g6
  show MEvP _ none q_143 5 [(0, .ref 301), (1, .int t1), (2, .int t2)] [.int x5] _ _ _ _
  refine mp_Tb (t := 27) (j_if_eq dX7_isCrease_5) (by decide) (fun c8 => ?_) (fun c8 => mpp 8 rfl ?_)
  · have c8 : x5.toInt = 0 := ti_eq c8
    refine mp_a (a_iconst (v := 0) dX7_isCrease_27 rfl) (mpp 28 rfl ?_)
    have u9 : 0 ≤ (0 : Int) ∧ (0 : Int) ≤ 1 ∧ ((0 : Int) = 0 ∨ (0 ≤ t1.toInt ∧ t1.toInt + 1 ≤ (fv Po 302 0).toInt ∧ t1.toInt ≤ 7 ∧ 0 ≤ t2.toInt ∧ t2.toInt ≤ 7 ∧ t2.toInt + 1 ≤ (fv Po 302 (4 + 19 * t1.toInt.toNat)).toInt)) := by omega
    exact mp_iret ⟨⟨_, rfl, u9⟩, rfl⟩ dX7_isCrease_28 (Or.inr ⟨rfl, by decide⟩)
  · have c8 : x5.toInt ≠ 0 := ti_eq_n c8
    refine mp_a (a_iload_n dX7_isCrease_8 rfl) (mpp 9 rfl ?_)
    refine mp_a (a_iconst (v := 0) dX7_isCrease_9 rfl) (mpp 10 rfl ?_)
    refine mp_a (a_aload_n dX7_isCrease_10 rfl) (mpp 11 rfl ?_)
    refine mp_a (a_iload_n dX7_isCrease_11 rfl) (mpp 12 rfl ?_)
    have p10 : 0 ≤ t1.toInt := by omega
    have p11 : t1.toInt ≤ 7 := by omega
    refine mt_callv (i := 88) (q' := q_136) (As := [.int t1]) (rest := [.int 0, .int t2]) hT dX7_isCrease_12 rfl qm_136 (by decide) rfl rl_301 (by decide) rfl (Nat.le_of_ble_eq_true rfl) rfl ⟨rfl, rfl⟩ ⟨Nat.le_of_ble_eq_true rfl, Nat.le_of_ble_eq_true rfl⟩ (EvP.mono (by decide) (c_M_creases hT p10 p11 )) (fun r12 P13 g14 => mpp 15 rfl ?_)
    obtain ⟨⟨x15, rfl, g16⟩, e17⟩ := g14
    have e17 := e17.symm
    subst e17
    have wx15 := ti_full x15
    have g16 : -1 ≤ x15.toInt ∧ x15.toInt ≤ 8 ∧ x15.toInt ≤ (fv Po 302 (4 + 19 * t1.toInt.toNat)).toInt := g16
    show MEvP _ none q_143 15 [(0, .ref 301), (1, .int t1), (2, .int t2)] [.int x15, .int 0, .int t2] _ _ _ _
    refine mp_a (a_iconst (v := 1) dX7_isCrease_15 rfl) (mpp 16 rfl ?_)
    obtain ⟨z18, h19⟩ := ti_ex (x15 - 1 : Int32)
    have wz18 := ti_full z18
    refine mp_t (s_isub (v := z18) dX7_isCrease_16 h19) (mpp 17 rfl ?_)
    try have e20 : z18.toInt = x15.toInt - 1 := ti_subz h19 rfl rfl (by omega) (by omega)
    refine mp_calls (i := 61) (q' := q_127) (As := [.int t2, .int 0, .int z18]) (rest := []) dX7_isCrease_17 rfl qm_127 (by decide) rfl (Nat.le_of_ble_eq_true rfl) rfl ⟨rfl, rfl⟩ ⟨Nat.le_of_ble_eq_true rfl, Nat.le_of_ble_eq_true rfl⟩ (EvP.mono (by decide) (c_M_isIn hT )) (fun r21 P22 g23 => mpp 20 rfl ?_)
    obtain ⟨⟨x24, rfl, g25⟩, e26⟩ := g23
    have e26 := e26.symm
    subst e26
    have wx24 := ti_full x24
    have g25 : 0 ≤ x24.toInt ∧ x24.toInt ≤ 1 ∧ ((x24.toInt = 1 ∧ (0 : Int) ≤ t2.toInt ∧ t2.toInt ≤ z18.toInt) ∨ (x24.toInt = 0 ∧ (t2.toInt < (0 : Int) ∨ z18.toInt < t2.toInt))) := g25
    show MEvP _ none q_143 20 [(0, .ref 301), (1, .int t1), (2, .int t2)] [.int x24] _ _ _ _
    refine mp_Tb (t := 27) (j_if_eq dX7_isCrease_20) (by decide) (fun c27 => ?_) (fun c27 => mpp 23 rfl ?_)
    · have c27 : x24.toInt = 0 := ti_eq c27
      refine mp_a (a_iconst (v := 0) dX7_isCrease_27 rfl) (mpp 28 rfl ?_)
      have u28 : 0 ≤ (0 : Int) ∧ (0 : Int) ≤ 1 ∧ ((0 : Int) = 0 ∨ (0 ≤ t1.toInt ∧ t1.toInt + 1 ≤ (fv Po 302 0).toInt ∧ t1.toInt ≤ 7 ∧ 0 ≤ t2.toInt ∧ t2.toInt ≤ 7 ∧ t2.toInt + 1 ≤ (fv Po 302 (4 + 19 * t1.toInt.toNat)).toInt)) := by omega
      exact mp_iret ⟨⟨_, rfl, u28⟩, rfl⟩ dX7_isCrease_28 (Or.inr ⟨rfl, by decide⟩)
    · have c27 : x24.toInt ≠ 0 := ti_eq_n c27
      refine mp_a (a_iconst (v := 1) dX7_isCrease_23 rfl) (mpp 24 rfl ?_)
      refine mp_a (a_goto (t := 28) dX7_isCrease_24 (by decide)) ?_
      have u29 : 0 ≤ (1 : Int) ∧ (1 : Int) ≤ 1 ∧ ((1 : Int) = 0 ∨ (0 ≤ t1.toInt ∧ t1.toInt + 1 ≤ (fv Po 302 0).toInt ∧ t1.toInt ≤ 7 ∧ 0 ≤ t2.toInt ∧ t2.toInt ≤ 7 ∧ t2.toInt + 1 ≤ (fv Po 302 (4 + 19 * t1.toInt.toNat)).toInt)) := by omega
      exact mp_iret ⟨⟨_, rfl, u29⟩, rfl⟩ dX7_isCrease_28 (Or.inr ⟨rfl, by decide⟩)

set_option maxHeartbeats 4000000 in
theorem c_M_creaseOf {Po : mP} {t1 : Int32} {t2 : Int32} (hT : Typ Po)  (hp0 : 0 ≤ t1.toInt) (hp1 : t1.toInt ≤ 7) (hp2 : 0 ≤ t2.toInt) (hp3 : t2.toInt ≤ 7)  : EvP 3 146 [.ref 301, .int t1, .int t2] Po (fun r P' => (∃ x : Int32, r = some (.int x) ∧ (x.toInt = (fv Po 302 (14 + 19 * t1.toInt.toNat + t2.toInt.toNat)).toInt)) ∧ P' = Po) := by
  refine EvP.of qm_146 (Nat.le_of_ble_eq_true rfl) rfl ?_
  show MEvP _ none q_146 0 [(0, .ref 301), (1, .int t1), (2, .int t2)] [] _ 0 0 _
  refine mp_a (a_aload_n dX7_creaseOf_0 rfl) (mpp 1 rfl ?_)
  refine mp_a (a_iload_n dX7_creaseOf_1 rfl) (mpp 2 rfl ?_)
  refine mp_a (a_bipush (v := 11) dX7_creaseOf_2 rfl) (mpp 4 rfl ?_)
  refine mp_a (a_iload_n dX7_creaseOf_4 rfl) (mpp 5 rfl ?_)
  obtain ⟨z1, h2⟩ := ti_ex (11 + t2 : Int32)
  have wz1 := ti_full z1
  refine mp_t (s_iadd (v := z1) dX7_creaseOf_5 h2) (mpp 6 rfl ?_)
  try have e3 : z1.toInt = 11 + t2.toInt := ti_addz h2 rfl rfl (by omega) (by omega)
  have p4 : 0 ≤ t1.toInt := by omega
  have p5 : t1.toInt ≤ 7 := by omega
  have p6 : 0 ≤ z1.toInt := by omega
  have p7 : z1.toInt ≤ 18 := by omega
  refine mt_callv (i := 78) (q' := q_137) (As := [.int t1, .int z1]) (rest := []) hT dX7_creaseOf_6 rfl qm_137 (by decide) rfl rl_301 (by decide) rfl (Nat.le_of_ble_eq_true rfl) rfl ⟨rfl, rfl⟩ ⟨Nat.le_of_ble_eq_true rfl, Nat.le_of_ble_eq_true rfl⟩ (EvP.mono (by decide) (c_M_of hT p4 p5 p6 p7 )) (fun r8 P9 g10 => mpp 9 rfl ?_)
  obtain ⟨⟨x11, rfl, g12⟩, e13⟩ := g10
  have e13 := e13.symm
  subst e13
  have wx11 := ti_full x11
  have g12 : x11.toInt = (fv Po 302 (3 + 19 * t1.toInt.toNat + z1.toInt.toNat)).toInt := g12
  show MEvP _ none q_146 9 [(0, .ref 301), (1, .int t1), (2, .int t2)] [.int x11] _ _ _ _
  have u14 : x11.toInt = (fv Po 302 (14 + 19 * t1.toInt.toNat + t2.toInt.toNat)).toInt := g12.trans (congrArg (fun k => (fv Po 302 k).toInt) (by omega))
  exact mp_iret ⟨⟨_, rfl, u14⟩, rfl⟩ dX7_creaseOf_9 (Or.inl rfl)

set_option maxHeartbeats 4000000 in
theorem c_M_marks {Po : mP} {t1 : Int32} {t2 : Int32} {t3 : Int32} (hT : Typ Po) (hR : Rel Po)  : EvP 6 142 [.ref 301, .int t1, .int t2, .int t3] Po (fun r P' => (∃ x : Int32, r = some (.int x) ∧ (True)) ∧ Typ P' ∧ KW [1093, 1094, 1152] Po P' ∧ Rel P') := by
  refine EvP.of qm_142 (Nat.le_of_ble_eq_true rfl) rfl ?_
  show MEvP _ none q_142 0 [(0, .ref 301), (1, .int t1), (2, .int t2), (3, .int t3)] [] _ 0 0 _
  refine mp_a (a_aload_n dX7_marks_0 rfl) (mpp 1 rfl ?_)
  refine mp_a (a_iload_n dX7_marks_1 rfl) (mpp 2 rfl ?_)
  refine mp_a (a_iload_n dX7_marks_2 rfl) (mpp 3 rfl ?_)
  refine mt_callv (i := 127) (q' := q_143) (As := [.int t1, .int t2]) (rest := []) hT dX7_marks_3 rfl qm_143 (by decide) rfl rl_301 (by decide) rfl (Nat.le_of_ble_eq_true rfl) rfl ⟨rfl, rfl⟩ ⟨Nat.le_of_ble_eq_true rfl, Nat.le_of_ble_eq_true rfl⟩ (EvP.mono (by decide) (c_M_isCrease hT )) (fun r1 P2 g3 => mpp 6 rfl ?_)
  obtain ⟨⟨x4, rfl, g5⟩, e6⟩ := g3
  have e6 := e6.symm
  subst e6
  have wx4 := ti_full x4
  have g5 : 0 ≤ x4.toInt ∧ x4.toInt ≤ 1 ∧ (x4.toInt = 0 ∨ (0 ≤ t1.toInt ∧ t1.toInt + 1 ≤ (fv Po 302 0).toInt ∧ t1.toInt ≤ 7 ∧ 0 ≤ t2.toInt ∧ t2.toInt ≤ 7 ∧ t2.toInt + 1 ≤ (fv Po 302 (4 + 19 * t1.toInt.toNat)).toInt)) := g5
  have g7 : (0 : Int) ≤ (fv Po 302 0).toInt ∧ (fv Po 302 0).toInt ≤ 8 := Typ.rng hT rl_302 (by decide) (by decide) rfl
  show MEvP _ none q_142 6 [(0, .ref 301), (1, .int t1), (2, .int t2), (3, .int t3)] [.int x4] _ _ _ _
  refine mp_Tb (t := 13) (j_if_ne dX7_marks_6) (by decide) (fun c8 => ?_) (fun c8 => mpp 9 rfl ?_)
  · have c8 : x4.toInt ≠ 0 := ti_ne c8
    refine mp_a (a_iload_n dX7_marks_13 rfl) (mpp 14 rfl ?_)
    refine mp_a (a_iconst (v := 0) dX7_marks_14 rfl) (mpp 15 rfl ?_)
    refine mp_a (a_iconst (v := 2) dX7_marks_15 rfl) (mpp 16 rfl ?_)
    refine mp_calls (i := 61) (q' := q_127) (As := [.int t3, .int 0, .int 2]) (rest := []) dX7_marks_16 rfl qm_127 (by decide) rfl (Nat.le_of_ble_eq_true rfl) rfl ⟨rfl, rfl⟩ ⟨Nat.le_of_ble_eq_true rfl, Nat.le_of_ble_eq_true rfl⟩ (EvP.mono (by decide) (c_M_isIn hT )) (fun r9 P10 g11 => mpp 19 rfl ?_)
    obtain ⟨⟨x12, rfl, g13⟩, e14⟩ := g11
    have e14 := e14.symm
    subst e14
    have wx12 := ti_full x12
    have g13 : 0 ≤ x12.toInt ∧ x12.toInt ≤ 1 ∧ ((x12.toInt = 1 ∧ (0 : Int) ≤ t3.toInt ∧ t3.toInt ≤ (2 : Int)) ∨ (x12.toInt = 0 ∧ (t3.toInt < (0 : Int) ∨ (2 : Int) < t3.toInt))) := g13
    show MEvP _ none q_142 19 [(0, .ref 301), (1, .int t1), (2, .int t2), (3, .int t3)] [.int x12] _ _ _ _
    refine mp_Tb (t := 26) (j_if_ne dX7_marks_19) (by decide) (fun c15 => ?_) (fun c15 => mpp 22 rfl ?_)
    · have c15 : x12.toInt ≠ 0 := ti_ne c15
      refine mp_a (a_aload_n dX7_marks_26 rfl) (mpp 27 rfl ?_)
      refine mp_a (a_iload_n dX7_marks_27 rfl) (mpp 28 rfl ?_)
      have p16 : 0 ≤ t1.toInt := by omega
      have p17 : t1.toInt ≤ 7 := by omega
      refine mt_callv (i := 130) (q' := q_145) (As := [.int t1]) (rest := []) hT dX7_marks_28 rfl qm_145 (by decide) rfl rl_301 (by decide) rfl (Nat.le_of_ble_eq_true rfl) rfl ⟨rfl, rfl⟩ ⟨Nat.le_of_ble_eq_true rfl, Nat.le_of_ble_eq_true rfl⟩ (EvP.mono (by decide) (c_M_isFolded hT p16 p17 )) (fun r18 P19 g20 => mpp 31 rfl ?_)
      obtain ⟨⟨x21, rfl, g22⟩, e23⟩ := g20
      have e23 := e23.symm
      subst e23
      have wx21 := ti_full x21
      have g22 : 0 ≤ x21.toInt ∧ x21.toInt ≤ 1 := g22
      show MEvP _ none q_142 31 [(0, .ref 301), (1, .int t1), (2, .int t2), (3, .int t3)] [.int x21] _ _ _ _
      refine mp_Tb (t := 41) (j_if_eq dX7_marks_31) (by decide) (fun c24 => ?_) (fun c24 => mpp 34 rfl ?_)
      · have c24 : x21.toInt = 0 := ti_eq c24
        refine mp_a (a_aload_n dX7_marks_41 rfl) (mpp 42 rfl ?_)
        refine mp_a (a_iload_n dX7_marks_42 rfl) (mpp 43 rfl ?_)
        refine mp_a (a_iload_n dX7_marks_43 rfl) (mpp 44 rfl ?_)
        have p25 : 0 ≤ t1.toInt := by omega
        have p26 : t1.toInt ≤ 7 := by omega
        have p27 : 0 ≤ t2.toInt := by omega
        have p28 : t2.toInt ≤ 7 := by omega
        refine mt_callv (i := 92) (q' := q_146) (As := [.int t1, .int t2]) (rest := []) hT dX7_marks_44 rfl qm_146 (by decide) rfl rl_301 (by decide) rfl (Nat.le_of_ble_eq_true rfl) rfl ⟨rfl, rfl⟩ ⟨Nat.le_of_ble_eq_true rfl, Nat.le_of_ble_eq_true rfl⟩ (EvP.mono (by decide) (c_M_creaseOf hT p25 p26 p27 p28 )) (fun r29 P30 g31 => mpp 47 rfl ?_)
        obtain ⟨⟨x32, rfl, g33⟩, e34⟩ := g31
        have e34 := e34.symm
        subst e34
        have wx32 := ti_full x32
        have g33 : x32.toInt = (fv Po 302 (14 + 19 * t1.toInt.toNat + t2.toInt.toNat)).toInt := g33
        show MEvP _ none q_142 47 [(0, .ref 301), (1, .int t1), (2, .int t2), (3, .int t3)] [.int x32] _ _ _ _
        refine mp_a (a_istore (L' := [(4, .int x32), (0, .ref 301), (1, .int t1), (2, .int t2), (3, .int t3)]) dX7_marks_47 (by decide) rfl) (mpp 49 rfl ?_)
        refine mp_a (a_aload_n dX7_marks_49 rfl) (mpp 50 rfl ?_)
        refine mt_getU (i := 9) (k := 0) (A := 302) hT dX7_marks_50 rfl rl_301 (by decide) rfl (by decide) rfl un_18 (mpp 53 rfl ?_)
        refine mp_a (a_iload_n dX7_marks_53 rfl) (mpp 54 rfl ?_)
        refine mp_a (a_bipush (v := 11) dX7_marks_54 rfl) (mpp 56 rfl ?_)
        refine mp_a (a_iload_n dX7_marks_56 rfl) (mpp 57 rfl ?_)
        obtain ⟨z35, h36⟩ := ti_ex (11 + t2 : Int32)
        have wz35 := ti_full z35
        refine mp_t (s_iadd (v := z35) dX7_marks_57 h36) (mpp 58 rfl ?_)
        try have e37 : z35.toInt = 11 + t2.toInt := ti_addz h36 rfl rfl (by omega) (by omega)
        have p38 : 0 ≤ t1.toInt := by omega
        have p39 : t1.toInt ≤ 8 := by omega
        have p40 : 0 ≤ z35.toInt := by omega
        have p41 : z35.toInt ≤ 20 := by omega
        refine mp_calls (i := 74) (q' := q_135) (As := [.int t1, .int z35]) (rest := [.ref 302]) dX7_marks_58 rfl qm_135 (by decide) rfl (Nat.le_of_ble_eq_true rfl) rfl ⟨rfl, rfl⟩ ⟨Nat.le_of_ble_eq_true rfl, Nat.le_of_ble_eq_true rfl⟩ (EvP.mono (by decide) (c_M_at hT p38 p39 p40 p41 )) (fun r42 P43 g44 => mpp 61 rfl ?_)
        obtain ⟨⟨x45, rfl, g46⟩, e47⟩ := g44
        have e47 := e47.symm
        subst e47
        have wx45 := ti_full x45
        have g46 : x45.toInt = 3 + 19 * t1.toInt + z35.toInt := g46
        show MEvP _ none q_142 61 [(4, .int x32), (0, .ref 301), (1, .int t1), (2, .int t2), (3, .int t3)] [.int x45, .ref 302] _ _ _ _
        refine mp_a (a_iload_n dX7_marks_61 rfl) (mpp 62 rfl ?_)
        refine mt_iasX (n := 155) hT dX7_marks_62 rl_302 (by decide) rfl rfl (by omega) (by omega) (okS_mk (by omega) (fun _ => ⟨by omega, by omega⟩) (fun _ => ⟨by omega, by omega⟩)) (fun P48 hT49 f50 f51 => mpp 63 rfl ?_)
        have k52 : KW [1093, 1094, 1152] Po P48 := KW.step KW.refl rl_302 rfl f51
        have R53 := Rel.oth hR f51 (by omega)
        refine mp_a (a_iload dX7_marks_63 rfl) (mpp 65 rfl ?_)
        exact mp_iret ⟨⟨_, rfl, trivial⟩, hT49, k52, R53⟩ dX7_marks_65 (Or.inl rfl)
      · have c24 : x21.toInt ≠ 0 := ti_eq_n c24
        refine mp_a (a_aload_n dX7_marks_34 rfl) (mpp 35 rfl ?_)
        refine mp_a (a_iconst (v := 2) dX7_marks_35 rfl) (mpp 36 rfl ?_)
        refine mp_a (a_iload_n dX7_marks_36 rfl) (mpp 37 rfl ?_)
        refine mt_callv (i := 101) (q' := q_134) (As := [.int 2, .int t1]) (rest := []) hT dX7_marks_37 rfl qm_134 (by decide) rfl rl_301 (by decide) rfl (Nat.le_of_ble_eq_true rfl) rfl ⟨rfl, rfl⟩ ⟨Nat.le_of_ble_eq_true rfl, Nat.le_of_ble_eq_true rfl⟩ (EvP.mono (by decide) (c_M_refuses hT )) (fun r54 P55 g56 => mpp 40 rfl ?_)
        obtain ⟨⟨x57, rfl, g58⟩, hT59, k60, R61⟩ := g56
        have k62 : KW [1093, 1094, 1152] Po P55 := KW.trans KW.refl k60 rfl
        have R63 := Rel.kw hR k60 rfl
        have wx57 := ti_full x57
        show MEvP _ none q_142 40 [(0, .ref 301), (1, .int t1), (2, .int t2), (3, .int t3)] [.int x57] _ _ _ _
        exact mp_iret ⟨⟨_, rfl, trivial⟩, hT59, k62, R63⟩ dX7_marks_40 (Or.inl rfl)
    · have c15 : x12.toInt = 0 := ti_ne_n c15
      refine mp_a (a_sipush (v := -1002) dX7_marks_22 rfl) (mpp 25 rfl ?_)
      exact mp_iret ⟨⟨_, rfl, trivial⟩, hT, KW.refl, hR⟩ dX7_marks_25 (Or.inl rfl)
  · have c8 : x4.toInt = 0 := ti_ne_n c8
    refine mp_a (a_sipush (v := -1001) dX7_marks_9 rfl) (mpp 12 rfl ?_)
    exact mp_iret ⟨⟨_, rfl, trivial⟩, hT, KW.refl, hR⟩ dX7_marks_12 (Or.inl rfl)

set_option maxHeartbeats 4000000 in
theorem c_M_mark {Po : mP} {t1 : Int32} {t2 : Int32} {t3 : Int32} (hT : Typ Po) (hR : Rel Po)  : EvP 7 141 [.ref 301, .int t1, .int t2, .int t3] Po (fun r P' => (∃ x : Int32, r = some (.int x) ∧ (True)) ∧ Typ P' ∧ KW [1092, 1093, 1094, 1095, 1152, 1216, 1344] Po P' ∧ Rel P') := by
  refine EvP.of qm_141 (Nat.le_of_ble_eq_true rfl) rfl ?_
  show MEvP _ none q_141 0 [(0, .ref 301), (1, .int t1), (2, .int t2), (3, .int t3)] [] _ 0 0 _
  refine mp_a (a_aload_n dX7_mark_0 rfl) (mpp 1 rfl ?_)
  refine mt_callv (i := 117) (q' := q_124) (As := []) (rest := []) hT dX7_mark_1 rfl qm_124 (by decide) rfl rl_301 (by decide) rfl (Nat.le_of_ble_eq_true rfl) rfl ⟨rfl, rfl⟩ ⟨Nat.le_of_ble_eq_true rfl, Nat.le_of_ble_eq_true rfl⟩ (EvP.mono (by decide) (c_M_keeps hT hR )) (fun r1 P2 g3 => mpp 4 rfl ?_)
  obtain ⟨⟨rfl, g5⟩, hT6, k7, R8⟩ := g3
  have k9 : KW [1092, 1093, 1094, 1095, 1152, 1216, 1344] Po P2 := KW.trans KW.refl k7 rfl
  show MEvP _ none q_141 4 [(0, .ref 301), (1, .int t1), (2, .int t2), (3, .int t3)] [] _ _ _ _
  refine mp_a (a_aload_n dX7_mark_4 rfl) (mpp 5 rfl ?_)
  refine mp_a (a_aload_n dX7_mark_5 rfl) (mpp 6 rfl ?_)
  refine mp_a (a_iload_n dX7_mark_6 rfl) (mpp 7 rfl ?_)
  refine mp_a (a_iload_n dX7_mark_7 rfl) (mpp 8 rfl ?_)
  refine mp_a (a_iload_n dX7_mark_8 rfl) (mpp 9 rfl ?_)
  refine mt_callv (i := 133) (q' := q_142) (As := [.int t1, .int t2, .int t3]) (rest := [.ref 301]) hT6 dX7_mark_9 rfl qm_142 (by decide) rfl rl_301 (by decide) rfl (Nat.le_of_ble_eq_true rfl) rfl ⟨rfl, rfl⟩ ⟨Nat.le_of_ble_eq_true rfl, Nat.le_of_ble_eq_true rfl⟩ (EvP.mono (by decide) (c_M_marks hT6 R8 )) (fun r10 P11 g12 => mpp 12 rfl ?_)
  obtain ⟨⟨x13, rfl, g14⟩, hT15, k16, R17⟩ := g12
  have k18 : KW [1092, 1093, 1094, 1095, 1152, 1216, 1344] Po P11 := KW.trans k9 k16 rfl
  have wx13 := ti_full x13
  show MEvP _ none q_141 12 [(0, .ref 301), (1, .int t1), (2, .int t2), (3, .int t3)] [.int x13, .ref 301] _ _ _ _
  refine mt_callv (i := 124) (q' := q_139) (As := [.int x13]) (rest := []) hT15 dX7_mark_12 rfl qm_139 (by decide) rfl rl_301 (by decide) rfl (Nat.le_of_ble_eq_true rfl) rfl ⟨rfl, rfl⟩ ⟨Nat.le_of_ble_eq_true rfl, Nat.le_of_ble_eq_true rfl⟩ (EvP.mono (by decide) (c_M_ends hT15 R17 )) (fun r19 P20 g21 => mpp 15 rfl ?_)
  obtain ⟨⟨x22, rfl, g23⟩, hT24, k25, R26⟩ := g21
  have k27 : KW [1092, 1093, 1094, 1095, 1152, 1216, 1344] Po P20 := KW.trans k18 k25 rfl
  have wx22 := ti_full x22
  show MEvP _ none q_141 15 [(0, .ref 301), (1, .int t1), (2, .int t2), (3, .int t3)] [.int x22] _ _ _ _
  exact mp_iret ⟨⟨_, rfl, trivial⟩, hT24, k27, R26⟩ dX7_mark_15 (Or.inl rfl)

set_option maxHeartbeats 4000000 in
theorem c_M_countOf_l5 {Po : mP} {t1 : Int32} {t2 : Int32} (hT : Typ Po)  (hp0 : 0 ≤ t1.toInt) (hp1 : t1.toInt ≤ 7)  : ∀ (n : Nat) (v3 : Int32) (v4 : Int32), (v3.toInt ≤ 0 ∨ UD Po t1.toInt.toNat t2.toInt) → (0 ≤ v4.toInt) → (2147483647 - v4.toInt).toNat = n → MEvP 4 none q_149 5 [(0, .ref 301), (1, .int t1), (2, .int t2), (3, .int v3), (4, .int v4)] [] Po 0 0 (fun r P' => (∃ x : Int32, r = some (.int x) ∧ (x.toInt ≤ 0 ∨ UD Po t1.toInt.toNat t2.toInt)) ∧ P' = Po) := by
  intro n
  induction n using Nat.strongRecOn with | _ n ih => ?_
  intro v3 v4 i_0 i_1 hm
  have w_v3 := ti_full v3
  have w_v4 := ti_full v4
  refine mp_a (a_iload dX7_countOf_5 rfl) (mpp 7 rfl ?_)
  refine mp_a (a_aload_n dX7_countOf_7 rfl) (mpp 8 rfl ?_)
  refine mp_a (a_iload_n dX7_countOf_8 rfl) (mpp 9 rfl ?_)
  have p1 : 0 ≤ t1.toInt := by omega
  have p2 : t1.toInt ≤ 7 := by omega
  refine mt_callv (i := 88) (q' := q_136) (As := [.int t1]) (rest := [.int v4]) hT dX7_countOf_9 rfl qm_136 (by decide) rfl rl_301 (by decide) rfl (Nat.le_of_ble_eq_true rfl) rfl ⟨rfl, rfl⟩ ⟨Nat.le_of_ble_eq_true rfl, Nat.le_of_ble_eq_true rfl⟩ (EvP.mono (by decide) (c_M_creases hT p1 p2 )) (fun r3 P4 g5 => mpp 12 rfl ?_)
  obtain ⟨⟨x6, rfl, g7⟩, e8⟩ := g5
  have e8 := e8.symm
  subst e8
  have wx6 := ti_full x6
  have g7 : -1 ≤ x6.toInt ∧ x6.toInt ≤ 8 ∧ x6.toInt ≤ (fv Po 302 (4 + 19 * t1.toInt.toNat)).toInt := g7
  show MEvP _ none q_149 12 [(0, .ref 301), (1, .int t1), (2, .int t2), (3, .int v3), (4, .int v4)] [.int x6, .int v4] _ _ _ _
  refine mp_Tb (t := 40) (j_icmp_ge dX7_countOf_12) (by decide) (fun c9 => ?_) (fun c9 => mpp 15 rfl ?_)
  · have c9 : v4.toInt ≥ x6.toInt := ti_ge c9
    refine mp_a (a_iload_n dX7_countOf_40 rfl) (mpp 41 rfl ?_)
    have u10 : v3.toInt ≤ 0 ∨ UD Po t1.toInt.toNat t2.toInt := i_0
    exact mp_iret ⟨⟨_, rfl, u10⟩, rfl⟩ dX7_countOf_41 (Or.inl rfl)
  · have c9 : v4.toInt < x6.toInt := ti_ge_n c9
    refine mp_a (a_iload_n dX7_countOf_15 rfl) (mpp 16 rfl ?_)
    refine mp_a (a_aload_n dX7_countOf_16 rfl) (mpp 17 rfl ?_)
    refine mp_a (a_iload_n dX7_countOf_17 rfl) (mpp 18 rfl ?_)
    refine mp_a (a_iload dX7_countOf_18 rfl) (mpp 20 rfl ?_)
    have p11 : 0 ≤ t1.toInt := by omega
    have p12 : t1.toInt ≤ 7 := by omega
    have p13 : 0 ≤ v4.toInt := by omega
    have p14 : v4.toInt ≤ 7 := by omega
    refine mt_callv (i := 92) (q' := q_146) (As := [.int t1, .int v4]) (rest := [.int v3]) hT dX7_countOf_20 rfl qm_146 (by decide) rfl rl_301 (by decide) rfl (Nat.le_of_ble_eq_true rfl) rfl ⟨rfl, rfl⟩ ⟨Nat.le_of_ble_eq_true rfl, Nat.le_of_ble_eq_true rfl⟩ (EvP.mono (by decide) (c_M_creaseOf hT p11 p12 p13 p14 )) (fun r15 P16 g17 => mpp 23 rfl ?_)
    obtain ⟨⟨x18, rfl, g19⟩, e20⟩ := g17
    have e20 := e20.symm
    subst e20
    have wx18 := ti_full x18
    have g19 : x18.toInt = (fv Po 302 (14 + 19 * t1.toInt.toNat + v4.toInt.toNat)).toInt := g19
    show MEvP _ none q_149 23 [(0, .ref 301), (1, .int t1), (2, .int t2), (3, .int v3), (4, .int v4)] [.int x18, .int v3] _ _ _ _
    refine mp_a (a_iload_n dX7_countOf_23 rfl) (mpp 24 rfl ?_)
    refine mp_Tb (t := 31) (j_icmp_ne dX7_countOf_24) (by decide) (fun c21 => ?_) (fun c21 => mpp 27 rfl ?_)
    · have c21 : x18.toInt ≠ t2.toInt := ti_ne c21
      refine mp_a (a_iconst (v := 0) dX7_countOf_31 rfl) (mpp 32 rfl ?_)
      obtain ⟨z22, h23⟩ := ti_ex (v3 + 0 : Int32)
      have wz22 := ti_full z22
      refine mp_t (s_iadd (v := z22) dX7_countOf_32 h23) (mpp 33 rfl ?_)
      try have e24 : z22.toInt = v3.toInt + 0 := ti_addz h23 rfl rfl (by omega) (by omega)
      refine mp_a (a_istore_n (L' := [(3, .int z22), (0, .ref 301), (1, .int t1), (2, .int t2), (4, .int v4)]) dX7_countOf_33 (by decide) rfl) (mpp 34 rfl ?_)
      obtain ⟨z25, h26⟩ := ti_ex (v4 + 1 : Int32)
      have wz25 := ti_full z25
      refine mp_a (a_iinc (v := z25) (L' := [(4, .int z25), (3, .int z22), (0, .ref 301), (1, .int t1), (2, .int t2)]) dX7_countOf_34 (by decide) rfl h26 rfl) (mpp 37 rfl ?_)
      try have e27 : z25.toInt = v4.toInt + 1 := ti_addz h26 rfl rfl (by omega) (by omega)
      refine mp_a (a_goto (t := 5) dX7_countOf_37 (by decide)) ?_
      refine MEvP.less (L := [(0, .ref 301), (1, .int t1), (2, .int t2), (3, .int z22), (4, .int z25)]) rfl rfl ⟨rfl, rfl, rfl, rfl, rfl, trivial⟩ ?_
      have i28 : z22.toInt ≤ 0 ∨ UD Po t1.toInt.toNat t2.toInt := by first | exact Or.inl (by omega) | exact Or.inr ⟨v4.toInt.toNat, by omega, by omega⟩ | exact i_0.imp (fun h => by omega) id
      have i29 : 0 ≤ z25.toInt := by omega
      exact ih _ (by omega) _ _ i28 i29 rfl
    · have c21 : x18.toInt = t2.toInt := ti_ne_n c21
      refine mp_a (a_iconst (v := 1) dX7_countOf_27 rfl) (mpp 28 rfl ?_)
      refine mp_a (a_goto (t := 32) dX7_countOf_28 (by decide)) ?_
      obtain ⟨z30, h31⟩ := ti_ex (v3 + 1 : Int32)
      have wz30 := ti_full z30
      refine mp_t (s_iadd (v := z30) dX7_countOf_32 h31) (mpp 33 rfl ?_)
      try have e32 : z30.toInt = v3.toInt + 1 := ti_addz h31 rfl rfl (by omega) (by omega)
      refine mp_a (a_istore_n (L' := [(3, .int z30), (0, .ref 301), (1, .int t1), (2, .int t2), (4, .int v4)]) dX7_countOf_33 (by decide) rfl) (mpp 34 rfl ?_)
      obtain ⟨z33, h34⟩ := ti_ex (v4 + 1 : Int32)
      have wz33 := ti_full z33
      refine mp_a (a_iinc (v := z33) (L' := [(4, .int z33), (3, .int z30), (0, .ref 301), (1, .int t1), (2, .int t2)]) dX7_countOf_34 (by decide) rfl h34 rfl) (mpp 37 rfl ?_)
      try have e35 : z33.toInt = v4.toInt + 1 := ti_addz h34 rfl rfl (by omega) (by omega)
      refine mp_a (a_goto (t := 5) dX7_countOf_37 (by decide)) ?_
      refine MEvP.less (L := [(0, .ref 301), (1, .int t1), (2, .int t2), (3, .int z30), (4, .int z33)]) rfl rfl ⟨rfl, rfl, rfl, rfl, rfl, trivial⟩ ?_
      have i36 : z30.toInt ≤ 0 ∨ UD Po t1.toInt.toNat t2.toInt := by first | exact Or.inl (by omega) | exact Or.inr ⟨v4.toInt.toNat, by omega, by omega⟩ | exact i_0.imp (fun h => by omega) id
      have i37 : 0 ≤ z33.toInt := by omega
      exact ih _ (by omega) _ _ i36 i37 rfl

set_option maxHeartbeats 4000000 in
theorem c_M_countOf {Po : mP} {t1 : Int32} {t2 : Int32} (hT : Typ Po)  (hp0 : 0 ≤ t1.toInt) (hp1 : t1.toInt ≤ 7)  : EvP 5 149 [.ref 301, .int t1, .int t2] Po (fun r P' => (∃ x : Int32, r = some (.int x) ∧ (x.toInt ≤ 0 ∨ UD Po t1.toInt.toNat t2.toInt)) ∧ P' = Po) := by
  refine EvP.of qm_149 (Nat.le_of_ble_eq_true rfl) rfl ?_
  show MEvP _ none q_149 0 [(0, .ref 301), (1, .int t1), (2, .int t2)] [] _ 0 0 _
  refine mp_a (a_iconst (v := 0) dX7_countOf_0 rfl) (mpp 1 rfl ?_)
  refine mp_a (a_istore_n (L' := [(3, .int 0), (0, .ref 301), (1, .int t1), (2, .int t2)]) dX7_countOf_1 (by decide) rfl) (mpp 2 rfl ?_)
  refine mp_a (a_iconst (v := 0) dX7_countOf_2 rfl) (mpp 3 rfl ?_)
  refine mp_a (a_istore (L' := [(4, .int 0), (3, .int 0), (0, .ref 301), (1, .int t1), (2, .int t2)]) dX7_countOf_3 (by decide) rfl) (mpp 5 rfl ?_)
  refine MEvP.less (L := [(0, .ref 301), (1, .int t1), (2, .int t2), (3, .int 0), (4, .int 0)]) rfl rfl ⟨rfl, rfl, rfl, rfl, rfl, trivial⟩ ?_
  have i1 : (0 : Int) ≤ 0 ∨ UD Po t1.toInt.toNat t2.toInt := Or.inl (by omega)
  have i2 : 0 ≤ (0 : Int) := by omega
  exact c_M_countOf_l5 hT hp0 hp1 _ _ _ i1 i2 rfl

set_option maxHeartbeats 4000000 in
theorem c_M_turns_l29 {Po : mP} {t1 : Int32}  : ∀ (n : Nat) (v2 : Int32), ∀ (P : mP), Typ P → KW [1093, 1094, 1152] Po P → Rel P → (0 ≤ t1.toInt) → (t1.toInt ≤ 7) → (0 ≤ v2.toInt) → (2147483647 - v2.toInt).toNat = n → MEvP 5 none q_148 29 [(0, .ref 301), (1, .int t1), (2, .int v2)] [] P 0 0 (fun r P' => (∃ x : Int32, r = some (.int x) ∧ (True)) ∧ Typ P' ∧ KW [1093, 1094, 1152] Po P' ∧ Rel P') := by
  intro n
  induction n using Nat.strongRecOn with | _ n ih => ?_
  intro v2 P hT hK hR i_0 i_1 i_2 hm
  have w_v2 := ti_full v2
  refine mp_a (a_iload_n dX7_turns_29 rfl) (mpp 30 rfl ?_)
  refine mp_a (a_aload_n dX7_turns_30 rfl) (mpp 31 rfl ?_)
  refine mp_a (a_iload_n dX7_turns_31 rfl) (mpp 32 rfl ?_)
  have p1 : 0 ≤ t1.toInt := by omega
  have p2 : t1.toInt ≤ 7 := by omega
  refine mt_callv (i := 88) (q' := q_136) (As := [.int t1]) (rest := [.int v2]) hT dX7_turns_32 rfl qm_136 (by decide) rfl rl_301 (by decide) rfl (Nat.le_of_ble_eq_true rfl) rfl ⟨rfl, rfl⟩ ⟨Nat.le_of_ble_eq_true rfl, Nat.le_of_ble_eq_true rfl⟩ (EvP.mono (by decide) (c_M_creases hT p1 p2 )) (fun r3 P4 g5 => mpp 35 rfl ?_)
  obtain ⟨⟨x6, rfl, g7⟩, e8⟩ := g5
  have e8 := e8.symm
  subst e8
  have wx6 := ti_full x6
  have g7 : -1 ≤ x6.toInt ∧ x6.toInt ≤ 8 ∧ x6.toInt ≤ (fv P 302 (4 + 19 * t1.toInt.toNat)).toInt := g7
  show MEvP _ none q_148 35 [(0, .ref 301), (1, .int t1), (2, .int v2)] [.int x6, .int v2] _ _ _ _
  refine mp_Tb (t := 75) (j_icmp_ge dX7_turns_35) (by decide) (fun c9 => ?_) (fun c9 => mpp 38 rfl ?_)
  · have c9 : v2.toInt ≥ x6.toInt := ti_ge c9
    refine mp_a (a_aload_n dX7_turns_75 rfl) (mpp 76 rfl ?_)
    refine mp_a (a_iload_n dX7_turns_76 rfl) (mpp 77 rfl ?_)
    have p10 : 0 ≤ t1.toInt := by omega
    have p11 : t1.toInt ≤ 7 := by omega
    refine mt_callv (i := 88) (q' := q_136) (As := [.int t1]) (rest := []) hT dX7_turns_77 rfl qm_136 (by decide) rfl rl_301 (by decide) rfl (Nat.le_of_ble_eq_true rfl) rfl ⟨rfl, rfl⟩ ⟨Nat.le_of_ble_eq_true rfl, Nat.le_of_ble_eq_true rfl⟩ (EvP.mono (by decide) (c_M_creases hT p10 p11 )) (fun r12 P13 g14 => mpp 80 rfl ?_)
    obtain ⟨⟨x15, rfl, g16⟩, e17⟩ := g14
    have e17 := e17.symm
    subst e17
    have wx15 := ti_full x15
    have g16 : -1 ≤ x15.toInt ∧ x15.toInt ≤ 8 ∧ x15.toInt ≤ (fv P 302 (4 + 19 * t1.toInt.toNat)).toInt := g16
    show MEvP _ none q_148 80 [(0, .ref 301), (1, .int t1), (2, .int v2)] [.int x15] _ _ _ _
    refine mp_a (a_aload_n dX7_turns_80 rfl) (mpp 81 rfl ?_)
    refine mp_a (a_iload_n dX7_turns_81 rfl) (mpp 82 rfl ?_)
    refine mp_a (a_iconst (v := 0) dX7_turns_82 rfl) (mpp 83 rfl ?_)
    have p18 : 0 ≤ t1.toInt := by omega
    have p19 : t1.toInt ≤ 7 := by omega
    refine mt_callv (i := 136) (q' := q_149) (As := [.int t1, .int 0]) (rest := [.int x15]) hT dX7_turns_83 rfl qm_149 (by decide) rfl rl_301 (by decide) rfl (Nat.le_of_ble_eq_true rfl) rfl ⟨rfl, rfl⟩ ⟨Nat.le_of_ble_eq_true rfl, Nat.le_of_ble_eq_true rfl⟩ (EvP.mono (by decide) (c_M_countOf hT p18 p19 )) (fun r20 P21 g22 => mpp 86 rfl ?_)
    obtain ⟨⟨x23, rfl, g24⟩, e25⟩ := g22
    have e25 := e25.symm
    subst e25
    have wx23 := ti_full x23
    have g24 : x23.toInt ≤ 0 ∨ UD P t1.toInt.toNat (0 : Int) := g24
    show MEvP _ none q_148 86 [(0, .ref 301), (1, .int t1), (2, .int v2)] [.int x23, .int x15] _ _ _ _
    obtain ⟨z26, h27⟩ := ti_ex (x15 - x23 : Int32)
    have wz26 := ti_full z26
    refine mp_t (s_isub (v := z26) dX7_turns_86 h27) (mpp 87 rfl ?_)
    try have e28 : z26.toInt = x15.toInt - x23.toInt := ti_subz h27 rfl rfl (by omega) (by omega)
    exact mp_iret ⟨⟨_, rfl, trivial⟩, hT, hK, hR⟩ dX7_turns_87 (Or.inl rfl)
  · have c9 : v2.toInt < x6.toInt := ti_ge_n c9
    refine mp_a (a_aload_n dX7_turns_38 rfl) (mpp 39 rfl ?_)
    refine mp_a (a_iload_n dX7_turns_39 rfl) (mpp 40 rfl ?_)
    refine mp_a (a_iload_n dX7_turns_40 rfl) (mpp 41 rfl ?_)
    have p29 : 0 ≤ t1.toInt := by omega
    have p30 : t1.toInt ≤ 7 := by omega
    have p31 : 0 ≤ v2.toInt := by omega
    have p32 : v2.toInt ≤ 7 := by omega
    refine mt_callv (i := 92) (q' := q_146) (As := [.int t1, .int v2]) (rest := []) hT dX7_turns_41 rfl qm_146 (by decide) rfl rl_301 (by decide) rfl (Nat.le_of_ble_eq_true rfl) rfl ⟨rfl, rfl⟩ ⟨Nat.le_of_ble_eq_true rfl, Nat.le_of_ble_eq_true rfl⟩ (EvP.mono (by decide) (c_M_creaseOf hT p29 p30 p31 p32 )) (fun r33 P34 g35 => mpp 44 rfl ?_)
    obtain ⟨⟨x36, rfl, g37⟩, e38⟩ := g35
    have e38 := e38.symm
    subst e38
    have wx36 := ti_full x36
    have g37 : x36.toInt = (fv P 302 (14 + 19 * t1.toInt.toNat + v2.toInt.toNat)).toInt := g37
    show MEvP _ none q_148 44 [(0, .ref 301), (1, .int t1), (2, .int v2)] [.int x36] _ _ _ _
    refine mp_a (a_istore_n (L' := [(3, .int x36), (0, .ref 301), (1, .int t1), (2, .int v2)]) dX7_turns_44 (by decide) rfl) (mpp 45 rfl ?_)
    refine mp_a (a_aload_n dX7_turns_45 rfl) (mpp 46 rfl ?_)
    refine mt_getU (i := 9) (k := 0) (A := 302) hT dX7_turns_46 rfl rl_301 (by decide) rfl (by decide) rfl un_18 (mpp 49 rfl ?_)
    refine mp_a (a_iload_n dX7_turns_49 rfl) (mpp 50 rfl ?_)
    refine mp_a (a_bipush (v := 11) dX7_turns_50 rfl) (mpp 52 rfl ?_)
    refine mp_a (a_iload_n dX7_turns_52 rfl) (mpp 53 rfl ?_)
    obtain ⟨z39, h40⟩ := ti_ex (11 + v2 : Int32)
    have wz39 := ti_full z39
    refine mp_t (s_iadd (v := z39) dX7_turns_53 h40) (mpp 54 rfl ?_)
    try have e41 : z39.toInt = 11 + v2.toInt := ti_addz h40 rfl rfl (by omega) (by omega)
    have p42 : 0 ≤ t1.toInt := by omega
    have p43 : t1.toInt ≤ 8 := by omega
    have p44 : 0 ≤ z39.toInt := by omega
    have p45 : z39.toInt ≤ 20 := by omega
    refine mp_calls (i := 74) (q' := q_135) (As := [.int t1, .int z39]) (rest := [.ref 302]) dX7_turns_54 rfl qm_135 (by decide) rfl (Nat.le_of_ble_eq_true rfl) rfl ⟨rfl, rfl⟩ ⟨Nat.le_of_ble_eq_true rfl, Nat.le_of_ble_eq_true rfl⟩ (EvP.mono (by decide) (c_M_at hT p42 p43 p44 p45 )) (fun r46 P47 g48 => mpp 57 rfl ?_)
    obtain ⟨⟨x49, rfl, g50⟩, e51⟩ := g48
    have e51 := e51.symm
    subst e51
    have wx49 := ti_full x49
    have g50 : x49.toInt = 3 + 19 * t1.toInt + z39.toInt := g50
    show MEvP _ none q_148 57 [(3, .int x36), (0, .ref 301), (1, .int t1), (2, .int v2)] [.int x49, .ref 302] _ _ _ _
    refine mp_a (a_iload_n dX7_turns_57 rfl) (mpp 58 rfl ?_)
    refine mp_Tb (t := 65) (j_if_ne dX7_turns_58) (by decide) (fun c52 => ?_) (fun c52 => mpp 61 rfl ?_)
    · have c52 : x36.toInt ≠ 0 := ti_ne c52
      refine mp_a (a_iconst (v := 3) dX7_turns_65 rfl) (mpp 66 rfl ?_)
      refine mp_a (a_iload_n dX7_turns_66 rfl) (mpp 67 rfl ?_)
      obtain ⟨z53, h54⟩ := ti_ex (3 - x36 : Int32)
      have wz53 := ti_full z53
      refine mp_t (s_isub (v := z53) dX7_turns_67 h54) (mpp 68 rfl ?_)
      try have e55 : z53.toInt = 3 - x36.toInt := ti_subz h54 rfl rfl (by omega) (by omega)
      refine mt_iasX (n := 155) hT dX7_turns_68 rl_302 (by decide) rfl rfl (by omega) (by omega) (okS_mk (by omega) (fun _ => ⟨by omega, by omega⟩) (fun _ => ⟨by omega, by omega⟩)) (fun P56 hT57 f58 f59 => mpp 69 rfl ?_)
      have k60 : KW [1093, 1094, 1152] Po P56 := KW.step hK rl_302 rfl f59
      have R61 := Rel.oth hR f59 (by omega)
      obtain ⟨z62, h63⟩ := ti_ex (v2 + 1 : Int32)
      have wz62 := ti_full z62
      refine mp_a (a_iinc (v := z62) (L' := [(2, .int z62), (3, .int x36), (0, .ref 301), (1, .int t1)]) dX7_turns_69 (by decide) rfl h63 rfl) (mpp 72 rfl ?_)
      try have e64 : z62.toInt = v2.toInt + 1 := ti_addz h63 rfl rfl (by omega) (by omega)
      refine mp_a (a_goto (t := 29) dX7_turns_72 (by decide)) ?_
      refine MEvP.less (L := [(0, .ref 301), (1, .int t1), (2, .int z62)]) rfl rfl ⟨rfl, rfl, rfl, trivial⟩ ?_
      have i65 : 0 ≤ t1.toInt := by omega
      have i66 : t1.toInt ≤ 7 := by omega
      have i67 : 0 ≤ z62.toInt := by omega
      exact ih _ (by omega) _ P56 hT57 k60 R61 i65 i66 i67 rfl
    · have c52 : x36.toInt = 0 := ti_ne_n c52
      refine mp_a (a_iconst (v := 0) dX7_turns_61 rfl) (mpp 62 rfl ?_)
      refine mp_a (a_goto (t := 68) dX7_turns_62 (by decide)) ?_
      refine mt_iasX (n := 155) hT dX7_turns_68 rl_302 (by decide) rfl rfl (by omega) (by omega) (okS_mk (by omega) (fun _ => ⟨by omega, by omega⟩) (fun _ => ⟨by omega, by omega⟩)) (fun P68 hT69 f70 f71 => mpp 69 rfl ?_)
      have k72 : KW [1093, 1094, 1152] Po P68 := KW.step hK rl_302 rfl f71
      have R73 := Rel.oth hR f71 (by omega)
      obtain ⟨z74, h75⟩ := ti_ex (v2 + 1 : Int32)
      have wz74 := ti_full z74
      refine mp_a (a_iinc (v := z74) (L' := [(2, .int z74), (3, .int x36), (0, .ref 301), (1, .int t1)]) dX7_turns_69 (by decide) rfl h75 rfl) (mpp 72 rfl ?_)
      try have e76 : z74.toInt = v2.toInt + 1 := ti_addz h75 rfl rfl (by omega) (by omega)
      refine mp_a (a_goto (t := 29) dX7_turns_72 (by decide)) ?_
      refine MEvP.less (L := [(0, .ref 301), (1, .int t1), (2, .int z74)]) rfl rfl ⟨rfl, rfl, rfl, trivial⟩ ?_
      have i77 : 0 ≤ t1.toInt := by omega
      have i78 : t1.toInt ≤ 7 := by omega
      have i79 : 0 ≤ z74.toInt := by omega
      exact ih _ (by omega) _ P68 hT69 k72 R73 i77 i78 i79 rfl

set_option maxHeartbeats 4000000 in
theorem c_M_turns {Po : mP} {t1 : Int32} (hT : Typ Po) (hR : Rel Po)  : EvP 6 148 [.ref 301, .int t1] Po (fun r P' => (∃ x : Int32, r = some (.int x) ∧ (True)) ∧ Typ P' ∧ KW [1093, 1094, 1152] Po P' ∧ Rel P') := by
  refine EvP.of qm_148 (Nat.le_of_ble_eq_true rfl) rfl ?_
  show MEvP _ none q_148 0 [(0, .ref 301), (1, .int t1)] [] _ 0 0 _
  refine mp_a (a_aload_n dX7_turns_0 rfl) (mpp 1 rfl ?_)
  refine mp_a (a_iload_n dX7_turns_1 rfl) (mpp 2 rfl ?_)
  refine mt_callv (i := 85) (q' := q_144) (As := [.int t1]) (rest := []) hT dX7_turns_2 rfl qm_144 (by decide) rfl rl_301 (by decide) rfl (Nat.le_of_ble_eq_true rfl) rfl ⟨rfl, rfl⟩ ⟨Nat.le_of_ble_eq_true rfl, Nat.le_of_ble_eq_true rfl⟩ (EvP.mono (by decide) (c_M_isPiece hT )) (fun r1 P2 g3 => mpp 5 rfl ?_)
  obtain ⟨⟨x4, rfl, g5⟩, e6⟩ := g3
  have e6 := e6.symm
  subst e6
  have wx4 := ti_full x4
  have g5 : 0 ≤ x4.toInt ∧ x4.toInt ≤ 1 ∧ (x4.toInt = 0 ∨ (0 ≤ t1.toInt ∧ t1.toInt + 1 ≤ (fv Po 302 0).toInt ∧ t1.toInt ≤ 7)) := g5
  have g7 : (0 : Int) ≤ (fv Po 302 0).toInt ∧ (fv Po 302 0).toInt ≤ 8 := Typ.rng hT rl_302 (by decide) (by decide) rfl
  show MEvP _ none q_148 5 [(0, .ref 301), (1, .int t1)] [.int x4] _ _ _ _
  refine mp_Tb (t := 12) (j_if_ne dX7_turns_5) (by decide) (fun c8 => ?_) (fun c8 => mpp 8 rfl ?_)
  · have c8 : x4.toInt ≠ 0 := ti_ne c8
    refine mp_a (a_aload_n dX7_turns_12 rfl) (mpp 13 rfl ?_)
    refine mp_a (a_iload_n dX7_turns_13 rfl) (mpp 14 rfl ?_)
    have p9 : 0 ≤ t1.toInt := by omega
    have p10 : t1.toInt ≤ 7 := by omega
    refine mt_callv (i := 130) (q' := q_145) (As := [.int t1]) (rest := []) hT dX7_turns_14 rfl qm_145 (by decide) rfl rl_301 (by decide) rfl (Nat.le_of_ble_eq_true rfl) rfl ⟨rfl, rfl⟩ ⟨Nat.le_of_ble_eq_true rfl, Nat.le_of_ble_eq_true rfl⟩ (EvP.mono (by decide) (c_M_isFolded hT p9 p10 )) (fun r11 P12 g13 => mpp 17 rfl ?_)
    obtain ⟨⟨x14, rfl, g15⟩, e16⟩ := g13
    have e16 := e16.symm
    subst e16
    have wx14 := ti_full x14
    have g15 : 0 ≤ x14.toInt ∧ x14.toInt ≤ 1 := g15
    show MEvP _ none q_148 17 [(0, .ref 301), (1, .int t1)] [.int x14] _ _ _ _
    refine mp_Tb (t := 27) (j_if_eq dX7_turns_17) (by decide) (fun c17 => ?_) (fun c17 => mpp 20 rfl ?_)
    · have c17 : x14.toInt = 0 := ti_eq c17
      refine mp_a (a_iconst (v := 0) dX7_turns_27 rfl) (mpp 28 rfl ?_)
      refine mp_a (a_istore_n (L' := [(2, .int 0), (0, .ref 301), (1, .int t1)]) dX7_turns_28 (by decide) rfl) (mpp 29 rfl ?_)
      refine MEvP.less (L := [(0, .ref 301), (1, .int t1), (2, .int 0)]) rfl rfl ⟨rfl, rfl, rfl, trivial⟩ ?_
      have i18 : 0 ≤ t1.toInt := by omega
      have i19 : t1.toInt ≤ 7 := by omega
      have i20 : 0 ≤ (0 : Int) := by omega
      exact c_M_turns_l29   _ _ Po hT KW.refl hR i18 i19 i20 rfl
    · have c17 : x14.toInt ≠ 0 := ti_eq_n c17
      refine mp_a (a_aload_n dX7_turns_20 rfl) (mpp 21 rfl ?_)
      refine mp_a (a_iconst (v := 2) dX7_turns_21 rfl) (mpp 22 rfl ?_)
      refine mp_a (a_iload_n dX7_turns_22 rfl) (mpp 23 rfl ?_)
      refine mt_callv (i := 101) (q' := q_134) (As := [.int 2, .int t1]) (rest := []) hT dX7_turns_23 rfl qm_134 (by decide) rfl rl_301 (by decide) rfl (Nat.le_of_ble_eq_true rfl) rfl ⟨rfl, rfl⟩ ⟨Nat.le_of_ble_eq_true rfl, Nat.le_of_ble_eq_true rfl⟩ (EvP.mono (by decide) (c_M_refuses hT )) (fun r21 P22 g23 => mpp 26 rfl ?_)
      obtain ⟨⟨x24, rfl, g25⟩, hT26, k27, R28⟩ := g23
      have k29 : KW [1093, 1094, 1152] Po P22 := KW.trans KW.refl k27 rfl
      have R30 := Rel.kw hR k27 rfl
      have wx24 := ti_full x24
      show MEvP _ none q_148 26 [(0, .ref 301), (1, .int t1)] [.int x24] _ _ _ _
      exact mp_iret ⟨⟨_, rfl, trivial⟩, hT26, k29, R30⟩ dX7_turns_26 (Or.inl rfl)
  · have c8 : x4.toInt = 0 := ti_ne_n c8
    refine mp_a (a_sipush (v := -1001) dX7_turns_8 rfl) (mpp 11 rfl ?_)
    exact mp_iret ⟨⟨_, rfl, trivial⟩, hT, KW.refl, hR⟩ dX7_turns_11 (Or.inl rfl)

set_option maxHeartbeats 4000000 in
theorem c_M_turn {Po : mP} {t1 : Int32} (hT : Typ Po) (hR : Rel Po)  : EvP 7 147 [.ref 301, .int t1] Po (fun r P' => (∃ x : Int32, r = some (.int x) ∧ (True)) ∧ Typ P' ∧ KW [1092, 1093, 1094, 1095, 1152, 1216, 1344] Po P' ∧ Rel P') := by
  refine EvP.of qm_147 (Nat.le_of_ble_eq_true rfl) rfl ?_
  show MEvP _ none q_147 0 [(0, .ref 301), (1, .int t1)] [] _ 0 0 _
  refine mp_a (a_aload_n dX7_turn_0 rfl) (mpp 1 rfl ?_)
  refine mt_callv (i := 117) (q' := q_124) (As := []) (rest := []) hT dX7_turn_1 rfl qm_124 (by decide) rfl rl_301 (by decide) rfl (Nat.le_of_ble_eq_true rfl) rfl ⟨rfl, rfl⟩ ⟨Nat.le_of_ble_eq_true rfl, Nat.le_of_ble_eq_true rfl⟩ (EvP.mono (by decide) (c_M_keeps hT hR )) (fun r1 P2 g3 => mpp 4 rfl ?_)
  obtain ⟨⟨rfl, g5⟩, hT6, k7, R8⟩ := g3
  have k9 : KW [1092, 1093, 1094, 1095, 1152, 1216, 1344] Po P2 := KW.trans KW.refl k7 rfl
  show MEvP _ none q_147 4 [(0, .ref 301), (1, .int t1)] [] _ _ _ _
  refine mp_a (a_aload_n dX7_turn_4 rfl) (mpp 5 rfl ?_)
  refine mp_a (a_aload_n dX7_turn_5 rfl) (mpp 6 rfl ?_)
  refine mp_a (a_iload_n dX7_turn_6 rfl) (mpp 7 rfl ?_)
  refine mt_callv (i := 139) (q' := q_148) (As := [.int t1]) (rest := [.ref 301]) hT6 dX7_turn_7 rfl qm_148 (by decide) rfl rl_301 (by decide) rfl (Nat.le_of_ble_eq_true rfl) rfl ⟨rfl, rfl⟩ ⟨Nat.le_of_ble_eq_true rfl, Nat.le_of_ble_eq_true rfl⟩ (EvP.mono (by decide) (c_M_turns hT6 R8 )) (fun r10 P11 g12 => mpp 10 rfl ?_)
  obtain ⟨⟨x13, rfl, g14⟩, hT15, k16, R17⟩ := g12
  have k18 : KW [1092, 1093, 1094, 1095, 1152, 1216, 1344] Po P11 := KW.trans k9 k16 rfl
  have wx13 := ti_full x13
  show MEvP _ none q_147 10 [(0, .ref 301), (1, .int t1)] [.int x13, .ref 301] _ _ _ _
  refine mt_callv (i := 124) (q' := q_139) (As := [.int x13]) (rest := []) hT15 dX7_turn_10 rfl qm_139 (by decide) rfl rl_301 (by decide) rfl (Nat.le_of_ble_eq_true rfl) rfl ⟨rfl, rfl⟩ ⟨Nat.le_of_ble_eq_true rfl, Nat.le_of_ble_eq_true rfl⟩ (EvP.mono (by decide) (c_M_ends hT15 R17 )) (fun r19 P20 g21 => mpp 13 rfl ?_)
  obtain ⟨⟨x22, rfl, g23⟩, hT24, k25, R26⟩ := g21
  have k27 : KW [1092, 1093, 1094, 1095, 1152, 1216, 1344] Po P20 := KW.trans k18 k25 rfl
  have wx22 := ti_full x22
  show MEvP _ none q_147 13 [(0, .ref 301), (1, .int t1)] [.int x22] _ _ _ _
  exact mp_iret ⟨⟨_, rfl, trivial⟩, hT24, k27, R26⟩ dX7_turn_13 (Or.inl rfl)

