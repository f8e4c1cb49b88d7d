/-! methods on typed pools, 6 (written by a program) -/
set_option maxHeartbeats 4000000 in
theorem c_CR_firstStep_Reducer {Po : mP}  (hT : Typ Po)   : EvP 2 52 [.ref 291] Po (fun r P' => (∃ x : Int32, r = some (.int x) ∧ (x.toInt = 0 ∨ 2 ≤ (fv Po 291 1).toInt)) ∧ P' = Po) := by
  refine EvP.of qm_52 (Nat.le_of_ble_eq_true rfl) rfl ?_
  show MEvP _ none q_52 0 [(0, .ref 291)] [] _ 0 0 _
  have g1 : (0 : Int) ≤ (fv Po 291 1).toInt ∧ (fv Po 291 1).toInt ≤ 8 := Typ.rng hT rl_291 (by decide) (by decide) rfl
  refine mp_a (a_aload_n dX3_firstStep_0 rfl) (mpp 1 rfl ?_)
  have g2 := ti_full (fv Po 291 0)
  refine mt_getI (i := 24) (k := 0) hT dX3_firstStep_1 rfl rl_291 (by decide) rfl (by decide) rfl (fun g3 g4 => mpp 4 rfl ?_)
  refine mp_Tb (t := 11) (j_if_ne dX3_firstStep_4) (by decide) (fun c5 => ?_) (fun c5 => mpp 7 rfl ?_)
  · have c5 : (fv Po 291 0).toInt ≠ 0 := ti_ne c5
    refine mp_a (a_iconst (v := 0) dX3_firstStep_11 rfl) (mpp 12 rfl ?_)
    refine mp_a (a_istore_n (L' := [(1, .int 0), (0, .ref 291)]) dX3_firstStep_12 (by decide) rfl) (mpp 13 rfl ?_)
    refine mp_a (a_aload_n dX3_firstStep_13 rfl) (mpp 14 rfl ?_)
    refine mt_getI (i := 28) (k := 1) hT dX3_firstStep_14 rfl rl_291 (by decide) rfl (by decide) rfl (fun g6 g7 => mpp 17 rfl ?_)
    refine mp_a (a_iconst (v := 2) dX3_firstStep_17 rfl) (mpp 18 rfl ?_)
    refine mp_Tb (t := 33) (j_icmp_lt dX3_firstStep_18) (by decide) (fun c8 => ?_) (fun c8 => mpp 21 rfl ?_)
    · have c8 : (fv Po 291 1).toInt < 2 := ti_lt c8
      refine mp_a (a_iconst (v := 0) dX3_firstStep_33 rfl) (mpp 34 rfl ?_)
      have u9 : (0 : Int) = 0 ∨ 2 ≤ (fv Po 291 1).toInt := by omega
      exact mp_iret ⟨⟨_, rfl, u9⟩, rfl⟩ dX3_firstStep_34 (Or.inl rfl)
    · have c8 : (fv Po 291 1).toInt ≥ 2 := ti_lt_n c8
      refine mp_a (a_aload_n dX3_firstStep_21 rfl) (mpp 22 rfl ?_)
      refine mt_getI (i := 28) (k := 1) hT dX3_firstStep_22 rfl rl_291 (by decide) rfl (by decide) rfl (fun g10 g11 => mpp 25 rfl ?_)
      refine mp_a (a_iconst (v := 2) dX3_firstStep_25 rfl) (mpp 26 rfl ?_)
      refine mp_Tb (t := 35) (j_icmp_ne dX3_firstStep_26) (by decide) (fun c12 => ?_) (fun c12 => mpp 29 rfl ?_)
      · have c12 : (fv Po 291 1).toInt ≠ 2 := ti_ne c12
        refine mp_a (a_iload_n dX3_firstStep_35 rfl) (mpp 36 rfl ?_)
        refine mp_Tt (t := 60) (j_if_eq dX3_firstStep_36) (by decide) (by decide) ?_
        refine mp_a (a_iload_n dX3_firstStep_60 rfl) (mpp 61 rfl ?_)
        refine mp_Tt (t := 95) (j_if_eq dX3_firstStep_61) (by decide) (by decide) ?_
        refine mp_a (a_iload_n dX3_firstStep_95 rfl) (mpp 96 rfl ?_)
        refine mp_Tt (t := 103) (j_if_eq dX3_firstStep_96) (by decide) (by decide) ?_
        refine mp_a (a_iconst (v := 0) dX3_firstStep_103 rfl) (mpp 104 rfl ?_)
        refine mp_a (a_istore_n (L' := [(2, .int 0), (1, .int 0), (0, .ref 291)]) dX3_firstStep_104 (by decide) rfl) (mpp 105 rfl ?_)
        refine mp_a (a_iload_n dX3_firstStep_105 rfl) (mpp 106 rfl ?_)
        refine mp_a (a_istore_n (L' := [(3, .int 0), (2, .int 0), (1, .int 0), (0, .ref 291)]) dX3_firstStep_106 (by decide) rfl) (mpp 107 rfl ?_)
        refine MEvP.less (L := [(0, .ref 291), (1, .int 0), (2, .int 0), (3, .int 0)]) rfl rfl ⟨rfl, rfl, rfl, rfl, trivial⟩ ?_
        have i13 : 2 ≤ (fv Po 291 1).toInt := by omega
        exact c_CR_firstStep_Reducer_l107 hT  _ _ _ _ i13 rfl
      · have c12 : (fv Po 291 1).toInt = 2 := ti_ne_n c12
        refine mp_a (a_iload_n dX3_firstStep_29 rfl) (mpp 30 rfl ?_)
        refine mp_Tf (t := 35) (j_if_ne dX3_firstStep_30) (by decide) (by decide) (mpp 33 rfl ?_)
        refine mp_a (a_iconst (v := 0) dX3_firstStep_33 rfl) (mpp 34 rfl ?_)
        have u14 : (0 : Int) = 0 ∨ 2 ≤ (fv Po 291 1).toInt := by omega
        exact mp_iret ⟨⟨_, rfl, u14⟩, rfl⟩ dX3_firstStep_34 (Or.inl rfl)
  · have c5 : (fv Po 291 0).toInt = 0 := ti_ne_n c5
    refine mp_a (a_iconst (v := 1) dX3_firstStep_7 rfl) (mpp 8 rfl ?_)
    refine mp_a (a_goto (t := 12) dX3_firstStep_8 (by decide)) ?_
    refine mp_a (a_istore_n (L' := [(1, .int 1), (0, .ref 291)]) dX3_firstStep_12 (by decide) rfl) (mpp 13 rfl ?_)
    refine mp_a (a_aload_n dX3_firstStep_13 rfl) (mpp 14 rfl ?_)
    refine mt_getI (i := 28) (k := 1) hT dX3_firstStep_14 rfl rl_291 (by decide) rfl (by decide) rfl (fun g15 g16 => mpp 17 rfl ?_)
    refine mp_a (a_iconst (v := 2) dX3_firstStep_17 rfl) (mpp 18 rfl ?_)
    refine mp_Tb (t := 33) (j_icmp_lt dX3_firstStep_18) (by decide) (fun c17 => ?_) (fun c17 => mpp 21 rfl ?_)
    · have c17 : (fv Po 291 1).toInt < 2 := ti_lt c17
      refine mp_a (a_iconst (v := 0) dX3_firstStep_33 rfl) (mpp 34 rfl ?_)
      have u18 : (0 : Int) = 0 ∨ 2 ≤ (fv Po 291 1).toInt := by omega
      exact mp_iret ⟨⟨_, rfl, u18⟩, rfl⟩ dX3_firstStep_34 (Or.inl rfl)
    · have c17 : (fv Po 291 1).toInt ≥ 2 := ti_lt_n c17
      refine mp_a (a_aload_n dX3_firstStep_21 rfl) (mpp 22 rfl ?_)
      refine mt_getI (i := 28) (k := 1) hT dX3_firstStep_22 rfl rl_291 (by decide) rfl (by decide) rfl (fun g19 g20 => mpp 25 rfl ?_)
      refine mp_a (a_iconst (v := 2) dX3_firstStep_25 rfl) (mpp 26 rfl ?_)
      refine mp_Tb (t := 35) (j_icmp_ne dX3_firstStep_26) (by decide) (fun c21 => ?_) (fun c21 => mpp 29 rfl ?_)
      · have c21 : (fv Po 291 1).toInt ≠ 2 := ti_ne c21
        refine mp_a (a_iload_n dX3_firstStep_35 rfl) (mpp 36 rfl ?_)
        refine mp_Tf (t := 60) (j_if_eq dX3_firstStep_36) (by decide) (by decide) (mpp 39 rfl ?_)
        refine mp_a (a_aload_n dX3_firstStep_39 rfl) (mpp 40 rfl ?_)
        refine mt_getU (i := 9) (k := 2) (A := 292) hT dX3_firstStep_40 rfl rl_291 (by decide) rfl (by decide) rfl un_11 (mpp 43 rfl ?_)
        refine mp_a (a_iconst (v := 0) dX3_firstStep_43 rfl) (mpp 44 rfl ?_)
        refine mp_calls (i := 39) (q' := q_12) (As := [.ref 292, .int 0]) (rest := []) dX3_firstStep_44 rfl qm_12 (by decide) rfl (Nat.le_of_ble_eq_true rfl) rfl ⟨rfl, rfl⟩ ⟨Nat.le_of_ble_eq_true rfl, Nat.le_of_ble_eq_true rfl⟩ (EvP.mono (by decide) (c_F_at_rsizes hT )) (fun r22 P23 g24 => mpp 47 rfl ?_)
        obtain ⟨⟨x25, rfl, g26⟩, e27⟩ := g24
        have e27 := e27.symm
        subst e27
        have wx25 := ti_full x25
        show MEvP _ none q_52 47 [(1, .int 1), (0, .ref 291)] [.int x25] _ _ _ _
        refine mp_a (a_aload_n dX3_firstStep_47 rfl) (mpp 48 rfl ?_)
        refine mt_getU (i := 9) (k := 2) (A := 292) hT dX3_firstStep_48 rfl rl_291 (by decide) rfl (by decide) rfl un_11 (mpp 51 rfl ?_)
        refine mp_a (a_iconst (v := 1) dX3_firstStep_51 rfl) (mpp 52 rfl ?_)
        refine mp_calls (i := 39) (q' := q_12) (As := [.ref 292, .int 1]) (rest := [.int x25]) dX3_firstStep_52 rfl qm_12 (by decide) rfl (Nat.le_of_ble_eq_true rfl) rfl ⟨rfl, rfl⟩ ⟨Nat.le_of_ble_eq_true rfl, Nat.le_of_ble_eq_true rfl⟩ (EvP.mono (by decide) (c_F_at_rsizes hT )) (fun r28 P29 g30 => mpp 55 rfl ?_)
        obtain ⟨⟨x31, rfl, g32⟩, e33⟩ := g30
        have e33 := e33.symm
        subst e33
        have wx31 := ti_full x31
        show MEvP _ none q_52 55 [(1, .int 1), (0, .ref 291)] [.int x31, .int x25] _ _ _ _
        refine mp_Tb (t := 60) (j_icmp_gt dX3_firstStep_55) (by decide) (fun c34 => ?_) (fun c34 => mpp 58 rfl ?_)
        · have c34 : x25.toInt > x31.toInt := ti_gt c34
          refine mp_a (a_iload_n dX3_firstStep_60 rfl) (mpp 61 rfl ?_)
          refine mp_Tf (t := 95) (j_if_eq dX3_firstStep_61) (by decide) (by decide) (mpp 64 rfl ?_)
          refine mp_a (a_aload_n dX3_firstStep_64 rfl) (mpp 65 rfl ?_)
          refine mt_getU (i := 9) (k := 2) (A := 292) hT dX3_firstStep_65 rfl rl_291 (by decide) rfl (by decide) rfl un_11 (mpp 68 rfl ?_)
          refine mp_a (a_aload_n dX3_firstStep_68 rfl) (mpp 69 rfl ?_)
          refine mt_getI (i := 28) (k := 1) hT dX3_firstStep_69 rfl rl_291 (by decide) rfl (by decide) rfl (fun g35 g36 => mpp 72 rfl ?_)
          refine mp_a (a_iconst (v := 1) dX3_firstStep_72 rfl) (mpp 73 rfl ?_)
          obtain ⟨z37, h38⟩ := ti_ex ((fv Po 291 1) - 1 : Int32)
          have wz37 := ti_full z37
          refine mp_t (s_isub (v := z37) dX3_firstStep_73 h38) (mpp 74 rfl ?_)
          try have e39 : z37.toInt = (fv Po 291 1).toInt - 1 := ti_subz h38 rfl rfl (by omega) (by omega)
          refine mp_calls (i := 39) (q' := q_12) (As := [.ref 292, .int z37]) (rest := []) dX3_firstStep_74 rfl qm_12 (by decide) rfl (Nat.le_of_ble_eq_true rfl) rfl ⟨rfl, rfl⟩ ⟨Nat.le_of_ble_eq_true rfl, Nat.le_of_ble_eq_true rfl⟩ (EvP.mono (by decide) (c_F_at_rsizes hT )) (fun r40 P41 g42 => mpp 77 rfl ?_)
          obtain ⟨⟨x43, rfl, g44⟩, e45⟩ := g42
          have e45 := e45.symm
          subst e45
          have wx43 := ti_full x43
          show MEvP _ none q_52 77 [(1, .int 1), (0, .ref 291)] [.int x43] _ _ _ _
          refine mp_a (a_aload_n dX3_firstStep_77 rfl) (mpp 78 rfl ?_)
          refine mt_getU (i := 9) (k := 2) (A := 292) hT dX3_firstStep_78 rfl rl_291 (by decide) rfl (by decide) rfl un_11 (mpp 81 rfl ?_)
          refine mp_a (a_aload_n dX3_firstStep_81 rfl) (mpp 82 rfl ?_)
          refine mt_getI (i := 28) (k := 1) hT dX3_firstStep_82 rfl rl_291 (by decide) rfl (by decide) rfl (fun g46 g47 => mpp 85 rfl ?_)
          refine mp_a (a_iconst (v := 2) dX3_firstStep_85 rfl) (mpp 86 rfl ?_)
          obtain ⟨z48, h49⟩ := ti_ex ((fv Po 291 1) - 2 : Int32)
          have wz48 := ti_full z48
          refine mp_t (s_isub (v := z48) dX3_firstStep_86 h49) (mpp 87 rfl ?_)
          try have e50 : z48.toInt = (fv Po 291 1).toInt - 2 := ti_subz h49 rfl rfl (by omega) (by omega)
          refine mp_calls (i := 39) (q' := q_12) (As := [.ref 292, .int z48]) (rest := [.int x43]) dX3_firstStep_87 rfl qm_12 (by decide) rfl (Nat.le_of_ble_eq_true rfl) rfl ⟨rfl, rfl⟩ ⟨Nat.le_of_ble_eq_true rfl, Nat.le_of_ble_eq_true rfl⟩ (EvP.mono (by decide) (c_F_at_rsizes hT )) (fun r51 P52 g53 => mpp 90 rfl ?_)
          obtain ⟨⟨x54, rfl, g55⟩, e56⟩ := g53
          have e56 := e56.symm
          subst e56
          have wx54 := ti_full x54
          show MEvP _ none q_52 90 [(1, .int 1), (0, .ref 291)] [.int x54, .int x43] _ _ _ _
          refine mp_Tb (t := 95) (j_icmp_gt dX3_firstStep_90) (by decide) (fun c57 => ?_) (fun c57 => mpp 93 rfl ?_)
          · have c57 : x43.toInt > x54.toInt := ti_gt c57
            refine mp_a (a_iload_n dX3_firstStep_95 rfl) (mpp 96 rfl ?_)
            refine mp_Tf (t := 103) (j_if_eq dX3_firstStep_96) (by decide) (by decide) (mpp 99 rfl ?_)
            refine mp_a (a_iconst (v := 1) dX3_firstStep_99 rfl) (mpp 100 rfl ?_)
            refine mp_a (a_goto (t := 104) dX3_firstStep_100 (by decide)) ?_
            refine mp_a (a_istore_n (L' := [(2, .int 1), (1, .int 1), (0, .ref 291)]) dX3_firstStep_104 (by decide) rfl) (mpp 105 rfl ?_)
            refine mp_a (a_iload_n dX3_firstStep_105 rfl) (mpp 106 rfl ?_)
            refine mp_a (a_istore_n (L' := [(3, .int 1), (2, .int 1), (1, .int 1), (0, .ref 291)]) dX3_firstStep_106 (by decide) rfl) (mpp 107 rfl ?_)
            refine MEvP.less (L := [(0, .ref 291), (1, .int 1), (2, .int 1), (3, .int 1)]) rfl rfl ⟨rfl, rfl, rfl, rfl, trivial⟩ ?_
            have i58 : 2 ≤ (fv Po 291 1).toInt := by omega
            exact c_CR_firstStep_Reducer_l107 hT  _ _ _ _ i58 rfl
          · have c57 : x43.toInt ≤ x54.toInt := ti_gt_n c57
            refine mp_a (a_iconst (v := 2) dX3_firstStep_93 rfl) (mpp 94 rfl ?_)
            have u59 : (2 : Int) = 0 ∨ 2 ≤ (fv Po 291 1).toInt := by omega
            exact mp_iret ⟨⟨_, rfl, u59⟩, rfl⟩ dX3_firstStep_94 (Or.inl rfl)
        · have c34 : x25.toInt ≤ x31.toInt := ti_gt_n c34
          refine mp_a (a_iconst (v := 1) dX3_firstStep_58 rfl) (mpp 59 rfl ?_)
          have u60 : (1 : Int) = 0 ∨ 2 ≤ (fv Po 291 1).toInt := by omega
          exact mp_iret ⟨⟨_, rfl, u60⟩, rfl⟩ dX3_firstStep_59 (Or.inl rfl)
      · have c21 : (fv Po 291 1).toInt = 2 := ti_ne_n c21
        refine mp_a (a_iload_n dX3_firstStep_29 rfl) (mpp 30 rfl ?_)
        refine mp_Tt (t := 35) (j_if_ne dX3_firstStep_30) (by decide) (by decide) ?_
        refine mp_a (a_iload_n dX3_firstStep_35 rfl) (mpp 36 rfl ?_)
        refine mp_Tf (t := 60) (j_if_eq dX3_firstStep_36) (by decide) (by decide) (mpp 39 rfl ?_)
        refine mp_a (a_aload_n dX3_firstStep_39 rfl) (mpp 40 rfl ?_)
        refine mt_getU (i := 9) (k := 2) (A := 292) hT dX3_firstStep_40 rfl rl_291 (by decide) rfl (by decide) rfl un_11 (mpp 43 rfl ?_)
        refine mp_a (a_iconst (v := 0) dX3_firstStep_43 rfl) (mpp 44 rfl ?_)
        refine mp_calls (i := 39) (q' := q_12) (As := [.ref 292, .int 0]) (rest := []) dX3_firstStep_44 rfl qm_12 (by decide) rfl (Nat.le_of_ble_eq_true rfl) rfl ⟨rfl, rfl⟩ ⟨Nat.le_of_ble_eq_true rfl, Nat.le_of_ble_eq_true rfl⟩ (EvP.mono (by decide) (c_F_at_rsizes hT )) (fun r61 P62 g63 => mpp 47 rfl ?_)
        obtain ⟨⟨x64, rfl, g65⟩, e66⟩ := g63
        have e66 := e66.symm
        subst e66
        have wx64 := ti_full x64
        show MEvP _ none q_52 47 [(1, .int 1), (0, .ref 291)] [.int x64] _ _ _ _
        refine mp_a (a_aload_n dX3_firstStep_47 rfl) (mpp 48 rfl ?_)
        refine mt_getU (i := 9) (k := 2) (A := 292) hT dX3_firstStep_48 rfl rl_291 (by decide) rfl (by decide) rfl un_11 (mpp 51 rfl ?_)
        refine mp_a (a_iconst (v := 1) dX3_firstStep_51 rfl) (mpp 52 rfl ?_)
        refine mp_calls (i := 39) (q' := q_12) (As := [.ref 292, .int 1]) (rest := [.int x64]) dX3_firstStep_52 rfl qm_12 (by decide) rfl (Nat.le_of_ble_eq_true rfl) rfl ⟨rfl, rfl⟩ ⟨Nat.le_of_ble_eq_true rfl, Nat.le_of_ble_eq_true rfl⟩ (EvP.mono (by decide) (c_F_at_rsizes hT )) (fun r67 P68 g69 => mpp 55 rfl ?_)
        obtain ⟨⟨x70, rfl, g71⟩, e72⟩ := g69
        have e72 := e72.symm
        subst e72
        have wx70 := ti_full x70
        show MEvP _ none q_52 55 [(1, .int 1), (0, .ref 291)] [.int x70, .int x64] _ _ _ _
        refine mp_Tb (t := 60) (j_icmp_gt dX3_firstStep_55) (by decide) (fun c73 => ?_) (fun c73 => mpp 58 rfl ?_)
        · have c73 : x64.toInt > x70.toInt := ti_gt c73
          refine mp_a (a_iload_n dX3_firstStep_60 rfl) (mpp 61 rfl ?_)
          refine mp_Tf (t := 95) (j_if_eq dX3_firstStep_61) (by decide) (by decide) (mpp 64 rfl ?_)
          refine mp_a (a_aload_n dX3_firstStep_64 rfl) (mpp 65 rfl ?_)
          refine mt_getU (i := 9) (k := 2) (A := 292) hT dX3_firstStep_65 rfl rl_291 (by decide) rfl (by decide) rfl un_11 (mpp 68 rfl ?_)
          refine mp_a (a_aload_n dX3_firstStep_68 rfl) (mpp 69 rfl ?_)
          refine mt_getI (i := 28) (k := 1) hT dX3_firstStep_69 rfl rl_291 (by decide) rfl (by decide) rfl (fun g74 g75 => mpp 72 rfl ?_)
          refine mp_a (a_iconst (v := 1) dX3_firstStep_72 rfl) (mpp 73 rfl ?_)
          obtain ⟨z76, h77⟩ := ti_ex ((fv Po 291 1) - 1 : Int32)
          have wz76 := ti_full z76
          refine mp_t (s_isub (v := z76) dX3_firstStep_73 h77) (mpp 74 rfl ?_)
          try have e78 : z76.toInt = (fv Po 291 1).toInt - 1 := ti_subz h77 rfl rfl (by omega) (by omega)
          refine mp_calls (i := 39) (q' := q_12) (As := [.ref 292, .int z76]) (rest := []) dX3_firstStep_74 rfl qm_12 (by decide) rfl (Nat.le_of_ble_eq_true rfl) rfl ⟨rfl, rfl⟩ ⟨Nat.le_of_ble_eq_true rfl, Nat.le_of_ble_eq_true rfl⟩ (EvP.mono (by decide) (c_F_at_rsizes hT )) (fun r79 P80 g81 => mpp 77 rfl ?_)
          obtain ⟨⟨x82, rfl, g83⟩, e84⟩ := g81
          have e84 := e84.symm
          subst e84
          have wx82 := ti_full x82
          show MEvP _ none q_52 77 [(1, .int 1), (0, .ref 291)] [.int x82] _ _ _ _
          refine mp_a (a_aload_n dX3_firstStep_77 rfl) (mpp 78 rfl ?_)
          refine mt_getU (i := 9) (k := 2) (A := 292) hT dX3_firstStep_78 rfl rl_291 (by decide) rfl (by decide) rfl un_11 (mpp 81 rfl ?_)
          refine mp_a (a_aload_n dX3_firstStep_81 rfl) (mpp 82 rfl ?_)
          refine mt_getI (i := 28) (k := 1) hT dX3_firstStep_82 rfl rl_291 (by decide) rfl (by decide) rfl (fun g85 g86 => mpp 85 rfl ?_)
          refine mp_a (a_iconst (v := 2) dX3_firstStep_85 rfl) (mpp 86 rfl ?_)
          obtain ⟨z87, h88⟩ := ti_ex ((fv Po 291 1) - 2 : Int32)
          have wz87 := ti_full z87
          refine mp_t (s_isub (v := z87) dX3_firstStep_86 h88) (mpp 87 rfl ?_)
          try have e89 : z87.toInt = (fv Po 291 1).toInt - 2 := ti_subz h88 rfl rfl (by omega) (by omega)
          refine mp_calls (i := 39) (q' := q_12) (As := [.ref 292, .int z87]) (rest := [.int x82]) dX3_firstStep_87 rfl qm_12 (by decide) rfl (Nat.le_of_ble_eq_true rfl) rfl ⟨rfl, rfl⟩ ⟨Nat.le_of_ble_eq_true rfl, Nat.le_of_ble_eq_true rfl⟩ (EvP.mono (by decide) (c_F_at_rsizes hT )) (fun r90 P91 g92 => mpp 90 rfl ?_)
          obtain ⟨⟨x93, rfl, g94⟩, e95⟩ := g92
          have e95 := e95.symm
          subst e95
          have wx93 := ti_full x93
          show MEvP _ none q_52 90 [(1, .int 1), (0, .ref 291)] [.int x93, .int x82] _ _ _ _
          refine mp_Tb (t := 95) (j_icmp_gt dX3_firstStep_90) (by decide) (fun c96 => ?_) (fun c96 => mpp 93 rfl ?_)
          · have c96 : x82.toInt > x93.toInt := ti_gt c96
            refine mp_a (a_iload_n dX3_firstStep_95 rfl) (mpp 96 rfl ?_)
            refine mp_Tf (t := 103) (j_if_eq dX3_firstStep_96) (by decide) (by decide) (mpp 99 rfl ?_)
            refine mp_a (a_iconst (v := 1) dX3_firstStep_99 rfl) (mpp 100 rfl ?_)
            refine mp_a (a_goto (t := 104) dX3_firstStep_100 (by decide)) ?_
            refine mp_a (a_istore_n (L' := [(2, .int 1), (1, .int 1), (0, .ref 291)]) dX3_firstStep_104 (by decide) rfl) (mpp 105 rfl ?_)
            refine mp_a (a_iload_n dX3_firstStep_105 rfl) (mpp 106 rfl ?_)
            refine mp_a (a_istore_n (L' := [(3, .int 1), (2, .int 1), (1, .int 1), (0, .ref 291)]) dX3_firstStep_106 (by decide) rfl) (mpp 107 rfl ?_)
            refine MEvP.less (L := [(0, .ref 291), (1, .int 1), (2, .int 1), (3, .int 1)]) rfl rfl ⟨rfl, rfl, rfl, rfl, trivial⟩ ?_
            have i97 : 2 ≤ (fv Po 291 1).toInt := by omega
            exact c_CR_firstStep_Reducer_l107 hT  _ _ _ _ i97 rfl
          · have c96 : x82.toInt ≤ x93.toInt := ti_gt_n c96
            refine mp_a (a_iconst (v := 2) dX3_firstStep_93 rfl) (mpp 94 rfl ?_)
            have u98 : (2 : Int) = 0 ∨ 2 ≤ (fv Po 291 1).toInt := by omega
            exact mp_iret ⟨⟨_, rfl, u98⟩, rfl⟩ dX3_firstStep_94 (Or.inl rfl)
        · have c73 : x64.toInt ≤ x70.toInt := ti_gt_n c73
          refine mp_a (a_iconst (v := 1) dX3_firstStep_58 rfl) (mpp 59 rfl ?_)
          have u99 : (1 : Int) = 0 ∨ 2 ≤ (fv Po 291 1).toInt := by omega
          exact mp_iret ⟨⟨_, rfl, u99⟩, rfl⟩ dX3_firstStep_59 (Or.inl rfl)

set_option maxHeartbeats 4000000 in
theorem c_F_put_rsizes {Po : mP} {t1 : Int32} {t2 : Int32} (hT : Typ Po)   : EvP 1 22 [.ref 292, .int t1, .int t2] Po (fun r P' => (r = none ∧ (True)) ∧ Typ P' ∧ KW [704] Po P' ∧ True) := by
  refine EvP.of qm_22 (Nat.le_of_ble_eq_true rfl) rfl ?_
  show MEvP _ none q_22 0 [(0, .ref 292), (1, .int t1), (2, .int t2)] [] _ 0 0 _
  refine mp_a (a_iload_n dX6_put_0 rfl) (mpp 1 rfl ?_)
  refine mp_Tb (t := 14) (j_if_lt dX6_put_1) (by decide) (fun c1 => ?_) (fun c1 => mpp 4 rfl ?_)
  · have c1 : t1.toInt < 0 := ti_lt c1
    exact mp_ret ⟨⟨rfl, trivial⟩, hT, KW.refl, trivial⟩ dX6_put_14 rfl
  · have c1 : t1.toInt ≥ 0 := ti_lt_n c1
    refine mp_a (a_iload_n dX6_put_4 rfl) (mpp 5 rfl ?_)
    refine mp_a (a_aload_n dX6_put_5 rfl) (mpp 6 rfl ?_)
    refine mt_len (n := 8) hT dX6_put_6 rl_292 (by decide) (by decide) rfl (mpp 7 rfl ?_)
    refine mp_Tb (t := 14) (j_icmp_ge dX6_put_7) (by decide) (fun c2 => ?_) (fun c2 => mpp 10 rfl ?_)
    · have c2 : t1.toInt ≥ 8 := ti_ge c2
      exact mp_ret ⟨⟨rfl, trivial⟩, hT, KW.refl, trivial⟩ dX6_put_14 rfl
    · have c2 : t1.toInt < 8 := ti_ge_n c2
      refine mp_a (a_aload_n dX6_put_10 rfl) (mpp 11 rfl ?_)
      refine mp_a (a_iload_n dX6_put_11 rfl) (mpp 12 rfl ?_)
      refine mp_a (a_iload_n dX6_put_12 rfl) (mpp 13 rfl ?_)
      refine mt_ias (n := 8) hT dX6_put_13 rl_292 (by decide) rfl rfl (by omega) (by omega) rfl (ti_full t2) (fun P3 hT4 f5 f6 => mpp 14 rfl ?_)
      have k7 : KW [704] Po P3 := KW.step KW.refl rl_292 rfl f6
      exact mp_ret ⟨⟨rfl, trivial⟩, hT4, k7, trivial⟩ dX6_put_14 rfl

set_option maxHeartbeats 4000000 in
theorem c_F_takeOut_rsizes_l2 {Po : mP} {t1 : Int32}  : ∀ (n : Nat) (v2 : Int32), ∀ (P : mP), Typ P → KW [704] Po P → (2147483647 - v2.toInt).toNat = n → MEvP 0 none q_54 2 [(0, .ref 292), (1, .int t1), (2, .int v2)] [] P 0 0 (fun r P' => (r = none ∧ (True)) ∧ Typ P' ∧ KW [704] Po P' ∧ True) := by
  intro n
  induction n using Nat.strongRecOn with | _ n ih => ?_
  intro v2 P hT hK  hm
  have w_t1 := ti_full t1
  have w_v2 := ti_full v2
  refine mp_a (a_iload_n dX6_takeOut_2 rfl) (mpp 3 rfl ?_)
  refine mp_Tb (t := 28) (j_if_lt dX6_takeOut_3) (by decide) (fun c1 => ?_) (fun c1 => mpp 6 rfl ?_)
  · have c1 : v2.toInt < 0 := ti_lt c1
    exact mp_ret ⟨⟨rfl, trivial⟩, hT, hK, trivial⟩ dX6_takeOut_28 rfl
  · have c1 : v2.toInt ≥ 0 := ti_lt_n c1
    refine mp_a (a_iload_n dX6_takeOut_6 rfl) (mpp 7 rfl ?_)
    refine mp_a (a_aload_n dX6_takeOut_7 rfl) (mpp 8 rfl ?_)
    refine mt_len (n := 8) hT dX6_takeOut_8 rl_292 (by decide) (by decide) rfl (mpp 9 rfl ?_)
    refine mp_a (a_iconst (v := 1) dX6_takeOut_9 rfl) (mpp 10 rfl ?_)
    refine mp_t (s_isub (v := 7) dX6_takeOut_10 rfl) (mpp 11 rfl ?_)
    refine mp_Tb (t := 28) (j_icmp_ge dX6_takeOut_11) (by decide) (fun c2 => ?_) (fun c2 => mpp 14 rfl ?_)
    · have c2 : v2.toInt ≥ 7 := ti_ge c2
      exact mp_ret ⟨⟨rfl, trivial⟩, hT, hK, trivial⟩ dX6_takeOut_28 rfl
    · have c2 : v2.toInt < 7 := ti_ge_n c2
      refine mp_a (a_aload_n dX6_takeOut_14 rfl) (mpp 15 rfl ?_)
      refine mp_a (a_iload_n dX6_takeOut_15 rfl) (mpp 16 rfl ?_)
      refine mp_a (a_aload_n dX6_takeOut_16 rfl) (mpp 17 rfl ?_)
      refine mp_a (a_iload_n dX6_takeOut_17 rfl) (mpp 18 rfl ?_)
      refine mp_a (a_iconst (v := 1) dX6_takeOut_18 rfl) (mpp 19 rfl ?_)
      obtain ⟨z3, h4⟩ := ti_ex (v2 + 1 : Int32)
      have wz3 := ti_full z3
      refine mp_t (s_iadd (v := z3) dX6_takeOut_19 h4) (mpp 20 rfl ?_)
      try have e5 : z3.toInt = v2.toInt + 1 := ti_addz h4 rfl rfl (by omega) (by omega)
      refine mt_ial (n := 8) hT dX6_takeOut_20 rl_292 (by decide) rfl rfl (by omega) (by omega) rfl (fun g6 g7 => mpp 21 rfl ?_)
      refine mt_ias (n := 8) hT dX6_takeOut_21 rl_292 (by decide) rfl rfl (by omega) (by omega) rfl (ti_full (fv P 292 z3.toInt.toNat)) (fun P8 hT9 f10 f11 => mpp 22 rfl ?_)
      have k12 : KW [704] Po P8 := KW.step hK rl_292 rfl f11
      obtain ⟨z13, h14⟩ := ti_ex (v2 + 1 : Int32)
      have wz13 := ti_full z13
      refine mp_a (a_iinc (v := z13) (L' := [(2, .int z13), (0, .ref 292), (1, .int t1)]) dX6_takeOut_22 (by decide) rfl h14 rfl) (mpp 25 rfl ?_)
      try have e15 : z13.toInt = v2.toInt + 1 := ti_addz h14 rfl rfl (by omega) (by omega)
      refine mp_a (a_goto (t := 2) dX6_takeOut_25 (by decide)) ?_
      refine MEvP.less (L := [(0, .ref 292), (1, .int t1), (2, .int z13)]) rfl rfl ⟨rfl, rfl, rfl, trivial⟩ ?_
      exact ih _ (by omega) _ P8 hT9 k12 rfl

set_option maxHeartbeats 4000000 in
theorem c_F_takeOut_rsizes {Po : mP} {t1 : Int32} (hT : Typ Po)   : EvP 1 54 [.ref 292, .int t1] Po (fun r P' => (r = none ∧ (True)) ∧ Typ P' ∧ KW [704] Po P' ∧ True) := by
  refine EvP.of qm_54 (Nat.le_of_ble_eq_true rfl) rfl ?_
  show MEvP _ none q_54 0 [(0, .ref 292), (1, .int t1)] [] _ 0 0 _
  refine mp_a (a_iload_n dX6_takeOut_0 rfl) (mpp 1 rfl ?_)
  refine mp_a (a_istore_n (L' := [(2, .int t1), (0, .ref 292), (1, .int t1)]) dX6_takeOut_1 (by decide) rfl) (mpp 2 rfl ?_)
  refine MEvP.less (L := [(0, .ref 292), (1, .int t1), (2, .int t1)]) rfl rfl ⟨rfl, rfl, rfl, trivial⟩ ?_
  exact c_F_takeOut_rsizes_l2   _ _ Po hT KW.refl rfl

set_option maxHeartbeats 4000000 in
theorem c_F_takeOut_rcreases_l2 {Po : mP} {t1 : Int32}  : ∀ (n : Nat) (v2 : Int32), ∀ (P : mP), Typ P → KW [768] Po P → (2147483647 - v2.toInt).toNat = n → MEvP 0 none q_54 2 [(0, .ref 293), (1, .int t1), (2, .int v2)] [] P 0 0 (fun r P' => (r = none ∧ (True)) ∧ Typ P' ∧ KW [768] Po P' ∧ True) := by
  intro n
  induction n using Nat.strongRecOn with | _ n ih => ?_
  intro v2 P hT hK  hm
  have w_t1 := ti_full t1
  have w_v2 := ti_full v2
  refine mp_a (a_iload_n dX6_takeOut_2 rfl) (mpp 3 rfl ?_)
  refine mp_Tb (t := 28) (j_if_lt dX6_takeOut_3) (by decide) (fun c1 => ?_) (fun c1 => mpp 6 rfl ?_)
  · have c1 : v2.toInt < 0 := ti_lt c1
    exact mp_ret ⟨⟨rfl, trivial⟩, hT, hK, trivial⟩ dX6_takeOut_28 rfl
  · have c1 : v2.toInt ≥ 0 := ti_lt_n c1
    refine mp_a (a_iload_n dX6_takeOut_6 rfl) (mpp 7 rfl ?_)
    refine mp_a (a_aload_n dX6_takeOut_7 rfl) (mpp 8 rfl ?_)
    refine mt_len (n := 8) hT dX6_takeOut_8 rl_293 (by decide) (by decide) rfl (mpp 9 rfl ?_)
    refine mp_a (a_iconst (v := 1) dX6_takeOut_9 rfl) (mpp 10 rfl ?_)
    refine mp_t (s_isub (v := 7) dX6_takeOut_10 rfl) (mpp 11 rfl ?_)
    refine mp_Tb (t := 28) (j_icmp_ge dX6_takeOut_11) (by decide) (fun c2 => ?_) (fun c2 => mpp 14 rfl ?_)
    · have c2 : v2.toInt ≥ 7 := ti_ge c2
      exact mp_ret ⟨⟨rfl, trivial⟩, hT, hK, trivial⟩ dX6_takeOut_28 rfl
    · have c2 : v2.toInt < 7 := ti_ge_n c2
      refine mp_a (a_aload_n dX6_takeOut_14 rfl) (mpp 15 rfl ?_)
      refine mp_a (a_iload_n dX6_takeOut_15 rfl) (mpp 16 rfl ?_)
      refine mp_a (a_aload_n dX6_takeOut_16 rfl) (mpp 17 rfl ?_)
      refine mp_a (a_iload_n dX6_takeOut_17 rfl) (mpp 18 rfl ?_)
      refine mp_a (a_iconst (v := 1) dX6_takeOut_18 rfl) (mpp 19 rfl ?_)
      obtain ⟨z3, h4⟩ := ti_ex (v2 + 1 : Int32)
      have wz3 := ti_full z3
      refine mp_t (s_iadd (v := z3) dX6_takeOut_19 h4) (mpp 20 rfl ?_)
      try have e5 : z3.toInt = v2.toInt + 1 := ti_addz h4 rfl rfl (by omega) (by omega)
      refine mt_ial (n := 8) hT dX6_takeOut_20 rl_293 (by decide) rfl rfl (by omega) (by omega) rfl (fun g6 g7 => mpp 21 rfl ?_)
      refine mt_ias (n := 8) hT dX6_takeOut_21 rl_293 (by decide) rfl rfl (by omega) (by omega) rfl (ti_full (fv P 293 z3.toInt.toNat)) (fun P8 hT9 f10 f11 => mpp 22 rfl ?_)
      have k12 : KW [768] Po P8 := KW.step hK rl_293 rfl f11
      obtain ⟨z13, h14⟩ := ti_ex (v2 + 1 : Int32)
      have wz13 := ti_full z13
      refine mp_a (a_iinc (v := z13) (L' := [(2, .int z13), (0, .ref 293), (1, .int t1)]) dX6_takeOut_22 (by decide) rfl h14 rfl) (mpp 25 rfl ?_)
      try have e15 : z13.toInt = v2.toInt + 1 := ti_addz h14 rfl rfl (by omega) (by omega)
      refine mp_a (a_goto (t := 2) dX6_takeOut_25 (by decide)) ?_
      refine MEvP.less (L := [(0, .ref 293), (1, .int t1), (2, .int z13)]) rfl rfl ⟨rfl, rfl, rfl, trivial⟩ ?_
      exact ih _ (by omega) _ P8 hT9 k12 rfl

set_option maxHeartbeats 4000000 in
theorem c_F_takeOut_rcreases {Po : mP} {t1 : Int32} (hT : Typ Po)   : EvP 1 54 [.ref 293, .int t1] Po (fun r P' => (r = none ∧ (True)) ∧ Typ P' ∧ KW [768] Po P' ∧ True) := by
  refine EvP.of qm_54 (Nat.le_of_ble_eq_true rfl) rfl ?_
  show MEvP _ none q_54 0 [(0, .ref 293), (1, .int t1)] [] _ 0 0 _
  refine mp_a (a_iload_n dX6_takeOut_0 rfl) (mpp 1 rfl ?_)
  refine mp_a (a_istore_n (L' := [(2, .int t1), (0, .ref 293), (1, .int t1)]) dX6_takeOut_1 (by decide) rfl) (mpp 2 rfl ?_)
  refine MEvP.less (L := [(0, .ref 293), (1, .int t1), (2, .int t1)]) rfl rfl ⟨rfl, rfl, rfl, trivial⟩ ?_
  exact c_F_takeOut_rcreases_l2   _ _ Po hT KW.refl rfl

set_option maxHeartbeats 4000000 in
theorem c_CR_make_Reducer {Po : mP} {t1 : Int32} (hT : Typ Po)  (hp0 : 2 ≤ (fv Po 291 1).toInt)  : EvP 2 53 [.ref 291, .int t1] Po (fun r P' => (r = none ∧ (True)) ∧ Typ P' ∧ KW [641, 704, 768] Po P' ∧ True) := by
  refine EvP.of qm_53 (Nat.le_of_ble_eq_true rfl) rfl ?_
  show MEvP _ none q_53 0 [(0, .ref 291), (1, .int t1)] [] _ 0 0 _
  have g1 : (0 : Int) ≤ (fv Po 291 1).toInt ∧ (fv Po 291 1).toInt ≤ 8 := Typ.rng hT rl_291 (by decide) (by decide) rfl
  refine mp_a (a_iload_n dX3_make_0 rfl) (mpp 1 rfl ?_)
  refine mp_a (a_iconst (v := 2) dX3_make_1 rfl) (mpp 2 rfl ?_)
  refine mp_Tb (t := 16) (j_icmp_ne dX3_make_2) (by decide) (fun c2 => ?_) (fun c2 => mpp 5 rfl ?_)
  · have c2 : t1.toInt ≠ 2 := ti_ne c2
    refine mp_a (a_iload_n dX3_make_16 rfl) (mpp 17 rfl ?_)
    refine mp_a (a_iconst (v := 1) dX3_make_17 rfl) (mpp 18 rfl ?_)
    refine mp_Tb (t := 48) (j_icmp_ne dX3_make_18) (by decide) (fun c3 => ?_) (fun c3 => mpp 21 rfl ?_)
    · have c3 : t1.toInt ≠ 1 := ti_ne c3
      refine mp_a (a_iload_n dX3_make_48 rfl) (mpp 49 rfl ?_)
      refine mp_a (a_bipush (v := 10) dX3_make_49 rfl) (mpp 51 rfl ?_)
      obtain ⟨z4, h5⟩ := ti_ex (t1 - 10 : Int32)
      have wz4 := ti_full z4
      refine mp_t (s_isub (v := z4) dX3_make_51 h5) (mpp 52 rfl ?_)
      try have e6 : z4.toInt = t1.toInt - 10 := ti_subz h5 rfl rfl (by omega) (by omega)
      refine mp_a (a_istore_n (L' := [(2, .int z4), (0, .ref 291), (1, .int t1)]) dX3_make_52 (by decide) rfl) (mpp 53 rfl ?_)
      refine mp_a (a_aload_n dX3_make_53 rfl) (mpp 54 rfl ?_)
      refine mp_a (a_iload_n dX3_make_54 rfl) (mpp 55 rfl ?_)
      refine mt_callv (i := 80) (q' := q_49) (As := [.int z4]) (rest := []) hT dX3_make_55 rfl qm_49 (by decide) rfl rl_291 (by decide) rfl (Nat.le_of_ble_eq_true rfl) rfl ⟨rfl, rfl⟩ ⟨Nat.le_of_ble_eq_true rfl, Nat.le_of_ble_eq_true rfl⟩ (EvP.mono (by decide) (c_CR_before_Reducer hT )) (fun r7 P8 g9 => mpp 58 rfl ?_)
      obtain ⟨⟨x10, rfl, g11⟩, e12⟩ := g9
      have e12 := e12.symm
      subst e12
      have wx10 := ti_full x10
      show MEvP _ none q_53 58 [(2, .int z4), (0, .ref 291), (1, .int t1)] [.int x10] _ _ _ _
      refine mp_a (a_istore_n (L' := [(3, .int x10), (2, .int z4), (0, .ref 291), (1, .int t1)]) dX3_make_58 (by decide) rfl) (mpp 59 rfl ?_)
      refine mp_a (a_aload_n dX3_make_59 rfl) (mpp 60 rfl ?_)
      refine mp_a (a_iload_n dX3_make_60 rfl) (mpp 61 rfl ?_)
      refine mt_callv (i := 83) (q' := q_50) (As := [.int z4]) (rest := []) hT dX3_make_61 rfl qm_50 (by decide) rfl rl_291 (by decide) rfl (Nat.le_of_ble_eq_true rfl) rfl ⟨rfl, rfl⟩ ⟨Nat.le_of_ble_eq_true rfl, Nat.le_of_ble_eq_true rfl⟩ (EvP.mono (by decide) (c_CR_after_Reducer hT )) (fun r13 P14 g15 => mpp 64 rfl ?_)
      obtain ⟨⟨x16, rfl, g17⟩, e18⟩ := g15
      have e18 := e18.symm
      subst e18
      have wx16 := ti_full x16
      show MEvP _ none q_53 64 [(3, .int x10), (2, .int z4), (0, .ref 291), (1, .int t1)] [.int x16] _ _ _ _
      refine mp_a (a_istore (L' := [(4, .int x16), (3, .int x10), (2, .int z4), (0, .ref 291), (1, .int t1)]) dX3_make_64 (by decide) rfl) (mpp 66 rfl ?_)
      refine mp_a (a_aload_n dX3_make_66 rfl) (mpp 67 rfl ?_)
      refine mt_getU (i := 9) (k := 2) (A := 292) hT dX3_make_67 rfl rl_291 (by decide) rfl (by decide) rfl un_11 (mpp 70 rfl ?_)
      refine mp_a (a_iload_n dX3_make_70 rfl) (mpp 71 rfl ?_)
      refine mp_a (a_aload_n dX3_make_71 rfl) (mpp 72 rfl ?_)
      refine mt_getU (i := 9) (k := 2) (A := 292) hT dX3_make_72 rfl rl_291 (by decide) rfl (by decide) rfl un_11 (mpp 75 rfl ?_)
      refine mp_a (a_iload_n dX3_make_75 rfl) (mpp 76 rfl ?_)
      refine mp_calls (i := 39) (q' := q_12) (As := [.ref 292, .int x10]) (rest := [.int x10, .ref 292]) dX3_make_76 rfl qm_12 (by decide) rfl (Nat.le_of_ble_eq_true rfl) rfl ⟨rfl, rfl⟩ ⟨Nat.le_of_ble_eq_true rfl, Nat.le_of_ble_eq_true rfl⟩ (EvP.mono (by decide) (c_F_at_rsizes hT )) (fun r19 P20 g21 => mpp 79 rfl ?_)
      obtain ⟨⟨x22, rfl, g23⟩, e24⟩ := g21
      have e24 := e24.symm
      subst e24
      have wx22 := ti_full x22
      show MEvP _ none q_53 79 [(4, .int x16), (3, .int x10), (2, .int z4), (0, .ref 291), (1, .int t1)] [.int x22, .int x10, .ref 292] _ _ _ _
      refine mp_a (a_aload_n dX3_make_79 rfl) (mpp 80 rfl ?_)
      refine mt_getU (i := 9) (k := 2) (A := 292) hT dX3_make_80 rfl rl_291 (by decide) rfl (by decide) rfl un_11 (mpp 83 rfl ?_)
      refine mp_a (a_iload dX3_make_83 rfl) (mpp 85 rfl ?_)
      refine mp_calls (i := 39) (q' := q_12) (As := [.ref 292, .int x16]) (rest := [.int x22, .int x10, .ref 292]) dX3_make_85 rfl qm_12 (by decide) rfl (Nat.le_of_ble_eq_true rfl) rfl ⟨rfl, rfl⟩ ⟨Nat.le_of_ble_eq_true rfl, Nat.le_of_ble_eq_true rfl⟩ (EvP.mono (by decide) (c_F_at_rsizes hT )) (fun r25 P26 g27 => mpp 88 rfl ?_)
      obtain ⟨⟨x28, rfl, g29⟩, e30⟩ := g27
      have e30 := e30.symm
      subst e30
      have wx28 := ti_full x28
      show MEvP _ none q_53 88 [(4, .int x16), (3, .int x10), (2, .int z4), (0, .ref 291), (1, .int t1)] [.int x28, .int x22, .int x10, .ref 292] _ _ _ _
      obtain ⟨z31, h32⟩ := ti_ex (x22 + x28 : Int32)
      have wz31 := ti_full z31
      refine mp_t (s_iadd (v := z31) dX3_make_88 h32) (mpp 89 rfl ?_)
      try have e33 : z31.toInt = x22.toInt + x28.toInt := ti_addz h32 rfl rfl (by omega) (by omega)
      refine mp_a (a_aload_n dX3_make_89 rfl) (mpp 90 rfl ?_)
      refine mt_getU (i := 9) (k := 2) (A := 292) hT dX3_make_90 rfl rl_291 (by decide) rfl (by decide) rfl un_11 (mpp 93 rfl ?_)
      refine mp_a (a_iload_n dX3_make_93 rfl) (mpp 94 rfl ?_)
      refine mp_calls (i := 39) (q' := q_12) (As := [.ref 292, .int z4]) (rest := [.int z31, .int x10, .ref 292]) dX3_make_94 rfl qm_12 (by decide) rfl (Nat.le_of_ble_eq_true rfl) rfl ⟨rfl, rfl⟩ ⟨Nat.le_of_ble_eq_true rfl, Nat.le_of_ble_eq_true rfl⟩ (EvP.mono (by decide) (c_F_at_rsizes hT )) (fun r34 P35 g36 => mpp 97 rfl ?_)
      obtain ⟨⟨x37, rfl, g38⟩, e39⟩ := g36
      have e39 := e39.symm
      subst e39
      have wx37 := ti_full x37
      show MEvP _ none q_53 97 [(4, .int x16), (3, .int x10), (2, .int z4), (0, .ref 291), (1, .int t1)] [.int x37, .int z31, .int x10, .ref 292] _ _ _ _
      obtain ⟨z40, h41⟩ := ti_ex (z31 - x37 : Int32)
      have wz40 := ti_full z40
      refine mp_t (s_isub (v := z40) dX3_make_97 h41) (mpp 98 rfl ?_)
      try have e42 : z40.toInt = z31.toInt - x37.toInt := ti_subz h41 rfl rfl (by omega) (by omega)
      refine mp_calls (i := 47) (q' := q_22) (As := [.ref 292, .int x10, .int z40]) (rest := []) dX3_make_98 rfl qm_22 (by decide) rfl (Nat.le_of_ble_eq_true rfl) rfl ⟨rfl, rfl⟩ ⟨Nat.le_of_ble_eq_true rfl, Nat.le_of_ble_eq_true rfl⟩ (EvP.mono (by decide) (c_F_put_rsizes hT )) (fun r43 P44 g45 => mpp 101 rfl ?_)
      obtain ⟨⟨rfl, g47⟩, hT48, k49, R50⟩ := g45
      have k51 : KW [641, 704, 768] Po P44 := KW.trans KW.refl k49 rfl
      show MEvP _ none q_53 101 [(4, .int x16), (3, .int x10), (2, .int z4), (0, .ref 291), (1, .int t1)] [] _ _ _ _
      refine mp_a (a_aload_n dX3_make_101 rfl) (mpp 102 rfl ?_)
      refine mt_getU (i := 9) (k := 2) (A := 292) hT48 dX3_make_102 rfl rl_291 (by decide) rfl (by decide) rfl un_11 (mpp 105 rfl ?_)
      refine mp_a (a_iload_n dX3_make_105 rfl) (mpp 106 rfl ?_)
      refine mp_a (a_iload dX3_make_106 rfl) (mpp 108 rfl ?_)
      obtain ⟨z52, h53⟩ := ti_ex (if (7 : Nat) = 7 then (if z4 < x16 then x16 else z4) else (if x16 < z4 then x16 else z4) : Int32)
      have e54 : z52.toInt = max z4.toInt x16.toInt := ti_mm7 h53
      refine mp_math (i := 109) (k := 0) (v := z52) dX3_make_108 rfl (by decide) (Nat.le_of_ble_eq_true rfl) h53 ⟨Nat.le_of_ble_eq_true rfl, Nat.le_of_ble_eq_true rfl⟩ (mpp 111 rfl ?_)
      refine mp_calls (i := 105) (q' := q_54) (As := [.ref 292, .int z52]) (rest := []) dX3_make_111 rfl qm_54 (by decide) rfl (Nat.le_of_ble_eq_true rfl) rfl ⟨rfl, rfl⟩ ⟨Nat.le_of_ble_eq_true rfl, Nat.le_of_ble_eq_true rfl⟩ (EvP.mono (by decide) (c_F_takeOut_rsizes hT48 )) (fun r55 P56 g57 => mpp 114 rfl ?_)
      obtain ⟨⟨rfl, g59⟩, hT60, k61, R62⟩ := g57
      have k63 : KW [641, 704, 768] Po P56 := KW.trans k51 k61 rfl
      show MEvP _ none q_53 114 [(4, .int x16), (3, .int x10), (2, .int z4), (0, .ref 291), (1, .int t1)] [] _ _ _ _
      refine mp_a (a_aload_n dX3_make_114 rfl) (mpp 115 rfl ?_)
      refine mt_getU (i := 9) (k := 2) (A := 292) hT60 dX3_make_115 rfl rl_291 (by decide) rfl (by decide) rfl un_11 (mpp 118 rfl ?_)
      refine mp_a (a_iload_n dX3_make_118 rfl) (mpp 119 rfl ?_)
      refine mp_a (a_iload dX3_make_119 rfl) (mpp 121 rfl ?_)
      obtain ⟨z64, h65⟩ := ti_ex (if (8 : Nat) = 7 then (if z4 < x16 then x16 else z4) else (if x16 < z4 then x16 else z4) : Int32)
      have e66 : z64.toInt = min z4.toInt x16.toInt := ti_mm8 h65
      refine mp_math (i := 112) (k := 0) (v := z64) dX3_make_121 rfl (by decide) (Nat.le_of_ble_eq_true rfl) h65 ⟨Nat.le_of_ble_eq_true rfl, Nat.le_of_ble_eq_true rfl⟩ (mpp 124 rfl ?_)
      refine mp_calls (i := 105) (q' := q_54) (As := [.ref 292, .int z64]) (rest := []) dX3_make_124 rfl qm_54 (by decide) rfl (Nat.le_of_ble_eq_true rfl) rfl ⟨rfl, rfl⟩ ⟨Nat.le_of_ble_eq_true rfl, Nat.le_of_ble_eq_true rfl⟩ (EvP.mono (by decide) (c_F_takeOut_rsizes hT60 )) (fun r67 P68 g69 => mpp 127 rfl ?_)
      obtain ⟨⟨rfl, g71⟩, hT72, k73, R74⟩ := g69
      have k75 : KW [641, 704, 768] Po P68 := KW.trans k63 k73 rfl
      show MEvP _ none q_53 127 [(4, .int x16), (3, .int x10), (2, .int z4), (0, .ref 291), (1, .int t1)] [] _ _ _ _
      refine mp_a (a_aload_n dX3_make_127 rfl) (mpp 128 rfl ?_)
      refine mt_getU (i := 15) (k := 3) (A := 293) hT72 dX3_make_128 rfl rl_291 (by decide) rfl (by decide) rfl un_12 (mpp 131 rfl ?_)
      refine mp_a (a_iload_n dX3_make_131 rfl) (mpp 132 rfl ?_)
      refine mp_a (a_iload dX3_make_132 rfl) (mpp 134 rfl ?_)
      obtain ⟨z76, h77⟩ := ti_ex (if (7 : Nat) = 7 then (if z4 < x16 then x16 else z4) else (if x16 < z4 then x16 else z4) : Int32)
      have e78 : z76.toInt = max z4.toInt x16.toInt := ti_mm7 h77
      refine mp_math (i := 109) (k := 0) (v := z76) dX3_make_134 rfl (by decide) (Nat.le_of_ble_eq_true rfl) h77 ⟨Nat.le_of_ble_eq_true rfl, Nat.le_of_ble_eq_true rfl⟩ (mpp 137 rfl ?_)
      refine mp_calls (i := 105) (q' := q_54) (As := [.ref 293, .int z76]) (rest := []) dX3_make_137 rfl qm_54 (by decide) rfl (Nat.le_of_ble_eq_true rfl) rfl ⟨rfl, rfl⟩ ⟨Nat.le_of_ble_eq_true rfl, Nat.le_of_ble_eq_true rfl⟩ (EvP.mono (by decide) (c_F_takeOut_rcreases hT72 )) (fun r79 P80 g81 => mpp 140 rfl ?_)
      obtain ⟨⟨rfl, g83⟩, hT84, k85, R86⟩ := g81
      have k87 : KW [641, 704, 768] Po P80 := KW.trans k75 k85 rfl
      show MEvP _ none q_53 140 [(4, .int x16), (3, .int x10), (2, .int z4), (0, .ref 291), (1, .int t1)] [] _ _ _ _
      refine mp_a (a_aload_n dX3_make_140 rfl) (mpp 141 rfl ?_)
      refine mt_getU (i := 15) (k := 3) (A := 293) hT84 dX3_make_141 rfl rl_291 (by decide) rfl (by decide) rfl un_12 (mpp 144 rfl ?_)
      refine mp_a (a_iload_n dX3_make_144 rfl) (mpp 145 rfl ?_)
      refine mp_a (a_iload dX3_make_145 rfl) (mpp 147 rfl ?_)
      obtain ⟨z88, h89⟩ := ti_ex (if (8 : Nat) = 7 then (if z4 < x16 then x16 else z4) else (if x16 < z4 then x16 else z4) : Int32)
      have e90 : z88.toInt = min z4.toInt x16.toInt := ti_mm8 h89
      refine mp_math (i := 112) (k := 0) (v := z88) dX3_make_147 rfl (by decide) (Nat.le_of_ble_eq_true rfl) h89 ⟨Nat.le_of_ble_eq_true rfl, Nat.le_of_ble_eq_true rfl⟩ (mpp 150 rfl ?_)
      refine mp_calls (i := 105) (q' := q_54) (As := [.ref 293, .int z88]) (rest := []) dX3_make_150 rfl qm_54 (by decide) rfl (Nat.le_of_ble_eq_true rfl) rfl ⟨rfl, rfl⟩ ⟨Nat.le_of_ble_eq_true rfl, Nat.le_of_ble_eq_true rfl⟩ (EvP.mono (by decide) (c_F_takeOut_rcreases hT84 )) (fun r91 P92 g93 => mpp 153 rfl ?_)
      obtain ⟨⟨rfl, g95⟩, hT96, k97, R98⟩ := g93
      have k99 : KW [641, 704, 768] Po P92 := KW.trans k87 k97 rfl
      show MEvP _ none q_53 153 [(4, .int x16), (3, .int x10), (2, .int z4), (0, .ref 291), (1, .int t1)] [] _ _ _ _
      refine mp_a (a_aload_n dX3_make_153 rfl) (mpp 154 rfl ?_)
      refine mp_t (s_dup dX3_make_154 rfl) (mpp 155 rfl ?_)
      have e100 : (fv P92 291 1).toInt = (fv Po 291 1).toInt := congrArg Int32.toInt ((KW.at k97 1 rl_291 rfl).trans ((KW.at k85 1 rl_291 rfl).trans ((KW.at k73 1 rl_291 rfl).trans ((KW.at k61 1 rl_291 rfl).trans (KW.at k49 1 rl_291 rfl)))))
      refine mt_getI (i := 28) (k := 1) hT96 dX3_make_155 rfl rl_291 (by decide) rfl (by decide) rfl (fun g101 g102 => mpp 158 rfl ?_)
      refine mp_a (a_iconst (v := 2) dX3_make_158 rfl) (mpp 159 rfl ?_)
      obtain ⟨z103, h104⟩ := ti_ex ((fv P92 291 1) - 2 : Int32)
      have wz103 := ti_full z103
      refine mp_t (s_isub (v := z103) dX3_make_159 h104) (mpp 160 rfl ?_)
      try have e105 : z103.toInt = (fv P92 291 1).toInt - 2 := ti_subz h104 rfl rfl (by omega) (by omega)
      refine mt_putI (i := 28) (k := 1) (x := z103) hT96 dX3_make_160 rfl rl_291 (by decide) rfl (by decide) rfl ⟨by omega, by omega⟩ rfl rfl (fun P106 hT107 f108 f109 => mpp 163 rfl ?_)
      have k110 : KW [641, 704, 768] Po P106 := KW.step k99 rl_291 rfl f109
      have e111 : (fv P106 291 1).toInt = z103.toInt := congrArg Int32.toInt f108
      exact mp_ret ⟨⟨rfl, trivial⟩, hT107, k110, trivial⟩ dX3_make_163 rfl
    · have c3 : t1.toInt = 1 := ti_ne_n c3
      refine mp_a (a_aload_n dX3_make_21 rfl) (mpp 22 rfl ?_)
      refine mt_getU (i := 9) (k := 2) (A := 292) hT dX3_make_22 rfl rl_291 (by decide) rfl (by decide) rfl un_11 (mpp 25 rfl ?_)
      refine mp_a (a_iconst (v := 0) dX3_make_25 rfl) (mpp 26 rfl ?_)
      refine mp_calls (i := 105) (q' := q_54) (As := [.ref 292, .int 0]) (rest := []) dX3_make_26 rfl qm_54 (by decide) rfl (Nat.le_of_ble_eq_true rfl) rfl ⟨rfl, rfl⟩ ⟨Nat.le_of_ble_eq_true rfl, Nat.le_of_ble_eq_true rfl⟩ (EvP.mono (by decide) (c_F_takeOut_rsizes hT )) (fun r112 P113 g114 => mpp 29 rfl ?_)
      obtain ⟨⟨rfl, g116⟩, hT117, k118, R119⟩ := g114
      have k120 : KW [641, 704, 768] Po P113 := KW.trans KW.refl k118 rfl
      show MEvP _ none q_53 29 [(0, .ref 291), (1, .int t1)] [] _ _ _ _
      refine mp_a (a_aload_n dX3_make_29 rfl) (mpp 30 rfl ?_)
      refine mt_getU (i := 15) (k := 3) (A := 293) hT117 dX3_make_30 rfl rl_291 (by decide) rfl (by decide) rfl un_12 (mpp 33 rfl ?_)
      refine mp_a (a_iconst (v := 0) dX3_make_33 rfl) (mpp 34 rfl ?_)
      refine mp_calls (i := 105) (q' := q_54) (As := [.ref 293, .int 0]) (rest := []) dX3_make_34 rfl qm_54 (by decide) rfl (Nat.le_of_ble_eq_true rfl) rfl ⟨rfl, rfl⟩ ⟨Nat.le_of_ble_eq_true rfl, Nat.le_of_ble_eq_true rfl⟩ (EvP.mono (by decide) (c_F_takeOut_rcreases hT117 )) (fun r121 P122 g123 => mpp 37 rfl ?_)
      obtain ⟨⟨rfl, g125⟩, hT126, k127, R128⟩ := g123
      have k129 : KW [641, 704, 768] Po P122 := KW.trans k120 k127 rfl
      show MEvP _ none q_53 37 [(0, .ref 291), (1, .int t1)] [] _ _ _ _
      refine mp_a (a_aload_n dX3_make_37 rfl) (mpp 38 rfl ?_)
      refine mp_t (s_dup dX3_make_38 rfl) (mpp 39 rfl ?_)
      have e130 : (fv P122 291 1).toInt = (fv Po 291 1).toInt := congrArg Int32.toInt ((KW.at k127 1 rl_291 rfl).trans (KW.at k118 1 rl_291 rfl))
      refine mt_getI (i := 28) (k := 1) hT126 dX3_make_39 rfl rl_291 (by decide) rfl (by decide) rfl (fun g131 g132 => mpp 42 rfl ?_)
      refine mp_a (a_iconst (v := 1) dX3_make_42 rfl) (mpp 43 rfl ?_)
      obtain ⟨z133, h134⟩ := ti_ex ((fv P122 291 1) - 1 : Int32)
      have wz133 := ti_full z133
      refine mp_t (s_isub (v := z133) dX3_make_43 h134) (mpp 44 rfl ?_)
      try have e135 : z133.toInt = (fv P122 291 1).toInt - 1 := ti_subz h134 rfl rfl (by omega) (by omega)
      refine mt_putI (i := 28) (k := 1) (x := z133) hT126 dX3_make_44 rfl rl_291 (by decide) rfl (by decide) rfl ⟨by omega, by omega⟩ rfl rfl (fun P136 hT137 f138 f139 => mpp 47 rfl ?_)
      have k140 : KW [641, 704, 768] Po P136 := KW.step k129 rl_291 rfl f139
      have e141 : (fv P136 291 1).toInt = z133.toInt := congrArg Int32.toInt f138
      exact mp_ret ⟨⟨rfl, trivial⟩, hT137, k140, trivial⟩ dX3_make_47 rfl
  · have c2 : t1.toInt = 2 := ti_ne_n c2
    refine mp_a (a_aload_n dX3_make_5 rfl) (mpp 6 rfl ?_)
    refine mp_t (s_dup dX3_make_6 rfl) (mpp 7 rfl ?_)
    refine mt_getI (i := 28) (k := 1) hT dX3_make_7 rfl rl_291 (by decide) rfl (by decide) rfl (fun g142 g143 => mpp 10 rfl ?_)
    refine mp_a (a_iconst (v := 1) dX3_make_10 rfl) (mpp 11 rfl ?_)
    obtain ⟨z144, h145⟩ := ti_ex ((fv Po 291 1) - 1 : Int32)
    have wz144 := ti_full z144
    refine mp_t (s_isub (v := z144) dX3_make_11 h145) (mpp 12 rfl ?_)
    try have e146 : z144.toInt = (fv Po 291 1).toInt - 1 := ti_subz h145 rfl rfl (by omega) (by omega)
    refine mt_putI (i := 28) (k := 1) (x := z144) hT dX3_make_12 rfl rl_291 (by decide) rfl (by decide) rfl ⟨by omega, by omega⟩ rfl rfl (fun P147 hT148 f149 f150 => mpp 15 rfl ?_)
    have k151 : KW [641, 704, 768] Po P147 := KW.step KW.refl rl_291 rfl f150
    have e152 : (fv P147 291 1).toInt = z144.toInt := congrArg Int32.toInt f149
    exact mp_ret ⟨⟨rfl, trivial⟩, hT148, k151, trivial⟩ dX3_make_15 rfl

set_option maxHeartbeats 4000000 in
theorem c_CR_reduce_Reducer_l7 {Po : mP}   : ∀ (n : Nat) (v1 : Int32) (v2 : Int32), ∀ (P : mP), Typ P → KW [641, 704, 768] Po P → (v2.toInt = 0 ∨ 2 ≤ (fv P 291 1).toInt) → (0 ≤ v1.toInt) → (2147483647 - v1.toInt).toNat = n → MEvP 2 none q_51 7 [(0, .ref 291), (1, .int v1), (2, .int v2)] [] P 0 0 (fun r P' => (∃ x : Int32, r = some (.int x) ∧ (True)) ∧ Typ P' ∧ KW [641, 704, 768] Po P' ∧ True) := by
  intro n
  induction n using Nat.strongRecOn with | _ n ih => ?_
  intro v1 v2 P hT hK i_0 i_1 hm
  have w_v1 := ti_full v1
  have w_v2 := ti_full v2
  have g1 : (0 : Int) ≤ (fv P 291 1).toInt ∧ (fv P 291 1).toInt ≤ 8 := Typ.rng hT rl_291 (by decide) (by decide) rfl
  have g2 : (0 : Int) ≤ (fv P 291 1).toInt ∧ (fv P 291 1).toInt ≤ 8 := Typ.rng hT rl_291 (by decide) (by decide) rfl
  refine mp_a (a_iload_n dX3_reduce_7 rfl) (mpp 8 rfl ?_)
  refine mp_a (a_bipush (v := 8) dX3_reduce_8 rfl) (mpp 10 rfl ?_)
  refine mp_Tb (t := 33) (j_icmp_ge dX3_reduce_10) (by decide) (fun c3 => ?_) (fun c3 => mpp 13 rfl ?_)
  · have c3 : v1.toInt ≥ 8 := ti_ge c3
    refine mp_a (a_iload_n dX3_reduce_33 rfl) (mpp 34 rfl ?_)
    exact mp_iret ⟨⟨_, rfl, trivial⟩, hT, hK, trivial⟩ dX3_reduce_34 (Or.inl rfl)
  · have c3 : v1.toInt < 8 := ti_ge_n c3
    refine mp_a (a_iload_n dX3_reduce_13 rfl) (mpp 14 rfl ?_)
    refine mp_Tb (t := 33) (j_if_eq dX3_reduce_14) (by decide) (fun c4 => ?_) (fun c4 => mpp 17 rfl ?_)
    · have c4 : v2.toInt = 0 := ti_eq c4
      refine mp_a (a_iload_n dX3_reduce_33 rfl) (mpp 34 rfl ?_)
      exact mp_iret ⟨⟨_, rfl, trivial⟩, hT, hK, trivial⟩ dX3_reduce_34 (Or.inl rfl)
    · have c4 : v2.toInt ≠ 0 := ti_eq_n c4
      refine mp_a (a_aload_n dX3_reduce_17 rfl) (mpp 18 rfl ?_)
      refine mp_a (a_iload_n dX3_reduce_18 rfl) (mpp 19 rfl ?_)
      have p5 : 2 ≤ (fv P 291 1).toInt := by omega
      refine mt_callv (i := 101) (q' := q_53) (As := [.int v2]) (rest := []) hT dX3_reduce_19 rfl qm_53 (by decide) rfl rl_291 (by decide) rfl (Nat.le_of_ble_eq_true rfl) rfl ⟨rfl, rfl⟩ ⟨Nat.le_of_ble_eq_true rfl, Nat.le_of_ble_eq_true rfl⟩ (EvP.mono (by decide) (c_CR_make_Reducer hT p5 )) (fun r6 P7 g8 => mpp 22 rfl ?_)
      obtain ⟨⟨rfl, g10⟩, hT11, k12, R13⟩ := g8
      have k14 : KW [641, 704, 768] Po P7 := KW.trans hK k12 rfl
      show MEvP _ none q_51 22 [(0, .ref 291), (1, .int v1), (2, .int v2)] [] _ _ _ _
      obtain ⟨z15, h16⟩ := ti_ex (v1 + 1 : Int32)
      have wz15 := ti_full z15
      refine mp_a (a_iinc (v := z15) (L' := [(1, .int z15), (0, .ref 291), (2, .int v2)]) dX3_reduce_22 (by decide) rfl h16 rfl) (mpp 25 rfl ?_)
      try have e17 : z15.toInt = v1.toInt + 1 := ti_addz h16 rfl rfl (by omega) (by omega)
      refine mp_a (a_aload_n dX3_reduce_25 rfl) (mpp 26 rfl ?_)
      refine mt_callv (i := 98) (q' := q_52) (As := []) (rest := []) hT11 dX3_reduce_26 rfl qm_52 (by decide) rfl rl_291 (by decide) rfl (Nat.le_of_ble_eq_true rfl) rfl ⟨rfl, rfl⟩ ⟨Nat.le_of_ble_eq_true rfl, Nat.le_of_ble_eq_true rfl⟩ (EvP.mono (by decide) (c_CR_firstStep_Reducer hT11 )) (fun r18 P19 g20 => mpp 29 rfl ?_)
      obtain ⟨⟨x21, rfl, g22⟩, e23⟩ := g20
      have e23 := e23.symm
      subst e23
      have wx21 := ti_full x21
      have g22 : x21.toInt = 0 ∨ 2 ≤ (fv P7 291 1).toInt := g22
      have g24 : (0 : Int) ≤ (fv P7 291 1).toInt ∧ (fv P7 291 1).toInt ≤ 8 := Typ.rng hT11 rl_291 (by decide) (by decide) rfl
      show MEvP _ none q_51 29 [(1, .int z15), (0, .ref 291), (2, .int v2)] [.int x21] _ _ _ _
      refine mp_a (a_istore_n (L' := [(2, .int x21), (1, .int z15), (0, .ref 291)]) dX3_reduce_29 (by decide) rfl) (mpp 30 rfl ?_)
      refine mp_a (a_goto (t := 7) dX3_reduce_30 (by decide)) ?_
      refine MEvP.less (L := [(0, .ref 291), (1, .int z15), (2, .int x21)]) rfl rfl ⟨rfl, rfl, rfl, trivial⟩ ?_
      have i25 : x21.toInt = 0 ∨ 2 ≤ (fv P7 291 1).toInt := by omega
      have i26 : 0 ≤ z15.toInt := by omega
      exact ih _ (by omega) _ _ P7 hT11 k14 i25 i26 rfl

set_option maxHeartbeats 4000000 in
theorem c_CR_reduce_Reducer {Po : mP}  (hT : Typ Po)   : EvP 3 51 [.ref 291] Po (fun r P' => (∃ x : Int32, r = some (.int x) ∧ (True)) ∧ Typ P' ∧ KW [641, 704, 768] Po P' ∧ True) := by
  refine EvP.of qm_51 (Nat.le_of_ble_eq_true rfl) rfl ?_
  show MEvP _ none q_51 0 [(0, .ref 291)] [] _ 0 0 _
  refine mp_a (a_iconst (v := 0) dX3_reduce_0 rfl) (mpp 1 rfl ?_)
  refine mp_a (a_istore_n (L' := [(1, .int 0), (0, .ref 291)]) dX3_reduce_1 (by decide) rfl) (mpp 2 rfl ?_)
  refine mp_a (a_aload_n dX3_reduce_2 rfl) (mpp 3 rfl ?_)
  refine mt_callv (i := 98) (q' := q_52) (As := []) (rest := []) hT dX3_reduce_3 rfl qm_52 (by decide) rfl rl_291 (by decide) rfl (Nat.le_of_ble_eq_true rfl) rfl ⟨rfl, rfl⟩ ⟨Nat.le_of_ble_eq_true rfl, Nat.le_of_ble_eq_true rfl⟩ (EvP.mono (by decide) (c_CR_firstStep_Reducer hT )) (fun r1 P2 g3 => mpp 6 rfl ?_)
  obtain ⟨⟨x4, rfl, g5⟩, e6⟩ := g3
  have e6 := e6.symm
  subst e6
  have wx4 := ti_full x4
  have g5 : x4.toInt = 0 ∨ 2 ≤ (fv Po 291 1).toInt := g5
  have g7 : (0 : Int) ≤ (fv Po 291 1).toInt ∧ (fv Po 291 1).toInt ≤ 8 := Typ.rng hT rl_291 (by decide) (by decide) rfl
  show MEvP _ none q_51 6 [(1, .int 0), (0, .ref 291)] [.int x4] _ _ _ _
  refine mp_a (a_istore_n (L' := [(2, .int x4), (1, .int 0), (0, .ref 291)]) dX3_reduce_6 (by decide) rfl) (mpp 7 rfl ?_)
  refine MEvP.less (L := [(0, .ref 291), (1, .int 0), (2, .int x4)]) rfl rfl ⟨rfl, rfl, rfl, trivial⟩ ?_
  have i8 : x4.toInt = 0 ∨ 2 ≤ (fv Po 291 1).toInt := by omega
  have i9 : 0 ≤ (0 : Int) := by omega
  exact c_CR_reduce_Reducer_l7   _ _ _ Po hT KW.refl i8 i9 rfl

set_option maxHeartbeats 4000000 in
theorem c_CR_isReduced_Reducer {Po : mP}  (hT : Typ Po)   : EvP 2 55 [.ref 291] Po (fun r P' => (∃ x : Int32, r = some (.int x) ∧ (0 ≤ x.toInt ∧ x.toInt ≤ 1)) ∧ P' = Po) := by
  refine EvP.of qm_55 (Nat.le_of_ble_eq_true rfl) rfl ?_
  show MEvP _ none q_55 0 [(0, .ref 291)] [] _ 0 0 _
  refine mp_a (a_aload_n dX3_isReduced_0 rfl) (mpp 1 rfl ?_)
  have g1 := ti_full (fv Po 291 0)
  refine mt_getI (i := 24) (k := 0) hT dX3_isReduced_1 rfl rl_291 (by decide) rfl (by decide) rfl (fun g2 g3 => mpp 4 rfl ?_)
  refine mp_Tb (t := 21) (j_if_ne dX3_isReduced_4) (by decide) (fun c4 => ?_) (fun c4 => mpp 7 rfl ?_)
  · have c4 : (fv Po 291 0).toInt ≠ 0 := ti_ne c4
    refine mp_a (a_aload_n dX3_isReduced_21 rfl) (mpp 22 rfl ?_)
    have g5 : (0 : Int) ≤ (fv Po 291 1).toInt ∧ (fv Po 291 1).toInt ≤ 8 := Typ.rng hT rl_291 (by decide) (by decide) rfl
    refine mt_getI (i := 28) (k := 1) hT dX3_isReduced_22 rfl rl_291 (by decide) rfl (by decide) rfl (fun g6 g7 => mpp 25 rfl ?_)
    refine mp_a (a_iconst (v := 2) dX3_isReduced_25 rfl) (mpp 26 rfl ?_)
    refine mp_Tb (t := 71) (j_icmp_ne dX3_isReduced_26) (by decide) (fun c8 => ?_) (fun c8 => mpp 29 rfl ?_)
    · have c8 : (fv Po 291 1).toInt ≠ 2 := ti_ne c8
      refine mp_a (a_iconst (v := 0) dX3_isReduced_71 rfl) (mpp 72 rfl ?_)
      have u9 : 0 ≤ (0 : Int) ∧ (0 : Int) ≤ 1 := by omega
      exact mp_iret ⟨⟨_, rfl, u9⟩, rfl⟩ dX3_isReduced_72 (Or.inr ⟨rfl, by decide⟩)
    · have c8 : (fv Po 291 1).toInt = 2 := ti_ne_n c8
      refine mp_a (a_aload_n dX3_isReduced_29 rfl) (mpp 30 rfl ?_)
      refine mt_getU (i := 9) (k := 2) (A := 292) hT dX3_isReduced_30 rfl rl_291 (by decide) rfl (by decide) rfl un_11 (mpp 33 rfl ?_)
      refine mp_a (a_iconst (v := 0) dX3_isReduced_33 rfl) (mpp 34 rfl ?_)
      refine mp_calls (i := 39) (q' := q_12) (As := [.ref 292, .int 0]) (rest := []) dX3_isReduced_34 rfl qm_12 (by decide) rfl (Nat.le_of_ble_eq_true rfl) rfl ⟨rfl, rfl⟩ ⟨Nat.le_of_ble_eq_true rfl, Nat.le_of_ble_eq_true rfl⟩ (EvP.mono (by decide) (c_F_at_rsizes hT )) (fun r10 P11 g12 => mpp 37 rfl ?_)
      obtain ⟨⟨x13, rfl, g14⟩, e15⟩ := g12
      have e15 := e15.symm
      subst e15
      have wx13 := ti_full x13
      show MEvP _ none q_55 37 [(0, .ref 291)] [.int x13] _ _ _ _
      refine mp_a (a_aload_n dX3_isReduced_37 rfl) (mpp 38 rfl ?_)
      refine mt_getU (i := 9) (k := 2) (A := 292) hT dX3_isReduced_38 rfl rl_291 (by decide) rfl (by decide) rfl un_11 (mpp 41 rfl ?_)
      refine mp_a (a_iconst (v := 1) dX3_isReduced_41 rfl) (mpp 42 rfl ?_)
      refine mp_calls (i := 39) (q' := q_12) (As := [.ref 292, .int 1]) (rest := [.int x13]) dX3_isReduced_42 rfl qm_12 (by decide) rfl (Nat.le_of_ble_eq_true rfl) rfl ⟨rfl, rfl⟩ ⟨Nat.le_of_ble_eq_true rfl, Nat.le_of_ble_eq_true rfl⟩ (EvP.mono (by decide) (c_F_at_rsizes hT )) (fun r16 P17 g18 => mpp 45 rfl ?_)
      obtain ⟨⟨x19, rfl, g20⟩, e21⟩ := g18
      have e21 := e21.symm
      subst e21
      have wx19 := ti_full x19
      show MEvP _ none q_55 45 [(0, .ref 291)] [.int x19, .int x13] _ _ _ _
      refine mp_Tb (t := 71) (j_icmp_ne dX3_isReduced_45) (by decide) (fun c22 => ?_) (fun c22 => mpp 48 rfl ?_)
      · have c22 : x13.toInt ≠ x19.toInt := ti_ne c22
        refine mp_a (a_iconst (v := 0) dX3_isReduced_71 rfl) (mpp 72 rfl ?_)
        have u23 : 0 ≤ (0 : Int) ∧ (0 : Int) ≤ 1 := by omega
        exact mp_iret ⟨⟨_, rfl, u23⟩, rfl⟩ dX3_isReduced_72 (Or.inr ⟨rfl, by decide⟩)
      · have c22 : x13.toInt = x19.toInt := ti_ne_n c22
        refine mp_a (a_aload_n dX3_isReduced_48 rfl) (mpp 49 rfl ?_)
        refine mt_getU (i := 15) (k := 3) (A := 293) hT dX3_isReduced_49 rfl rl_291 (by decide) rfl (by decide) rfl un_12 (mpp 52 rfl ?_)
        refine mp_a (a_iconst (v := 0) dX3_isReduced_52 rfl) (mpp 53 rfl ?_)
        refine mp_calls (i := 39) (q' := q_12) (As := [.ref 293, .int 0]) (rest := []) dX3_isReduced_53 rfl qm_12 (by decide) rfl (Nat.le_of_ble_eq_true rfl) rfl ⟨rfl, rfl⟩ ⟨Nat.le_of_ble_eq_true rfl, Nat.le_of_ble_eq_true rfl⟩ (EvP.mono (by decide) (c_F_at_rcreases hT )) (fun r24 P25 g26 => mpp 56 rfl ?_)
        obtain ⟨⟨x27, rfl, g28⟩, e29⟩ := g26
        have e29 := e29.symm
        subst e29
        have wx27 := ti_full x27
        show MEvP _ none q_55 56 [(0, .ref 291)] [.int x27] _ _ _ _
        refine mp_a (a_aload_n dX3_isReduced_56 rfl) (mpp 57 rfl ?_)
        refine mt_getU (i := 15) (k := 3) (A := 293) hT dX3_isReduced_57 rfl rl_291 (by decide) rfl (by decide) rfl un_12 (mpp 60 rfl ?_)
        refine mp_a (a_iconst (v := 1) dX3_isReduced_60 rfl) (mpp 61 rfl ?_)
        refine mp_calls (i := 39) (q' := q_12) (As := [.ref 293, .int 1]) (rest := [.int x27]) dX3_isReduced_61 rfl qm_12 (by decide) rfl (Nat.le_of_ble_eq_true rfl) rfl ⟨rfl, rfl⟩ ⟨Nat.le_of_ble_eq_true rfl, Nat.le_of_ble_eq_true rfl⟩ (EvP.mono (by decide) (c_F_at_rcreases hT )) (fun r30 P31 g32 => mpp 64 rfl ?_)
        obtain ⟨⟨x33, rfl, g34⟩, e35⟩ := g32
        have e35 := e35.symm
        subst e35
        have wx33 := ti_full x33
        show MEvP _ none q_55 64 [(0, .ref 291)] [.int x33, .int x27] _ _ _ _
        refine mp_Tb (t := 71) (j_icmp_ne dX3_isReduced_64) (by decide) (fun c36 => ?_) (fun c36 => mpp 67 rfl ?_)
        · have c36 : x27.toInt ≠ x33.toInt := ti_ne c36
          refine mp_a (a_iconst (v := 0) dX3_isReduced_71 rfl) (mpp 72 rfl ?_)
          have u37 : 0 ≤ (0 : Int) ∧ (0 : Int) ≤ 1 := by omega
          exact mp_iret ⟨⟨_, rfl, u37⟩, rfl⟩ dX3_isReduced_72 (Or.inr ⟨rfl, by decide⟩)
        · have c36 : x27.toInt = x33.toInt := ti_ne_n c36
          refine mp_a (a_iconst (v := 1) dX3_isReduced_67 rfl) (mpp 68 rfl ?_)
          refine mp_a (a_goto (t := 72) dX3_isReduced_68 (by decide)) ?_
          have u38 : 0 ≤ (1 : Int) ∧ (1 : Int) ≤ 1 := by omega
          exact mp_iret ⟨⟨_, rfl, u38⟩, rfl⟩ dX3_isReduced_72 (Or.inr ⟨rfl, by decide⟩)
  · have c4 : (fv Po 291 0).toInt = 0 := ti_ne_n c4
    refine mp_a (a_aload_n dX3_isReduced_7 rfl) (mpp 8 rfl ?_)
    have g39 : (0 : Int) ≤ (fv Po 291 1).toInt ∧ (fv Po 291 1).toInt ≤ 8 := Typ.rng hT rl_291 (by decide) (by decide) rfl
    refine mt_getI (i := 28) (k := 1) hT dX3_isReduced_8 rfl rl_291 (by decide) rfl (by decide) rfl (fun g40 g41 => mpp 11 rfl ?_)
    refine mp_a (a_iconst (v := 1) dX3_isReduced_11 rfl) (mpp 12 rfl ?_)
    refine mp_Tb (t := 19) (j_icmp_ne dX3_isReduced_12) (by decide) (fun c42 => ?_) (fun c42 => mpp 15 rfl ?_)
    · have c42 : (fv Po 291 1).toInt ≠ 1 := ti_ne c42
      refine mp_a (a_iconst (v := 0) dX3_isReduced_19 rfl) (mpp 20 rfl ?_)
      have u43 : 0 ≤ (0 : Int) ∧ (0 : Int) ≤ 1 := by omega
      exact mp_iret ⟨⟨_, rfl, u43⟩, rfl⟩ dX3_isReduced_20 (Or.inr ⟨rfl, by decide⟩)
    · have c42 : (fv Po 291 1).toInt = 1 := ti_ne_n c42
      refine mp_a (a_iconst (v := 1) dX3_isReduced_15 rfl) (mpp 16 rfl ?_)
      refine mp_a (a_goto (t := 20) dX3_isReduced_16 (by decide)) ?_
      have u44 : 0 ≤ (1 : Int) ∧ (1 : Int) ≤ 1 := by omega
      exact mp_iret ⟨⟨_, rfl, u44⟩, rfl⟩ dX3_isReduced_20 (Or.inr ⟨rfl, by decide⟩)

