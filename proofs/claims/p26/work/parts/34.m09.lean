/-! methods on typed pools, 9 (written by a program) -/
set_option maxHeartbeats 4000000 in
theorem c_CL_isPierced_Layers {Po : mP} {t1 : Int32} (hT : Typ Po)   : EvP 3 70 [.ref 294, .int t1] Po (fun r P' => (∃ x : Int32, r = some (.int x) ∧ (0 ≤ x.toInt ∧ x.toInt ≤ 1)) ∧ P' = Po) := by
  refine EvP.of qm_70 (Nat.le_of_ble_eq_true rfl) rfl ?_
  show MEvP _ none q_70 0 [(0, .ref 294), (1, .int t1)] [] _ 0 0 _
  refine mp_a (a_aload_n dX1_isPierced_0 rfl) (mpp 1 rfl ?_)
  refine mt_getU (i := 15) (k := 2) (A := 296) hT dX1_isPierced_1 rfl rl_294 (by decide) rfl (by decide) rfl un_15 (mpp 4 rfl ?_)
  refine mp_a (a_iload_n dX1_isPierced_4 rfl) (mpp 5 rfl ?_)
  refine mp_a (a_iconst (v := 1) dX1_isPierced_5 rfl) (mpp 6 rfl ?_)
  obtain ⟨z1, h2⟩ := ti_ex (t1 + 1 : Int32)
  have wz1 := ti_full z1
  refine mp_t (s_iadd (v := z1) dX1_isPierced_6 h2) (mpp 7 rfl ?_)
  try have e3 : z1.toInt = t1.toInt + 1 := ti_addz h2 rfl rfl (by omega) (by omega)
  refine mp_calls (i := 59) (q' := q_12) (As := [.ref 296, .int z1]) (rest := []) dX1_isPierced_7 rfl qm_12 (by decide) rfl (Nat.le_of_ble_eq_true rfl) rfl ⟨rfl, rfl⟩ ⟨Nat.le_of_ble_eq_true rfl, Nat.le_of_ble_eq_true rfl⟩ (EvP.mono (by decide) (c_F_at_places hT )) (fun r4 P5 g6 => mpp 10 rfl ?_)
  obtain ⟨⟨x7, rfl, g8⟩, e9⟩ := g6
  have e9 := e9.symm
  subst e9
  have wx7 := ti_full x7
  show MEvP _ none q_70 10 [(0, .ref 294), (1, .int t1)] [.int x7] _ _ _ _
  refine mp_a (a_istore_n (L' := [(2, .int x7), (0, .ref 294), (1, .int t1)]) dX1_isPierced_10 (by decide) rfl) (mpp 11 rfl ?_)
  refine mp_a (a_iconst (v := 0) dX1_isPierced_11 rfl) (mpp 12 rfl ?_)
  refine mp_a (a_istore_n (L' := [(3, .int 0), (2, .int x7), (0, .ref 294), (1, .int t1)]) dX1_isPierced_12 (by decide) rfl) (mpp 13 rfl ?_)
  refine MEvP.less (L := [(0, .ref 294), (1, .int t1), (2, .int x7), (3, .int 0)]) rfl rfl ⟨rfl, rfl, rfl, rfl, trivial⟩ ?_
  have i10 : 0 ≤ (0 : Int) := by omega
  exact c_CL_isPierced_Layers_l13 hT  _ _ _ i10 rfl

set_option maxHeartbeats 4000000 in
theorem c_CL_isCrossed_Layers_l4 {Po : mP} {t1 : Int32} (hT : Typ Po)   : ∀ (n : Nat) (v2 : Int32), (2147483647 - v2.toInt).toNat = n → MEvP 2 none q_72 4 [(0, .ref 294), (1, .int t1), (2, .int v2)] [] Po 0 0 (fun r P' => (∃ x : Int32, r = some (.int x) ∧ (0 ≤ x.toInt ∧ x.toInt ≤ 1)) ∧ P' = Po) := by
  intro n
  induction n using Nat.strongRecOn with | _ n ih => ?_
  intro v2  hm
  have w_t1 := ti_full t1
  have w_v2 := ti_full v2
  refine mp_a (a_iload_n dX1_isCrossed_4 rfl) (mpp 5 rfl ?_)
  refine mp_a (a_aload_n dX1_isCrossed_5 rfl) (mpp 6 rfl ?_)
  have g1 : (0 : Int) ≤ (fv Po 294 0).toInt ∧ (fv Po 294 0).toInt ≤ 8 := Typ.rng hT rl_294 (by decide) (by decide) rfl
  refine mt_getI (i := 30) (k := 0) hT dX1_isCrossed_6 rfl rl_294 (by decide) rfl (by decide) rfl (fun g2 g3 => mpp 9 rfl ?_)
  refine mp_a (a_iconst (v := 1) dX1_isCrossed_9 rfl) (mpp 10 rfl ?_)
  obtain ⟨z4, h5⟩ := ti_ex ((fv Po 294 0) - 1 : Int32)
  have wz4 := ti_full z4
  refine mp_t (s_isub (v := z4) dX1_isCrossed_10 h5) (mpp 11 rfl ?_)
  try have e6 : z4.toInt = (fv Po 294 0).toInt - 1 := ti_subz h5 rfl rfl (by omega) (by omega)
  refine mp_Tb (t := 72) (j_icmp_ge dX1_isCrossed_11) (by decide) (fun c7 => ?_) (fun c7 => mpp 14 rfl ?_)
  · have c7 : v2.toInt ≥ z4.toInt := ti_ge c7
    refine mp_a (a_iconst (v := 0) dX1_isCrossed_72 rfl) (mpp 73 rfl ?_)
    have u8 : 0 ≤ (0 : Int) ∧ (0 : Int) ≤ 1 := by omega
    exact mp_iret ⟨⟨_, rfl, u8⟩, rfl⟩ dX1_isCrossed_73 (Or.inr ⟨rfl, by decide⟩)
  · have c7 : v2.toInt < z4.toInt := ti_ge_n c7
    refine mp_a (a_aload_n dX1_isCrossed_14 rfl) (mpp 15 rfl ?_)
    refine mt_getU (i := 15) (k := 2) (A := 296) hT dX1_isCrossed_15 rfl rl_294 (by decide) rfl (by decide) rfl un_15 (mpp 18 rfl ?_)
    refine mp_a (a_iload_n dX1_isCrossed_18 rfl) (mpp 19 rfl ?_)
    refine mp_a (a_iconst (v := 1) dX1_isCrossed_19 rfl) (mpp 20 rfl ?_)
    obtain ⟨z9, h10⟩ := ti_ex (v2 + 1 : Int32)
    have wz9 := ti_full z9
    refine mp_t (s_iadd (v := z9) dX1_isCrossed_20 h10) (mpp 21 rfl ?_)
    try have e11 : z9.toInt = v2.toInt + 1 := ti_addz h10 rfl rfl (by omega) (by omega)
    refine mp_calls (i := 59) (q' := q_12) (As := [.ref 296, .int z9]) (rest := []) dX1_isCrossed_21 rfl qm_12 (by decide) rfl (Nat.le_of_ble_eq_true rfl) rfl ⟨rfl, rfl⟩ ⟨Nat.le_of_ble_eq_true rfl, Nat.le_of_ble_eq_true rfl⟩ (EvP.mono (by decide) (c_F_at_places hT )) (fun r12 P13 g14 => mpp 24 rfl ?_)
    obtain ⟨⟨x15, rfl, g16⟩, e17⟩ := g14
    have e17 := e17.symm
    subst e17
    have wx15 := ti_full x15
    show MEvP _ none q_72 24 [(0, .ref 294), (1, .int t1), (2, .int v2)] [.int x15] _ _ _ _
    refine mp_a (a_aload_n dX1_isCrossed_24 rfl) (mpp 25 rfl ?_)
    refine mt_getU (i := 15) (k := 2) (A := 296) hT dX1_isCrossed_25 rfl rl_294 (by decide) rfl (by decide) rfl un_15 (mpp 28 rfl ?_)
    refine mp_a (a_iload_n dX1_isCrossed_28 rfl) (mpp 29 rfl ?_)
    refine mp_a (a_iconst (v := 1) dX1_isCrossed_29 rfl) (mpp 30 rfl ?_)
    obtain ⟨z18, h19⟩ := ti_ex (t1 + 1 : Int32)
    have wz18 := ti_full z18
    refine mp_t (s_iadd (v := z18) dX1_isCrossed_30 h19) (mpp 31 rfl ?_)
    try have e20 : z18.toInt = t1.toInt + 1 := ti_addz h19 rfl rfl (by omega) (by omega)
    refine mp_calls (i := 59) (q' := q_12) (As := [.ref 296, .int z18]) (rest := [.int x15]) dX1_isCrossed_31 rfl qm_12 (by decide) rfl (Nat.le_of_ble_eq_true rfl) rfl ⟨rfl, rfl⟩ ⟨Nat.le_of_ble_eq_true rfl, Nat.le_of_ble_eq_true rfl⟩ (EvP.mono (by decide) (c_F_at_places hT )) (fun r21 P22 g23 => mpp 34 rfl ?_)
    obtain ⟨⟨x24, rfl, g25⟩, e26⟩ := g23
    have e26 := e26.symm
    subst e26
    have wx24 := ti_full x24
    show MEvP _ none q_72 34 [(0, .ref 294), (1, .int t1), (2, .int v2)] [.int x24, .int x15] _ _ _ _
    refine mp_Tb (t := 41) (j_icmp_ne dX1_isCrossed_34) (by decide) (fun c27 => ?_) (fun c27 => mpp 37 rfl ?_)
    · have c27 : x15.toInt ≠ x24.toInt := ti_ne c27
      refine mp_a (a_iconst (v := 0) dX1_isCrossed_41 rfl) (mpp 42 rfl ?_)
      refine mp_a (a_istore_n (L' := [(3, .int 0), (0, .ref 294), (1, .int t1), (2, .int v2)]) dX1_isCrossed_42 (by decide) rfl) (mpp 43 rfl ?_)
      refine mp_a (a_iload_n dX1_isCrossed_43 rfl) (mpp 44 rfl ?_)
      refine mp_Tt (t := 66) (j_if_eq dX1_isCrossed_44) (by decide) (by decide) ?_
      obtain ⟨z28, h29⟩ := ti_ex (v2 + 2 : Int32)
      have wz28 := ti_full z28
      refine mp_a (a_iinc (v := z28) (L' := [(2, .int z28), (3, .int 0), (0, .ref 294), (1, .int t1)]) dX1_isCrossed_66 (by decide) rfl h29 rfl) (mpp 69 rfl ?_)
      try have e30 : z28.toInt = v2.toInt + 2 := ti_addz h29 rfl rfl (by omega) (by omega)
      refine mp_a (a_goto (t := 4) dX1_isCrossed_69 (by decide)) ?_
      refine MEvP.less (L := [(0, .ref 294), (1, .int t1), (2, .int z28)]) rfl rfl ⟨rfl, rfl, rfl, trivial⟩ ?_
      exact ih _ (by omega) _  rfl
    · have c27 : x15.toInt = x24.toInt := ti_ne_n c27
      refine mp_a (a_iconst (v := 1) dX1_isCrossed_37 rfl) (mpp 38 rfl ?_)
      refine mp_a (a_goto (t := 42) dX1_isCrossed_38 (by decide)) ?_
      refine mp_a (a_istore_n (L' := [(3, .int 1), (0, .ref 294), (1, .int t1), (2, .int v2)]) dX1_isCrossed_42 (by decide) rfl) (mpp 43 rfl ?_)
      refine mp_a (a_iload_n dX1_isCrossed_43 rfl) (mpp 44 rfl ?_)
      refine mp_Tf (t := 66) (j_if_eq dX1_isCrossed_44) (by decide) (by decide) (mpp 47 rfl ?_)
      refine mp_a (a_aload_n dX1_isCrossed_47 rfl) (mpp 48 rfl ?_)
      refine mp_a (a_iload_n dX1_isCrossed_48 rfl) (mpp 49 rfl ?_)
      refine mp_a (a_iload_n dX1_isCrossed_49 rfl) (mpp 50 rfl ?_)
      refine mt_callv (i := 80) (q' := q_71) (As := [.int v2, .int t1]) (rest := []) hT dX1_isCrossed_50 rfl qm_71 (by decide) rfl rl_294 (by decide) rfl (Nat.le_of_ble_eq_true rfl) rfl ⟨rfl, rfl⟩ ⟨Nat.le_of_ble_eq_true rfl, Nat.le_of_ble_eq_true rfl⟩ (EvP.mono (by decide) (c_CL_isBetween_Layers hT )) (fun r31 P32 g33 => mpp 53 rfl ?_)
      obtain ⟨⟨x34, rfl, g35⟩, e36⟩ := g33
      have e36 := e36.symm
      subst e36
      have wx34 := ti_full x34
      have g35 : 0 ≤ x34.toInt ∧ x34.toInt ≤ 1 := g35
      show MEvP _ none q_72 53 [(3, .int 1), (0, .ref 294), (1, .int t1), (2, .int v2)] [.int x34] _ _ _ _
      refine mp_a (a_aload_n dX1_isCrossed_53 rfl) (mpp 54 rfl ?_)
      refine mp_a (a_iload_n dX1_isCrossed_54 rfl) (mpp 55 rfl ?_)
      refine mp_a (a_iconst (v := 1) dX1_isCrossed_55 rfl) (mpp 56 rfl ?_)
      obtain ⟨z37, h38⟩ := ti_ex (v2 + 1 : Int32)
      have wz37 := ti_full z37
      refine mp_t (s_iadd (v := z37) dX1_isCrossed_56 h38) (mpp 57 rfl ?_)
      try have e39 : z37.toInt = v2.toInt + 1 := ti_addz h38 rfl rfl (by omega) (by omega)
      refine mp_a (a_iload_n dX1_isCrossed_57 rfl) (mpp 58 rfl ?_)
      refine mt_callv (i := 80) (q' := q_71) (As := [.int z37, .int t1]) (rest := [.int x34]) hT dX1_isCrossed_58 rfl qm_71 (by decide) rfl rl_294 (by decide) rfl (Nat.le_of_ble_eq_true rfl) rfl ⟨rfl, rfl⟩ ⟨Nat.le_of_ble_eq_true rfl, Nat.le_of_ble_eq_true rfl⟩ (EvP.mono (by decide) (c_CL_isBetween_Layers hT )) (fun r40 P41 g42 => mpp 61 rfl ?_)
      obtain ⟨⟨x43, rfl, g44⟩, e45⟩ := g42
      have e45 := e45.symm
      subst e45
      have wx43 := ti_full x43
      have g44 : 0 ≤ x43.toInt ∧ x43.toInt ≤ 1 := g44
      show MEvP _ none q_72 61 [(3, .int 1), (0, .ref 294), (1, .int t1), (2, .int v2)] [.int x43, .int x34] _ _ _ _
      refine mp_Tb (t := 66) (j_icmp_eq dX1_isCrossed_61) (by decide) (fun c46 => ?_) (fun c46 => mpp 64 rfl ?_)
      · have c46 : x34.toInt = x43.toInt := ti_eq c46
        obtain ⟨z47, h48⟩ := ti_ex (v2 + 2 : Int32)
        have wz47 := ti_full z47
        refine mp_a (a_iinc (v := z47) (L' := [(2, .int z47), (3, .int 1), (0, .ref 294), (1, .int t1)]) dX1_isCrossed_66 (by decide) rfl h48 rfl) (mpp 69 rfl ?_)
        try have e49 : z47.toInt = v2.toInt + 2 := ti_addz h48 rfl rfl (by omega) (by omega)
        refine mp_a (a_goto (t := 4) dX1_isCrossed_69 (by decide)) ?_
        refine MEvP.less (L := [(0, .ref 294), (1, .int t1), (2, .int z47)]) rfl rfl ⟨rfl, rfl, rfl, trivial⟩ ?_
        exact ih _ (by omega) _  rfl
      · have c46 : x34.toInt ≠ x43.toInt := ti_eq_n c46
        refine mp_a (a_iconst (v := 1) dX1_isCrossed_64 rfl) (mpp 65 rfl ?_)
        have u50 : 0 ≤ (1 : Int) ∧ (1 : Int) ≤ 1 := by omega
        exact mp_iret ⟨⟨_, rfl, u50⟩, rfl⟩ dX1_isCrossed_65 (Or.inr ⟨rfl, by decide⟩)

set_option maxHeartbeats 4000000 in
theorem c_CL_isCrossed_Layers {Po : mP} {t1 : Int32} (hT : Typ Po)   : EvP 3 72 [.ref 294, .int t1] Po (fun r P' => (∃ x : Int32, r = some (.int x) ∧ (0 ≤ x.toInt ∧ x.toInt ≤ 1)) ∧ P' = Po) := by
  refine EvP.of qm_72 (Nat.le_of_ble_eq_true rfl) rfl ?_
  show MEvP _ none q_72 0 [(0, .ref 294), (1, .int t1)] [] _ 0 0 _
  refine mp_a (a_iload_n dX1_isCrossed_0 rfl) (mpp 1 rfl ?_)
  refine mp_a (a_iconst (v := 2) dX1_isCrossed_1 rfl) (mpp 2 rfl ?_)
  obtain ⟨z1, h2⟩ := ti_ex (t1 + 2 : Int32)
  have wz1 := ti_full z1
  refine mp_t (s_iadd (v := z1) dX1_isCrossed_2 h2) (mpp 3 rfl ?_)
  try have e3 : z1.toInt = t1.toInt + 2 := ti_addz h2 rfl rfl (by omega) (by omega)
  refine mp_a (a_istore_n (L' := [(2, .int z1), (0, .ref 294), (1, .int t1)]) dX1_isCrossed_3 (by decide) rfl) (mpp 4 rfl ?_)
  refine MEvP.less (L := [(0, .ref 294), (1, .int t1), (2, .int z1)]) rfl rfl ⟨rfl, rfl, rfl, trivial⟩ ?_
  exact c_CL_isCrossed_Layers_l4 hT  _ _  rfl

set_option maxHeartbeats 4000000 in
theorem c_CL_layersCollide_Layers_l2 {Po : mP}  (hT : Typ Po)   : ∀ (n : Nat) (v1 : Int32), (0 ≤ v1.toInt) → (2147483647 - v1.toInt).toNat = n → MEvP 3 none q_69 2 [(0, .ref 294), (1, .int v1)] [] Po 0 0 (fun r P' => (∃ x : Int32, r = some (.int x) ∧ (0 ≤ x.toInt ∧ x.toInt ≤ 1)) ∧ P' = Po) := by
  intro n
  induction n using Nat.strongRecOn with | _ n ih => ?_
  intro v1 i_0 hm
  have w_v1 := ti_full v1
  refine mp_a (a_iload_n dX1_layersCollide_2 rfl) (mpp 3 rfl ?_)
  refine mp_a (a_aload_n dX1_layersCollide_3 rfl) (mpp 4 rfl ?_)
  have g1 : (0 : Int) ≤ (fv Po 294 0).toInt ∧ (fv Po 294 0).toInt ≤ 8 := Typ.rng hT rl_294 (by decide) (by decide) rfl
  refine mt_getI (i := 30) (k := 0) hT dX1_layersCollide_4 rfl rl_294 (by decide) rfl (by decide) rfl (fun g2 g3 => mpp 7 rfl ?_)
  refine mp_a (a_iconst (v := 1) dX1_layersCollide_7 rfl) (mpp 8 rfl ?_)
  obtain ⟨z4, h5⟩ := ti_ex ((fv Po 294 0) - 1 : Int32)
  have wz4 := ti_full z4
  refine mp_t (s_isub (v := z4) dX1_layersCollide_8 h5) (mpp 9 rfl ?_)
  try have e6 : z4.toInt = (fv Po 294 0).toInt - 1 := ti_subz h5 rfl rfl (by omega) (by omega)
  refine mp_Tb (t := 36) (j_icmp_ge dX1_layersCollide_9) (by decide) (fun c7 => ?_) (fun c7 => mpp 12 rfl ?_)
  · have c7 : v1.toInt ≥ z4.toInt := ti_ge c7
    refine mp_a (a_iconst (v := 0) dX1_layersCollide_36 rfl) (mpp 37 rfl ?_)
    have u8 : 0 ≤ (0 : Int) ∧ (0 : Int) ≤ 1 := by omega
    exact mp_iret ⟨⟨_, rfl, u8⟩, rfl⟩ dX1_layersCollide_37 (Or.inr ⟨rfl, by decide⟩)
  · have c7 : v1.toInt < z4.toInt := ti_ge_n c7
    refine mp_a (a_aload_n dX1_layersCollide_12 rfl) (mpp 13 rfl ?_)
    refine mp_a (a_iload_n dX1_layersCollide_13 rfl) (mpp 14 rfl ?_)
    refine mt_callv (i := 70) (q' := q_70) (As := [.int v1]) (rest := []) hT dX1_layersCollide_14 rfl qm_70 (by decide) rfl rl_294 (by decide) rfl (Nat.le_of_ble_eq_true rfl) rfl ⟨rfl, rfl⟩ ⟨Nat.le_of_ble_eq_true rfl, Nat.le_of_ble_eq_true rfl⟩ (EvP.mono (by decide) (c_CL_isPierced_Layers hT )) (fun r9 P10 g11 => mpp 17 rfl ?_)
    obtain ⟨⟨x12, rfl, g13⟩, e14⟩ := g11
    have e14 := e14.symm
    subst e14
    have wx12 := ti_full x12
    have g13 : 0 ≤ x12.toInt ∧ x12.toInt ≤ 1 := g13
    show MEvP _ none q_69 17 [(0, .ref 294), (1, .int v1)] [.int x12] _ _ _ _
    refine mp_Tb (t := 28) (j_if_ne dX1_layersCollide_17) (by decide) (fun c15 => ?_) (fun c15 => mpp 20 rfl ?_)
    · have c15 : x12.toInt ≠ 0 := ti_ne c15
      refine mp_a (a_iconst (v := 1) dX1_layersCollide_28 rfl) (mpp 29 rfl ?_)
      have u16 : 0 ≤ (1 : Int) ∧ (1 : Int) ≤ 1 := by omega
      exact mp_iret ⟨⟨_, rfl, u16⟩, rfl⟩ dX1_layersCollide_29 (Or.inr ⟨rfl, by decide⟩)
    · have c15 : x12.toInt = 0 := ti_ne_n c15
      refine mp_a (a_aload_n dX1_layersCollide_20 rfl) (mpp 21 rfl ?_)
      refine mp_a (a_iload_n dX1_layersCollide_21 rfl) (mpp 22 rfl ?_)
      refine mt_callv (i := 74) (q' := q_72) (As := [.int v1]) (rest := []) hT dX1_layersCollide_22 rfl qm_72 (by decide) rfl rl_294 (by decide) rfl (Nat.le_of_ble_eq_true rfl) rfl ⟨rfl, rfl⟩ ⟨Nat.le_of_ble_eq_true rfl, Nat.le_of_ble_eq_true rfl⟩ (EvP.mono (by decide) (c_CL_isCrossed_Layers hT )) (fun r17 P18 g19 => mpp 25 rfl ?_)
      obtain ⟨⟨x20, rfl, g21⟩, e22⟩ := g19
      have e22 := e22.symm
      subst e22
      have wx20 := ti_full x20
      have g21 : 0 ≤ x20.toInt ∧ x20.toInt ≤ 1 := g21
      show MEvP _ none q_69 25 [(0, .ref 294), (1, .int v1)] [.int x20] _ _ _ _
      refine mp_Tb (t := 30) (j_if_eq dX1_layersCollide_25) (by decide) (fun c23 => ?_) (fun c23 => mpp 28 rfl ?_)
      · have c23 : x20.toInt = 0 := ti_eq c23
        obtain ⟨z24, h25⟩ := ti_ex (v1 + 1 : Int32)
        have wz24 := ti_full z24
        refine mp_a (a_iinc (v := z24) (L' := [(1, .int z24), (0, .ref 294)]) dX1_layersCollide_30 (by decide) rfl h25 rfl) (mpp 33 rfl ?_)
        try have e26 : z24.toInt = v1.toInt + 1 := ti_addz h25 rfl rfl (by omega) (by omega)
        refine mp_a (a_goto (t := 2) dX1_layersCollide_33 (by decide)) ?_
        refine MEvP.less (L := [(0, .ref 294), (1, .int z24)]) rfl rfl ⟨rfl, rfl, trivial⟩ ?_
        have i27 : 0 ≤ z24.toInt := by omega
        exact ih _ (by omega) _ i27 rfl
      · have c23 : x20.toInt ≠ 0 := ti_eq_n c23
        refine mp_a (a_iconst (v := 1) dX1_layersCollide_28 rfl) (mpp 29 rfl ?_)
        have u28 : 0 ≤ (1 : Int) ∧ (1 : Int) ≤ 1 := by omega
        exact mp_iret ⟨⟨_, rfl, u28⟩, rfl⟩ dX1_layersCollide_29 (Or.inr ⟨rfl, by decide⟩)

set_option maxHeartbeats 4000000 in
theorem c_CL_layersCollide_Layers {Po : mP}  (hT : Typ Po)   : EvP 4 69 [.ref 294] Po (fun r P' => (∃ x : Int32, r = some (.int x) ∧ (0 ≤ x.toInt ∧ x.toInt ≤ 1)) ∧ P' = Po) := by
  refine EvP.of qm_69 (Nat.le_of_ble_eq_true rfl) rfl ?_
  show MEvP _ none q_69 0 [(0, .ref 294)] [] _ 0 0 _
  refine mp_a (a_iconst (v := 0) dX1_layersCollide_0 rfl) (mpp 1 rfl ?_)
  refine mp_a (a_istore_n (L' := [(1, .int 0), (0, .ref 294)]) dX1_layersCollide_1 (by decide) rfl) (mpp 2 rfl ?_)
  refine MEvP.less (L := [(0, .ref 294), (1, .int 0)]) rfl rfl ⟨rfl, rfl, trivial⟩ ?_
  have i1 : 0 ≤ (0 : Int) := by omega
  exact c_CL_layersCollide_Layers_l2 hT  _ _ i1 rfl

set_option maxHeartbeats 4000000 in
theorem c_CL_isFree_Layers_l2 {Po : mP} {t1 : Int32} {t2 : Int32} (hT : Typ Po)   : ∀ (n : Nat) (v3 : Int32), (0 ≤ v3.toInt) → (2147483647 - v3.toInt).toNat = n → MEvP 1 none q_67 2 [(0, .ref 294), (1, .int t1), (2, .int t2), (3, .int v3)] [] Po 0 0 (fun r P' => (∃ x : Int32, r = some (.int x) ∧ (0 ≤ x.toInt ∧ x.toInt ≤ 1)) ∧ P' = Po) := by
  intro n
  induction n using Nat.strongRecOn with | _ n ih => ?_
  intro v3 i_0 hm
  have w_t1 := ti_full t1
  have w_t2 := ti_full t2
  have w_v3 := ti_full v3
  refine mp_a (a_iload_n dX1_isFree_2 rfl) (mpp 3 rfl ?_)
  refine mp_a (a_iload_n dX1_isFree_3 rfl) (mpp 4 rfl ?_)
  refine mp_Tb (t := 27) (j_icmp_ge dX1_isFree_4) (by decide) (fun c1 => ?_) (fun c1 => mpp 7 rfl ?_)
  · have c1 : v3.toInt ≥ t2.toInt := ti_ge c1
    refine mp_a (a_iconst (v := 1) dX1_isFree_27 rfl) (mpp 28 rfl ?_)
    have u2 : 0 ≤ (1 : Int) ∧ (1 : Int) ≤ 1 := by omega
    exact mp_iret ⟨⟨_, rfl, u2⟩, rfl⟩ dX1_isFree_28 (Or.inr ⟨rfl, by decide⟩)
  · have c1 : v3.toInt < t2.toInt := ti_ge_n c1
    refine mp_a (a_aload_n dX1_isFree_7 rfl) (mpp 8 rfl ?_)
    refine mt_getU (i := 9) (k := 1) (A := 295) hT dX1_isFree_8 rfl rl_294 (by decide) rfl (by decide) rfl un_14 (mpp 11 rfl ?_)
    refine mp_a (a_iload_n dX1_isFree_11 rfl) (mpp 12 rfl ?_)
    refine mp_calls (i := 59) (q' := q_12) (As := [.ref 295, .int v3]) (rest := []) dX1_isFree_12 rfl qm_12 (by decide) rfl (Nat.le_of_ble_eq_true rfl) rfl ⟨rfl, rfl⟩ ⟨Nat.le_of_ble_eq_true rfl, Nat.le_of_ble_eq_true rfl⟩ (EvP.mono (by decide) (c_F_at_order hT )) (fun r3 P4 g5 => mpp 15 rfl ?_)
    obtain ⟨⟨x6, rfl, g7⟩, e8⟩ := g5
    have e8 := e8.symm
    subst e8
    have wx6 := ti_full x6
    show MEvP _ none q_67 15 [(0, .ref 294), (1, .int t1), (2, .int t2), (3, .int v3)] [.int x6] _ _ _ _
    refine mp_a (a_iload_n dX1_isFree_15 rfl) (mpp 16 rfl ?_)
    refine mp_Tb (t := 21) (j_icmp_ne dX1_isFree_16) (by decide) (fun c9 => ?_) (fun c9 => mpp 19 rfl ?_)
    · have c9 : x6.toInt ≠ t1.toInt := ti_ne c9
      obtain ⟨z10, h11⟩ := ti_ex (v3 + 1 : Int32)
      have wz10 := ti_full z10
      refine mp_a (a_iinc (v := z10) (L' := [(3, .int z10), (0, .ref 294), (1, .int t1), (2, .int t2)]) dX1_isFree_21 (by decide) rfl h11 rfl) (mpp 24 rfl ?_)
      try have e12 : z10.toInt = v3.toInt + 1 := ti_addz h11 rfl rfl (by omega) (by omega)
      refine mp_a (a_goto (t := 2) dX1_isFree_24 (by decide)) ?_
      refine MEvP.less (L := [(0, .ref 294), (1, .int t1), (2, .int t2), (3, .int z10)]) rfl rfl ⟨rfl, rfl, rfl, rfl, trivial⟩ ?_
      have i13 : 0 ≤ z10.toInt := by omega
      exact ih _ (by omega) _ i13 rfl
    · have c9 : x6.toInt = t1.toInt := ti_ne_n c9
      refine mp_a (a_iconst (v := 0) dX1_isFree_19 rfl) (mpp 20 rfl ?_)
      have u14 : 0 ≤ (0 : Int) ∧ (0 : Int) ≤ 1 := by omega
      exact mp_iret ⟨⟨_, rfl, u14⟩, rfl⟩ dX1_isFree_20 (Or.inr ⟨rfl, by decide⟩)

set_option maxHeartbeats 4000000 in
theorem c_CL_isFree_Layers {Po : mP} {t1 : Int32} {t2 : Int32} (hT : Typ Po)   : EvP 2 67 [.ref 294, .int t1, .int t2] Po (fun r P' => (∃ x : Int32, r = some (.int x) ∧ (0 ≤ x.toInt ∧ x.toInt ≤ 1)) ∧ P' = Po) := by
  refine EvP.of qm_67 (Nat.le_of_ble_eq_true rfl) rfl ?_
  show MEvP _ none q_67 0 [(0, .ref 294), (1, .int t1), (2, .int t2)] [] _ 0 0 _
  refine mp_a (a_iconst (v := 0) dX1_isFree_0 rfl) (mpp 1 rfl ?_)
  refine mp_a (a_istore_n (L' := [(3, .int 0), (0, .ref 294), (1, .int t1), (2, .int t2)]) dX1_isFree_1 (by decide) rfl) (mpp 2 rfl ?_)
  refine MEvP.less (L := [(0, .ref 294), (1, .int t1), (2, .int t2), (3, .int 0)]) rfl rfl ⟨rfl, rfl, rfl, rfl, trivial⟩ ?_
  have i1 : 0 ≤ (0 : Int) := by omega
  exact c_CL_isFree_Layers_l2 hT  _ _ i1 rfl

set_option maxHeartbeats 4000000 in
theorem c_F_at_lcreases {Po : mP} {t1 : Int32} (hT : Typ Po)   : EvP 1 12 [.ref 297, .int t1] Po (fun r P' => (∃ x : Int32, r = some (.int x) ∧ (True)) ∧ P' = Po) := by
  refine EvP.of qm_12 (Nat.le_of_ble_eq_true rfl) rfl ?_
  show MEvP _ none q_12 0 [(0, .ref 297), (1, .int t1)] [] _ 0 0 _
  refine mp_a (a_iload_n dX6_at_0 rfl) (mpp 1 rfl ?_)
  refine mp_Tb (t := 16) (j_if_lt dX6_at_1) (by decide) (fun c1 => ?_) (fun c1 => mpp 4 rfl ?_)
  · have c1 : t1.toInt < 0 := ti_lt c1
    refine mp_a (a_iconst (v := 0) dX6_at_16 rfl) (mpp 17 rfl ?_)
    exact mp_iret ⟨⟨_, rfl, trivial⟩, rfl⟩ dX6_at_17 (Or.inl rfl)
  · have c1 : t1.toInt ≥ 0 := ti_lt_n c1
    refine mp_a (a_iload_n dX6_at_4 rfl) (mpp 5 rfl ?_)
    refine mp_a (a_aload_n dX6_at_5 rfl) (mpp 6 rfl ?_)
    refine mt_len (n := 8) hT dX6_at_6 rl_297 (by decide) (by decide) rfl (mpp 7 rfl ?_)
    refine mp_Tb (t := 16) (j_icmp_ge dX6_at_7) (by decide) (fun c2 => ?_) (fun c2 => mpp 10 rfl ?_)
    · have c2 : t1.toInt ≥ 8 := ti_ge c2
      refine mp_a (a_iconst (v := 0) dX6_at_16 rfl) (mpp 17 rfl ?_)
      exact mp_iret ⟨⟨_, rfl, trivial⟩, rfl⟩ dX6_at_17 (Or.inl rfl)
    · have c2 : t1.toInt < 8 := ti_ge_n c2
      refine mp_a (a_aload_n dX6_at_10 rfl) (mpp 11 rfl ?_)
      refine mp_a (a_iload_n dX6_at_11 rfl) (mpp 12 rfl ?_)
      refine mt_ial (n := 8) hT dX6_at_12 rl_297 (by decide) rfl rfl (by omega) (by omega) rfl (fun g3 g4 => mpp 13 rfl ?_)
      refine mp_a (a_goto (t := 17) dX6_at_13 (by decide)) ?_
      exact mp_iret ⟨⟨_, rfl, trivial⟩, rfl⟩ dX6_at_17 (Or.inl rfl)

set_option maxHeartbeats 4000000 in
theorem c_CL_isAsCreased_Layers {Po : mP} {t1 : Int32} {t2 : Int32} (hT : Typ Po)   : EvP 2 68 [.ref 294, .int t1, .int t2] Po (fun r P' => (∃ x : Int32, r = some (.int x) ∧ (0 ≤ x.toInt ∧ x.toInt ≤ 1)) ∧ P' = Po) := by
  refine EvP.of qm_68 (Nat.le_of_ble_eq_true rfl) rfl ?_
  show MEvP _ none q_68 0 [(0, .ref 294), (1, .int t1), (2, .int t2)] [] _ 0 0 _
  refine mp_a (a_iload_n dX1_isAsCreased_0 rfl) (mpp 1 rfl ?_)
  refine mp_Tb (t := 6) (j_if_ne dX1_isAsCreased_1) (by decide) (fun c1 => ?_) (fun c1 => mpp 4 rfl ?_)
  · have c1 : t2.toInt ≠ 0 := ti_ne c1
    refine mp_a (a_iload_n dX1_isAsCreased_6 rfl) (mpp 7 rfl ?_)
    refine mp_a (a_iconst (v := 1) dX1_isAsCreased_7 rfl) (mpp 8 rfl ?_)
    obtain ⟨z2, h3⟩ := ti_ex (t2 - 1 : Int32)
    have wz2 := ti_full z2
    refine mp_t (s_isub (v := z2) dX1_isAsCreased_8 h3) (mpp 9 rfl ?_)
    try have e4 : z2.toInt = t2.toInt - 1 := ti_subz h3 rfl rfl (by omega) (by omega)
    refine mp_a (a_iconst (v := 2) dX1_isAsCreased_9 rfl) (mpp 10 rfl ?_)
    obtain ⟨z5, h6⟩ := ti_ex (z2 - z2 / 2 * 2 : Int32)
    have wz5 := ti_full z5
    try have e7 : 0 ≤ z5.toInt ∧ z5.toInt < 2 := ti_rem h6 (show (0 : Int) ≤ z2.toInt by omega) (show (0 : Int) < 2 by omega)
    refine mp_t (s_irem (v := z5) dX1_isAsCreased_10 (by decide) h6) (mpp 11 rfl ?_)
    refine mp_Tb (t := 18) (j_if_ne dX1_isAsCreased_11) (by decide) (fun c8 => ?_) (fun c8 => mpp 14 rfl ?_)
    · have c8 : z5.toInt ≠ 0 := ti_ne c8
      refine mp_a (a_iconst (v := 0) dX1_isAsCreased_18 rfl) (mpp 19 rfl ?_)
      refine mp_a (a_istore_n (L' := [(3, .int 0), (0, .ref 294), (1, .int t1), (2, .int t2)]) dX1_isAsCreased_19 (by decide) rfl) (mpp 20 rfl ?_)
      refine mp_a (a_aload_n dX1_isAsCreased_20 rfl) (mpp 21 rfl ?_)
      refine mt_getU (i := 18) (k := 3) (A := 297) hT dX1_isAsCreased_21 rfl rl_294 (by decide) rfl (by decide) rfl un_16 (mpp 24 rfl ?_)
      refine mp_a (a_iload_n dX1_isAsCreased_24 rfl) (mpp 25 rfl ?_)
      refine mp_a (a_iconst (v := 1) dX1_isAsCreased_25 rfl) (mpp 26 rfl ?_)
      obtain ⟨z9, h10⟩ := ti_ex (t2 - 1 : Int32)
      have wz9 := ti_full z9
      refine mp_t (s_isub (v := z9) dX1_isAsCreased_26 h10) (mpp 27 rfl ?_)
      try have e11 : z9.toInt = t2.toInt - 1 := ti_subz h10 rfl rfl (by omega) (by omega)
      refine mp_calls (i := 59) (q' := q_12) (As := [.ref 297, .int z9]) (rest := []) dX1_isAsCreased_27 rfl qm_12 (by decide) rfl (Nat.le_of_ble_eq_true rfl) rfl ⟨rfl, rfl⟩ ⟨Nat.le_of_ble_eq_true rfl, Nat.le_of_ble_eq_true rfl⟩ (EvP.mono (by decide) (c_F_at_lcreases hT )) (fun r12 P13 g14 => mpp 30 rfl ?_)
      obtain ⟨⟨x15, rfl, g16⟩, e17⟩ := g14
      have e17 := e17.symm
      subst e17
      have wx15 := ti_full x15
      show MEvP _ none q_68 30 [(3, .int 0), (0, .ref 294), (1, .int t1), (2, .int t2)] [.int x15] _ _ _ _
      refine mp_a (a_iconst (v := 2) dX1_isAsCreased_30 rfl) (mpp 31 rfl ?_)
      refine mp_Tb (t := 38) (j_icmp_ne dX1_isAsCreased_31) (by decide) (fun c18 => ?_) (fun c18 => mpp 34 rfl ?_)
      · have c18 : x15.toInt ≠ 2 := ti_ne c18
        refine mp_a (a_iconst (v := 0) dX1_isAsCreased_38 rfl) (mpp 39 rfl ?_)
        refine mp_a (a_istore (L' := [(4, .int 0), (3, .int 0), (0, .ref 294), (1, .int t1), (2, .int t2)]) dX1_isAsCreased_39 (by decide) rfl) (mpp 41 rfl ?_)
        refine mp_a (a_iload_n dX1_isAsCreased_41 rfl) (mpp 42 rfl ?_)
        refine mp_a (a_aload_n dX1_isAsCreased_42 rfl) (mpp 43 rfl ?_)
        refine mt_getU (i := 9) (k := 1) (A := 295) hT dX1_isAsCreased_43 rfl rl_294 (by decide) rfl (by decide) rfl un_14 (mpp 46 rfl ?_)
        refine mp_a (a_iload_n dX1_isAsCreased_46 rfl) (mpp 47 rfl ?_)
        refine mp_a (a_iconst (v := 1) dX1_isAsCreased_47 rfl) (mpp 48 rfl ?_)
        obtain ⟨z19, h20⟩ := ti_ex (t2 - 1 : Int32)
        have wz19 := ti_full z19
        refine mp_t (s_isub (v := z19) dX1_isAsCreased_48 h20) (mpp 49 rfl ?_)
        try have e21 : z19.toInt = t2.toInt - 1 := ti_subz h20 rfl rfl (by omega) (by omega)
        refine mp_calls (i := 59) (q' := q_12) (As := [.ref 295, .int z19]) (rest := [.int t1]) dX1_isAsCreased_49 rfl qm_12 (by decide) rfl (Nat.le_of_ble_eq_true rfl) rfl ⟨rfl, rfl⟩ ⟨Nat.le_of_ble_eq_true rfl, Nat.le_of_ble_eq_true rfl⟩ (EvP.mono (by decide) (c_F_at_order hT )) (fun r22 P23 g24 => mpp 52 rfl ?_)
        obtain ⟨⟨x25, rfl, g26⟩, e27⟩ := g24
        have e27 := e27.symm
        subst e27
        have wx25 := ti_full x25
        show MEvP _ none q_68 52 [(4, .int 0), (3, .int 0), (0, .ref 294), (1, .int t1), (2, .int t2)] [.int x25, .int t1] _ _ _ _
        refine mp_Tb (t := 59) (j_icmp_le dX1_isAsCreased_52) (by decide) (fun c28 => ?_) (fun c28 => mpp 55 rfl ?_)
        · have c28 : t1.toInt ≤ x25.toInt := ti_le c28
          refine mp_a (a_iconst (v := 0) dX1_isAsCreased_59 rfl) (mpp 60 rfl ?_)
          refine mp_a (a_istore (L' := [(5, .int 0), (4, .int 0), (3, .int 0), (0, .ref 294), (1, .int t1), (2, .int t2)]) dX1_isAsCreased_60 (by decide) rfl) (mpp 62 rfl ?_)
          refine mp_a (a_iload dX1_isAsCreased_62 rfl) (mpp 64 rfl ?_)
          refine mp_a (a_iload_n dX1_isAsCreased_64 rfl) (mpp 65 rfl ?_)
          refine mp_a (a_iload dX1_isAsCreased_65 rfl) (mpp 67 rfl ?_)
          refine mp_Tf (t := 74) (j_icmp_ne dX1_isAsCreased_67) (by decide) (by decide) (mpp 70 rfl ?_)
          refine mp_a (a_iconst (v := 1) dX1_isAsCreased_70 rfl) (mpp 71 rfl ?_)
          refine mp_a (a_goto (t := 75) dX1_isAsCreased_71 (by decide)) ?_
          refine mp_Tt (t := 82) (j_icmp_ne dX1_isAsCreased_75) (by decide) (by decide) ?_
          refine mp_a (a_iconst (v := 0) dX1_isAsCreased_82 rfl) (mpp 83 rfl ?_)
          have u29 : 0 ≤ (0 : Int) ∧ (0 : Int) ≤ 1 := by omega
          exact mp_iret ⟨⟨_, rfl, u29⟩, rfl⟩ dX1_isAsCreased_83 (Or.inr ⟨rfl, by decide⟩)
        · have c28 : t1.toInt > x25.toInt := ti_le_n c28
          refine mp_a (a_iconst (v := 1) dX1_isAsCreased_55 rfl) (mpp 56 rfl ?_)
          refine mp_a (a_goto (t := 60) dX1_isAsCreased_56 (by decide)) ?_
          refine mp_a (a_istore (L' := [(5, .int 1), (4, .int 0), (3, .int 0), (0, .ref 294), (1, .int t1), (2, .int t2)]) dX1_isAsCreased_60 (by decide) rfl) (mpp 62 rfl ?_)
          refine mp_a (a_iload dX1_isAsCreased_62 rfl) (mpp 64 rfl ?_)
          refine mp_a (a_iload_n dX1_isAsCreased_64 rfl) (mpp 65 rfl ?_)
          refine mp_a (a_iload dX1_isAsCreased_65 rfl) (mpp 67 rfl ?_)
          refine mp_Tf (t := 74) (j_icmp_ne dX1_isAsCreased_67) (by decide) (by decide) (mpp 70 rfl ?_)
          refine mp_a (a_iconst (v := 1) dX1_isAsCreased_70 rfl) (mpp 71 rfl ?_)
          refine mp_a (a_goto (t := 75) dX1_isAsCreased_71 (by decide)) ?_
          refine mp_Tf (t := 82) (j_icmp_ne dX1_isAsCreased_75) (by decide) (by decide) (mpp 78 rfl ?_)
          refine mp_a (a_iconst (v := 1) dX1_isAsCreased_78 rfl) (mpp 79 rfl ?_)
          refine mp_a (a_goto (t := 83) dX1_isAsCreased_79 (by decide)) ?_
          have u30 : 0 ≤ (1 : Int) ∧ (1 : Int) ≤ 1 := by omega
          exact mp_iret ⟨⟨_, rfl, u30⟩, rfl⟩ dX1_isAsCreased_83 (Or.inr ⟨rfl, by decide⟩)
      · have c18 : x15.toInt = 2 := ti_ne_n c18
        refine mp_a (a_iconst (v := 1) dX1_isAsCreased_34 rfl) (mpp 35 rfl ?_)
        refine mp_a (a_goto (t := 39) dX1_isAsCreased_35 (by decide)) ?_
        refine mp_a (a_istore (L' := [(4, .int 1), (3, .int 0), (0, .ref 294), (1, .int t1), (2, .int t2)]) dX1_isAsCreased_39 (by decide) rfl) (mpp 41 rfl ?_)
        refine mp_a (a_iload_n dX1_isAsCreased_41 rfl) (mpp 42 rfl ?_)
        refine mp_a (a_aload_n dX1_isAsCreased_42 rfl) (mpp 43 rfl ?_)
        refine mt_getU (i := 9) (k := 1) (A := 295) hT dX1_isAsCreased_43 rfl rl_294 (by decide) rfl (by decide) rfl un_14 (mpp 46 rfl ?_)
        refine mp_a (a_iload_n dX1_isAsCreased_46 rfl) (mpp 47 rfl ?_)
        refine mp_a (a_iconst (v := 1) dX1_isAsCreased_47 rfl) (mpp 48 rfl ?_)
        obtain ⟨z31, h32⟩ := ti_ex (t2 - 1 : Int32)
        have wz31 := ti_full z31
        refine mp_t (s_isub (v := z31) dX1_isAsCreased_48 h32) (mpp 49 rfl ?_)
        try have e33 : z31.toInt = t2.toInt - 1 := ti_subz h32 rfl rfl (by omega) (by omega)
        refine mp_calls (i := 59) (q' := q_12) (As := [.ref 295, .int z31]) (rest := [.int t1]) dX1_isAsCreased_49 rfl qm_12 (by decide) rfl (Nat.le_of_ble_eq_true rfl) rfl ⟨rfl, rfl⟩ ⟨Nat.le_of_ble_eq_true rfl, Nat.le_of_ble_eq_true rfl⟩ (EvP.mono (by decide) (c_F_at_order hT )) (fun r34 P35 g36 => mpp 52 rfl ?_)
        obtain ⟨⟨x37, rfl, g38⟩, e39⟩ := g36
        have e39 := e39.symm
        subst e39
        have wx37 := ti_full x37
        show MEvP _ none q_68 52 [(4, .int 1), (3, .int 0), (0, .ref 294), (1, .int t1), (2, .int t2)] [.int x37, .int t1] _ _ _ _
        refine mp_Tb (t := 59) (j_icmp_le dX1_isAsCreased_52) (by decide) (fun c40 => ?_) (fun c40 => mpp 55 rfl ?_)
        · have c40 : t1.toInt ≤ x37.toInt := ti_le c40
          refine mp_a (a_iconst (v := 0) dX1_isAsCreased_59 rfl) (mpp 60 rfl ?_)
          refine mp_a (a_istore (L' := [(5, .int 0), (4, .int 1), (3, .int 0), (0, .ref 294), (1, .int t1), (2, .int t2)]) dX1_isAsCreased_60 (by decide) rfl) (mpp 62 rfl ?_)
          refine mp_a (a_iload dX1_isAsCreased_62 rfl) (mpp 64 rfl ?_)
          refine mp_a (a_iload_n dX1_isAsCreased_64 rfl) (mpp 65 rfl ?_)
          refine mp_a (a_iload dX1_isAsCreased_65 rfl) (mpp 67 rfl ?_)
          refine mp_Tt (t := 74) (j_icmp_ne dX1_isAsCreased_67) (by decide) (by decide) ?_
          refine mp_a (a_iconst (v := 0) dX1_isAsCreased_74 rfl) (mpp 75 rfl ?_)
          refine mp_Tf (t := 82) (j_icmp_ne dX1_isAsCreased_75) (by decide) (by decide) (mpp 78 rfl ?_)
          refine mp_a (a_iconst (v := 1) dX1_isAsCreased_78 rfl) (mpp 79 rfl ?_)
          refine mp_a (a_goto (t := 83) dX1_isAsCreased_79 (by decide)) ?_
          have u41 : 0 ≤ (1 : Int) ∧ (1 : Int) ≤ 1 := by omega
          exact mp_iret ⟨⟨_, rfl, u41⟩, rfl⟩ dX1_isAsCreased_83 (Or.inr ⟨rfl, by decide⟩)
        · have c40 : t1.toInt > x37.toInt := ti_le_n c40
          refine mp_a (a_iconst (v := 1) dX1_isAsCreased_55 rfl) (mpp 56 rfl ?_)
          refine mp_a (a_goto (t := 60) dX1_isAsCreased_56 (by decide)) ?_
          refine mp_a (a_istore (L' := [(5, .int 1), (4, .int 1), (3, .int 0), (0, .ref 294), (1, .int t1), (2, .int t2)]) dX1_isAsCreased_60 (by decide) rfl) (mpp 62 rfl ?_)
          refine mp_a (a_iload dX1_isAsCreased_62 rfl) (mpp 64 rfl ?_)
          refine mp_a (a_iload_n dX1_isAsCreased_64 rfl) (mpp 65 rfl ?_)
          refine mp_a (a_iload dX1_isAsCreased_65 rfl) (mpp 67 rfl ?_)
          refine mp_Tt (t := 74) (j_icmp_ne dX1_isAsCreased_67) (by decide) (by decide) ?_
          refine mp_a (a_iconst (v := 0) dX1_isAsCreased_74 rfl) (mpp 75 rfl ?_)
          refine mp_Tt (t := 82) (j_icmp_ne dX1_isAsCreased_75) (by decide) (by decide) ?_
          refine mp_a (a_iconst (v := 0) dX1_isAsCreased_82 rfl) (mpp 83 rfl ?_)
          have u42 : 0 ≤ (0 : Int) ∧ (0 : Int) ≤ 1 := by omega
          exact mp_iret ⟨⟨_, rfl, u42⟩, rfl⟩ dX1_isAsCreased_83 (Or.inr ⟨rfl, by decide⟩)
    · have c8 : z5.toInt = 0 := ti_ne_n c8
      refine mp_a (a_iconst (v := 1) dX1_isAsCreased_14 rfl) (mpp 15 rfl ?_)
      refine mp_a (a_goto (t := 19) dX1_isAsCreased_15 (by decide)) ?_
      refine mp_a (a_istore_n (L' := [(3, .int 1), (0, .ref 294), (1, .int t1), (2, .int t2)]) dX1_isAsCreased_19 (by decide) rfl) (mpp 20 rfl ?_)
      refine mp_a (a_aload_n dX1_isAsCreased_20 rfl) (mpp 21 rfl ?_)
      refine mt_getU (i := 18) (k := 3) (A := 297) hT dX1_isAsCreased_21 rfl rl_294 (by decide) rfl (by decide) rfl un_16 (mpp 24 rfl ?_)
      refine mp_a (a_iload_n dX1_isAsCreased_24 rfl) (mpp 25 rfl ?_)
      refine mp_a (a_iconst (v := 1) dX1_isAsCreased_25 rfl) (mpp 26 rfl ?_)
      obtain ⟨z43, h44⟩ := ti_ex (t2 - 1 : Int32)
      have wz43 := ti_full z43
      refine mp_t (s_isub (v := z43) dX1_isAsCreased_26 h44) (mpp 27 rfl ?_)
      try have e45 : z43.toInt = t2.toInt - 1 := ti_subz h44 rfl rfl (by omega) (by omega)
      refine mp_calls (i := 59) (q' := q_12) (As := [.ref 297, .int z43]) (rest := []) dX1_isAsCreased_27 rfl qm_12 (by decide) rfl (Nat.le_of_ble_eq_true rfl) rfl ⟨rfl, rfl⟩ ⟨Nat.le_of_ble_eq_true rfl, Nat.le_of_ble_eq_true rfl⟩ (EvP.mono (by decide) (c_F_at_lcreases hT )) (fun r46 P47 g48 => mpp 30 rfl ?_)
      obtain ⟨⟨x49, rfl, g50⟩, e51⟩ := g48
      have e51 := e51.symm
      subst e51
      have wx49 := ti_full x49
      show MEvP _ none q_68 30 [(3, .int 1), (0, .ref 294), (1, .int t1), (2, .int t2)] [.int x49] _ _ _ _
      refine mp_a (a_iconst (v := 2) dX1_isAsCreased_30 rfl) (mpp 31 rfl ?_)
      refine mp_Tb (t := 38) (j_icmp_ne dX1_isAsCreased_31) (by decide) (fun c52 => ?_) (fun c52 => mpp 34 rfl ?_)
      · have c52 : x49.toInt ≠ 2 := ti_ne c52
        refine mp_a (a_iconst (v := 0) dX1_isAsCreased_38 rfl) (mpp 39 rfl ?_)
        refine mp_a (a_istore (L' := [(4, .int 0), (3, .int 1), (0, .ref 294), (1, .int t1), (2, .int t2)]) dX1_isAsCreased_39 (by decide) rfl) (mpp 41 rfl ?_)
        refine mp_a (a_iload_n dX1_isAsCreased_41 rfl) (mpp 42 rfl ?_)
        refine mp_a (a_aload_n dX1_isAsCreased_42 rfl) (mpp 43 rfl ?_)
        refine mt_getU (i := 9) (k := 1) (A := 295) hT dX1_isAsCreased_43 rfl rl_294 (by decide) rfl (by decide) rfl un_14 (mpp 46 rfl ?_)
        refine mp_a (a_iload_n dX1_isAsCreased_46 rfl) (mpp 47 rfl ?_)
        refine mp_a (a_iconst (v := 1) dX1_isAsCreased_47 rfl) (mpp 48 rfl ?_)
        obtain ⟨z53, h54⟩ := ti_ex (t2 - 1 : Int32)
        have wz53 := ti_full z53
        refine mp_t (s_isub (v := z53) dX1_isAsCreased_48 h54) (mpp 49 rfl ?_)
        try have e55 : z53.toInt = t2.toInt - 1 := ti_subz h54 rfl rfl (by omega) (by omega)
        refine mp_calls (i := 59) (q' := q_12) (As := [.ref 295, .int z53]) (rest := [.int t1]) dX1_isAsCreased_49 rfl qm_12 (by decide) rfl (Nat.le_of_ble_eq_true rfl) rfl ⟨rfl, rfl⟩ ⟨Nat.le_of_ble_eq_true rfl, Nat.le_of_ble_eq_true rfl⟩ (EvP.mono (by decide) (c_F_at_order hT )) (fun r56 P57 g58 => mpp 52 rfl ?_)
        obtain ⟨⟨x59, rfl, g60⟩, e61⟩ := g58
        have e61 := e61.symm
        subst e61
        have wx59 := ti_full x59
        show MEvP _ none q_68 52 [(4, .int 0), (3, .int 1), (0, .ref 294), (1, .int t1), (2, .int t2)] [.int x59, .int t1] _ _ _ _
        refine mp_Tb (t := 59) (j_icmp_le dX1_isAsCreased_52) (by decide) (fun c62 => ?_) (fun c62 => mpp 55 rfl ?_)
        · have c62 : t1.toInt ≤ x59.toInt := ti_le c62
          refine mp_a (a_iconst (v := 0) dX1_isAsCreased_59 rfl) (mpp 60 rfl ?_)
          refine mp_a (a_istore (L' := [(5, .int 0), (4, .int 0), (3, .int 1), (0, .ref 294), (1, .int t1), (2, .int t2)]) dX1_isAsCreased_60 (by decide) rfl) (mpp 62 rfl ?_)
          refine mp_a (a_iload dX1_isAsCreased_62 rfl) (mpp 64 rfl ?_)
          refine mp_a (a_iload_n dX1_isAsCreased_64 rfl) (mpp 65 rfl ?_)
          refine mp_a (a_iload dX1_isAsCreased_65 rfl) (mpp 67 rfl ?_)
          refine mp_Tt (t := 74) (j_icmp_ne dX1_isAsCreased_67) (by decide) (by decide) ?_
          refine mp_a (a_iconst (v := 0) dX1_isAsCreased_74 rfl) (mpp 75 rfl ?_)
          refine mp_Tf (t := 82) (j_icmp_ne dX1_isAsCreased_75) (by decide) (by decide) (mpp 78 rfl ?_)
          refine mp_a (a_iconst (v := 1) dX1_isAsCreased_78 rfl) (mpp 79 rfl ?_)
          refine mp_a (a_goto (t := 83) dX1_isAsCreased_79 (by decide)) ?_
          have u63 : 0 ≤ (1 : Int) ∧ (1 : Int) ≤ 1 := by omega
          exact mp_iret ⟨⟨_, rfl, u63⟩, rfl⟩ dX1_isAsCreased_83 (Or.inr ⟨rfl, by decide⟩)
        · have c62 : t1.toInt > x59.toInt := ti_le_n c62
          refine mp_a (a_iconst (v := 1) dX1_isAsCreased_55 rfl) (mpp 56 rfl ?_)
          refine mp_a (a_goto (t := 60) dX1_isAsCreased_56 (by decide)) ?_
          refine mp_a (a_istore (L' := [(5, .int 1), (4, .int 0), (3, .int 1), (0, .ref 294), (1, .int t1), (2, .int t2)]) dX1_isAsCreased_60 (by decide) rfl) (mpp 62 rfl ?_)
          refine mp_a (a_iload dX1_isAsCreased_62 rfl) (mpp 64 rfl ?_)
          refine mp_a (a_iload_n dX1_isAsCreased_64 rfl) (mpp 65 rfl ?_)
          refine mp_a (a_iload dX1_isAsCreased_65 rfl) (mpp 67 rfl ?_)
          refine mp_Tt (t := 74) (j_icmp_ne dX1_isAsCreased_67) (by decide) (by decide) ?_
          refine mp_a (a_iconst (v := 0) dX1_isAsCreased_74 rfl) (mpp 75 rfl ?_)
          refine mp_Tt (t := 82) (j_icmp_ne dX1_isAsCreased_75) (by decide) (by decide) ?_
          refine mp_a (a_iconst (v := 0) dX1_isAsCreased_82 rfl) (mpp 83 rfl ?_)
          have u64 : 0 ≤ (0 : Int) ∧ (0 : Int) ≤ 1 := by omega
          exact mp_iret ⟨⟨_, rfl, u64⟩, rfl⟩ dX1_isAsCreased_83 (Or.inr ⟨rfl, by decide⟩)
      · have c52 : x49.toInt = 2 := ti_ne_n c52
        refine mp_a (a_iconst (v := 1) dX1_isAsCreased_34 rfl) (mpp 35 rfl ?_)
        refine mp_a (a_goto (t := 39) dX1_isAsCreased_35 (by decide)) ?_
        refine mp_a (a_istore (L' := [(4, .int 1), (3, .int 1), (0, .ref 294), (1, .int t1), (2, .int t2)]) dX1_isAsCreased_39 (by decide) rfl) (mpp 41 rfl ?_)
        refine mp_a (a_iload_n dX1_isAsCreased_41 rfl) (mpp 42 rfl ?_)
        refine mp_a (a_aload_n dX1_isAsCreased_42 rfl) (mpp 43 rfl ?_)
        refine mt_getU (i := 9) (k := 1) (A := 295) hT dX1_isAsCreased_43 rfl rl_294 (by decide) rfl (by decide) rfl un_14 (mpp 46 rfl ?_)
        refine mp_a (a_iload_n dX1_isAsCreased_46 rfl) (mpp 47 rfl ?_)
        refine mp_a (a_iconst (v := 1) dX1_isAsCreased_47 rfl) (mpp 48 rfl ?_)
        obtain ⟨z65, h66⟩ := ti_ex (t2 - 1 : Int32)
        have wz65 := ti_full z65
        refine mp_t (s_isub (v := z65) dX1_isAsCreased_48 h66) (mpp 49 rfl ?_)
        try have e67 : z65.toInt = t2.toInt - 1 := ti_subz h66 rfl rfl (by omega) (by omega)
        refine mp_calls (i := 59) (q' := q_12) (As := [.ref 295, .int z65]) (rest := [.int t1]) dX1_isAsCreased_49 rfl qm_12 (by decide) rfl (Nat.le_of_ble_eq_true rfl) rfl ⟨rfl, rfl⟩ ⟨Nat.le_of_ble_eq_true rfl, Nat.le_of_ble_eq_true rfl⟩ (EvP.mono (by decide) (c_F_at_order hT )) (fun r68 P69 g70 => mpp 52 rfl ?_)
        obtain ⟨⟨x71, rfl, g72⟩, e73⟩ := g70
        have e73 := e73.symm
        subst e73
        have wx71 := ti_full x71
        show MEvP _ none q_68 52 [(4, .int 1), (3, .int 1), (0, .ref 294), (1, .int t1), (2, .int t2)] [.int x71, .int t1] _ _ _ _
        refine mp_Tb (t := 59) (j_icmp_le dX1_isAsCreased_52) (by decide) (fun c74 => ?_) (fun c74 => mpp 55 rfl ?_)
        · have c74 : t1.toInt ≤ x71.toInt := ti_le c74
          refine mp_a (a_iconst (v := 0) dX1_isAsCreased_59 rfl) (mpp 60 rfl ?_)
          refine mp_a (a_istore (L' := [(5, .int 0), (4, .int 1), (3, .int 1), (0, .ref 294), (1, .int t1), (2, .int t2)]) dX1_isAsCreased_60 (by decide) rfl) (mpp 62 rfl ?_)
          refine mp_a (a_iload dX1_isAsCreased_62 rfl) (mpp 64 rfl ?_)
          refine mp_a (a_iload_n dX1_isAsCreased_64 rfl) (mpp 65 rfl ?_)
          refine mp_a (a_iload dX1_isAsCreased_65 rfl) (mpp 67 rfl ?_)
          refine mp_Tf (t := 74) (j_icmp_ne dX1_isAsCreased_67) (by decide) (by decide) (mpp 70 rfl ?_)
          refine mp_a (a_iconst (v := 1) dX1_isAsCreased_70 rfl) (mpp 71 rfl ?_)
          refine mp_a (a_goto (t := 75) dX1_isAsCreased_71 (by decide)) ?_
          refine mp_Tt (t := 82) (j_icmp_ne dX1_isAsCreased_75) (by decide) (by decide) ?_
          refine mp_a (a_iconst (v := 0) dX1_isAsCreased_82 rfl) (mpp 83 rfl ?_)
          have u75 : 0 ≤ (0 : Int) ∧ (0 : Int) ≤ 1 := by omega
          exact mp_iret ⟨⟨_, rfl, u75⟩, rfl⟩ dX1_isAsCreased_83 (Or.inr ⟨rfl, by decide⟩)
        · have c74 : t1.toInt > x71.toInt := ti_le_n c74
          refine mp_a (a_iconst (v := 1) dX1_isAsCreased_55 rfl) (mpp 56 rfl ?_)
          refine mp_a (a_goto (t := 60) dX1_isAsCreased_56 (by decide)) ?_
          refine mp_a (a_istore (L' := [(5, .int 1), (4, .int 1), (3, .int 1), (0, .ref 294), (1, .int t1), (2, .int t2)]) dX1_isAsCreased_60 (by decide) rfl) (mpp 62 rfl ?_)
          refine mp_a (a_iload dX1_isAsCreased_62 rfl) (mpp 64 rfl ?_)
          refine mp_a (a_iload_n dX1_isAsCreased_64 rfl) (mpp 65 rfl ?_)
          refine mp_a (a_iload dX1_isAsCreased_65 rfl) (mpp 67 rfl ?_)
          refine mp_Tf (t := 74) (j_icmp_ne dX1_isAsCreased_67) (by decide) (by decide) (mpp 70 rfl ?_)
          refine mp_a (a_iconst (v := 1) dX1_isAsCreased_70 rfl) (mpp 71 rfl ?_)
          refine mp_a (a_goto (t := 75) dX1_isAsCreased_71 (by decide)) ?_
          refine mp_Tf (t := 82) (j_icmp_ne dX1_isAsCreased_75) (by decide) (by decide) (mpp 78 rfl ?_)
          refine mp_a (a_iconst (v := 1) dX1_isAsCreased_78 rfl) (mpp 79 rfl ?_)
          refine mp_a (a_goto (t := 83) dX1_isAsCreased_79 (by decide)) ?_
          have u76 : 0 ≤ (1 : Int) ∧ (1 : Int) ≤ 1 := by omega
          exact mp_iret ⟨⟨_, rfl, u76⟩, rfl⟩ dX1_isAsCreased_83 (Or.inr ⟨rfl, by decide⟩)
  · have c1 : t2.toInt = 0 := ti_ne_n c1
    refine mp_a (a_iconst (v := 1) dX1_isAsCreased_4 rfl) (mpp 5 rfl ?_)
    have u77 : 0 ≤ (1 : Int) ∧ (1 : Int) ≤ 1 := by omega
    exact mp_iret ⟨⟨_, rfl, u77⟩, rfl⟩ dX1_isAsCreased_5 (Or.inr ⟨rfl, by decide⟩)

set_option maxHeartbeats 4000000 in
theorem c_CL_nextLayer_Layers_l11 {Po : mP} {t1 : Int32} (hT : Typ Po)   : ∀ (n : Nat) (v2 : Int32), (2147483647 - v2.toInt).toNat = n → MEvP 2 none q_66 11 [(0, .ref 294), (1, .int t1), (2, .int v2)] [] Po 0 0 (fun r P' => (∃ x : Int32, r = some (.int x) ∧ (True)) ∧ P' = Po) := by
  intro n
  induction n using Nat.strongRecOn with | _ n ih => ?_
  intro v2  hm
  have w_t1 := ti_full t1
  have w_v2 := ti_full v2
  refine mp_a (a_iload_n dX1_nextLayer_11 rfl) (mpp 12 rfl ?_)
  refine mp_a (a_aload_n dX1_nextLayer_12 rfl) (mpp 13 rfl ?_)
  have g1 : (0 : Int) ≤ (fv Po 294 0).toInt ∧ (fv Po 294 0).toInt ≤ 8 := Typ.rng hT rl_294 (by decide) (by decide) rfl
  refine mt_getI (i := 30) (k := 0) hT dX1_nextLayer_13 rfl rl_294 (by decide) rfl (by decide) rfl (fun g2 g3 => mpp 16 rfl ?_)
  refine mp_Tb (t := 45) (j_icmp_ge dX1_nextLayer_16) (by decide) (fun c4 => ?_) (fun c4 => mpp 19 rfl ?_)
  · have c4 : v2.toInt ≥ (fv Po 294 0).toInt := ti_ge c4
    refine mp_a (a_iconst (v := -1) dX1_nextLayer_45 rfl) (mpp 46 rfl ?_)
    exact mp_iret ⟨⟨_, rfl, trivial⟩, rfl⟩ dX1_nextLayer_46 (Or.inl rfl)
  · have c4 : v2.toInt < (fv Po 294 0).toInt := ti_ge_n c4
    refine mp_a (a_aload_n dX1_nextLayer_19 rfl) (mpp 20 rfl ?_)
    refine mp_a (a_iload_n dX1_nextLayer_20 rfl) (mpp 21 rfl ?_)
    refine mp_a (a_iload_n dX1_nextLayer_21 rfl) (mpp 22 rfl ?_)
    refine mt_callv (i := 63) (q' := q_67) (As := [.int v2, .int t1]) (rest := []) hT dX1_nextLayer_22 rfl qm_67 (by decide) rfl rl_294 (by decide) rfl (Nat.le_of_ble_eq_true rfl) rfl ⟨rfl, rfl⟩ ⟨Nat.le_of_ble_eq_true rfl, Nat.le_of_ble_eq_true rfl⟩ (EvP.mono (by decide) (c_CL_isFree_Layers hT )) (fun r5 P6 g7 => mpp 25 rfl ?_)
    obtain ⟨⟨x8, rfl, g9⟩, e10⟩ := g7
    have e10 := e10.symm
    subst e10
    have wx8 := ti_full x8
    have g9 : 0 ≤ x8.toInt ∧ x8.toInt ≤ 1 := g9
    show MEvP _ none q_66 25 [(0, .ref 294), (1, .int t1), (2, .int v2)] [.int x8] _ _ _ _
    refine mp_Tb (t := 39) (j_if_eq dX1_nextLayer_25) (by decide) (fun c11 => ?_) (fun c11 => mpp 28 rfl ?_)
    · have c11 : x8.toInt = 0 := ti_eq c11
      obtain ⟨z12, h13⟩ := ti_ex (v2 + 1 : Int32)
      have wz12 := ti_full z12
      refine mp_a (a_iinc (v := z12) (L' := [(2, .int z12), (0, .ref 294), (1, .int t1)]) dX1_nextLayer_39 (by decide) rfl h13 rfl) (mpp 42 rfl ?_)
      try have e14 : z12.toInt = v2.toInt + 1 := ti_addz h13 rfl rfl (by omega) (by omega)
      refine mp_a (a_goto (t := 11) dX1_nextLayer_42 (by decide)) ?_
      refine MEvP.less (L := [(0, .ref 294), (1, .int t1), (2, .int z12)]) rfl rfl ⟨rfl, rfl, rfl, trivial⟩ ?_
      exact ih _ (by omega) _  rfl
    · have c11 : x8.toInt ≠ 0 := ti_eq_n c11
      refine mp_a (a_aload_n dX1_nextLayer_28 rfl) (mpp 29 rfl ?_)
      refine mp_a (a_iload_n dX1_nextLayer_29 rfl) (mpp 30 rfl ?_)
      refine mp_a (a_iload_n dX1_nextLayer_30 rfl) (mpp 31 rfl ?_)
      refine mt_callv (i := 67) (q' := q_68) (As := [.int v2, .int t1]) (rest := []) hT dX1_nextLayer_31 rfl qm_68 (by decide) rfl rl_294 (by decide) rfl (Nat.le_of_ble_eq_true rfl) rfl ⟨rfl, rfl⟩ ⟨Nat.le_of_ble_eq_true rfl, Nat.le_of_ble_eq_true rfl⟩ (EvP.mono (by decide) (c_CL_isAsCreased_Layers hT )) (fun r15 P16 g17 => mpp 34 rfl ?_)
      obtain ⟨⟨x18, rfl, g19⟩, e20⟩ := g17
      have e20 := e20.symm
      subst e20
      have wx18 := ti_full x18
      have g19 : 0 ≤ x18.toInt ∧ x18.toInt ≤ 1 := g19
      show MEvP _ none q_66 34 [(0, .ref 294), (1, .int t1), (2, .int v2)] [.int x18] _ _ _ _
      refine mp_Tb (t := 39) (j_if_eq dX1_nextLayer_34) (by decide) (fun c21 => ?_) (fun c21 => mpp 37 rfl ?_)
      · have c21 : x18.toInt = 0 := ti_eq c21
        obtain ⟨z22, h23⟩ := ti_ex (v2 + 1 : Int32)
        have wz22 := ti_full z22
        refine mp_a (a_iinc (v := z22) (L' := [(2, .int z22), (0, .ref 294), (1, .int t1)]) dX1_nextLayer_39 (by decide) rfl h23 rfl) (mpp 42 rfl ?_)
        try have e24 : z22.toInt = v2.toInt + 1 := ti_addz h23 rfl rfl (by omega) (by omega)
        refine mp_a (a_goto (t := 11) dX1_nextLayer_42 (by decide)) ?_
        refine MEvP.less (L := [(0, .ref 294), (1, .int t1), (2, .int z22)]) rfl rfl ⟨rfl, rfl, rfl, trivial⟩ ?_
        exact ih _ (by omega) _  rfl
      · have c21 : x18.toInt ≠ 0 := ti_eq_n c21
        refine mp_a (a_iload_n dX1_nextLayer_37 rfl) (mpp 38 rfl ?_)
        exact mp_iret ⟨⟨_, rfl, trivial⟩, rfl⟩ dX1_nextLayer_38 (Or.inl rfl)

set_option maxHeartbeats 4000000 in
theorem c_CL_nextLayer_Layers {Po : mP} {t1 : Int32} (hT : Typ Po)   : EvP 3 66 [.ref 294, .int t1] Po (fun r P' => (∃ x : Int32, r = some (.int x) ∧ (True)) ∧ P' = Po) := by
  refine EvP.of qm_66 (Nat.le_of_ble_eq_true rfl) rfl ?_
  show MEvP _ none q_66 0 [(0, .ref 294), (1, .int t1)] [] _ 0 0 _
  refine mp_a (a_aload_n dX1_nextLayer_0 rfl) (mpp 1 rfl ?_)
  refine mt_getU (i := 9) (k := 1) (A := 295) hT dX1_nextLayer_1 rfl rl_294 (by decide) rfl (by decide) rfl un_14 (mpp 4 rfl ?_)
  refine mp_a (a_iload_n dX1_nextLayer_4 rfl) (mpp 5 rfl ?_)
  refine mp_calls (i := 59) (q' := q_12) (As := [.ref 295, .int t1]) (rest := []) dX1_nextLayer_5 rfl qm_12 (by decide) rfl (Nat.le_of_ble_eq_true rfl) rfl ⟨rfl, rfl⟩ ⟨Nat.le_of_ble_eq_true rfl, Nat.le_of_ble_eq_true rfl⟩ (EvP.mono (by decide) (c_F_at_order hT )) (fun r1 P2 g3 => mpp 8 rfl ?_)
  obtain ⟨⟨x4, rfl, g5⟩, e6⟩ := g3
  have e6 := e6.symm
  subst e6
  have wx4 := ti_full x4
  show MEvP _ none q_66 8 [(0, .ref 294), (1, .int t1)] [.int x4] _ _ _ _
  refine mp_a (a_iconst (v := 1) dX1_nextLayer_8 rfl) (mpp 9 rfl ?_)
  obtain ⟨z7, h8⟩ := ti_ex (x4 + 1 : Int32)
  have wz7 := ti_full z7
  refine mp_t (s_iadd (v := z7) dX1_nextLayer_9 h8) (mpp 10 rfl ?_)
  try have e9 : z7.toInt = x4.toInt + 1 := ti_addz h8 rfl rfl (by omega) (by omega)
  refine mp_a (a_istore_n (L' := [(2, .int z7), (0, .ref 294), (1, .int t1)]) dX1_nextLayer_10 (by decide) rfl) (mpp 11 rfl ?_)
  refine MEvP.less (L := [(0, .ref 294), (1, .int t1), (2, .int z7)]) rfl rfl ⟨rfl, rfl, rfl, trivial⟩ ?_
  exact c_CL_nextLayer_Layers_l11 hT  _ _  rfl

