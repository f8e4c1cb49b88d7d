/-! methods on typed pools, 6 (written by a program) -/
set_option maxHeartbeats 4000000 in
theorem c_CR_load_Reducer_NPiece_l29 {Po : mP} {a1_ : Nat} (hTo : Typ Po) (hX : XR Po) (ha1 : rl a1_ = 33) : ∀ (n : Nat) (v2 : Int32), ∀ (P : mP), Typ P → KW [640, 641, 704, 768] Po P → (0 ≤ v2.toInt) → (2147483647 - v2.toInt).toNat = n → MEvP 2 none q_45 29 [(0, .ref 291), (1, .ref a1_), (2, .int v2)] [] P 0 0 (fun r P' => (r = none ∧ (True)) ∧ Typ P' ∧ KW [640, 641, 704, 768] Po P' ∧ True) := by
  intro n
  induction n using Nat.strongRecOn with | _ n ih => ?_
  intro v2 P hT hK i_0 hm
  have w1 := np_ar ha1
  have w_v2 := ti_full v2
  refine mp_a (a_iload_n dX3_load_29 rfl) (mpp 30 rfl ?_)
  refine mp_a (a_aload_n dX3_load_30 rfl) (mpp 31 rfl ?_)
  refine mt_callv (i := 34) (q' := q_25) (As := []) (rest := [.int v2]) hT dX3_load_31 rfl qm_25 (by decide) rfl ha1 (by decide) rfl (Nat.le_of_ble_eq_true rfl) rfl ⟨rfl, rfl⟩ ⟨Nat.le_of_ble_eq_true rfl, Nat.le_of_ble_eq_true rfl⟩ (EvP.mono (by decide) (c_CP_creaseCount_NPiece hT (KW.xr hK hX) ha1)) (fun r2 P3 g4 => mpp 34 rfl ?_)
  obtain ⟨⟨x5, rfl, g6⟩, e7⟩ := g4
  have e7 := e7.symm
  subst e7
  have wx5 := ti_full x5
  have g6 : -1 ≤ x5.toInt ∧ x5.toInt ≤ (fv P a1_ 1).toInt ∧ (((fv P a1_ 0).toInt = 0 ∧ x5.toInt = (fv P a1_ 1).toInt - 1) ∨ ((fv P a1_ 0).toInt ≠ 0 ∧ x5.toInt = (fv P a1_ 1).toInt)) := g6
  have g8 : (0 : Int) ≤ (fv P a1_ 1).toInt ∧ (fv P a1_ 1).toInt ≤ 8 := Typ.rng hT ha1 (by decide) (by decide) rfl
  have g9 := ti_full (fv P a1_ 0)
  show MEvP _ none q_45 34 [(0, .ref 291), (1, .ref a1_), (2, .int v2)] [.int x5, .int v2] _ _ _ _
  refine mp_Tb (t := 56) (j_icmp_ge dX3_load_34) (by decide) (fun c10 => ?_) (fun c10 => mpp 37 rfl ?_)
  · have c10 : v2.toInt ≥ x5.toInt := ti_ge c10
    exact mp_ret ⟨⟨rfl, trivial⟩, hT, hK, trivial⟩ dX3_load_56 rfl
  · have c10 : v2.toInt < x5.toInt := ti_ge_n c10
    refine mp_a (a_aload_n dX3_load_37 rfl) (mpp 38 rfl ?_)
    refine mp_a (a_iload_n dX3_load_38 rfl) (mpp 39 rfl ?_)
    refine mp_a (a_aload_n dX3_load_39 rfl) (mpp 40 rfl ?_)
    refine mt_getE (i := 38) (k := 4) hT dX3_load_40 rfl ha1 (by decide) rfl (by decide) rfl ((KW.xr hK hX).1 a1_ (Or.inr ha1)).2 (fun q11 => mpp 43 rfl ?_)
    refine mp_a (a_iload_n dX3_load_43 rfl) (mpp 44 rfl ?_)
    refine mp_calls (i := 39) (q' := q_12) (As := [.ref (a1_ + 2), .int v2]) (rest := [.int v2, .ref 291]) dX3_load_44 rfl qm_12 (by decide) rfl (Nat.le_of_ble_eq_true rfl) rfl ⟨rfl, rfl⟩ ⟨Nat.le_of_ble_eq_true rfl, Nat.le_of_ble_eq_true rfl⟩ (EvP.mono (by decide) (c_F_at_creases hT (KW.xr hK hX) q11)) (fun r12 P13 g14 => mpp 47 rfl ?_)
    obtain ⟨⟨x15, rfl, g16⟩, e17⟩ := g14
    have e17 := e17.symm
    subst e17
    have wx15 := ti_full x15
    show MEvP _ none q_45 47 [(0, .ref 291), (1, .ref a1_), (2, .int v2)] [.int x15, .int v2, .ref 291] _ _ _ _
    refine mt_callv (i := 43) (q' := q_46) (As := [.int v2, .int x15]) (rest := []) hT dX3_load_47 rfl qm_46 (by decide) rfl rl_291 (by decide) rfl (Nat.le_of_ble_eq_true rfl) rfl ⟨rfl, rfl⟩ ⟨Nat.le_of_ble_eq_true rfl, Nat.le_of_ble_eq_true rfl⟩ (EvP.mono (by decide) (c_CR_putCrease_Reducer hT (KW.xr hK hX) )) (fun r18 P19 g20 => mpp 50 rfl ?_)
    obtain ⟨⟨rfl, g22⟩, hT23, k24, R25⟩ := g20
    have k26 : KW [640, 641, 704, 768] Po P19 := KW.trans hK k24 rfl
    show MEvP _ none q_45 50 [(0, .ref 291), (1, .ref a1_), (2, .int v2)] [] _ _ _ _
    obtain ⟨z28, h29⟩ := ti_ex (v2 + 1 : Int32)
    have wz28 := ti_full z28
    refine mp_a (a_iinc (v := z28) (L' := [(2, .int z28), (0, .ref 291), (1, .ref a1_)]) dX3_load_50 (by decide) rfl h29 rfl) (mpp 53 rfl ?_)
    try have e30 : z28.toInt = v2.toInt + 1 := ti_addz h29 rfl rfl (by omega) (by omega)
    refine mp_a (a_goto (t := 29) dX3_load_53 (by decide)) ?_
    refine MEvP.less (L := [(0, .ref 291), (1, .ref a1_), (2, .int z28)]) rfl rfl ⟨rfl, rfl, rfl, trivial⟩ ?_
    have i31 : 0 ≤ z28.toInt := by omega
    exact ih _ (by omega) _ P19 hT23 k26 i31 rfl

set_option maxHeartbeats 4000000 in
theorem c_CR_load_Reducer_NPiece {Po : mP} {a1_ : Nat} (hT : Typ Po) (hX : XR Po)  (ha1 : rl a1_ = 33) : EvP 3 45 [.ref 291, .ref a1_] Po (fun r P' => (r = none ∧ (True)) ∧ Typ P' ∧ KW [640, 641, 704, 768] Po P' ∧ True) := by
  refine EvP.of qm_45 (Nat.le_of_ble_eq_true rfl) rfl ?_
  show MEvP _ none q_45 0 [(0, .ref 291), (1, .ref a1_)] [] _ 0 0 _
  have w1 := np_ar ha1
  refine mp_a (a_aload_n dX3_load_0 rfl) (mpp 1 rfl ?_)
  refine mp_a (a_aload_n dX3_load_1 rfl) (mpp 2 rfl ?_)
  have g2 := ti_full (fv Po a1_ 0)
  refine mt_getI (i := 18) (k := 0) hT dX3_load_2 rfl ha1 (by decide) rfl (by decide) rfl (fun g3 g4 => mpp 5 rfl ?_)
  refine mt_putI (i := 24) (k := 0) (x := (fv Po a1_ 0)) hT dX3_load_5 rfl rl_291 (by decide) rfl (by decide) rfl (ti_full (fv Po a1_ 0)) rfl rfl (fun P5 hT6 f7 f8 f9 => mpp 8 rfl ?_)
  have k10 : KW [640, 641, 704, 768] Po P5 := KW.step KW.refl rl_291 rfl f8 f9
  have e11 : (fv P5 291 0).toInt = (fv Po a1_ 0).toInt := congrArg Int32.toInt f7
  refine mp_a (a_aload_n dX3_load_8 rfl) (mpp 9 rfl ?_)
  refine mp_a (a_aload_n dX3_load_9 rfl) (mpp 10 rfl ?_)
  have g12 : (0 : Int) ≤ (fv P5 a1_ 1).toInt ∧ (fv P5 a1_ 1).toInt ≤ 8 := Typ.rng hT6 ha1 (by decide) (by decide) rfl
  refine mt_getI (i := 25) (k := 1) hT6 dX3_load_10 rfl ha1 (by decide) rfl (by decide) rfl (fun g13 g14 => mpp 13 rfl ?_)
  refine mt_putI (i := 28) (k := 1) (x := (fv P5 a1_ 1)) hT6 dX3_load_13 rfl rl_291 (by decide) rfl (by decide) rfl ⟨by omega, by omega⟩ rfl rfl (fun P15 hT16 f17 f18 f19 => mpp 16 rfl ?_)
  have k20 : KW [640, 641, 704, 768] Po P15 := KW.step k10 rl_291 rfl f18 f19
  have e21 : (fv P15 291 1).toInt = (fv P5 a1_ 1).toInt := congrArg Int32.toInt f17
  refine mp_a (a_aload_n dX3_load_16 rfl) (mpp 17 rfl ?_)
  refine mt_getE (i := 29) (k := 3) hT16 dX3_load_17 rfl ha1 (by decide) rfl (by decide) rfl ((KW.xr k20 hX).1 a1_ (Or.inr ha1)).1 (fun q22 => mpp 20 rfl ?_)
  refine mp_a (a_aload_n dX3_load_20 rfl) (mpp 21 rfl ?_)
  refine mt_getU (i := 9) (k := 2) (A := 292) hT16 dX3_load_21 rfl rl_291 (by decide) rfl (by decide) rfl un_11 (mpp 24 rfl ?_)
  have p23 : ¬ (a1_ + 1) = 292 := by omega
  refine mp_calls (i := 30) (q' := q_19) (As := [.ref (a1_ + 1), .ref 292]) (rest := []) dX3_load_24 rfl qm_19 (by decide) rfl (Nat.le_of_ble_eq_true rfl) rfl ⟨rfl, rfl⟩ ⟨Nat.le_of_ble_eq_true rfl, Nat.le_of_ble_eq_true rfl⟩ (EvP.mono (by decide) (c_F_copyRow_sizes_rsizes hT16 (KW.xr k20 hX) p23 q22)) (fun r24 P25 g26 => mpp 27 rfl ?_)
  obtain ⟨⟨rfl, g28⟩, hT29, k30, R31⟩ := g26
  have k32 : KW [640, 641, 704, 768] Po P25 := KW.trans k20 k30 rfl
  show MEvP _ none q_45 27 [(0, .ref 291), (1, .ref a1_)] [] _ _ _ _
  refine mp_a (a_iconst (v := 0) dX3_load_27 rfl) (mpp 28 rfl ?_)
  refine mp_a (a_istore_n (L' := [(2, .int 0), (0, .ref 291), (1, .ref a1_)]) dX3_load_28 (by decide) rfl) (mpp 29 rfl ?_)
  refine MEvP.less (L := [(0, .ref 291), (1, .ref a1_), (2, .int 0)]) rfl rfl ⟨rfl, rfl, rfl, trivial⟩ ?_
  have i34 : 0 ≤ (0 : Int) := by omega
  exact c_CR_load_Reducer_NPiece_l29 hT hX  ha1 _ _ P25 hT29 k32 i34 rfl

set_option maxHeartbeats 4000000 in
theorem c_F_at_rsizes {Po : mP} {t1 : Int32} (hT : Typ Po) (hX : XR Po)   : EvP 1 12 [.ref 292, .int t1] Po (fun r P' => (∃ x : Int32, r = some (.int x) ∧ (True)) ∧ P' = Po) := by
  refine EvP.of qm_12 (Nat.le_of_ble_eq_true rfl) rfl ?_
  show MEvP _ none q_12 0 [(0, .ref 292), (1, .int t1)] [] _ 0 0 _
  refine mp_a (a_iload_n dX6_at_0 rfl) (mpp 1 rfl ?_)
  refine mp_Tb (t := 16) (j_if_lt dX6_at_1) (by decide) (fun c1 => ?_) (fun c1 => mpp 4 rfl ?_)
  · have c1 : t1.toInt < 0 := ti_lt c1
    refine mp_a (a_iconst (v := 0) dX6_at_16 rfl) (mpp 17 rfl ?_)
    exact mp_iret ⟨⟨_, rfl, trivial⟩, rfl⟩ dX6_at_17 (Or.inl rfl)
  · have c1 : t1.toInt ≥ 0 := ti_lt_n c1
    refine mp_a (a_iload_n dX6_at_4 rfl) (mpp 5 rfl ?_)
    refine mp_a (a_aload_n dX6_at_5 rfl) (mpp 6 rfl ?_)
    refine mt_len (n := 8) hT dX6_at_6 rl_292 (by decide) (by decide) rfl (mpp 7 rfl ?_)
    refine mp_Tb (t := 16) (j_icmp_ge dX6_at_7) (by decide) (fun c2 => ?_) (fun c2 => mpp 10 rfl ?_)
    · have c2 : t1.toInt ≥ 8 := ti_ge c2
      refine mp_a (a_iconst (v := 0) dX6_at_16 rfl) (mpp 17 rfl ?_)
      exact mp_iret ⟨⟨_, rfl, trivial⟩, rfl⟩ dX6_at_17 (Or.inl rfl)
    · have c2 : t1.toInt < 8 := ti_ge_n c2
      refine mp_a (a_aload_n dX6_at_10 rfl) (mpp 11 rfl ?_)
      refine mp_a (a_iload_n dX6_at_11 rfl) (mpp 12 rfl ?_)
      refine mt_ial (n := 8) hT dX6_at_12 rl_292 (by decide) rfl rfl (by omega) (by omega) rfl (fun g3 g4 => mpp 13 rfl ?_)
      refine mp_a (a_goto (t := 17) dX6_at_13 (by decide)) ?_
      exact mp_iret ⟨⟨_, rfl, trivial⟩, rfl⟩ dX6_at_17 (Or.inl rfl)

set_option maxHeartbeats 4000000 in
theorem c_CR_before_Reducer {Po : mP} {t1 : Int32} (hT : Typ Po) (hX : XR Po)   : EvP 1 49 [.ref 291, .int t1] Po (fun r P' => (∃ x : Int32, r = some (.int x) ∧ (True)) ∧ P' = Po) := by
  refine EvP.of qm_49 (Nat.le_of_ble_eq_true rfl) rfl ?_
  show MEvP _ none q_49 0 [(0, .ref 291), (1, .int t1)] [] _ 0 0 _
  refine mp_a (a_iload_n dX3_before_0 rfl) (mpp 1 rfl ?_)
  refine mp_Tb (t := 10) (j_if_le dX3_before_1) (by decide) (fun c1 => ?_) (fun c1 => mpp 4 rfl ?_)
  · have c1 : t1.toInt ≤ 0 := ti_le c1
    refine mp_a (a_aload_n dX3_before_10 rfl) (mpp 11 rfl ?_)
    have g2 : (0 : Int) ≤ (fv Po 291 1).toInt ∧ (fv Po 291 1).toInt ≤ 8 := Typ.rng hT rl_291 (by decide) (by decide) rfl
    refine mt_getI (i := 28) (k := 1) hT dX3_before_11 rfl rl_291 (by decide) rfl (by decide) rfl (fun g3 g4 => mpp 14 rfl ?_)
    refine mp_a (a_iconst (v := 1) dX3_before_14 rfl) (mpp 15 rfl ?_)
    obtain ⟨z5, h6⟩ := ti_ex ((fv Po 291 1) - 1 : Int32)
    have wz5 := ti_full z5
    refine mp_t (s_isub (v := z5) dX3_before_15 h6) (mpp 16 rfl ?_)
    try have e7 : z5.toInt = (fv Po 291 1).toInt - 1 := ti_subz h6 rfl rfl (by omega) (by omega)
    exact mp_iret ⟨⟨_, rfl, trivial⟩, rfl⟩ dX3_before_16 (Or.inl rfl)
  · have c1 : t1.toInt > 0 := ti_le_n c1
    refine mp_a (a_iload_n dX3_before_4 rfl) (mpp 5 rfl ?_)
    refine mp_a (a_iconst (v := 1) dX3_before_5 rfl) (mpp 6 rfl ?_)
    obtain ⟨z8, h9⟩ := ti_ex (t1 - 1 : Int32)
    have wz8 := ti_full z8
    refine mp_t (s_isub (v := z8) dX3_before_6 h9) (mpp 7 rfl ?_)
    try have e10 : z8.toInt = t1.toInt - 1 := ti_subz h9 rfl rfl (by omega) (by omega)
    refine mp_a (a_goto (t := 16) dX3_before_7 (by decide)) ?_
    exact mp_iret ⟨⟨_, rfl, trivial⟩, rfl⟩ dX3_before_16 (Or.inl rfl)

set_option maxHeartbeats 4000000 in
theorem c_CR_after_Reducer {Po : mP} {t1 : Int32} (hT : Typ Po) (hX : XR Po)   : EvP 1 50 [.ref 291, .int t1] Po (fun r P' => (∃ x : Int32, r = some (.int x) ∧ (True)) ∧ P' = Po) := by
  refine EvP.of qm_50 (Nat.le_of_ble_eq_true rfl) rfl ?_
  show MEvP _ none q_50 0 [(0, .ref 291), (1, .int t1)] [] _ 0 0 _
  refine mp_a (a_iload_n dX3_after_0 rfl) (mpp 1 rfl ?_)
  refine mp_a (a_aload_n dX3_after_1 rfl) (mpp 2 rfl ?_)
  have g1 : (0 : Int) ≤ (fv Po 291 1).toInt ∧ (fv Po 291 1).toInt ≤ 8 := Typ.rng hT rl_291 (by decide) (by decide) rfl
  refine mt_getI (i := 28) (k := 1) hT dX3_after_2 rfl rl_291 (by decide) rfl (by decide) rfl (fun g2 g3 => mpp 5 rfl ?_)
  refine mp_a (a_iconst (v := 1) dX3_after_5 rfl) (mpp 6 rfl ?_)
  obtain ⟨z4, h5⟩ := ti_ex ((fv Po 291 1) - 1 : Int32)
  have wz4 := ti_full z4
  refine mp_t (s_isub (v := z4) dX3_after_6 h5) (mpp 7 rfl ?_)
  try have e6 : z4.toInt = (fv Po 291 1).toInt - 1 := ti_subz h5 rfl rfl (by omega) (by omega)
  refine mp_Tb (t := 16) (j_icmp_ge dX3_after_7) (by decide) (fun c7 => ?_) (fun c7 => mpp 10 rfl ?_)
  · have c7 : t1.toInt ≥ z4.toInt := ti_ge c7
    refine mp_a (a_iconst (v := 0) dX3_after_16 rfl) (mpp 17 rfl ?_)
    exact mp_iret ⟨⟨_, rfl, trivial⟩, rfl⟩ dX3_after_17 (Or.inl rfl)
  · have c7 : t1.toInt < z4.toInt := ti_ge_n c7
    refine mp_a (a_iload_n dX3_after_10 rfl) (mpp 11 rfl ?_)
    refine mp_a (a_iconst (v := 1) dX3_after_11 rfl) (mpp 12 rfl ?_)
    obtain ⟨z8, h9⟩ := ti_ex (t1 + 1 : Int32)
    have wz8 := ti_full z8
    refine mp_t (s_iadd (v := z8) dX3_after_12 h9) (mpp 13 rfl ?_)
    try have e10 : z8.toInt = t1.toInt + 1 := ti_addz h9 rfl rfl (by omega) (by omega)
    refine mp_a (a_goto (t := 17) dX3_after_13 (by decide)) ?_
    exact mp_iret ⟨⟨_, rfl, trivial⟩, rfl⟩ dX3_after_17 (Or.inl rfl)

set_option maxHeartbeats 4000000 in
theorem c_F_at_rcreases {Po : mP} {t1 : Int32} (hT : Typ Po) (hX : XR Po)   : EvP 1 12 [.ref 293, .int t1] Po (fun r P' => (∃ x : Int32, r = some (.int x) ∧ (True)) ∧ P' = Po) := by
  refine EvP.of qm_12 (Nat.le_of_ble_eq_true rfl) rfl ?_
  show MEvP _ none q_12 0 [(0, .ref 293), (1, .int t1)] [] _ 0 0 _
  refine mp_a (a_iload_n dX6_at_0 rfl) (mpp 1 rfl ?_)
  refine mp_Tb (t := 16) (j_if_lt dX6_at_1) (by decide) (fun c1 => ?_) (fun c1 => mpp 4 rfl ?_)
  · have c1 : t1.toInt < 0 := ti_lt c1
    refine mp_a (a_iconst (v := 0) dX6_at_16 rfl) (mpp 17 rfl ?_)
    exact mp_iret ⟨⟨_, rfl, trivial⟩, rfl⟩ dX6_at_17 (Or.inl rfl)
  · have c1 : t1.toInt ≥ 0 := ti_lt_n c1
    refine mp_a (a_iload_n dX6_at_4 rfl) (mpp 5 rfl ?_)
    refine mp_a (a_aload_n dX6_at_5 rfl) (mpp 6 rfl ?_)
    refine mt_len (n := 8) hT dX6_at_6 rl_293 (by decide) (by decide) rfl (mpp 7 rfl ?_)
    refine mp_Tb (t := 16) (j_icmp_ge dX6_at_7) (by decide) (fun c2 => ?_) (fun c2 => mpp 10 rfl ?_)
    · have c2 : t1.toInt ≥ 8 := ti_ge c2
      refine mp_a (a_iconst (v := 0) dX6_at_16 rfl) (mpp 17 rfl ?_)
      exact mp_iret ⟨⟨_, rfl, trivial⟩, rfl⟩ dX6_at_17 (Or.inl rfl)
    · have c2 : t1.toInt < 8 := ti_ge_n c2
      refine mp_a (a_aload_n dX6_at_10 rfl) (mpp 11 rfl ?_)
      refine mp_a (a_iload_n dX6_at_11 rfl) (mpp 12 rfl ?_)
      refine mt_ial (n := 8) hT dX6_at_12 rl_293 (by decide) rfl rfl (by omega) (by omega) rfl (fun g3 g4 => mpp 13 rfl ?_)
      refine mp_a (a_goto (t := 17) dX6_at_13 (by decide)) ?_
      exact mp_iret ⟨⟨_, rfl, trivial⟩, rfl⟩ dX6_at_17 (Or.inl rfl)

set_option maxHeartbeats 4000000 in
theorem c_CR_firstStep_Reducer_l107 {Po : mP}  (hT : Typ Po) (hX : XR Po)   : ∀ (n : Nat) (v1 : Int32) (v2 : Int32) (v3 : Int32), (2 ≤ (fv Po 291 1).toInt) → (2147483647 - v3.toInt).toNat = n → MEvP 1 none q_52 107 [(0, .ref 291), (1, .int v1), (2, .int v2), (3, .int v3)] [] Po 0 0 (fun r P' => (∃ x : Int32, r = some (.int x) ∧ (x.toInt = 0 ∨ 2 ≤ (fv Po 291 1).toInt)) ∧ P' = Po) := by
  intro n
  induction n using Nat.strongRecOn with | _ n ih => ?_
  intro v1 v2 v3 i_0 hm
  have w_v1 := ti_full v1
  have w_v2 := ti_full v2
  have w_v3 := ti_full v3
  have g1 : (0 : Int) ≤ (fv Po 291 1).toInt ∧ (fv Po 291 1).toInt ≤ 8 := Typ.rng hT rl_291 (by decide) (by decide) rfl
  refine mp_a (a_iload_n dX3_firstStep_107 rfl) (mpp 108 rfl ?_)
  refine mp_a (a_aload_n dX3_firstStep_108 rfl) (mpp 109 rfl ?_)
  refine mt_getI (i := 28) (k := 1) hT dX3_firstStep_109 rfl rl_291 (by decide) rfl (by decide) rfl (fun g2 g3 => mpp 112 rfl ?_)
  refine mp_a (a_iload_n dX3_firstStep_112 rfl) (mpp 113 rfl ?_)
  obtain ⟨z4, h5⟩ := ti_ex ((fv Po 291 1) - v2 : Int32)
  have wz4 := ti_full z4
  refine mp_t (s_isub (v := z4) dX3_firstStep_113 h5) (mpp 114 rfl ?_)
  try have e6 : z4.toInt = (fv Po 291 1).toInt - v2.toInt := ti_subz h5 rfl rfl (by omega) (by omega)
  refine mp_Tb (t := 209) (j_icmp_ge dX3_firstStep_114) (by decide) (fun c7 => ?_) (fun c7 => mpp 117 rfl ?_)
  · have c7 : v3.toInt ≥ z4.toInt := ti_ge c7
    refine mp_a (a_iconst (v := 0) dX3_firstStep_209 rfl) (mpp 210 rfl ?_)
    have u8 : (0 : Int) = 0 ∨ 2 ≤ (fv Po 291 1).toInt := by omega
    exact mp_iret ⟨⟨_, rfl, u8⟩, rfl⟩ dX3_firstStep_210 (Or.inl rfl)
  · have c7 : v3.toInt < z4.toInt := ti_ge_n c7
    refine mp_a (a_aload_n dX3_firstStep_117 rfl) (mpp 118 rfl ?_)
    refine mt_getU (i := 9) (k := 2) (A := 292) hT dX3_firstStep_118 rfl rl_291 (by decide) rfl (by decide) rfl un_11 (mpp 121 rfl ?_)
    refine mp_a (a_iload_n dX3_firstStep_121 rfl) (mpp 122 rfl ?_)
    refine mp_calls (i := 39) (q' := q_12) (As := [.ref 292, .int v3]) (rest := []) dX3_firstStep_122 rfl qm_12 (by decide) rfl (Nat.le_of_ble_eq_true rfl) rfl ⟨rfl, rfl⟩ ⟨Nat.le_of_ble_eq_true rfl, Nat.le_of_ble_eq_true rfl⟩ (EvP.mono (by decide) (c_F_at_rsizes hT hX )) (fun r9 P10 g11 => mpp 125 rfl ?_)
    obtain ⟨⟨x12, rfl, g13⟩, e14⟩ := g11
    have e14 := e14.symm
    subst e14
    have wx12 := ti_full x12
    show MEvP _ none q_52 125 [(0, .ref 291), (1, .int v1), (2, .int v2), (3, .int v3)] [.int x12] _ _ _ _
    refine mp_a (a_aload_n dX3_firstStep_125 rfl) (mpp 126 rfl ?_)
    refine mt_getU (i := 9) (k := 2) (A := 292) hT dX3_firstStep_126 rfl rl_291 (by decide) rfl (by decide) rfl un_11 (mpp 129 rfl ?_)
    refine mp_a (a_aload_n dX3_firstStep_129 rfl) (mpp 130 rfl ?_)
    refine mp_a (a_iload_n dX3_firstStep_130 rfl) (mpp 131 rfl ?_)
    refine mt_callv (i := 80) (q' := q_49) (As := [.int v3]) (rest := [.ref 292, .int x12]) hT dX3_firstStep_131 rfl qm_49 (by decide) rfl rl_291 (by decide) rfl (Nat.le_of_ble_eq_true rfl) rfl ⟨rfl, rfl⟩ ⟨Nat.le_of_ble_eq_true rfl, Nat.le_of_ble_eq_true rfl⟩ (EvP.mono (by decide) (c_CR_before_Reducer hT hX )) (fun r15 P16 g17 => mpp 134 rfl ?_)
    obtain ⟨⟨x18, rfl, g19⟩, e20⟩ := g17
    have e20 := e20.symm
    subst e20
    have wx18 := ti_full x18
    show MEvP _ none q_52 134 [(0, .ref 291), (1, .int v1), (2, .int v2), (3, .int v3)] [.int x18, .ref 292, .int x12] _ _ _ _
    refine mp_calls (i := 39) (q' := q_12) (As := [.ref 292, .int x18]) (rest := [.int x12]) dX3_firstStep_134 rfl qm_12 (by decide) rfl (Nat.le_of_ble_eq_true rfl) rfl ⟨rfl, rfl⟩ ⟨Nat.le_of_ble_eq_true rfl, Nat.le_of_ble_eq_true rfl⟩ (EvP.mono (by decide) (c_F_at_rsizes hT hX )) (fun r21 P22 g23 => mpp 137 rfl ?_)
    obtain ⟨⟨x24, rfl, g25⟩, e26⟩ := g23
    have e26 := e26.symm
    subst e26
    have wx24 := ti_full x24
    show MEvP _ none q_52 137 [(0, .ref 291), (1, .int v1), (2, .int v2), (3, .int v3)] [.int x24, .int x12] _ _ _ _
    refine mp_Tb (t := 167) (j_icmp_gt dX3_firstStep_137) (by decide) (fun c27 => ?_) (fun c27 => mpp 140 rfl ?_)
    · have c27 : x12.toInt > x24.toInt := ti_gt c27
      refine mp_a (a_iconst (v := 0) dX3_firstStep_167 rfl) (mpp 168 rfl ?_)
      refine mp_a (a_istore (L' := [(4, .int 0), (0, .ref 291), (1, .int v1), (2, .int v2), (3, .int v3)]) dX3_firstStep_168 (by decide) rfl) (mpp 170 rfl ?_)
      refine mp_a (a_iload dX3_firstStep_170 rfl) (mpp 172 rfl ?_)
      refine mp_Tt (t := 203) (j_if_eq dX3_firstStep_172) (by decide) (by decide) ?_
      obtain ⟨z28, h29⟩ := ti_ex (v3 + 1 : Int32)
      have wz28 := ti_full z28
      refine mp_a (a_iinc (v := z28) (L' := [(3, .int z28), (4, .int 0), (0, .ref 291), (1, .int v1), (2, .int v2)]) dX3_firstStep_203 (by decide) rfl h29 rfl) (mpp 206 rfl ?_)
      try have e30 : z28.toInt = v3.toInt + 1 := ti_addz h29 rfl rfl (by omega) (by omega)
      refine mp_a (a_goto (t := 107) dX3_firstStep_206 (by decide)) ?_
      refine MEvP.less (L := [(0, .ref 291), (1, .int v1), (2, .int v2), (3, .int z28)]) rfl rfl ⟨rfl, rfl, rfl, rfl, trivial⟩ ?_
      have i31 : 2 ≤ (fv Po 291 1).toInt := by omega
      exact ih _ (by omega) _ _ _ i31 rfl
    · have c27 : x12.toInt ≤ x24.toInt := ti_gt_n c27
      refine mp_a (a_aload_n dX3_firstStep_140 rfl) (mpp 141 rfl ?_)
      refine mt_getU (i := 9) (k := 2) (A := 292) hT dX3_firstStep_141 rfl rl_291 (by decide) rfl (by decide) rfl un_11 (mpp 144 rfl ?_)
      refine mp_a (a_iload_n dX3_firstStep_144 rfl) (mpp 145 rfl ?_)
      refine mp_calls (i := 39) (q' := q_12) (As := [.ref 292, .int v3]) (rest := []) dX3_firstStep_145 rfl qm_12 (by decide) rfl (Nat.le_of_ble_eq_true rfl) rfl ⟨rfl, rfl⟩ ⟨Nat.le_of_ble_eq_true rfl, Nat.le_of_ble_eq_true rfl⟩ (EvP.mono (by decide) (c_F_at_rsizes hT hX )) (fun r32 P33 g34 => mpp 148 rfl ?_)
      obtain ⟨⟨x35, rfl, g36⟩, e37⟩ := g34
      have e37 := e37.symm
      subst e37
      have wx35 := ti_full x35
      show MEvP _ none q_52 148 [(0, .ref 291), (1, .int v1), (2, .int v2), (3, .int v3)] [.int x35] _ _ _ _
      refine mp_a (a_aload_n dX3_firstStep_148 rfl) (mpp 149 rfl ?_)
      refine mt_getU (i := 9) (k := 2) (A := 292) hT dX3_firstStep_149 rfl rl_291 (by decide) rfl (by decide) rfl un_11 (mpp 152 rfl ?_)
      refine mp_a (a_aload_n dX3_firstStep_152 rfl) (mpp 153 rfl ?_)
      refine mp_a (a_iload_n dX3_firstStep_153 rfl) (mpp 154 rfl ?_)
      refine mt_callv (i := 83) (q' := q_50) (As := [.int v3]) (rest := [.ref 292, .int x35]) hT dX3_firstStep_154 rfl qm_50 (by decide) rfl rl_291 (by decide) rfl (Nat.le_of_ble_eq_true rfl) rfl ⟨rfl, rfl⟩ ⟨Nat.le_of_ble_eq_true rfl, Nat.le_of_ble_eq_true rfl⟩ (EvP.mono (by decide) (c_CR_after_Reducer hT hX )) (fun r38 P39 g40 => mpp 157 rfl ?_)
      obtain ⟨⟨x41, rfl, g42⟩, e43⟩ := g40
      have e43 := e43.symm
      subst e43
      have wx41 := ti_full x41
      show MEvP _ none q_52 157 [(0, .ref 291), (1, .int v1), (2, .int v2), (3, .int v3)] [.int x41, .ref 292, .int x35] _ _ _ _
      refine mp_calls (i := 39) (q' := q_12) (As := [.ref 292, .int x41]) (rest := [.int x35]) dX3_firstStep_157 rfl qm_12 (by decide) rfl (Nat.le_of_ble_eq_true rfl) rfl ⟨rfl, rfl⟩ ⟨Nat.le_of_ble_eq_true rfl, Nat.le_of_ble_eq_true rfl⟩ (EvP.mono (by decide) (c_F_at_rsizes hT hX )) (fun r44 P45 g46 => mpp 160 rfl ?_)
      obtain ⟨⟨x47, rfl, g48⟩, e49⟩ := g46
      have e49 := e49.symm
      subst e49
      have wx47 := ti_full x47
      show MEvP _ none q_52 160 [(0, .ref 291), (1, .int v1), (2, .int v2), (3, .int v3)] [.int x47, .int x35] _ _ _ _
      refine mp_Tb (t := 167) (j_icmp_gt dX3_firstStep_160) (by decide) (fun c50 => ?_) (fun c50 => mpp 163 rfl ?_)
      · have c50 : x35.toInt > x47.toInt := ti_gt c50
        refine mp_a (a_iconst (v := 0) dX3_firstStep_167 rfl) (mpp 168 rfl ?_)
        refine mp_a (a_istore (L' := [(4, .int 0), (0, .ref 291), (1, .int v1), (2, .int v2), (3, .int v3)]) dX3_firstStep_168 (by decide) rfl) (mpp 170 rfl ?_)
        refine mp_a (a_iload dX3_firstStep_170 rfl) (mpp 172 rfl ?_)
        refine mp_Tt (t := 203) (j_if_eq dX3_firstStep_172) (by decide) (by decide) ?_
        obtain ⟨z51, h52⟩ := ti_ex (v3 + 1 : Int32)
        have wz51 := ti_full z51
        refine mp_a (a_iinc (v := z51) (L' := [(3, .int z51), (4, .int 0), (0, .ref 291), (1, .int v1), (2, .int v2)]) dX3_firstStep_203 (by decide) rfl h52 rfl) (mpp 206 rfl ?_)
        try have e53 : z51.toInt = v3.toInt + 1 := ti_addz h52 rfl rfl (by omega) (by omega)
        refine mp_a (a_goto (t := 107) dX3_firstStep_206 (by decide)) ?_
        refine MEvP.less (L := [(0, .ref 291), (1, .int v1), (2, .int v2), (3, .int z51)]) rfl rfl ⟨rfl, rfl, rfl, rfl, trivial⟩ ?_
        have i54 : 2 ≤ (fv Po 291 1).toInt := by omega
        exact ih _ (by omega) _ _ _ i54 rfl
      · have c50 : x35.toInt ≤ x47.toInt := ti_gt_n c50
        refine mp_a (a_iconst (v := 1) dX3_firstStep_163 rfl) (mpp 164 rfl ?_)
        refine mp_a (a_goto (t := 168) dX3_firstStep_164 (by decide)) ?_
        refine mp_a (a_istore (L' := [(4, .int 1), (0, .ref 291), (1, .int v1), (2, .int v2), (3, .int v3)]) dX3_firstStep_168 (by decide) rfl) (mpp 170 rfl ?_)
        refine mp_a (a_iload dX3_firstStep_170 rfl) (mpp 172 rfl ?_)
        refine mp_Tf (t := 203) (j_if_eq dX3_firstStep_172) (by decide) (by decide) (mpp 175 rfl ?_)
        refine mp_a (a_aload_n dX3_firstStep_175 rfl) (mpp 176 rfl ?_)
        refine mt_getU (i := 15) (k := 3) (A := 293) hT dX3_firstStep_176 rfl rl_291 (by decide) rfl (by decide) rfl un_12 (mpp 179 rfl ?_)
        refine mp_a (a_iload_n dX3_firstStep_179 rfl) (mpp 180 rfl ?_)
        refine mp_calls (i := 39) (q' := q_12) (As := [.ref 293, .int v3]) (rest := []) dX3_firstStep_180 rfl qm_12 (by decide) rfl (Nat.le_of_ble_eq_true rfl) rfl ⟨rfl, rfl⟩ ⟨Nat.le_of_ble_eq_true rfl, Nat.le_of_ble_eq_true rfl⟩ (EvP.mono (by decide) (c_F_at_rcreases hT hX )) (fun r55 P56 g57 => mpp 183 rfl ?_)
        obtain ⟨⟨x58, rfl, g59⟩, e60⟩ := g57
        have e60 := e60.symm
        subst e60
        have wx58 := ti_full x58
        show MEvP _ none q_52 183 [(4, .int 1), (0, .ref 291), (1, .int v1), (2, .int v2), (3, .int v3)] [.int x58] _ _ _ _
        refine mp_a (a_aload_n dX3_firstStep_183 rfl) (mpp 184 rfl ?_)
        refine mt_getU (i := 15) (k := 3) (A := 293) hT dX3_firstStep_184 rfl rl_291 (by decide) rfl (by decide) rfl un_12 (mpp 187 rfl ?_)
        refine mp_a (a_aload_n dX3_firstStep_187 rfl) (mpp 188 rfl ?_)
        refine mp_a (a_iload_n dX3_firstStep_188 rfl) (mpp 189 rfl ?_)
        refine mt_callv (i := 83) (q' := q_50) (As := [.int v3]) (rest := [.ref 293, .int x58]) hT dX3_firstStep_189 rfl qm_50 (by decide) rfl rl_291 (by decide) rfl (Nat.le_of_ble_eq_true rfl) rfl ⟨rfl, rfl⟩ ⟨Nat.le_of_ble_eq_true rfl, Nat.le_of_ble_eq_true rfl⟩ (EvP.mono (by decide) (c_CR_after_Reducer hT hX )) (fun r61 P62 g63 => mpp 192 rfl ?_)
        obtain ⟨⟨x64, rfl, g65⟩, e66⟩ := g63
        have e66 := e66.symm
        subst e66
        have wx64 := ti_full x64
        show MEvP _ none q_52 192 [(4, .int 1), (0, .ref 291), (1, .int v1), (2, .int v2), (3, .int v3)] [.int x64, .ref 293, .int x58] _ _ _ _
        refine mp_calls (i := 39) (q' := q_12) (As := [.ref 293, .int x64]) (rest := [.int x58]) dX3_firstStep_192 rfl qm_12 (by decide) rfl (Nat.le_of_ble_eq_true rfl) rfl ⟨rfl, rfl⟩ ⟨Nat.le_of_ble_eq_true rfl, Nat.le_of_ble_eq_true rfl⟩ (EvP.mono (by decide) (c_F_at_rcreases hT hX )) (fun r67 P68 g69 => mpp 195 rfl ?_)
        obtain ⟨⟨x70, rfl, g71⟩, e72⟩ := g69
        have e72 := e72.symm
        subst e72
        have wx70 := ti_full x70
        show MEvP _ none q_52 195 [(4, .int 1), (0, .ref 291), (1, .int v1), (2, .int v2), (3, .int v3)] [.int x70, .int x58] _ _ _ _
        refine mp_Tb (t := 203) (j_icmp_eq dX3_firstStep_195) (by decide) (fun c73 => ?_) (fun c73 => mpp 198 rfl ?_)
        · have c73 : x58.toInt = x70.toInt := ti_eq c73
          obtain ⟨z74, h75⟩ := ti_ex (v3 + 1 : Int32)
          have wz74 := ti_full z74
          refine mp_a (a_iinc (v := z74) (L' := [(3, .int z74), (4, .int 1), (0, .ref 291), (1, .int v1), (2, .int v2)]) dX3_firstStep_203 (by decide) rfl h75 rfl) (mpp 206 rfl ?_)
          try have e76 : z74.toInt = v3.toInt + 1 := ti_addz h75 rfl rfl (by omega) (by omega)
          refine mp_a (a_goto (t := 107) dX3_firstStep_206 (by decide)) ?_
          refine MEvP.less (L := [(0, .ref 291), (1, .int v1), (2, .int v2), (3, .int z74)]) rfl rfl ⟨rfl, rfl, rfl, rfl, trivial⟩ ?_
          have i77 : 2 ≤ (fv Po 291 1).toInt := by omega
          exact ih _ (by omega) _ _ _ i77 rfl
        · have c73 : x58.toInt ≠ x70.toInt := ti_eq_n c73
          refine mp_a (a_bipush (v := 10) dX3_firstStep_198 rfl) (mpp 200 rfl ?_)
          refine mp_a (a_iload_n dX3_firstStep_200 rfl) (mpp 201 rfl ?_)
          obtain ⟨z78, h79⟩ := ti_ex (10 + v3 : Int32)
          have wz78 := ti_full z78
          refine mp_t (s_iadd (v := z78) dX3_firstStep_201 h79) (mpp 202 rfl ?_)
          try have e80 : z78.toInt = 10 + v3.toInt := ti_addz h79 rfl rfl (by omega) (by omega)
          have u81 : z78.toInt = 0 ∨ 2 ≤ (fv Po 291 1).toInt := by omega
          exact mp_iret ⟨⟨_, rfl, u81⟩, rfl⟩ dX3_firstStep_202 (Or.inl rfl)

set_option maxHeartbeats 4000000 in
theorem c_CR_firstStep_Reducer {Po : mP}  (hT : Typ Po) (hX : XR Po)   : EvP 2 52 [.ref 291] Po (fun r P' => (∃ x : Int32, r = some (.int x) ∧ (x.toInt = 0 ∨ 2 ≤ (fv Po 291 1).toInt)) ∧ P' = Po) := by
  refine EvP.of qm_52 (Nat.le_of_ble_eq_true rfl) rfl ?_
  show MEvP _ none q_52 0 [(0, .ref 291)] [] _ 0 0 _
  have g1 : (0 : Int) ≤ (fv Po 291 1).toInt ∧ (fv Po 291 1).toInt ≤ 8 := Typ.rng hT rl_291 (by decide) (by decide) rfl
  refine mp_a (a_aload_n dX3_firstStep_0 rfl) (mpp 1 rfl ?_)
  have g2 := ti_full (fv Po 291 0)
  refine mt_getI (i := 24) (k := 0) hT dX3_firstStep_1 rfl rl_291 (by decide) rfl (by decide) rfl (fun g3 g4 => mpp 4 rfl ?_)
  refine mp_Tb (t := 11) (j_if_ne dX3_firstStep_4) (by decide) (fun c5 => ?_) (fun c5 => mpp 7 rfl ?_)
  · have c5 : (fv Po 291 0).toInt ≠ 0 := ti_ne c5
    refine mp_a (a_iconst (v := 0) dX3_firstStep_11 rfl) (mpp 12 rfl ?_)
    refine mp_a (a_istore_n (L' := [(1, .int 0), (0, .ref 291)]) dX3_firstStep_12 (by decide) rfl) (mpp 13 rfl ?_)
    refine mp_a (a_aload_n dX3_firstStep_13 rfl) (mpp 14 rfl ?_)
    refine mt_getI (i := 28) (k := 1) hT dX3_firstStep_14 rfl rl_291 (by decide) rfl (by decide) rfl (fun g6 g7 => mpp 17 rfl ?_)
    refine mp_a (a_iconst (v := 2) dX3_firstStep_17 rfl) (mpp 18 rfl ?_)
    refine mp_Tb (t := 33) (j_icmp_lt dX3_firstStep_18) (by decide) (fun c8 => ?_) (fun c8 => mpp 21 rfl ?_)
    · have c8 : (fv Po 291 1).toInt < 2 := ti_lt c8
      refine mp_a (a_iconst (v := 0) dX3_firstStep_33 rfl) (mpp 34 rfl ?_)
      have u9 : (0 : Int) = 0 ∨ 2 ≤ (fv Po 291 1).toInt := by omega
      exact mp_iret ⟨⟨_, rfl, u9⟩, rfl⟩ dX3_firstStep_34 (Or.inl rfl)
    · have c8 : (fv Po 291 1).toInt ≥ 2 := ti_lt_n c8
      refine mp_a (a_aload_n dX3_firstStep_21 rfl) (mpp 22 rfl ?_)
      refine mt_getI (i := 28) (k := 1) hT dX3_firstStep_22 rfl rl_291 (by decide) rfl (by decide) rfl (fun g10 g11 => mpp 25 rfl ?_)
      refine mp_a (a_iconst (v := 2) dX3_firstStep_25 rfl) (mpp 26 rfl ?_)
      refine mp_Tb (t := 35) (j_icmp_ne dX3_firstStep_26) (by decide) (fun c12 => ?_) (fun c12 => mpp 29 rfl ?_)
      · have c12 : (fv Po 291 1).toInt ≠ 2 := ti_ne c12
        refine mp_a (a_iload_n dX3_firstStep_35 rfl) (mpp 36 rfl ?_)
        refine mp_Tt (t := 60) (j_if_eq dX3_firstStep_36) (by decide) (by decide) ?_
        refine mp_a (a_iload_n dX3_firstStep_60 rfl) (mpp 61 rfl ?_)
        refine mp_Tt (t := 95) (j_if_eq dX3_firstStep_61) (by decide) (by decide) ?_
        refine mp_a (a_iload_n dX3_firstStep_95 rfl) (mpp 96 rfl ?_)
        refine mp_Tt (t := 103) (j_if_eq dX3_firstStep_96) (by decide) (by decide) ?_
        refine mp_a (a_iconst (v := 0) dX3_firstStep_103 rfl) (mpp 104 rfl ?_)
        refine mp_a (a_istore_n (L' := [(2, .int 0), (1, .int 0), (0, .ref 291)]) dX3_firstStep_104 (by decide) rfl) (mpp 105 rfl ?_)
        refine mp_a (a_iload_n dX3_firstStep_105 rfl) (mpp 106 rfl ?_)
        refine mp_a (a_istore_n (L' := [(3, .int 0), (2, .int 0), (1, .int 0), (0, .ref 291)]) dX3_firstStep_106 (by decide) rfl) (mpp 107 rfl ?_)
        refine MEvP.less (L := [(0, .ref 291), (1, .int 0), (2, .int 0), (3, .int 0)]) rfl rfl ⟨rfl, rfl, rfl, rfl, trivial⟩ ?_
        have i13 : 2 ≤ (fv Po 291 1).toInt := by omega
        exact c_CR_firstStep_Reducer_l107 hT hX   _ _ _ _ i13 rfl
      · have c12 : (fv Po 291 1).toInt = 2 := ti_ne_n c12
        refine mp_a (a_iload_n dX3_firstStep_29 rfl) (mpp 30 rfl ?_)
        refine mp_Tf (t := 35) (j_if_ne dX3_firstStep_30) (by decide) (by decide) (mpp 33 rfl ?_)
        refine mp_a (a_iconst (v := 0) dX3_firstStep_33 rfl) (mpp 34 rfl ?_)
        have u14 : (0 : Int) = 0 ∨ 2 ≤ (fv Po 291 1).toInt := by omega
        exact mp_iret ⟨⟨_, rfl, u14⟩, rfl⟩ dX3_firstStep_34 (Or.inl rfl)
  · have c5 : (fv Po 291 0).toInt = 0 := ti_ne_n c5
    refine mp_a (a_iconst (v := 1) dX3_firstStep_7 rfl) (mpp 8 rfl ?_)
    refine mp_a (a_goto (t := 12) dX3_firstStep_8 (by decide)) ?_
    refine mp_a (a_istore_n (L' := [(1, .int 1), (0, .ref 291)]) dX3_firstStep_12 (by decide) rfl) (mpp 13 rfl ?_)
    refine mp_a (a_aload_n dX3_firstStep_13 rfl) (mpp 14 rfl ?_)
    refine mt_getI (i := 28) (k := 1) hT dX3_firstStep_14 rfl rl_291 (by decide) rfl (by decide) rfl (fun g15 g16 => mpp 17 rfl ?_)
    refine mp_a (a_iconst (v := 2) dX3_firstStep_17 rfl) (mpp 18 rfl ?_)
    refine mp_Tb (t := 33) (j_icmp_lt dX3_firstStep_18) (by decide) (fun c17 => ?_) (fun c17 => mpp 21 rfl ?_)
    · have c17 : (fv Po 291 1).toInt < 2 := ti_lt c17
      refine mp_a (a_iconst (v := 0) dX3_firstStep_33 rfl) (mpp 34 rfl ?_)
      have u18 : (0 : Int) = 0 ∨ 2 ≤ (fv Po 291 1).toInt := by omega
      exact mp_iret ⟨⟨_, rfl, u18⟩, rfl⟩ dX3_firstStep_34 (Or.inl rfl)
    · have c17 : (fv Po 291 1).toInt ≥ 2 := ti_lt_n c17
      refine mp_a (a_aload_n dX3_firstStep_21 rfl) (mpp 22 rfl ?_)
      refine mt_getI (i := 28) (k := 1) hT dX3_firstStep_22 rfl rl_291 (by decide) rfl (by decide) rfl (fun g19 g20 => mpp 25 rfl ?_)
      refine mp_a (a_iconst (v := 2) dX3_firstStep_25 rfl) (mpp 26 rfl ?_)
      refine mp_Tb (t := 35) (j_icmp_ne dX3_firstStep_26) (by decide) (fun c21 => ?_) (fun c21 => mpp 29 rfl ?_)
      · have c21 : (fv Po 291 1).toInt ≠ 2 := ti_ne c21
        refine mp_a (a_iload_n dX3_firstStep_35 rfl) (mpp 36 rfl ?_)
        refine mp_Tf (t := 60) (j_if_eq dX3_firstStep_36) (by decide) (by decide) (mpp 39 rfl ?_)
        refine mp_a (a_aload_n dX3_firstStep_39 rfl) (mpp 40 rfl ?_)
        refine mt_getU (i := 9) (k := 2) (A := 292) hT dX3_firstStep_40 rfl rl_291 (by decide) rfl (by decide) rfl un_11 (mpp 43 rfl ?_)
        refine mp_a (a_iconst (v := 0) dX3_firstStep_43 rfl) (mpp 44 rfl ?_)
        refine mp_calls (i := 39) (q' := q_12) (As := [.ref 292, .int 0]) (rest := []) dX3_firstStep_44 rfl qm_12 (by decide) rfl (Nat.le_of_ble_eq_true rfl) rfl ⟨rfl, rfl⟩ ⟨Nat.le_of_ble_eq_true rfl, Nat.le_of_ble_eq_true rfl⟩ (EvP.mono (by decide) (c_F_at_rsizes hT hX )) (fun r22 P23 g24 => mpp 47 rfl ?_)
        obtain ⟨⟨x25, rfl, g26⟩, e27⟩ := g24
        have e27 := e27.symm
        subst e27
        have wx25 := ti_full x25
        show MEvP _ none q_52 47 [(1, .int 1), (0, .ref 291)] [.int x25] _ _ _ _
        refine mp_a (a_aload_n dX3_firstStep_47 rfl) (mpp 48 rfl ?_)
        refine mt_getU (i := 9) (k := 2) (A := 292) hT dX3_firstStep_48 rfl rl_291 (by decide) rfl (by decide) rfl un_11 (mpp 51 rfl ?_)
        refine mp_a (a_iconst (v := 1) dX3_firstStep_51 rfl) (mpp 52 rfl ?_)
        refine mp_calls (i := 39) (q' := q_12) (As := [.ref 292, .int 1]) (rest := [.int x25]) dX3_firstStep_52 rfl qm_12 (by decide) rfl (Nat.le_of_ble_eq_true rfl) rfl ⟨rfl, rfl⟩ ⟨Nat.le_of_ble_eq_true rfl, Nat.le_of_ble_eq_true rfl⟩ (EvP.mono (by decide) (c_F_at_rsizes hT hX )) (fun r28 P29 g30 => mpp 55 rfl ?_)
        obtain ⟨⟨x31, rfl, g32⟩, e33⟩ := g30
        have e33 := e33.symm
        subst e33
        have wx31 := ti_full x31
        show MEvP _ none q_52 55 [(1, .int 1), (0, .ref 291)] [.int x31, .int x25] _ _ _ _
        refine mp_Tb (t := 60) (j_icmp_gt dX3_firstStep_55) (by decide) (fun c34 => ?_) (fun c34 => mpp 58 rfl ?_)
        · have c34 : x25.toInt > x31.toInt := ti_gt c34
          refine mp_a (a_iload_n dX3_firstStep_60 rfl) (mpp 61 rfl ?_)
          refine mp_Tf (t := 95) (j_if_eq dX3_firstStep_61) (by decide) (by decide) (mpp 64 rfl ?_)
          refine mp_a (a_aload_n dX3_firstStep_64 rfl) (mpp 65 rfl ?_)
          refine mt_getU (i := 9) (k := 2) (A := 292) hT dX3_firstStep_65 rfl rl_291 (by decide) rfl (by decide) rfl un_11 (mpp 68 rfl ?_)
          refine mp_a (a_aload_n dX3_firstStep_68 rfl) (mpp 69 rfl ?_)
          refine mt_getI (i := 28) (k := 1) hT dX3_firstStep_69 rfl rl_291 (by decide) rfl (by decide) rfl (fun g35 g36 => mpp 72 rfl ?_)
          refine mp_a (a_iconst (v := 1) dX3_firstStep_72 rfl) (mpp 73 rfl ?_)
          obtain ⟨z37, h38⟩ := ti_ex ((fv Po 291 1) - 1 : Int32)
          have wz37 := ti_full z37
          refine mp_t (s_isub (v := z37) dX3_firstStep_73 h38) (mpp 74 rfl ?_)
          try have e39 : z37.toInt = (fv Po 291 1).toInt - 1 := ti_subz h38 rfl rfl (by omega) (by omega)
          refine mp_calls (i := 39) (q' := q_12) (As := [.ref 292, .int z37]) (rest := []) dX3_firstStep_74 rfl qm_12 (by decide) rfl (Nat.le_of_ble_eq_true rfl) rfl ⟨rfl, rfl⟩ ⟨Nat.le_of_ble_eq_true rfl, Nat.le_of_ble_eq_true rfl⟩ (EvP.mono (by decide) (c_F_at_rsizes hT hX )) (fun r40 P41 g42 => mpp 77 rfl ?_)
          obtain ⟨⟨x43, rfl, g44⟩, e45⟩ := g42
          have e45 := e45.symm
          subst e45
          have wx43 := ti_full x43
          show MEvP _ none q_52 77 [(1, .int 1), (0, .ref 291)] [.int x43] _ _ _ _
          refine mp_a (a_aload_n dX3_firstStep_77 rfl) (mpp 78 rfl ?_)
          refine mt_getU (i := 9) (k := 2) (A := 292) hT dX3_firstStep_78 rfl rl_291 (by decide) rfl (by decide) rfl un_11 (mpp 81 rfl ?_)
          refine mp_a (a_aload_n dX3_firstStep_81 rfl) (mpp 82 rfl ?_)
          refine mt_getI (i := 28) (k := 1) hT dX3_firstStep_82 rfl rl_291 (by decide) rfl (by decide) rfl (fun g46 g47 => mpp 85 rfl ?_)
          refine mp_a (a_iconst (v := 2) dX3_firstStep_85 rfl) (mpp 86 rfl ?_)
          obtain ⟨z48, h49⟩ := ti_ex ((fv Po 291 1) - 2 : Int32)
          have wz48 := ti_full z48
          refine mp_t (s_isub (v := z48) dX3_firstStep_86 h49) (mpp 87 rfl ?_)
          try have e50 : z48.toInt = (fv Po 291 1).toInt - 2 := ti_subz h49 rfl rfl (by omega) (by omega)
          refine mp_calls (i := 39) (q' := q_12) (As := [.ref 292, .int z48]) (rest := [.int x43]) dX3_firstStep_87 rfl qm_12 (by decide) rfl (Nat.le_of_ble_eq_true rfl) rfl ⟨rfl, rfl⟩ ⟨Nat.le_of_ble_eq_true rfl, Nat.le_of_ble_eq_true rfl⟩ (EvP.mono (by decide) (c_F_at_rsizes hT hX )) (fun r51 P52 g53 => mpp 90 rfl ?_)
          obtain ⟨⟨x54, rfl, g55⟩, e56⟩ := g53
          have e56 := e56.symm
          subst e56
          have wx54 := ti_full x54
          show MEvP _ none q_52 90 [(1, .int 1), (0, .ref 291)] [.int x54, .int x43] _ _ _ _
          refine mp_Tb (t := 95) (j_icmp_gt dX3_firstStep_90) (by decide) (fun c57 => ?_) (fun c57 => mpp 93 rfl ?_)
          · have c57 : x43.toInt > x54.toInt := ti_gt c57
            refine mp_a (a_iload_n dX3_firstStep_95 rfl) (mpp 96 rfl ?_)
            refine mp_Tf (t := 103) (j_if_eq dX3_firstStep_96) (by decide) (by decide) (mpp 99 rfl ?_)
            refine mp_a (a_iconst (v := 1) dX3_firstStep_99 rfl) (mpp 100 rfl ?_)
            refine mp_a (a_goto (t := 104) dX3_firstStep_100 (by decide)) ?_
            refine mp_a (a_istore_n (L' := [(2, .int 1), (1, .int 1), (0, .ref 291)]) dX3_firstStep_104 (by decide) rfl) (mpp 105 rfl ?_)
            refine mp_a (a_iload_n dX3_firstStep_105 rfl) (mpp 106 rfl ?_)
            refine mp_a (a_istore_n (L' := [(3, .int 1), (2, .int 1), (1, .int 1), (0, .ref 291)]) dX3_firstStep_106 (by decide) rfl) (mpp 107 rfl ?_)
            refine MEvP.less (L := [(0, .ref 291), (1, .int 1), (2, .int 1), (3, .int 1)]) rfl rfl ⟨rfl, rfl, rfl, rfl, trivial⟩ ?_
            have i58 : 2 ≤ (fv Po 291 1).toInt := by omega
            exact c_CR_firstStep_Reducer_l107 hT hX   _ _ _ _ i58 rfl
          · have c57 : x43.toInt ≤ x54.toInt := ti_gt_n c57
            refine mp_a (a_iconst (v := 2) dX3_firstStep_93 rfl) (mpp 94 rfl ?_)
            have u59 : (2 : Int) = 0 ∨ 2 ≤ (fv Po 291 1).toInt := by omega
            exact mp_iret ⟨⟨_, rfl, u59⟩, rfl⟩ dX3_firstStep_94 (Or.inl rfl)
        · have c34 : x25.toInt ≤ x31.toInt := ti_gt_n c34
          refine mp_a (a_iconst (v := 1) dX3_firstStep_58 rfl) (mpp 59 rfl ?_)
          have u60 : (1 : Int) = 0 ∨ 2 ≤ (fv Po 291 1).toInt := by omega
          exact mp_iret ⟨⟨_, rfl, u60⟩, rfl⟩ dX3_firstStep_59 (Or.inl rfl)
      · have c21 : (fv Po 291 1).toInt = 2 := ti_ne_n c21
        refine mp_a (a_iload_n dX3_firstStep_29 rfl) (mpp 30 rfl ?_)
        refine mp_Tt (t := 35) (j_if_ne dX3_firstStep_30) (by decide) (by decide) ?_
        refine mp_a (a_iload_n dX3_firstStep_35 rfl) (mpp 36 rfl ?_)
        refine mp_Tf (t := 60) (j_if_eq dX3_firstStep_36) (by decide) (by decide) (mpp 39 rfl ?_)
        refine mp_a (a_aload_n dX3_firstStep_39 rfl) (mpp 40 rfl ?_)
        refine mt_getU (i := 9) (k := 2) (A := 292) hT dX3_firstStep_40 rfl rl_291 (by decide) rfl (by decide) rfl un_11 (mpp 43 rfl ?_)
        refine mp_a (a_iconst (v := 0) dX3_firstStep_43 rfl) (mpp 44 rfl ?_)
        refine mp_calls (i := 39) (q' := q_12) (As := [.ref 292, .int 0]) (rest := []) dX3_firstStep_44 rfl qm_12 (by decide) rfl (Nat.le_of_ble_eq_true rfl) rfl ⟨rfl, rfl⟩ ⟨Nat.le_of_ble_eq_true rfl, Nat.le_of_ble_eq_true rfl⟩ (EvP.mono (by decide) (c_F_at_rsizes hT hX )) (fun r61 P62 g63 => mpp 47 rfl ?_)
        obtain ⟨⟨x64, rfl, g65⟩, e66⟩ := g63
        have e66 := e66.symm
        subst e66
        have wx64 := ti_full x64
        show MEvP _ none q_52 47 [(1, .int 1), (0, .ref 291)] [.int x64] _ _ _ _
        refine mp_a (a_aload_n dX3_firstStep_47 rfl) (mpp 48 rfl ?_)
        refine mt_getU (i := 9) (k := 2) (A := 292) hT dX3_firstStep_48 rfl rl_291 (by decide) rfl (by decide) rfl un_11 (mpp 51 rfl ?_)
        refine mp_a (a_iconst (v := 1) dX3_firstStep_51 rfl) (mpp 52 rfl ?_)
        refine mp_calls (i := 39) (q' := q_12) (As := [.ref 292, .int 1]) (rest := [.int x64]) dX3_firstStep_52 rfl qm_12 (by decide) rfl (Nat.le_of_ble_eq_true rfl) rfl ⟨rfl, rfl⟩ ⟨Nat.le_of_ble_eq_true rfl, Nat.le_of_ble_eq_true rfl⟩ (EvP.mono (by decide) (c_F_at_rsizes hT hX )) (fun r67 P68 g69 => mpp 55 rfl ?_)
        obtain ⟨⟨x70, rfl, g71⟩, e72⟩ := g69
        have e72 := e72.symm
        subst e72
        have wx70 := ti_full x70
        show MEvP _ none q_52 55 [(1, .int 1), (0, .ref 291)] [.int x70, .int x64] _ _ _ _
        refine mp_Tb (t := 60) (j_icmp_gt dX3_firstStep_55) (by decide) (fun c73 => ?_) (fun c73 => mpp 58 rfl ?_)
        · have c73 : x64.toInt > x70.toInt := ti_gt c73
          refine mp_a (a_iload_n dX3_firstStep_60 rfl) (mpp 61 rfl ?_)
          refine mp_Tf (t := 95) (j_if_eq dX3_firstStep_61) (by decide) (by decide) (mpp 64 rfl ?_)
          refine mp_a (a_aload_n dX3_firstStep_64 rfl) (mpp 65 rfl ?_)
          refine mt_getU (i := 9) (k := 2) (A := 292) hT dX3_firstStep_65 rfl rl_291 (by decide) rfl (by decide) rfl un_11 (mpp 68 rfl ?_)
          refine mp_a (a_aload_n dX3_firstStep_68 rfl) (mpp 69 rfl ?_)
          refine mt_getI (i := 28) (k := 1) hT dX3_firstStep_69 rfl rl_291 (by decide) rfl (by decide) rfl (fun g74 g75 => mpp 72 rfl ?_)
          refine mp_a (a_iconst (v := 1) dX3_firstStep_72 rfl) (mpp 73 rfl ?_)
          obtain ⟨z76, h77⟩ := ti_ex ((fv Po 291 1) - 1 : Int32)
          have wz76 := ti_full z76
          refine mp_t (s_isub (v := z76) dX3_firstStep_73 h77) (mpp 74 rfl ?_)
          try have e78 : z76.toInt = (fv Po 291 1).toInt - 1 := ti_subz h77 rfl rfl (by omega) (by omega)
          refine mp_calls (i := 39) (q' := q_12) (As := [.ref 292, .int z76]) (rest := []) dX3_firstStep_74 rfl qm_12 (by decide) rfl (Nat.le_of_ble_eq_true rfl) rfl ⟨rfl, rfl⟩ ⟨Nat.le_of_ble_eq_true rfl, Nat.le_of_ble_eq_true rfl⟩ (EvP.mono (by decide) (c_F_at_rsizes hT hX )) (fun r79 P80 g81 => mpp 77 rfl ?_)
          obtain ⟨⟨x82, rfl, g83⟩, e84⟩ := g81
          have e84 := e84.symm
          subst e84
          have wx82 := ti_full x82
          show MEvP _ none q_52 77 [(1, .int 1), (0, .ref 291)] [.int x82] _ _ _ _
          refine mp_a (a_aload_n dX3_firstStep_77 rfl) (mpp 78 rfl ?_)
          refine mt_getU (i := 9) (k := 2) (A := 292) hT dX3_firstStep_78 rfl rl_291 (by decide) rfl (by decide) rfl un_11 (mpp 81 rfl ?_)
          refine mp_a (a_aload_n dX3_firstStep_81 rfl) (mpp 82 rfl ?_)
          refine mt_getI (i := 28) (k := 1) hT dX3_firstStep_82 rfl rl_291 (by decide) rfl (by decide) rfl (fun g85 g86 => mpp 85 rfl ?_)
          refine mp_a (a_iconst (v := 2) dX3_firstStep_85 rfl) (mpp 86 rfl ?_)
          obtain ⟨z87, h88⟩ := ti_ex ((fv Po 291 1) - 2 : Int32)
          have wz87 := ti_full z87
          refine mp_t (s_isub (v := z87) dX3_firstStep_86 h88) (mpp 87 rfl ?_)
          try have e89 : z87.toInt = (fv Po 291 1).toInt - 2 := ti_subz h88 rfl rfl (by omega) (by omega)
          refine mp_calls (i := 39) (q' := q_12) (As := [.ref 292, .int z87]) (rest := [.int x82]) dX3_firstStep_87 rfl qm_12 (by decide) rfl (Nat.le_of_ble_eq_true rfl) rfl ⟨rfl, rfl⟩ ⟨Nat.le_of_ble_eq_true rfl, Nat.le_of_ble_eq_true rfl⟩ (EvP.mono (by decide) (c_F_at_rsizes hT hX )) (fun r90 P91 g92 => mpp 90 rfl ?_)
          obtain ⟨⟨x93, rfl, g94⟩, e95⟩ := g92
          have e95 := e95.symm
          subst e95
          have wx93 := ti_full x93
          show MEvP _ none q_52 90 [(1, .int 1), (0, .ref 291)] [.int x93, .int x82] _ _ _ _
          refine mp_Tb (t := 95) (j_icmp_gt dX3_firstStep_90) (by decide) (fun c96 => ?_) (fun c96 => mpp 93 rfl ?_)
          · have c96 : x82.toInt > x93.toInt := ti_gt c96
            refine mp_a (a_iload_n dX3_firstStep_95 rfl) (mpp 96 rfl ?_)
            refine mp_Tf (t := 103) (j_if_eq dX3_firstStep_96) (by decide) (by decide) (mpp 99 rfl ?_)
            refine mp_a (a_iconst (v := 1) dX3_firstStep_99 rfl) (mpp 100 rfl ?_)
            refine mp_a (a_goto (t := 104) dX3_firstStep_100 (by decide)) ?_
            refine mp_a (a_istore_n (L' := [(2, .int 1), (1, .int 1), (0, .ref 291)]) dX3_firstStep_104 (by decide) rfl) (mpp 105 rfl ?_)
            refine mp_a (a_iload_n dX3_firstStep_105 rfl) (mpp 106 rfl ?_)
            refine mp_a (a_istore_n (L' := [(3, .int 1), (2, .int 1), (1, .int 1), (0, .ref 291)]) dX3_firstStep_106 (by decide) rfl) (mpp 107 rfl ?_)
            refine MEvP.less (L := [(0, .ref 291), (1, .int 1), (2, .int 1), (3, .int 1)]) rfl rfl ⟨rfl, rfl, rfl, rfl, trivial⟩ ?_
            have i97 : 2 ≤ (fv Po 291 1).toInt := by omega
            exact c_CR_firstStep_Reducer_l107 hT hX   _ _ _ _ i97 rfl
          · have c96 : x82.toInt ≤ x93.toInt := ti_gt_n c96
            refine mp_a (a_iconst (v := 2) dX3_firstStep_93 rfl) (mpp 94 rfl ?_)
            have u98 : (2 : Int) = 0 ∨ 2 ≤ (fv Po 291 1).toInt := by omega
            exact mp_iret ⟨⟨_, rfl, u98⟩, rfl⟩ dX3_firstStep_94 (Or.inl rfl)
        · have c73 : x64.toInt ≤ x70.toInt := ti_gt_n c73
          refine mp_a (a_iconst (v := 1) dX3_firstStep_58 rfl) (mpp 59 rfl ?_)
          have u99 : (1 : Int) = 0 ∨ 2 ≤ (fv Po 291 1).toInt := by omega
          exact mp_iret ⟨⟨_, rfl, u99⟩, rfl⟩ dX3_firstStep_59 (Or.inl rfl)

set_option maxHeartbeats 4000000 in
theorem c_F_put_rsizes {Po : mP} {t1 : Int32} {t2 : Int32} (hT : Typ Po) (hX : XR Po)   : EvP 1 22 [.ref 292, .int t1, .int t2] Po (fun r P' => (r = none ∧ (True)) ∧ Typ P' ∧ KW [704] Po P' ∧ True) := by
  refine EvP.of qm_22 (Nat.le_of_ble_eq_true rfl) rfl ?_
  show MEvP _ none q_22 0 [(0, .ref 292), (1, .int t1), (2, .int t2)] [] _ 0 0 _
  refine mp_a (a_iload_n dX6_put_0 rfl) (mpp 1 rfl ?_)
  refine mp_Tb (t := 14) (j_if_lt dX6_put_1) (by decide) (fun c1 => ?_) (fun c1 => mpp 4 rfl ?_)
  · have c1 : t1.toInt < 0 := ti_lt c1
    exact mp_ret ⟨⟨rfl, trivial⟩, hT, KW.refl, trivial⟩ dX6_put_14 rfl
  · have c1 : t1.toInt ≥ 0 := ti_lt_n c1
    refine mp_a (a_iload_n dX6_put_4 rfl) (mpp 5 rfl ?_)
    refine mp_a (a_aload_n dX6_put_5 rfl) (mpp 6 rfl ?_)
    refine mt_len (n := 8) hT dX6_put_6 rl_292 (by decide) (by decide) rfl (mpp 7 rfl ?_)
    refine mp_Tb (t := 14) (j_icmp_ge dX6_put_7) (by decide) (fun c2 => ?_) (fun c2 => mpp 10 rfl ?_)
    · have c2 : t1.toInt ≥ 8 := ti_ge c2
      exact mp_ret ⟨⟨rfl, trivial⟩, hT, KW.refl, trivial⟩ dX6_put_14 rfl
    · have c2 : t1.toInt < 8 := ti_ge_n c2
      refine mp_a (a_aload_n dX6_put_10 rfl) (mpp 11 rfl ?_)
      refine mp_a (a_iload_n dX6_put_11 rfl) (mpp 12 rfl ?_)
      refine mp_a (a_iload_n dX6_put_12 rfl) (mpp 13 rfl ?_)
      refine mt_ias (n := 8) hT dX6_put_13 rl_292 (by decide) rfl rfl (by omega) (by omega) rfl (ti_full t2) (fun P3 hT4 f5 f6 f7 => mpp 14 rfl ?_)
      have k8 : KW [704] Po P3 := KW.step KW.refl rl_292 rfl f6 f7
      exact mp_ret ⟨⟨rfl, trivial⟩, hT4, k8, trivial⟩ dX6_put_14 rfl

set_option maxHeartbeats 4000000 in
theorem c_F_takeOut_rsizes_l2 {Po : mP} {t1 : Int32} (hTo : Typ Po) (hX : XR Po)  : ∀ (n : Nat) (v2 : Int32), ∀ (P : mP), Typ P → KW [704] Po P → (2147483647 - v2.toInt).toNat = n → MEvP 0 none q_54 2 [(0, .ref 292), (1, .int t1), (2, .int v2)] [] P 0 0 (fun r P' => (r = none ∧ (True)) ∧ Typ P' ∧ KW [704] Po P' ∧ True) := by
  intro n
  induction n using Nat.strongRecOn with | _ n ih => ?_
  intro v2 P hT hK  hm
  have w_t1 := ti_full t1
  have w_v2 := ti_full v2
  refine mp_a (a_iload_n dX6_takeOut_2 rfl) (mpp 3 rfl ?_)
  refine mp_Tb (t := 28) (j_if_lt dX6_takeOut_3) (by decide) (fun c1 => ?_) (fun c1 => mpp 6 rfl ?_)
  · have c1 : v2.toInt < 0 := ti_lt c1
    exact mp_ret ⟨⟨rfl, trivial⟩, hT, hK, trivial⟩ dX6_takeOut_28 rfl
  · have c1 : v2.toInt ≥ 0 := ti_lt_n c1
    refine mp_a (a_iload_n dX6_takeOut_6 rfl) (mpp 7 rfl ?_)
    refine mp_a (a_aload_n dX6_takeOut_7 rfl) (mpp 8 rfl ?_)
    refine mt_len (n := 8) hT dX6_takeOut_8 rl_292 (by decide) (by decide) rfl (mpp 9 rfl ?_)
    refine mp_a (a_iconst (v := 1) dX6_takeOut_9 rfl) (mpp 10 rfl ?_)
    refine mp_t (s_isub (v := 7) dX6_takeOut_10 rfl) (mpp 11 rfl ?_)
    refine mp_Tb (t := 28) (j_icmp_ge dX6_takeOut_11) (by decide) (fun c2 => ?_) (fun c2 => mpp 14 rfl ?_)
    · have c2 : v2.toInt ≥ 7 := ti_ge c2
      exact mp_ret ⟨⟨rfl, trivial⟩, hT, hK, trivial⟩ dX6_takeOut_28 rfl
    · have c2 : v2.toInt < 7 := ti_ge_n c2
      refine mp_a (a_aload_n dX6_takeOut_14 rfl) (mpp 15 rfl ?_)
      refine mp_a (a_iload_n dX6_takeOut_15 rfl) (mpp 16 rfl ?_)
      refine mp_a (a_aload_n dX6_takeOut_16 rfl) (mpp 17 rfl ?_)
      refine mp_a (a_iload_n dX6_takeOut_17 rfl) (mpp 18 rfl ?_)
      refine mp_a (a_iconst (v := 1) dX6_takeOut_18 rfl) (mpp 19 rfl ?_)
      obtain ⟨z3, h4⟩ := ti_ex (v2 + 1 : Int32)
      have wz3 := ti_full z3
      refine mp_t (s_iadd (v := z3) dX6_takeOut_19 h4) (mpp 20 rfl ?_)
      try have e5 : z3.toInt = v2.toInt + 1 := ti_addz h4 rfl rfl (by omega) (by omega)
      refine mt_ial (n := 8) hT dX6_takeOut_20 rl_292 (by decide) rfl rfl (by omega) (by omega) rfl (fun g6 g7 => mpp 21 rfl ?_)
      refine mt_ias (n := 8) hT dX6_takeOut_21 rl_292 (by decide) rfl rfl (by omega) (by omega) rfl (ti_full (fv P 292 z3.toInt.toNat)) (fun P8 hT9 f10 f11 f12 => mpp 22 rfl ?_)
      have k13 : KW [704] Po P8 := KW.step hK rl_292 rfl f11 f12
      obtain ⟨z14, h15⟩ := ti_ex (v2 + 1 : Int32)
      have wz14 := ti_full z14
      refine mp_a (a_iinc (v := z14) (L' := [(2, .int z14), (0, .ref 292), (1, .int t1)]) dX6_takeOut_22 (by decide) rfl h15 rfl) (mpp 25 rfl ?_)
      try have e16 : z14.toInt = v2.toInt + 1 := ti_addz h15 rfl rfl (by omega) (by omega)
      refine mp_a (a_goto (t := 2) dX6_takeOut_25 (by decide)) ?_
      refine MEvP.less (L := [(0, .ref 292), (1, .int t1), (2, .int z14)]) rfl rfl ⟨rfl, rfl, rfl, trivial⟩ ?_
      exact ih _ (by omega) _ P8 hT9 k13 rfl

set_option maxHeartbeats 4000000 in
theorem c_F_takeOut_rsizes {Po : mP} {t1 : Int32} (hT : Typ Po) (hX : XR Po)   : EvP 1 54 [.ref 292, .int t1] Po (fun r P' => (r = none ∧ (True)) ∧ Typ P' ∧ KW [704] Po P' ∧ True) := by
  refine EvP.of qm_54 (Nat.le_of_ble_eq_true rfl) rfl ?_
  show MEvP _ none q_54 0 [(0, .ref 292), (1, .int t1)] [] _ 0 0 _
  refine mp_a (a_iload_n dX6_takeOut_0 rfl) (mpp 1 rfl ?_)
  refine mp_a (a_istore_n (L' := [(2, .int t1), (0, .ref 292), (1, .int t1)]) dX6_takeOut_1 (by decide) rfl) (mpp 2 rfl ?_)
  refine MEvP.less (L := [(0, .ref 292), (1, .int t1), (2, .int t1)]) rfl rfl ⟨rfl, rfl, rfl, trivial⟩ ?_
  exact c_F_takeOut_rsizes_l2 hT hX   _ _ Po hT KW.refl rfl

set_option maxHeartbeats 4000000 in
theorem c_F_takeOut_rcreases_l2 {Po : mP} {t1 : Int32} (hTo : Typ Po) (hX : XR Po)  : ∀ (n : Nat) (v2 : Int32), ∀ (P : mP), Typ P → KW [768] Po P → (2147483647 - v2.toInt).toNat = n → MEvP 0 none q_54 2 [(0, .ref 293), (1, .int t1), (2, .int v2)] [] P 0 0 (fun r P' => (r = none ∧ (True)) ∧ Typ P' ∧ KW [768] Po P' ∧ True) := by
  intro n
  induction n using Nat.strongRecOn with | _ n ih => ?_
  intro v2 P hT hK  hm
  have w_t1 := ti_full t1
  have w_v2 := ti_full v2
  refine mp_a (a_iload_n dX6_takeOut_2 rfl) (mpp 3 rfl ?_)
  refine mp_Tb (t := 28) (j_if_lt dX6_takeOut_3) (by decide) (fun c1 => ?_) (fun c1 => mpp 6 rfl ?_)
  · have c1 : v2.toInt < 0 := ti_lt c1
    exact mp_ret ⟨⟨rfl, trivial⟩, hT, hK, trivial⟩ dX6_takeOut_28 rfl
  · have c1 : v2.toInt ≥ 0 := ti_lt_n c1
    refine mp_a (a_iload_n dX6_takeOut_6 rfl) (mpp 7 rfl ?_)
    refine mp_a (a_aload_n dX6_takeOut_7 rfl) (mpp 8 rfl ?_)
    refine mt_len (n := 8) hT dX6_takeOut_8 rl_293 (by decide) (by decide) rfl (mpp 9 rfl ?_)
    refine mp_a (a_iconst (v := 1) dX6_takeOut_9 rfl) (mpp 10 rfl ?_)
    refine mp_t (s_isub (v := 7) dX6_takeOut_10 rfl) (mpp 11 rfl ?_)
    refine mp_Tb (t := 28) (j_icmp_ge dX6_takeOut_11) (by decide) (fun c2 => ?_) (fun c2 => mpp 14 rfl ?_)
    · have c2 : v2.toInt ≥ 7 := ti_ge c2
      exact mp_ret ⟨⟨rfl, trivial⟩, hT, hK, trivial⟩ dX6_takeOut_28 rfl
    · have c2 : v2.toInt < 7 := ti_ge_n c2
      refine mp_a (a_aload_n dX6_takeOut_14 rfl) (mpp 15 rfl ?_)
      refine mp_a (a_iload_n dX6_takeOut_15 rfl) (mpp 16 rfl ?_)
      refine mp_a (a_aload_n dX6_takeOut_16 rfl) (mpp 17 rfl ?_)
      refine mp_a (a_iload_n dX6_takeOut_17 rfl) (mpp 18 rfl ?_)
      refine mp_a (a_iconst (v := 1) dX6_takeOut_18 rfl) (mpp 19 rfl ?_)
      obtain ⟨z3, h4⟩ := ti_ex (v2 + 1 : Int32)
      have wz3 := ti_full z3
      refine mp_t (s_iadd (v := z3) dX6_takeOut_19 h4) (mpp 20 rfl ?_)
      try have e5 : z3.toInt = v2.toInt + 1 := ti_addz h4 rfl rfl (by omega) (by omega)
      refine mt_ial (n := 8) hT dX6_takeOut_20 rl_293 (by decide) rfl rfl (by omega) (by omega) rfl (fun g6 g7 => mpp 21 rfl ?_)
      refine mt_ias (n := 8) hT dX6_takeOut_21 rl_293 (by decide) rfl rfl (by omega) (by omega) rfl (ti_full (fv P 293 z3.toInt.toNat)) (fun P8 hT9 f10 f11 f12 => mpp 22 rfl ?_)
      have k13 : KW [768] Po P8 := KW.step hK rl_293 rfl f11 f12
      obtain ⟨z14, h15⟩ := ti_ex (v2 + 1 : Int32)
      have wz14 := ti_full z14
      refine mp_a (a_iinc (v := z14) (L' := [(2, .int z14), (0, .ref 293), (1, .int t1)]) dX6_takeOut_22 (by decide) rfl h15 rfl) (mpp 25 rfl ?_)
      try have e16 : z14.toInt = v2.toInt + 1 := ti_addz h15 rfl rfl (by omega) (by omega)
      refine mp_a (a_goto (t := 2) dX6_takeOut_25 (by decide)) ?_
      refine MEvP.less (L := [(0, .ref 293), (1, .int t1), (2, .int z14)]) rfl rfl ⟨rfl, rfl, rfl, trivial⟩ ?_
      exact ih _ (by omega) _ P8 hT9 k13 rfl

set_option maxHeartbeats 4000000 in
theorem c_F_takeOut_rcreases {Po : mP} {t1 : Int32} (hT : Typ Po) (hX : XR Po)   : EvP 1 54 [.ref 293, .int t1] Po (fun r P' => (r = none ∧ (True)) ∧ Typ P' ∧ KW [768] Po P' ∧ True) := by
  refine EvP.of qm_54 (Nat.le_of_ble_eq_true rfl) rfl ?_
  show MEvP _ none q_54 0 [(0, .ref 293), (1, .int t1)] [] _ 0 0 _
  refine mp_a (a_iload_n dX6_takeOut_0 rfl) (mpp 1 rfl ?_)
  refine mp_a (a_istore_n (L' := [(2, .int t1), (0, .ref 293), (1, .int t1)]) dX6_takeOut_1 (by decide) rfl) (mpp 2 rfl ?_)
  refine MEvP.less (L := [(0, .ref 293), (1, .int t1), (2, .int t1)]) rfl rfl ⟨rfl, rfl, rfl, trivial⟩ ?_
  exact c_F_takeOut_rcreases_l2 hT hX   _ _ Po hT KW.refl rfl

