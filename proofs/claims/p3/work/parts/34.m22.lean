/-! methods on typed pools, 22 (written by a program) -/
set_option maxHeartbeats 4000000 in
theorem c_CS_foldedCount_NState_l4 {Po : mP}  (hT : Typ Po) (hX : XR Po)   : ∀ (n : Nat) (v1 : Int32) (v2 : Int32), (0 ≤ v2.toInt) → (2147483647 - v2.toInt).toNat = n → MEvP 1 none q_112 4 [(0, .ref 1), (1, .int v1), (2, .int v2)] [] Po 0 0 (fun r P' => (∃ x : Int32, r = some (.int x) ∧ (True)) ∧ P' = Po) := by
  intro n
  induction n using Nat.strongRecOn with | _ n ih => ?_
  intro v1 v2 i_0 hm
  have w_v1 := ti_full v1
  have w_v2 := ti_full v2
  refine mp_a (a_iload_n dX5_foldedCount_4 rfl) (mpp 5 rfl ?_)
  refine mp_a (a_aload_n dX5_foldedCount_5 rfl) (mpp 6 rfl ?_)
  have g1 : (0 : Int) ≤ (fv Po 1 1).toInt ∧ (fv Po 1 1).toInt ≤ 8 := Typ.rng hT rl_1 (by decide) (by decide) rfl
  refine mt_getI (i := 22) (k := 1) hT dX5_foldedCount_6 rfl rl_1 (by decide) rfl (by decide) rfl (fun g2 g3 => mpp 9 rfl ?_)
  refine mp_Tb (t := 38) (j_icmp_ge dX5_foldedCount_9) (by decide) (fun c4 => ?_) (fun c4 => mpp 12 rfl ?_)
  · have c4 : v2.toInt ≥ (fv Po 1 1).toInt := ti_ge c4
    refine mp_a (a_iload_n dX5_foldedCount_38 rfl) (mpp 39 rfl ?_)
    exact mp_iret ⟨⟨_, rfl, trivial⟩, rfl⟩ dX5_foldedCount_39 (Or.inl rfl)
  · have c4 : v2.toInt < (fv Po 1 1).toInt := ti_ge_n c4
    refine mp_a (a_aload_n dX5_foldedCount_12 rfl) (mpp 13 rfl ?_)
    refine mp_a (a_iload_n dX5_foldedCount_13 rfl) (mpp 14 rfl ?_)
    refine mt_callv (i := 28) (q' := q_9) (As := [.int v2]) (rest := []) hT dX5_foldedCount_14 rfl qm_9 (by decide) rfl rl_1 (by decide) rfl (Nat.le_of_ble_eq_true rfl) rfl ⟨rfl, rfl⟩ ⟨Nat.le_of_ble_eq_true rfl, Nat.le_of_ble_eq_true rfl⟩ (EvP.mono (by decide) (c_CS_pieceAt_NState hT hX )) (fun r5 P6 g7 => mpp 17 rfl ?_)
    obtain ⟨g7, e8⟩ := g7
    have e8 := e8.symm
    subst e8
    rcases g7 with ⟨rfl, q10n⟩ | ⟨b9, rfl, q10, q10r⟩
    · show MEvP _ none q_112 17 [(0, .ref 1), (1, .int v1), (2, .int v2)] [.null] _ _ _ _
      replace q10n : v2.toInt < 0 ∨ (fv Po 1 1).toInt ≤ v2.toInt ∨ 8 ≤ v2.toInt := q10n
      refine mp_a (a_astore_nN (L' := [(3, .null), (0, .ref 1), (1, .int v1), (2, .int v2)]) dX5_foldedCount_17 (by decide) rfl) (mpp 18 rfl ?_)
      refine mp_a (a_aload_nN dX5_foldedCount_18 rfl) (mpp 19 rfl ?_)
      refine mp_t (s_ifnullN (t := 32) dX5_foldedCount_19 (by decide)) ?_
      obtain ⟨z11, h12⟩ := ti_ex (v2 + 1 : Int32)
      have wz11 := ti_full z11
      refine mp_a (a_iinc (v := z11) (L' := [(2, .int z11), (3, .null), (0, .ref 1), (1, .int v1)]) dX5_foldedCount_32 (by decide) rfl h12 rfl) (mpp 35 rfl ?_)
      try have e13 : z11.toInt = v2.toInt + 1 := ti_addz h12 rfl rfl (by omega) (by omega)
      refine mp_a (a_goto (t := 4) dX5_foldedCount_35 (by decide)) ?_
      refine MEvP.less (L := [(0, .ref 1), (1, .int v1), (2, .int z11)]) rfl rfl ⟨rfl, rfl, rfl, trivial⟩ ?_
      have i14 : 0 ≤ z11.toInt := by omega
      exact ih _ (by omega) _ _ i14 rfl
    · show MEvP _ none q_112 17 [(0, .ref 1), (1, .int v1), (2, .int v2)] [.ref b9] _ _ _ _
      replace q10r : 0 ≤ v2.toInt ∧ v2.toInt ≤ 7 ∧ v2.toInt + 1 ≤ (fv Po 1 1).toInt ∧ rv Po 2 v2.toInt.toNat = b9 := q10r
      have w15 := np_ar q10
      refine mp_a (a_astore_n (L' := [(3, .ref b9), (0, .ref 1), (1, .int v1), (2, .int v2)]) dX5_foldedCount_17 (by decide) rfl) (mpp 18 rfl ?_)
      refine mp_a (a_aload_n dX5_foldedCount_18 rfl) (mpp 19 rfl ?_)
      refine mp_t (s_ifnullR dX5_foldedCount_19) (mpp 22 rfl ?_)
      refine mp_a (a_aload_n dX5_foldedCount_22 rfl) (mpp 23 rfl ?_)
      have g16 : (0 : Int) ≤ (fv Po b9 2).toInt ∧ (fv Po b9 2).toInt ≤ 1 := Typ.rng hT q10 (by decide) (by decide) rfl
      refine mt_getI (i := 36) (k := 2) hT dX5_foldedCount_23 rfl q10 (by decide) rfl (by decide) rfl (fun g17 g18 => mpp 26 rfl ?_)
      refine mp_Tb (t := 32) (j_if_eq dX5_foldedCount_26) (by decide) (fun c19 => ?_) (fun c19 => mpp 29 rfl ?_)
      · have c19 : (fv Po b9 2).toInt = 0 := ti_eq c19
        obtain ⟨z20, h21⟩ := ti_ex (v2 + 1 : Int32)
        have wz20 := ti_full z20
        refine mp_a (a_iinc (v := z20) (L' := [(2, .int z20), (3, .ref b9), (0, .ref 1), (1, .int v1)]) dX5_foldedCount_32 (by decide) rfl h21 rfl) (mpp 35 rfl ?_)
        try have e22 : z20.toInt = v2.toInt + 1 := ti_addz h21 rfl rfl (by omega) (by omega)
        refine mp_a (a_goto (t := 4) dX5_foldedCount_35 (by decide)) ?_
        refine MEvP.less (L := [(0, .ref 1), (1, .int v1), (2, .int z20)]) rfl rfl ⟨rfl, rfl, rfl, trivial⟩ ?_
        have i23 : 0 ≤ z20.toInt := by omega
        exact ih _ (by omega) _ _ i23 rfl
      · have c19 : (fv Po b9 2).toInt ≠ 0 := ti_eq_n c19
        obtain ⟨z24, h25⟩ := ti_ex (v1 + 1 : Int32)
        have wz24 := ti_full z24
        refine mp_a (a_iinc (v := z24) (L' := [(1, .int z24), (3, .ref b9), (0, .ref 1), (2, .int v2)]) dX5_foldedCount_29 (by decide) rfl h25 rfl) (mpp 32 rfl ?_)
        try have e26 : z24.toInt = v1.toInt + 1 := ti_addz h25 rfl rfl (by omega) (by omega)
        obtain ⟨z27, h28⟩ := ti_ex (v2 + 1 : Int32)
        have wz27 := ti_full z27
        refine mp_a (a_iinc (v := z27) (L' := [(2, .int z27), (1, .int z24), (3, .ref b9), (0, .ref 1)]) dX5_foldedCount_32 (by decide) rfl h28 rfl) (mpp 35 rfl ?_)
        try have e29 : z27.toInt = v2.toInt + 1 := ti_addz h28 rfl rfl (by omega) (by omega)
        refine mp_a (a_goto (t := 4) dX5_foldedCount_35 (by decide)) ?_
        refine MEvP.less (L := [(0, .ref 1), (1, .int z24), (2, .int z27)]) rfl rfl ⟨rfl, rfl, rfl, trivial⟩ ?_
        have i30 : 0 ≤ z27.toInt := by omega
        exact ih _ (by omega) _ _ i30 rfl

set_option maxHeartbeats 4000000 in
theorem c_CS_foldedCount_NState {Po : mP}  (hT : Typ Po) (hX : XR Po)   : EvP 2 112 [.ref 1] Po (fun r P' => (∃ x : Int32, r = some (.int x) ∧ (True)) ∧ P' = Po) := by
  refine EvP.of qm_112 (Nat.le_of_ble_eq_true rfl) rfl ?_
  show MEvP _ none q_112 0 [(0, .ref 1)] [] _ 0 0 _
  refine mp_a (a_iconst (v := 0) dX5_foldedCount_0 rfl) (mpp 1 rfl ?_)
  refine mp_a (a_istore_n (L' := [(1, .int 0), (0, .ref 1)]) dX5_foldedCount_1 (by decide) rfl) (mpp 2 rfl ?_)
  refine mp_a (a_iconst (v := 0) dX5_foldedCount_2 rfl) (mpp 3 rfl ?_)
  refine mp_a (a_istore_n (L' := [(2, .int 0), (1, .int 0), (0, .ref 1)]) dX5_foldedCount_3 (by decide) rfl) (mpp 4 rfl ?_)
  refine MEvP.less (L := [(0, .ref 1), (1, .int 0), (2, .int 0)]) rfl rfl ⟨rfl, rfl, rfl, trivial⟩ ?_
  have i1 : 0 ≤ (0 : Int) := by omega
  exact c_CS_foldedCount_NState_l4 hT hX   _ _ _ i1 rfl

set_option maxHeartbeats 4000000 in
theorem c_CS_panelCount_NState_l4 {Po : mP}  (hT : Typ Po) (hX : XR Po)   : ∀ (n : Nat) (v1 : Int32) (v2 : Int32), (0 ≤ v2.toInt) → (2147483647 - v2.toInt).toNat = n → MEvP 1 none q_113 4 [(0, .ref 1), (1, .int v1), (2, .int v2)] [] Po 0 0 (fun r P' => (∃ x : Int32, r = some (.int x) ∧ (True)) ∧ P' = Po) := by
  intro n
  induction n using Nat.strongRecOn with | _ n ih => ?_
  intro v1 v2 i_0 hm
  have w_v1 := ti_full v1
  have w_v2 := ti_full v2
  refine mp_a (a_iload_n dX5_panelCount_4 rfl) (mpp 5 rfl ?_)
  refine mp_a (a_aload_n dX5_panelCount_5 rfl) (mpp 6 rfl ?_)
  have g1 : (0 : Int) ≤ (fv Po 1 1).toInt ∧ (fv Po 1 1).toInt ≤ 8 := Typ.rng hT rl_1 (by decide) (by decide) rfl
  refine mt_getI (i := 22) (k := 1) hT dX5_panelCount_6 rfl rl_1 (by decide) rfl (by decide) rfl (fun g2 g3 => mpp 9 rfl ?_)
  refine mp_Tb (t := 42) (j_icmp_ge dX5_panelCount_9) (by decide) (fun c4 => ?_) (fun c4 => mpp 12 rfl ?_)
  · have c4 : v2.toInt ≥ (fv Po 1 1).toInt := ti_ge c4
    refine mp_a (a_iload_n dX5_panelCount_42 rfl) (mpp 43 rfl ?_)
    exact mp_iret ⟨⟨_, rfl, trivial⟩, rfl⟩ dX5_panelCount_43 (Or.inl rfl)
  · have c4 : v2.toInt < (fv Po 1 1).toInt := ti_ge_n c4
    refine mp_a (a_aload_n dX5_panelCount_12 rfl) (mpp 13 rfl ?_)
    refine mp_a (a_iload_n dX5_panelCount_13 rfl) (mpp 14 rfl ?_)
    refine mt_callv (i := 28) (q' := q_9) (As := [.int v2]) (rest := []) hT dX5_panelCount_14 rfl qm_9 (by decide) rfl rl_1 (by decide) rfl (Nat.le_of_ble_eq_true rfl) rfl ⟨rfl, rfl⟩ ⟨Nat.le_of_ble_eq_true rfl, Nat.le_of_ble_eq_true rfl⟩ (EvP.mono (by decide) (c_CS_pieceAt_NState hT hX )) (fun r5 P6 g7 => mpp 17 rfl ?_)
    obtain ⟨g7, e8⟩ := g7
    have e8 := e8.symm
    subst e8
    rcases g7 with ⟨rfl, q10n⟩ | ⟨b9, rfl, q10, q10r⟩
    · show MEvP _ none q_113 17 [(0, .ref 1), (1, .int v1), (2, .int v2)] [.null] _ _ _ _
      replace q10n : v2.toInt < 0 ∨ (fv Po 1 1).toInt ≤ v2.toInt ∨ 8 ≤ v2.toInt := q10n
      refine mp_a (a_astore_nN (L' := [(3, .null), (0, .ref 1), (1, .int v1), (2, .int v2)]) dX5_panelCount_17 (by decide) rfl) (mpp 18 rfl ?_)
      refine mp_a (a_aload_nN dX5_panelCount_18 rfl) (mpp 19 rfl ?_)
      refine mp_t (s_ifnullN (t := 36) dX5_panelCount_19 (by decide)) ?_
      obtain ⟨z11, h12⟩ := ti_ex (v2 + 1 : Int32)
      have wz11 := ti_full z11
      refine mp_a (a_iinc (v := z11) (L' := [(2, .int z11), (3, .null), (0, .ref 1), (1, .int v1)]) dX5_panelCount_36 (by decide) rfl h12 rfl) (mpp 39 rfl ?_)
      try have e13 : z11.toInt = v2.toInt + 1 := ti_addz h12 rfl rfl (by omega) (by omega)
      refine mp_a (a_goto (t := 4) dX5_panelCount_39 (by decide)) ?_
      refine MEvP.less (L := [(0, .ref 1), (1, .int v1), (2, .int z11)]) rfl rfl ⟨rfl, rfl, rfl, trivial⟩ ?_
      have i14 : 0 ≤ z11.toInt := by omega
      exact ih _ (by omega) _ _ i14 rfl
    · show MEvP _ none q_113 17 [(0, .ref 1), (1, .int v1), (2, .int v2)] [.ref b9] _ _ _ _
      replace q10r : 0 ≤ v2.toInt ∧ v2.toInt ≤ 7 ∧ v2.toInt + 1 ≤ (fv Po 1 1).toInt ∧ rv Po 2 v2.toInt.toNat = b9 := q10r
      have w15 := np_ar q10
      refine mp_a (a_astore_n (L' := [(3, .ref b9), (0, .ref 1), (1, .int v1), (2, .int v2)]) dX5_panelCount_17 (by decide) rfl) (mpp 18 rfl ?_)
      refine mp_a (a_aload_n dX5_panelCount_18 rfl) (mpp 19 rfl ?_)
      refine mp_t (s_ifnullR dX5_panelCount_19) (mpp 22 rfl ?_)
      refine mp_a (a_aload_n dX5_panelCount_22 rfl) (mpp 23 rfl ?_)
      have g16 := ti_full (fv Po b9 0)
      refine mt_getI (i := 43) (k := 0) hT dX5_panelCount_23 rfl q10 (by decide) rfl (by decide) rfl (fun g17 g18 => mpp 26 rfl ?_)
      refine mp_Tb (t := 36) (j_if_ne dX5_panelCount_26) (by decide) (fun c19 => ?_) (fun c19 => mpp 29 rfl ?_)
      · have c19 : (fv Po b9 0).toInt ≠ 0 := ti_ne c19
        obtain ⟨z20, h21⟩ := ti_ex (v2 + 1 : Int32)
        have wz20 := ti_full z20
        refine mp_a (a_iinc (v := z20) (L' := [(2, .int z20), (3, .ref b9), (0, .ref 1), (1, .int v1)]) dX5_panelCount_36 (by decide) rfl h21 rfl) (mpp 39 rfl ?_)
        try have e22 : z20.toInt = v2.toInt + 1 := ti_addz h21 rfl rfl (by omega) (by omega)
        refine mp_a (a_goto (t := 4) dX5_panelCount_39 (by decide)) ?_
        refine MEvP.less (L := [(0, .ref 1), (1, .int v1), (2, .int z20)]) rfl rfl ⟨rfl, rfl, rfl, trivial⟩ ?_
        have i23 : 0 ≤ z20.toInt := by omega
        exact ih _ (by omega) _ _ i23 rfl
      · have c19 : (fv Po b9 0).toInt = 0 := ti_ne_n c19
        refine mp_a (a_iload_n dX5_panelCount_29 rfl) (mpp 30 rfl ?_)
        refine mp_a (a_aload_n dX5_panelCount_30 rfl) (mpp 31 rfl ?_)
        have g24 : (0 : Int) ≤ (fv Po b9 1).toInt ∧ (fv Po b9 1).toInt ≤ 8 := Typ.rng hT q10 (by decide) (by decide) rfl
        refine mt_getI (i := 46) (k := 1) hT dX5_panelCount_31 rfl q10 (by decide) rfl (by decide) rfl (fun g25 g26 => mpp 34 rfl ?_)
        obtain ⟨z27, h28⟩ := ti_ex (v1 + (fv Po b9 1) : Int32)
        have wz27 := ti_full z27
        refine mp_t (s_iadd (v := z27) dX5_panelCount_34 h28) (mpp 35 rfl ?_)
        try have e29 : z27.toInt = v1.toInt + (fv Po b9 1).toInt := ti_addz h28 rfl rfl (by omega) (by omega)
        refine mp_a (a_istore_n (L' := [(1, .int z27), (3, .ref b9), (0, .ref 1), (2, .int v2)]) dX5_panelCount_35 (by decide) rfl) (mpp 36 rfl ?_)
        obtain ⟨z30, h31⟩ := ti_ex (v2 + 1 : Int32)
        have wz30 := ti_full z30
        refine mp_a (a_iinc (v := z30) (L' := [(2, .int z30), (1, .int z27), (3, .ref b9), (0, .ref 1)]) dX5_panelCount_36 (by decide) rfl h31 rfl) (mpp 39 rfl ?_)
        try have e32 : z30.toInt = v2.toInt + 1 := ti_addz h31 rfl rfl (by omega) (by omega)
        refine mp_a (a_goto (t := 4) dX5_panelCount_39 (by decide)) ?_
        refine MEvP.less (L := [(0, .ref 1), (1, .int z27), (2, .int z30)]) rfl rfl ⟨rfl, rfl, rfl, trivial⟩ ?_
        have i33 : 0 ≤ z30.toInt := by omega
        exact ih _ (by omega) _ _ i33 rfl

set_option maxHeartbeats 4000000 in
theorem c_CS_panelCount_NState {Po : mP}  (hT : Typ Po) (hX : XR Po)   : EvP 2 113 [.ref 1] Po (fun r P' => (∃ x : Int32, r = some (.int x) ∧ (True)) ∧ P' = Po) := by
  refine EvP.of qm_113 (Nat.le_of_ble_eq_true rfl) rfl ?_
  show MEvP _ none q_113 0 [(0, .ref 1)] [] _ 0 0 _
  refine mp_a (a_iconst (v := 0) dX5_panelCount_0 rfl) (mpp 1 rfl ?_)
  refine mp_a (a_istore_n (L' := [(1, .int 0), (0, .ref 1)]) dX5_panelCount_1 (by decide) rfl) (mpp 2 rfl ?_)
  refine mp_a (a_iconst (v := 0) dX5_panelCount_2 rfl) (mpp 3 rfl ?_)
  refine mp_a (a_istore_n (L' := [(2, .int 0), (1, .int 0), (0, .ref 1)]) dX5_panelCount_3 (by decide) rfl) (mpp 4 rfl ?_)
  refine MEvP.less (L := [(0, .ref 1), (1, .int 0), (2, .int 0)]) rfl rfl ⟨rfl, rfl, rfl, trivial⟩ ?_
  have i1 : 0 ≤ (0 : Int) := by omega
  exact c_CS_panelCount_NState_l4 hT hX   _ _ _ i1 rfl

set_option maxHeartbeats 4000000 in
theorem c_CS_creasesOf_NState_l4 {Po : mP} {t1 : Int32} (hT : Typ Po) (hX : XR Po)   : ∀ (n : Nat) (v2 : Int32) (v3 : Int32), (0 ≤ v2.toInt) → (v2.toInt ≤ 64) → (v2.toInt ≤ 8 * v3.toInt) → (0 ≤ v3.toInt) → (2147483647 - v3.toInt).toNat = n → MEvP 2 none q_114 4 [(0, .ref 1), (1, .int t1), (2, .int v2), (3, .int v3)] [] Po 0 0 (fun r P' => (∃ x : Int32, r = some (.int x) ∧ (0 ≤ x.toInt ∧ x.toInt ≤ 64)) ∧ P' = Po) := by
  intro n
  induction n using Nat.strongRecOn with | _ n ih => ?_
  intro v2 v3 i_0 i_1 i_2 i_3 hm
  have w_t1 := ti_full t1
  have w_v2 := ti_full v2
  have w_v3 := ti_full v3
  refine mp_a (a_iload_n dX5_creasesOf_4 rfl) (mpp 5 rfl ?_)
  refine mp_a (a_aload_n dX5_creasesOf_5 rfl) (mpp 6 rfl ?_)
  have g1 : (0 : Int) ≤ (fv Po 1 1).toInt ∧ (fv Po 1 1).toInt ≤ 8 := Typ.rng hT rl_1 (by decide) (by decide) rfl
  refine mt_getI (i := 22) (k := 1) hT dX5_creasesOf_6 rfl rl_1 (by decide) rfl (by decide) rfl (fun g2 g3 => mpp 9 rfl ?_)
  refine mp_Tb (t := 39) (j_icmp_ge dX5_creasesOf_9) (by decide) (fun c4 => ?_) (fun c4 => mpp 12 rfl ?_)
  · have c4 : v3.toInt ≥ (fv Po 1 1).toInt := ti_ge c4
    refine mp_a (a_iload_n dX5_creasesOf_39 rfl) (mpp 40 rfl ?_)
    have u5 : 0 ≤ v2.toInt ∧ v2.toInt ≤ 64 := by omega
    exact mp_iret ⟨⟨_, rfl, u5⟩, rfl⟩ dX5_creasesOf_40 (Or.inl rfl)
  · have c4 : v3.toInt < (fv Po 1 1).toInt := ti_ge_n c4
    refine mp_a (a_aload_n dX5_creasesOf_12 rfl) (mpp 13 rfl ?_)
    refine mp_a (a_iload_n dX5_creasesOf_13 rfl) (mpp 14 rfl ?_)
    refine mt_callv (i := 28) (q' := q_9) (As := [.int v3]) (rest := []) hT dX5_creasesOf_14 rfl qm_9 (by decide) rfl rl_1 (by decide) rfl (Nat.le_of_ble_eq_true rfl) rfl ⟨rfl, rfl⟩ ⟨Nat.le_of_ble_eq_true rfl, Nat.le_of_ble_eq_true rfl⟩ (EvP.mono (by decide) (c_CS_pieceAt_NState hT hX )) (fun r6 P7 g8 => mpp 17 rfl ?_)
    obtain ⟨g8, e9⟩ := g8
    have e9 := e9.symm
    subst e9
    rcases g8 with ⟨rfl, q11n⟩ | ⟨b10, rfl, q11, q11r⟩
    · show MEvP _ none q_114 17 [(0, .ref 1), (1, .int t1), (2, .int v2), (3, .int v3)] [.null] _ _ _ _
      replace q11n : v3.toInt < 0 ∨ (fv Po 1 1).toInt ≤ v3.toInt ∨ 8 ≤ v3.toInt := q11n
      refine mp_a (a_astoreN (L' := [(4, .null), (0, .ref 1), (1, .int t1), (2, .int v2), (3, .int v3)]) dX5_creasesOf_17 (by decide) rfl) (mpp 19 rfl ?_)
      refine mp_a (a_aloadN dX5_creasesOf_19 rfl) (mpp 21 rfl ?_)
      refine mp_t (s_ifnullN (t := 33) dX5_creasesOf_21 (by decide)) ?_
      obtain ⟨z12, h13⟩ := ti_ex (v3 + 1 : Int32)
      have wz12 := ti_full z12
      refine mp_a (a_iinc (v := z12) (L' := [(3, .int z12), (4, .null), (0, .ref 1), (1, .int t1), (2, .int v2)]) dX5_creasesOf_33 (by decide) rfl h13 rfl) (mpp 36 rfl ?_)
      try have e14 : z12.toInt = v3.toInt + 1 := ti_addz h13 rfl rfl (by omega) (by omega)
      refine mp_a (a_goto (t := 4) dX5_creasesOf_36 (by decide)) ?_
      refine MEvP.less (L := [(0, .ref 1), (1, .int t1), (2, .int v2), (3, .int z12)]) rfl rfl ⟨rfl, rfl, rfl, rfl, trivial⟩ ?_
      have i15 : 0 ≤ v2.toInt := by omega
      have i16 : v2.toInt ≤ 64 := by omega
      have i17 : v2.toInt ≤ 8 * z12.toInt := by omega
      have i18 : 0 ≤ z12.toInt := by omega
      exact ih _ (by omega) _ _ i15 i16 i17 i18 rfl
    · show MEvP _ none q_114 17 [(0, .ref 1), (1, .int t1), (2, .int v2), (3, .int v3)] [.ref b10] _ _ _ _
      replace q11r : 0 ≤ v3.toInt ∧ v3.toInt ≤ 7 ∧ v3.toInt + 1 ≤ (fv Po 1 1).toInt ∧ rv Po 2 v3.toInt.toNat = b10 := q11r
      have w19 := np_ar q11
      refine mp_a (a_astore (L' := [(4, .ref b10), (0, .ref 1), (1, .int t1), (2, .int v2), (3, .int v3)]) dX5_creasesOf_17 (by decide) rfl) (mpp 19 rfl ?_)
      refine mp_a (a_aload dX5_creasesOf_19 rfl) (mpp 21 rfl ?_)
      refine mp_t (s_ifnullR dX5_creasesOf_21) (mpp 24 rfl ?_)
      refine mp_a (a_iload_n dX5_creasesOf_24 rfl) (mpp 25 rfl ?_)
      refine mp_a (a_aload dX5_creasesOf_25 rfl) (mpp 27 rfl ?_)
      refine mp_a (a_iload_n dX5_creasesOf_27 rfl) (mpp 28 rfl ?_)
      refine mt_callv (i := 47) (q' := q_32) (As := [.int t1]) (rest := [.int v2]) hT dX5_creasesOf_28 rfl qm_32 (by decide) rfl q11 (by decide) rfl (Nat.le_of_ble_eq_true rfl) rfl ⟨rfl, rfl⟩ ⟨Nat.le_of_ble_eq_true rfl, Nat.le_of_ble_eq_true rfl⟩ (EvP.mono (by decide) (c_CP_countOf_NPiece hT hX q11)) (fun r20 P21 g22 => mpp 31 rfl ?_)
      obtain ⟨⟨x23, rfl, g24⟩, e25⟩ := g22
      have e25 := e25.symm
      subst e25
      have wx23 := ti_full x23
      replace g24 : 0 ≤ x23.toInt ∧ x23.toInt ≤ 8 ∧ x23.toInt = cntF (fun j : Nat => fv Po (b10 + 2) j) t1.toInt (nC (fv Po b10 0).toInt (fv Po b10 1).toInt) := g24
      have g26 := ti_full (fv Po b10 0)
      have g27 : (0 : Int) ≤ (fv Po b10 1).toInt ∧ (fv Po b10 1).toInt ≤ 8 := Typ.rng hT q11 (by decide) (by decide) rfl
      show MEvP _ none q_114 31 [(4, .ref b10), (0, .ref 1), (1, .int t1), (2, .int v2), (3, .int v3)] [.int x23, .int v2] _ _ _ _
      obtain ⟨z28, h29⟩ := ti_ex (v2 + x23 : Int32)
      have wz28 := ti_full z28
      refine mp_t (s_iadd (v := z28) dX5_creasesOf_31 h29) (mpp 32 rfl ?_)
      try have e30 : z28.toInt = v2.toInt + x23.toInt := ti_addz h29 rfl rfl (by omega) (by omega)
      refine mp_a (a_istore_n (L' := [(2, .int z28), (4, .ref b10), (0, .ref 1), (1, .int t1), (3, .int v3)]) dX5_creasesOf_32 (by decide) rfl) (mpp 33 rfl ?_)
      obtain ⟨z31, h32⟩ := ti_ex (v3 + 1 : Int32)
      have wz31 := ti_full z31
      refine mp_a (a_iinc (v := z31) (L' := [(3, .int z31), (2, .int z28), (4, .ref b10), (0, .ref 1), (1, .int t1)]) dX5_creasesOf_33 (by decide) rfl h32 rfl) (mpp 36 rfl ?_)
      try have e33 : z31.toInt = v3.toInt + 1 := ti_addz h32 rfl rfl (by omega) (by omega)
      refine mp_a (a_goto (t := 4) dX5_creasesOf_36 (by decide)) ?_
      refine MEvP.less (L := [(0, .ref 1), (1, .int t1), (2, .int z28), (3, .int z31)]) rfl rfl ⟨rfl, rfl, rfl, rfl, trivial⟩ ?_
      have i34 : 0 ≤ z28.toInt := by omega
      have i35 : z28.toInt ≤ 64 := by omega
      have i36 : z28.toInt ≤ 8 * z31.toInt := by omega
      have i37 : 0 ≤ z31.toInt := by omega
      exact ih _ (by omega) _ _ i34 i35 i36 i37 rfl

set_option maxHeartbeats 4000000 in
theorem c_CS_creasesOf_NState {Po : mP} {t1 : Int32} (hT : Typ Po) (hX : XR Po)   : EvP 3 114 [.ref 1, .int t1] Po (fun r P' => (∃ x : Int32, r = some (.int x) ∧ (0 ≤ x.toInt ∧ x.toInt ≤ 64)) ∧ P' = Po) := by
  refine EvP.of qm_114 (Nat.le_of_ble_eq_true rfl) rfl ?_
  show MEvP _ none q_114 0 [(0, .ref 1), (1, .int t1)] [] _ 0 0 _
  have w_t1 := ti_full t1
  refine mp_a (a_iconst (v := 0) dX5_creasesOf_0 rfl) (mpp 1 rfl ?_)
  refine mp_a (a_istore_n (L' := [(2, .int 0), (0, .ref 1), (1, .int t1)]) dX5_creasesOf_1 (by decide) rfl) (mpp 2 rfl ?_)
  refine mp_a (a_iconst (v := 0) dX5_creasesOf_2 rfl) (mpp 3 rfl ?_)
  refine mp_a (a_istore_n (L' := [(3, .int 0), (2, .int 0), (0, .ref 1), (1, .int t1)]) dX5_creasesOf_3 (by decide) rfl) (mpp 4 rfl ?_)
  refine MEvP.less (L := [(0, .ref 1), (1, .int t1), (2, .int 0), (3, .int 0)]) rfl rfl ⟨rfl, rfl, rfl, rfl, trivial⟩ ?_
  have i1 : 0 ≤ (0 : Int) := by omega
  have i2 : (0 : Int) ≤ 64 := by omega
  have i3 : (0 : Int) ≤ 8 * (0 : Int) := by omega
  have i4 : 0 ≤ (0 : Int) := by omega
  exact c_CS_creasesOf_NState_l4 hT hX   _ _ _ i1 i2 i3 i4 rfl

set_option maxHeartbeats 4000000 in
theorem c_F_account {Po : mP} {t1 : Int32} (hT : Typ Po) (hX : XR Po)   : EvP 5 110 [.ref 0, .int t1] Po (fun r P' => (∃ x : Int32, r = some (.int x) ∧ (True)) ∧ P' = Po) := by
  refine EvP.of qm_110 (Nat.le_of_ble_eq_true rfl) rfl ?_
  show MEvP _ none q_110 0 [(0, .ref 0), (1, .int t1)] [] _ 0 0 _
  have w_t1 := ti_full t1
  refine mp_a (a_iload_n dX6_account_0 rfl) (mpp 1 rfl ?_)
  have c1 : (t1.toInt < 0 ∨ 12 < t1.toInt) ∨ t1.toInt = 0 ∨ t1.toInt = 1 ∨ t1.toInt = 2 ∨ t1.toInt = 3 ∨ t1.toInt = 4 ∨ t1.toInt = 5 ∨ t1.toInt = 6 ∨ t1.toInt = 7 ∨ t1.toInt = 8 ∨ t1.toInt = 9 ∨ t1.toInt = 10 ∨ t1.toInt = 11 ∨ t1.toInt = 12 := by omega
  rcases c1 with c1 | c1 | c1 | c1 | c1 | c1 | c1 | c1 | c1 | c1 | c1 | c1 | c1 | c1
  · refine mp_t (s_tabOut (t := 185) dX6_account_1 c1 (by decide)) ?_
    refine mp_a (a_sipush (v := -1002) dX6_account_185 rfl) (mpp 188 rfl ?_)
    exact mp_iret ⟨⟨_, rfl, trivial⟩, rfl⟩ dX6_account_188 (Or.inl rfl)
  · refine mp_t (s_tabIn (t := 68) (off := 67) dX6_account_1 (by omega) (by rw [c1]; rfl) (by decide)) ?_
    refine mp_a (a_aload_n dX6_account_68 rfl) (mpp 69 rfl ?_)
    refine mt_getU (i := 10) (k := 0) (A := 1) hT dX6_account_69 rfl rl_0 (by decide) rfl (by decide) rfl un_31 (mpp 72 rfl ?_)
    have g2 : (0 : Int) ≤ (fv Po 1 1).toInt ∧ (fv Po 1 1).toInt ≤ 8 := Typ.rng hT rl_1 (by decide) (by decide) rfl
    refine mt_getI (i := 87) (k := 1) hT dX6_account_72 rfl rl_1 (by decide) rfl (by decide) rfl (fun g3 g4 => mpp 75 rfl ?_)
    exact mp_iret ⟨⟨_, rfl, trivial⟩, rfl⟩ dX6_account_75 (Or.inl rfl)
  · refine mp_t (s_tabIn (t := 76) (off := 75) dX6_account_1 (by omega) (by rw [c1]; rfl) (by decide)) ?_
    refine mp_a (a_aload_n dX6_account_76 rfl) (mpp 77 rfl ?_)
    refine mt_getU (i := 10) (k := 0) (A := 1) hT dX6_account_77 rfl rl_0 (by decide) rfl (by decide) rfl un_31 (mpp 80 rfl ?_)
    refine mp_a (a_iconst (v := 0) dX6_account_80 rfl) (mpp 81 rfl ?_)
    refine mt_callv (i := 252) (q' := q_111) (As := [.int 0]) (rest := []) hT dX6_account_81 rfl qm_111 (by decide) rfl rl_1 (by decide) rfl (Nat.le_of_ble_eq_true rfl) rfl ⟨rfl, rfl⟩ ⟨Nat.le_of_ble_eq_true rfl, Nat.le_of_ble_eq_true rfl⟩ (EvP.mono (by decide) (c_CS_countOfKind_NState hT hX )) (fun r5 P6 g7 => mpp 84 rfl ?_)
    obtain ⟨⟨x8, rfl, g9⟩, e10⟩ := g7
    have e10 := e10.symm
    subst e10
    have wx8 := ti_full x8
    show MEvP _ none q_110 84 [(0, .ref 0), (1, .int t1)] [.int x8] _ _ _ _
    exact mp_iret ⟨⟨_, rfl, trivial⟩, rfl⟩ dX6_account_84 (Or.inl rfl)
  · refine mp_t (s_tabIn (t := 85) (off := 84) dX6_account_1 (by omega) (by rw [c1]; rfl) (by decide)) ?_
    refine mp_a (a_aload_n dX6_account_85 rfl) (mpp 86 rfl ?_)
    refine mt_getU (i := 10) (k := 0) (A := 1) hT dX6_account_86 rfl rl_0 (by decide) rfl (by decide) rfl un_31 (mpp 89 rfl ?_)
    refine mp_a (a_iconst (v := 1) dX6_account_89 rfl) (mpp 90 rfl ?_)
    refine mt_callv (i := 252) (q' := q_111) (As := [.int 1]) (rest := []) hT dX6_account_90 rfl qm_111 (by decide) rfl rl_1 (by decide) rfl (Nat.le_of_ble_eq_true rfl) rfl ⟨rfl, rfl⟩ ⟨Nat.le_of_ble_eq_true rfl, Nat.le_of_ble_eq_true rfl⟩ (EvP.mono (by decide) (c_CS_countOfKind_NState hT hX )) (fun r11 P12 g13 => mpp 93 rfl ?_)
    obtain ⟨⟨x14, rfl, g15⟩, e16⟩ := g13
    have e16 := e16.symm
    subst e16
    have wx14 := ti_full x14
    show MEvP _ none q_110 93 [(0, .ref 0), (1, .int t1)] [.int x14] _ _ _ _
    exact mp_iret ⟨⟨_, rfl, trivial⟩, rfl⟩ dX6_account_93 (Or.inl rfl)
  · refine mp_t (s_tabIn (t := 94) (off := 93) dX6_account_1 (by omega) (by rw [c1]; rfl) (by decide)) ?_
    refine mp_a (a_aload_n dX6_account_94 rfl) (mpp 95 rfl ?_)
    refine mt_getU (i := 10) (k := 0) (A := 1) hT dX6_account_95 rfl rl_0 (by decide) rfl (by decide) rfl un_31 (mpp 98 rfl ?_)
    refine mt_callv (i := 255) (q' := q_112) (As := []) (rest := []) hT dX6_account_98 rfl qm_112 (by decide) rfl rl_1 (by decide) rfl (Nat.le_of_ble_eq_true rfl) rfl ⟨rfl, rfl⟩ ⟨Nat.le_of_ble_eq_true rfl, Nat.le_of_ble_eq_true rfl⟩ (EvP.mono (by decide) (c_CS_foldedCount_NState hT hX )) (fun r17 P18 g19 => mpp 101 rfl ?_)
    obtain ⟨⟨x20, rfl, g21⟩, e22⟩ := g19
    have e22 := e22.symm
    subst e22
    have wx20 := ti_full x20
    show MEvP _ none q_110 101 [(0, .ref 0), (1, .int t1)] [.int x20] _ _ _ _
    exact mp_iret ⟨⟨_, rfl, trivial⟩, rfl⟩ dX6_account_101 (Or.inl rfl)
  · refine mp_t (s_tabIn (t := 102) (off := 101) dX6_account_1 (by omega) (by rw [c1]; rfl) (by decide)) ?_
    refine mp_a (a_aload_n dX6_account_102 rfl) (mpp 103 rfl ?_)
    refine mt_getU (i := 10) (k := 0) (A := 1) hT dX6_account_103 rfl rl_0 (by decide) rfl (by decide) rfl un_31 (mpp 106 rfl ?_)
    have g23 := ti_full (fv Po 1 2)
    refine mt_getI (i := 76) (k := 2) hT dX6_account_106 rfl rl_1 (by decide) rfl (by decide) rfl (fun g24 g25 => mpp 109 rfl ?_)
    exact mp_iret ⟨⟨_, rfl, trivial⟩, rfl⟩ dX6_account_109 (Or.inl rfl)
  · refine mp_t (s_tabIn (t := 110) (off := 109) dX6_account_1 (by omega) (by rw [c1]; rfl) (by decide)) ?_
    refine mp_a (a_aload_n dX6_account_110 rfl) (mpp 111 rfl ?_)
    refine mt_getU (i := 10) (k := 0) (A := 1) hT dX6_account_111 rfl rl_0 (by decide) rfl (by decide) rfl un_31 (mpp 114 rfl ?_)
    have g26 := ti_full (fv Po 1 2)
    refine mt_getI (i := 76) (k := 2) hT dX6_account_114 rfl rl_1 (by decide) rfl (by decide) rfl (fun g27 g28 => mpp 117 rfl ?_)
    refine mp_a (a_aload_n dX6_account_117 rfl) (mpp 118 rfl ?_)
    refine mt_getU (i := 10) (k := 0) (A := 1) hT dX6_account_118 rfl rl_0 (by decide) rfl (by decide) rfl un_31 (mpp 121 rfl ?_)
    refine mt_callv (i := 64) (q' := q_8) (As := []) (rest := [.int (fv Po 1 2)]) hT dX6_account_121 rfl qm_8 (by decide) rfl rl_1 (by decide) rfl (Nat.le_of_ble_eq_true rfl) rfl ⟨rfl, rfl⟩ ⟨Nat.le_of_ble_eq_true rfl, Nat.le_of_ble_eq_true rfl⟩ (EvP.mono (by decide) (c_CS_occupied_NState hT hX )) (fun r29 P30 g31 => mpp 124 rfl ?_)
    obtain ⟨⟨x32, rfl, g33⟩, e34⟩ := g31
    have e34 := e34.symm
    subst e34
    have wx32 := ti_full x32
    replace g33 : x32.toInt = (smF (fun k : Nat => wpC Po (rv Po 2 k)) (fv Po 1 1).toInt.toNat).toInt := g33
    have g35 : (0 : Int) ≤ (fv Po 1 1).toInt ∧ (fv Po 1 1).toInt ≤ 8 := Typ.rng hT rl_1 (by decide) (by decide) rfl
    show MEvP _ none q_110 124 [(0, .ref 0), (1, .int t1)] [.int x32, .int (fv Po 1 2)] _ _ _ _
    obtain ⟨z36, h37⟩ := ti_ex ((fv Po 1 2) - x32 : Int32)
    have wz36 := ti_full z36
    refine mp_t (s_isub (v := z36) dX6_account_124 h37) (mpp 125 rfl ?_)
    try have e38 : z36.toInt = (fv Po 1 2).toInt - x32.toInt := ti_subz h37 rfl rfl (by omega) (by omega)
    exact mp_iret ⟨⟨_, rfl, trivial⟩, rfl⟩ dX6_account_125 (Or.inl rfl)
  · refine mp_t (s_tabIn (t := 126) (off := 125) dX6_account_1 (by omega) (by rw [c1]; rfl) (by decide)) ?_
    refine mp_a (a_aload_n dX6_account_126 rfl) (mpp 127 rfl ?_)
    refine mt_getU (i := 10) (k := 0) (A := 1) hT dX6_account_127 rfl rl_0 (by decide) rfl (by decide) rfl un_31 (mpp 130 rfl ?_)
    refine mt_callv (i := 258) (q' := q_113) (As := []) (rest := []) hT dX6_account_130 rfl qm_113 (by decide) rfl rl_1 (by decide) rfl (Nat.le_of_ble_eq_true rfl) rfl ⟨rfl, rfl⟩ ⟨Nat.le_of_ble_eq_true rfl, Nat.le_of_ble_eq_true rfl⟩ (EvP.mono (by decide) (c_CS_panelCount_NState hT hX )) (fun r39 P40 g41 => mpp 133 rfl ?_)
    obtain ⟨⟨x42, rfl, g43⟩, e44⟩ := g41
    have e44 := e44.symm
    subst e44
    have wx42 := ti_full x42
    show MEvP _ none q_110 133 [(0, .ref 0), (1, .int t1)] [.int x42] _ _ _ _
    exact mp_iret ⟨⟨_, rfl, trivial⟩, rfl⟩ dX6_account_133 (Or.inl rfl)
  · refine mp_t (s_tabIn (t := 134) (off := 133) dX6_account_1 (by omega) (by rw [c1]; rfl) (by decide)) ?_
    refine mp_a (a_aload_n dX6_account_134 rfl) (mpp 135 rfl ?_)
    refine mt_getU (i := 10) (k := 0) (A := 1) hT dX6_account_135 rfl rl_0 (by decide) rfl (by decide) rfl un_31 (mpp 138 rfl ?_)
    refine mp_a (a_iconst (v := 1) dX6_account_138 rfl) (mpp 139 rfl ?_)
    refine mt_callv (i := 261) (q' := q_114) (As := [.int 1]) (rest := []) hT dX6_account_139 rfl qm_114 (by decide) rfl rl_1 (by decide) rfl (Nat.le_of_ble_eq_true rfl) rfl ⟨rfl, rfl⟩ ⟨Nat.le_of_ble_eq_true rfl, Nat.le_of_ble_eq_true rfl⟩ (EvP.mono (by decide) (c_CS_creasesOf_NState hT hX )) (fun r45 P46 g47 => mpp 142 rfl ?_)
    obtain ⟨⟨x48, rfl, g49⟩, e50⟩ := g47
    have e50 := e50.symm
    subst e50
    have wx48 := ti_full x48
    replace g49 : 0 ≤ x48.toInt ∧ x48.toInt ≤ 64 := g49
    show MEvP _ none q_110 142 [(0, .ref 0), (1, .int t1)] [.int x48] _ _ _ _
    exact mp_iret ⟨⟨_, rfl, trivial⟩, rfl⟩ dX6_account_142 (Or.inl rfl)
  · refine mp_t (s_tabIn (t := 143) (off := 142) dX6_account_1 (by omega) (by rw [c1]; rfl) (by decide)) ?_
    refine mp_a (a_aload_n dX6_account_143 rfl) (mpp 144 rfl ?_)
    refine mt_getU (i := 10) (k := 0) (A := 1) hT dX6_account_144 rfl rl_0 (by decide) rfl (by decide) rfl un_31 (mpp 147 rfl ?_)
    refine mp_a (a_iconst (v := 2) dX6_account_147 rfl) (mpp 148 rfl ?_)
    refine mt_callv (i := 261) (q' := q_114) (As := [.int 2]) (rest := []) hT dX6_account_148 rfl qm_114 (by decide) rfl rl_1 (by decide) rfl (Nat.le_of_ble_eq_true rfl) rfl ⟨rfl, rfl⟩ ⟨Nat.le_of_ble_eq_true rfl, Nat.le_of_ble_eq_true rfl⟩ (EvP.mono (by decide) (c_CS_creasesOf_NState hT hX )) (fun r51 P52 g53 => mpp 151 rfl ?_)
    obtain ⟨⟨x54, rfl, g55⟩, e56⟩ := g53
    have e56 := e56.symm
    subst e56
    have wx54 := ti_full x54
    replace g55 : 0 ≤ x54.toInt ∧ x54.toInt ≤ 64 := g55
    show MEvP _ none q_110 151 [(0, .ref 0), (1, .int t1)] [.int x54] _ _ _ _
    exact mp_iret ⟨⟨_, rfl, trivial⟩, rfl⟩ dX6_account_151 (Or.inl rfl)
  · refine mp_t (s_tabIn (t := 152) (off := 151) dX6_account_1 (by omega) (by rw [c1]; rfl) (by decide)) ?_
    refine mp_a (a_aload_n dX6_account_152 rfl) (mpp 153 rfl ?_)
    refine mt_getU (i := 10) (k := 0) (A := 1) hT dX6_account_153 rfl rl_0 (by decide) rfl (by decide) rfl un_31 (mpp 156 rfl ?_)
    refine mp_a (a_iconst (v := 0) dX6_account_156 rfl) (mpp 157 rfl ?_)
    refine mt_callv (i := 261) (q' := q_114) (As := [.int 0]) (rest := []) hT dX6_account_157 rfl qm_114 (by decide) rfl rl_1 (by decide) rfl (Nat.le_of_ble_eq_true rfl) rfl ⟨rfl, rfl⟩ ⟨Nat.le_of_ble_eq_true rfl, Nat.le_of_ble_eq_true rfl⟩ (EvP.mono (by decide) (c_CS_creasesOf_NState hT hX )) (fun r57 P58 g59 => mpp 160 rfl ?_)
    obtain ⟨⟨x60, rfl, g61⟩, e62⟩ := g59
    have e62 := e62.symm
    subst e62
    have wx60 := ti_full x60
    replace g61 : 0 ≤ x60.toInt ∧ x60.toInt ≤ 64 := g61
    show MEvP _ none q_110 160 [(0, .ref 0), (1, .int t1)] [.int x60] _ _ _ _
    exact mp_iret ⟨⟨_, rfl, trivial⟩, rfl⟩ dX6_account_160 (Or.inl rfl)
  · refine mp_t (s_tabIn (t := 161) (off := 160) dX6_account_1 (by omega) (by rw [c1]; rfl) (by decide)) ?_
    refine mp_a (a_aload_n dX6_account_161 rfl) (mpp 162 rfl ?_)
    refine mt_getU (i := 10) (k := 0) (A := 1) hT dX6_account_162 rfl rl_0 (by decide) rfl (by decide) rfl un_31 (mpp 165 rfl ?_)
    have g63 := ti_full (fv Po 1 3)
    refine mt_getI (i := 172) (k := 3) hT dX6_account_165 rfl rl_1 (by decide) rfl (by decide) rfl (fun g64 g65 => mpp 168 rfl ?_)
    exact mp_iret ⟨⟨_, rfl, trivial⟩, rfl⟩ dX6_account_168 (Or.inl rfl)
  · refine mp_t (s_tabIn (t := 169) (off := 168) dX6_account_1 (by omega) (by rw [c1]; rfl) (by decide)) ?_
    refine mp_a (a_aload_n dX6_account_169 rfl) (mpp 170 rfl ?_)
    refine mt_getU (i := 32) (k := 4) (A := 289) hT dX6_account_170 rfl rl_0 (by decide) rfl (by decide) rfl un_8 (mpp 173 rfl ?_)
    have g66 : (0 : Int) ≤ (fv Po 289 1).toInt ∧ (fv Po 289 1).toInt ≤ 80 := Typ.rng hT rl_289 (by decide) (by decide) rfl
    refine mt_getI (i := 216) (k := 1) hT dX6_account_173 rfl rl_289 (by decide) rfl (by decide) rfl (fun g67 g68 => mpp 176 rfl ?_)
    exact mp_iret ⟨⟨_, rfl, trivial⟩, rfl⟩ dX6_account_176 (Or.inl rfl)
  · refine mp_t (s_tabIn (t := 177) (off := 176) dX6_account_1 (by omega) (by rw [c1]; rfl) (by decide)) ?_
    refine mp_a (a_aload_n dX6_account_177 rfl) (mpp 178 rfl ?_)
    refine mt_getU (i := 25) (k := 3) (A := 79) hT dX6_account_178 rfl rl_0 (by decide) rfl (by decide) rfl un_6 (mpp 181 rfl ?_)
    have g69 : (0 : Int) ≤ (fv Po 79 2).toInt ∧ (fv Po 79 2).toInt ≤ 8 := Typ.rng hT rl_79 (by decide) (by decide) rfl
    refine mt_getI (i := 264) (k := 2) hT dX6_account_181 rfl rl_79 (by decide) rfl (by decide) rfl (fun g70 g71 => mpp 184 rfl ?_)
    exact mp_iret ⟨⟨_, rfl, trivial⟩, rfl⟩ dX6_account_184 (Or.inl rfl)

set_option maxHeartbeats 4000000 in
theorem c_F_bitsOf_l15 {Po : mP} {t0 : UInt32} (hT : Typ Po) (hX : XR Po)  (hp0 : vf_n32 t0)  : ∀ (n : Nat) (u1 : UInt32) (v2 : Int32) (v3 : Int32), (vf_n32 u1) → (0 ≤ v3.toInt) → (2147483647 - v3.toInt).toNat = n → MEvP 0 none q_116 15 [(0, .float t0), (1, .float u1), (2, .int v2), (3, .int v3)] [] Po 0 0 (fun r P' => (∃ x : Int32, r = some (.int x) ∧ (True)) ∧ P' = Po) := by
  intro n
  induction n using Nat.strongRecOn with | _ n ih => ?_
  intro u1 v2 v3 i_0 i_1 hm
  have w_v2 := ti_full v2
  have w_v3 := ti_full v3
  refine mp_a (a_iload_n dX6_bitsOf_15 rfl) (mpp 16 rfl ?_)
  refine mp_a (a_bipush (v := 126) dX6_bitsOf_16 rfl) (mpp 18 rfl ?_)
  refine mp_Tb (t := 40) (j_icmp_ge dX6_bitsOf_18) (by decide) (fun c1 => ?_) (fun c1 => mpp 21 rfl ?_)
  · have c1 : v3.toInt ≥ 126 := ti_ge c1
    refine mp_a (a_iload_n dX6_bitsOf_40 rfl) (mpp 41 rfl ?_)
    refine mp_a (a_bipush (v := 23) dX6_bitsOf_41 rfl) (mpp 43 rfl ?_)
    obtain ⟨z2, h3⟩ := ti_ex (v2 <<< (23 &&& 31) : Int32)
    have wz2 := ti_full z2
    refine mp_t (s_ishl (v := z2) dX6_bitsOf_43 h3) (mpp 44 rfl ?_)
    refine mp_a (a_fload_n dX6_bitsOf_44 rfl) (mpp 45 rfl ?_)
    refine mp_t (s_fconst1 dX6_bitsOf_45) (mpp 46 rfl ?_)
    have v6 : vf_n32 (FP.fsub u1 FP.fconst1) := vf_sub i_0 (by decide +kernel)
    obtain ⟨y4, h5⟩ := uf_ex (FP.fsub u1 FP.fconst1)
    refine mp_t (s_fsub (v := y4) dX6_bitsOf_46 v6 h5) (mpp 47 rfl ?_)
    rw [h5] at v6
    refine mp_ldcw (v := 1258291200) dX6_bitsOf_47 rfl (mpp 50 rfl ?_)
    have v9 : vf_n32 (FP.fmul y4 (1258291200 : UInt32)) := vf_mul v6 (by decide +kernel)
    obtain ⟨y7, h8⟩ := uf_ex (FP.fmul y4 (1258291200 : UInt32))
    refine mp_t (s_fmul (v := y7) dX6_bitsOf_50 v9 h8) (mpp 51 rfl ?_)
    rw [h8] at v9
    obtain ⟨z10, h11⟩ := ti_ex (FP.f2i y7)
    have wz10 := ti_full z10
    refine mp_t (s_f2i (v := z10) dX6_bitsOf_51 h11) (mpp 52 rfl ?_)
    obtain ⟨z12, h13⟩ := ti_ex (z2 + z10 : Int32)
    have wz12 := ti_full z12
    refine mp_t (s_iadd (v := z12) dX6_bitsOf_52 h13) (mpp 53 rfl ?_)
    try have e14 : z12.toInt = z2.toInt + z10.toInt := ti_addz h13 rfl rfl (by omega) (by omega)
    exact mp_iret ⟨⟨_, rfl, trivial⟩, rfl⟩ dX6_bitsOf_53 (Or.inl rfl)
  · have c1 : v3.toInt < 126 := ti_ge_n c1
    refine mp_a (a_fload_n dX6_bitsOf_21 rfl) (mpp 22 rfl ?_)
    refine mp_t (s_fconst1 dX6_bitsOf_22) (mpp 23 rfl ?_)
    obtain ⟨z15, h16⟩ := ti_ex (Op.cmpValue (FP.fcmp u1 FP.fconst1) .g)
    have wz15 := ti_full z15
    refine mp_t (s_fcmp (v := z15) dX6_bitsOf_23 h16) (mpp 24 rfl ?_)
    refine mp_Tb (t := 40) (j_if_ge dX6_bitsOf_24) (by decide) (fun c17 => ?_) (fun c17 => mpp 27 rfl ?_)
    · have c17 : z15.toInt ≥ 0 := ti_ge c17
      refine mp_a (a_iload_n dX6_bitsOf_40 rfl) (mpp 41 rfl ?_)
      refine mp_a (a_bipush (v := 23) dX6_bitsOf_41 rfl) (mpp 43 rfl ?_)
      obtain ⟨z18, h19⟩ := ti_ex (v2 <<< (23 &&& 31) : Int32)
      have wz18 := ti_full z18
      refine mp_t (s_ishl (v := z18) dX6_bitsOf_43 h19) (mpp 44 rfl ?_)
      refine mp_a (a_fload_n dX6_bitsOf_44 rfl) (mpp 45 rfl ?_)
      refine mp_t (s_fconst1 dX6_bitsOf_45) (mpp 46 rfl ?_)
      have v22 : vf_n32 (FP.fsub u1 FP.fconst1) := vf_sub i_0 (by decide +kernel)
      obtain ⟨y20, h21⟩ := uf_ex (FP.fsub u1 FP.fconst1)
      refine mp_t (s_fsub (v := y20) dX6_bitsOf_46 v22 h21) (mpp 47 rfl ?_)
      rw [h21] at v22
      refine mp_ldcw (v := 1258291200) dX6_bitsOf_47 rfl (mpp 50 rfl ?_)
      have v25 : vf_n32 (FP.fmul y20 (1258291200 : UInt32)) := vf_mul v22 (by decide +kernel)
      obtain ⟨y23, h24⟩ := uf_ex (FP.fmul y20 (1258291200 : UInt32))
      refine mp_t (s_fmul (v := y23) dX6_bitsOf_50 v25 h24) (mpp 51 rfl ?_)
      rw [h24] at v25
      obtain ⟨z26, h27⟩ := ti_ex (FP.f2i y23)
      have wz26 := ti_full z26
      refine mp_t (s_f2i (v := z26) dX6_bitsOf_51 h27) (mpp 52 rfl ?_)
      obtain ⟨z28, h29⟩ := ti_ex (z18 + z26 : Int32)
      have wz28 := ti_full z28
      refine mp_t (s_iadd (v := z28) dX6_bitsOf_52 h29) (mpp 53 rfl ?_)
      try have e30 : z28.toInt = z18.toInt + z26.toInt := ti_addz h29 rfl rfl (by omega) (by omega)
      exact mp_iret ⟨⟨_, rfl, trivial⟩, rfl⟩ dX6_bitsOf_53 (Or.inl rfl)
    · have c17 : z15.toInt < 0 := ti_ge_n c17
      refine mp_a (a_fload_n dX6_bitsOf_27 rfl) (mpp 28 rfl ?_)
      refine mp_t (s_fconst2 dX6_bitsOf_28) (mpp 29 rfl ?_)
      have v33 : vf_n32 (FP.fmul u1 FP.fconst2) := vf_mul i_0 (by decide +kernel)
      obtain ⟨y31, h32⟩ := uf_ex (FP.fmul u1 FP.fconst2)
      refine mp_t (s_fmul (v := y31) dX6_bitsOf_29 v33 h32) (mpp 30 rfl ?_)
      rw [h32] at v33
      refine mp_a (a_fstore_n (L' := [(1, .float y31), (0, .float t0), (2, .int v2), (3, .int v3)]) dX6_bitsOf_30 (by decide) rfl) (mpp 31 rfl ?_)
      obtain ⟨z34, h35⟩ := ti_ex (v2 + (-1) : Int32)
      have wz34 := ti_full z34
      refine mp_a (a_iinc (v := z34) (L' := [(2, .int z34), (1, .float y31), (0, .float t0), (3, .int v3)]) dX6_bitsOf_31 (by decide) rfl h35 rfl) (mpp 34 rfl ?_)
      try have e36 : z34.toInt = v2.toInt + (-1) := ti_addz h35 rfl rfl (by omega) (by omega)
      obtain ⟨z37, h38⟩ := ti_ex (v3 + 1 : Int32)
      have wz37 := ti_full z37
      refine mp_a (a_iinc (v := z37) (L' := [(3, .int z37), (2, .int z34), (1, .float y31), (0, .float t0)]) dX6_bitsOf_34 (by decide) rfl h38 rfl) (mpp 37 rfl ?_)
      try have e39 : z37.toInt = v3.toInt + 1 := ti_addz h38 rfl rfl (by omega) (by omega)
      refine mp_a (a_goto (t := 15) dX6_bitsOf_37 (by decide)) ?_
      refine MEvP.less (L := [(0, .float t0), (1, .float y31), (2, .int z34), (3, .int z37)]) rfl rfl ⟨rfl, rfl, rfl, rfl, trivial⟩ ?_
      have i40 : vf_n32 y31 := v33
      have i41 : 0 ≤ z37.toInt := by omega
      exact ih _ (by omega) _ _ _ i40 i41 rfl

set_option maxHeartbeats 4000000 in
theorem c_F_bitsOf {Po : mP} {t0 : UInt32} (hT : Typ Po) (hX : XR Po)  (hp0 : vf_n32 t0)  : EvP 1 116 [.float t0] Po (fun r P' => (∃ x : Int32, r = some (.int x) ∧ (True)) ∧ P' = Po) := by
  refine EvP.of qm_116 (Nat.le_of_ble_eq_true rfl) rfl ?_
  show MEvP _ none q_116 0 [(0, .float t0)] [] _ 0 0 _
  refine mp_a (a_fload_n dX6_bitsOf_0 rfl) (mpp 1 rfl ?_)
  refine mp_t (s_fconst0 dX6_bitsOf_1) (mpp 2 rfl ?_)
  obtain ⟨z1, h2⟩ := ti_ex (Op.cmpValue (FP.fcmp t0 FP.fconst0) .g)
  have wz1 := ti_full z1
  refine mp_t (s_fcmp (v := z1) dX6_bitsOf_2 h2) (mpp 3 rfl ?_)
  refine mp_Tb (t := 8) (j_if_gt dX6_bitsOf_3) (by decide) (fun c3 => ?_) (fun c3 => mpp 6 rfl ?_)
  · have c3 : z1.toInt > 0 := ti_gt c3
    refine mp_a (a_fload_n dX6_bitsOf_8 rfl) (mpp 9 rfl ?_)
    refine mp_a (a_fstore_n (L' := [(1, .float t0), (0, .float t0)]) dX6_bitsOf_9 (by decide) rfl) (mpp 10 rfl ?_)
    refine mp_a (a_bipush (v := 127) dX6_bitsOf_10 rfl) (mpp 12 rfl ?_)
    refine mp_a (a_istore_n (L' := [(2, .int 127), (1, .float t0), (0, .float t0)]) dX6_bitsOf_12 (by decide) rfl) (mpp 13 rfl ?_)
    refine mp_a (a_iconst (v := 0) dX6_bitsOf_13 rfl) (mpp 14 rfl ?_)
    refine mp_a (a_istore_n (L' := [(3, .int 0), (2, .int 127), (1, .float t0), (0, .float t0)]) dX6_bitsOf_14 (by decide) rfl) (mpp 15 rfl ?_)
    refine MEvP.less (L := [(0, .float t0), (1, .float t0), (2, .int 127), (3, .int 0)]) rfl rfl ⟨rfl, rfl, rfl, rfl, trivial⟩ ?_
    have i4 : vf_n32 t0 := hp0
    have i5 : 0 ≤ (0 : Int) := by omega
    exact c_F_bitsOf_l15 hT hX  hp0 _ _ _ _ i4 i5 rfl
  · have c3 : z1.toInt ≤ 0 := ti_gt_n c3
    refine mp_a (a_iconst (v := 0) dX6_bitsOf_6 rfl) (mpp 7 rfl ?_)
    exact mp_iret ⟨⟨_, rfl, trivial⟩, rfl⟩ dX6_bitsOf_7 (Or.inl rfl)

set_option maxHeartbeats 4000000 in
theorem c_F_share {Po : mP}  (hT : Typ Po) (hX : XR Po)   : EvP 4 115 [.ref 0] Po (fun r P' => (∃ x : Int32, r = some (.int x) ∧ (True)) ∧ P' = Po) := by
  refine EvP.of qm_115 (Nat.le_of_ble_eq_true rfl) rfl ?_
  show MEvP _ none q_115 0 [(0, .ref 0)] [] _ 0 0 _
  refine mp_a (a_aload_n dX6_share_0 rfl) (mpp 1 rfl ?_)
  refine mt_getU (i := 10) (k := 0) (A := 1) hT dX6_share_1 rfl rl_0 (by decide) rfl (by decide) rfl un_31 (mpp 4 rfl ?_)
  refine mp_a (a_iconst (v := 1) dX6_share_4 rfl) (mpp 5 rfl ?_)
  refine mt_callv (i := 261) (q' := q_114) (As := [.int 1]) (rest := []) hT dX6_share_5 rfl qm_114 (by decide) rfl rl_1 (by decide) rfl (Nat.le_of_ble_eq_true rfl) rfl ⟨rfl, rfl⟩ ⟨Nat.le_of_ble_eq_true rfl, Nat.le_of_ble_eq_true rfl⟩ (EvP.mono (by decide) (c_CS_creasesOf_NState hT hX )) (fun r1 P2 g3 => mpp 8 rfl ?_)
  obtain ⟨⟨x4, rfl, g5⟩, e6⟩ := g3
  have e6 := e6.symm
  subst e6
  have wx4 := ti_full x4
  replace g5 : 0 ≤ x4.toInt ∧ x4.toInt ≤ 64 := g5
  show MEvP _ none q_115 8 [(0, .ref 0)] [.int x4] _ _ _ _
  refine mp_a (a_aload_n dX6_share_8 rfl) (mpp 9 rfl ?_)
  refine mt_getU (i := 10) (k := 0) (A := 1) hT dX6_share_9 rfl rl_0 (by decide) rfl (by decide) rfl un_31 (mpp 12 rfl ?_)
  refine mp_a (a_iconst (v := 2) dX6_share_12 rfl) (mpp 13 rfl ?_)
  refine mt_callv (i := 261) (q' := q_114) (As := [.int 2]) (rest := [.int x4]) hT dX6_share_13 rfl qm_114 (by decide) rfl rl_1 (by decide) rfl (Nat.le_of_ble_eq_true rfl) rfl ⟨rfl, rfl⟩ ⟨Nat.le_of_ble_eq_true rfl, Nat.le_of_ble_eq_true rfl⟩ (EvP.mono (by decide) (c_CS_creasesOf_NState hT hX )) (fun r7 P8 g9 => mpp 16 rfl ?_)
  obtain ⟨⟨x10, rfl, g11⟩, e12⟩ := g9
  have e12 := e12.symm
  subst e12
  have wx10 := ti_full x10
  replace g11 : 0 ≤ x10.toInt ∧ x10.toInt ≤ 64 := g11
  show MEvP _ none q_115 16 [(0, .ref 0)] [.int x10, .int x4] _ _ _ _
  obtain ⟨z13, h14⟩ := ti_ex (x4 + x10 : Int32)
  have wz13 := ti_full z13
  refine mp_t (s_iadd (v := z13) dX6_share_16 h14) (mpp 17 rfl ?_)
  try have e15 : z13.toInt = x4.toInt + x10.toInt := ti_addz h14 rfl rfl (by omega) (by omega)
  refine mp_a (a_istore_n (L' := [(1, .int z13), (0, .ref 0)]) dX6_share_17 (by decide) rfl) (mpp 18 rfl ?_)
  refine mp_a (a_iload_n dX6_share_18 rfl) (mpp 19 rfl ?_)
  refine mp_a (a_aload_n dX6_share_19 rfl) (mpp 20 rfl ?_)
  refine mt_getU (i := 10) (k := 0) (A := 1) hT dX6_share_20 rfl rl_0 (by decide) rfl (by decide) rfl un_31 (mpp 23 rfl ?_)
  refine mp_a (a_iconst (v := 0) dX6_share_23 rfl) (mpp 24 rfl ?_)
  refine mt_callv (i := 261) (q' := q_114) (As := [.int 0]) (rest := [.int z13]) hT dX6_share_24 rfl qm_114 (by decide) rfl rl_1 (by decide) rfl (Nat.le_of_ble_eq_true rfl) rfl ⟨rfl, rfl⟩ ⟨Nat.le_of_ble_eq_true rfl, Nat.le_of_ble_eq_true rfl⟩ (EvP.mono (by decide) (c_CS_creasesOf_NState hT hX )) (fun r16 P17 g18 => mpp 27 rfl ?_)
  obtain ⟨⟨x19, rfl, g20⟩, e21⟩ := g18
  have e21 := e21.symm
  subst e21
  have wx19 := ti_full x19
  replace g20 : 0 ≤ x19.toInt ∧ x19.toInt ≤ 64 := g20
  show MEvP _ none q_115 27 [(1, .int z13), (0, .ref 0)] [.int x19, .int z13] _ _ _ _
  obtain ⟨z22, h23⟩ := ti_ex (z13 + x19 : Int32)
  have wz22 := ti_full z22
  refine mp_t (s_iadd (v := z22) dX6_share_27 h23) (mpp 28 rfl ?_)
  try have e24 : z22.toInt = z13.toInt + x19.toInt := ti_addz h23 rfl rfl (by omega) (by omega)
  refine mp_a (a_istore_n (L' := [(2, .int z22), (1, .int z13), (0, .ref 0)]) dX6_share_28 (by decide) rfl) (mpp 29 rfl ?_)
  refine mp_a (a_iload_n dX6_share_29 rfl) (mpp 30 rfl ?_)
  refine mp_Tb (t := 37) (j_if_gt dX6_share_30) (by decide) (fun c25 => ?_) (fun c25 => mpp 33 rfl ?_)
  · have c25 : z22.toInt > 0 := ti_gt c25
    refine mp_a (a_iload_n dX6_share_37 rfl) (mpp 38 rfl ?_)
    obtain ⟨y26, h27⟩ := uf_ex (FP.i2f z13)
    refine mp_t (s_i2f (v := y26) dX6_share_38 h27) (mpp 39 rfl ?_)
    refine mp_a (a_iload_n dX6_share_39 rfl) (mpp 40 rfl ?_)
    obtain ⟨y28, h29⟩ := uf_ex (FP.i2f z22)
    refine mp_t (s_i2f (v := y28) dX6_share_40 h29) (mpp 41 rfl ?_)
    have v32 : vf_n32 (FP.fdiv y26 y28) := vf_div h27 h29 ⟨by omega, by omega⟩ ⟨by omega, by omega⟩
    obtain ⟨y30, h31⟩ := uf_ex (FP.fdiv y26 y28)
    refine mp_t (s_fdiv (v := y30) dX6_share_41 v32 h31) (mpp 42 rfl ?_)
    rw [h31] at v32
    have p33 : vf_n32 y30 := by omega
    refine mp_calls (i := 265) (q' := q_116) (As := [.float y30]) (rest := []) dX6_share_42 rfl qm_116 (by decide) rfl (Nat.le_of_ble_eq_true rfl) rfl ⟨rfl, rfl⟩ ⟨Nat.le_of_ble_eq_true rfl, Nat.le_of_ble_eq_true rfl⟩ (EvP.mono (by decide) (c_F_bitsOf hT hX p33 )) (fun r34 P35 g36 => mpp 45 rfl ?_)
    obtain ⟨⟨x37, rfl, g38⟩, e39⟩ := g36
    have e39 := e39.symm
    subst e39
    have wx37 := ti_full x37
    show MEvP _ none q_115 45 [(2, .int z22), (1, .int z13), (0, .ref 0)] [.int x37] _ _ _ _
    exact mp_iret ⟨⟨_, rfl, trivial⟩, rfl⟩ dX6_share_45 (Or.inl rfl)
  · have c25 : z22.toInt ≤ 0 := ti_gt_n c25
    refine mp_a (a_sipush (v := -1004) dX6_share_33 rfl) (mpp 36 rfl ?_)
    exact mp_iret ⟨⟨_, rfl, trivial⟩, rfl⟩ dX6_share_36 (Or.inl rfl)

