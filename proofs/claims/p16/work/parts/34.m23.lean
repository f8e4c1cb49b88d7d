/-! methods on typed pools, 23 (written by a program) -/
set_option maxHeartbeats 4000000 in
theorem c_CS_foldedCount_NState_l4 {Po : mP}  (hT : Typ Po) (hX : XR Po)   : ∀ (n : Nat) (v1 : Int32) (v2 : Int32), (v1.toInt = siF (fun k : Nat => isI (fv Po (rv Po 2 k) 2).toInt 1) v2.toInt.toNat) → (v2.toInt ≤ (fv Po 1 1).toInt) → (0 ≤ v1.toInt) → (v1.toInt ≤ 1 * v2.toInt) → (0 ≤ v2.toInt) → (2147483647 - v2.toInt).toNat = n → MEvP 1 none q_112 4 [(0, .ref 1), (1, .int v1), (2, .int v2)] [] Po 0 0 (fun r P' => (∃ x : Int32, r = some (.int x) ∧ (x.toInt = siF (fun k : Nat => isI (fv Po (rv Po 2 k) 2).toInt 1) (fv Po 1 1).toInt.toNat ∧ 0 ≤ x.toInt ∧ x.toInt ≤ 8)) ∧ P' = Po) := by
  intro n
  induction n using Nat.strongRecOn with | _ n ih => ?_
  intro v1 v2 i_0 i_1 i_2 i_3 i_4 hm
  have w_v1 := ti_full v1
  have w_v2 := ti_full v2
  have g1 : (0 : Int) ≤ (fv Po 1 1).toInt ∧ (fv Po 1 1).toInt ≤ 8 := Typ.rng hT rl_1 (by decide) (by decide) rfl
  refine mp_a (a_iload_n dX5_foldedCount_4 rfl) (mpp 5 rfl ?_)
  refine mp_a (a_aload_n dX5_foldedCount_5 rfl) (mpp 6 rfl ?_)
  refine mt_getI (i := 22) (k := 1) hT dX5_foldedCount_6 rfl rl_1 (by decide) rfl (by decide) rfl (fun g2 g3 => mpp 9 rfl ?_)
  refine mp_Tb (t := 38) (j_icmp_ge dX5_foldedCount_9) (by decide) (fun c4 => ?_) (fun c4 => mpp 12 rfl ?_)
  · have c4 : v2.toInt ≥ (fv Po 1 1).toInt := ti_ge c4
    refine mp_a (a_iload_n dX5_foldedCount_38 rfl) (mpp 39 rfl ?_)
    have u5 : v1.toInt = siF (fun k : Nat => isI (fv Po (rv Po 2 k) 2).toInt 1) (fv Po 1 1).toInt.toNat ∧ 0 ≤ v1.toInt ∧ v1.toInt ≤ 8 := ⟨i_0.trans (congrArg (siF _) (by omega)), by omega, by omega⟩
    exact mp_iret ⟨⟨_, rfl, u5⟩, rfl⟩ dX5_foldedCount_39 (Or.inl rfl)
  · have c4 : v2.toInt < (fv Po 1 1).toInt := ti_ge_n c4
    refine mp_a (a_aload_n dX5_foldedCount_12 rfl) (mpp 13 rfl ?_)
    refine mp_a (a_iload_n dX5_foldedCount_13 rfl) (mpp 14 rfl ?_)
    refine mt_callv (i := 28) (q' := q_9) (As := [.int v2]) (rest := []) hT dX5_foldedCount_14 rfl qm_9 (by decide) rfl rl_1 (by decide) rfl (Nat.le_of_ble_eq_true rfl) rfl ⟨rfl, rfl⟩ ⟨Nat.le_of_ble_eq_true rfl, Nat.le_of_ble_eq_true rfl⟩ (EvP.mono (by decide) (c_CS_pieceAt_NState hT hX )) (fun r6 P7 g8 => mpp 17 rfl ?_)
    obtain ⟨g8, e9⟩ := g8
    have e9 := e9.symm
    subst e9
    rcases g8 with ⟨rfl, q11n⟩ | ⟨b10, rfl, q11, q11r⟩
    · show MEvP _ none q_112 17 [(0, .ref 1), (1, .int v1), (2, .int v2)] [.null] _ _ _ _
      replace q11n : v2.toInt < 0 ∨ (fv Po 1 1).toInt ≤ v2.toInt ∨ 8 ≤ v2.toInt := q11n
      refine mp_a (a_astore_nN (L' := [(3, .null), (0, .ref 1), (1, .int v1), (2, .int v2)]) dX5_foldedCount_17 (by decide) rfl) (mpp 18 rfl ?_)
      refine mp_a (a_aload_nN dX5_foldedCount_18 rfl) (mpp 19 rfl ?_)
      exfalso
      omega
    · show MEvP _ none q_112 17 [(0, .ref 1), (1, .int v1), (2, .int v2)] [.ref b10] _ _ _ _
      replace q11r : 0 ≤ v2.toInt ∧ v2.toInt ≤ 7 ∧ v2.toInt + 1 ≤ (fv Po 1 1).toInt ∧ rv Po 2 v2.toInt.toNat = b10 := q11r
      have w12 := np_ar q11
      refine mp_a (a_astore_n (L' := [(3, .ref b10), (0, .ref 1), (1, .int v1), (2, .int v2)]) dX5_foldedCount_17 (by decide) rfl) (mpp 18 rfl ?_)
      refine mp_a (a_aload_n dX5_foldedCount_18 rfl) (mpp 19 rfl ?_)
      refine mp_t (s_ifnullR dX5_foldedCount_19) (mpp 22 rfl ?_)
      refine mp_a (a_aload_n dX5_foldedCount_22 rfl) (mpp 23 rfl ?_)
      have g13 : (0 : Int) ≤ (fv Po b10 2).toInt ∧ (fv Po b10 2).toInt ≤ 1 := Typ.rng hT q11 (by decide) (by decide) rfl
      refine mt_getI (i := 36) (k := 2) hT dX5_foldedCount_23 rfl q11 (by decide) rfl (by decide) rfl (fun g14 g15 => mpp 26 rfl ?_)
      refine mp_Tb (t := 32) (j_if_eq dX5_foldedCount_26) (by decide) (fun c16 => ?_) (fun c16 => mpp 29 rfl ?_)
      · have c16 : (fv Po b10 2).toInt = 0 := ti_eq c16
        obtain ⟨z17, h18⟩ := ti_ex (v2 + 1 : Int32)
        have wz17 := ti_full z17
        refine mp_a (a_iinc (v := z17) (L' := [(2, .int z17), (3, .ref b10), (0, .ref 1), (1, .int v1)]) dX5_foldedCount_32 (by decide) rfl h18 rfl) (mpp 35 rfl ?_)
        try have e19 : z17.toInt = v2.toInt + 1 := ti_addz h18 rfl rfl (by omega) (by omega)
        refine mp_a (a_goto (t := 4) dX5_foldedCount_35 (by decide)) ?_
        refine MEvP.less (L := [(0, .ref 1), (1, .int v1), (2, .int z17)]) rfl rfl ⟨rfl, rfl, rfl, trivial⟩ ?_
        have i20 : v1.toInt = siF (fun k : Nat => isI (fv Po (rv Po 2 k) 2).toInt 1) z17.toInt.toNat := siF.step i_0 (by omega) (d := 0) (by show isI (fv Po (rv Po 2 v2.toInt.toNat) 2).toInt 1 = _; rw [q11r.2.2.2]; exact isI.no (by omega)) (by omega)
        have i21 : z17.toInt ≤ (fv Po 1 1).toInt := by omega
        have i22 : 0 ≤ v1.toInt := by omega
        have i23 : v1.toInt ≤ 1 * z17.toInt := by omega
        have i24 : 0 ≤ z17.toInt := by omega
        exact ih _ (by omega) _ _ i20 i21 i22 i23 i24 rfl
      · have c16 : (fv Po b10 2).toInt ≠ 0 := ti_eq_n c16
        obtain ⟨z25, h26⟩ := ti_ex (v1 + 1 : Int32)
        have wz25 := ti_full z25
        refine mp_a (a_iinc (v := z25) (L' := [(1, .int z25), (3, .ref b10), (0, .ref 1), (2, .int v2)]) dX5_foldedCount_29 (by decide) rfl h26 rfl) (mpp 32 rfl ?_)
        try have e27 : z25.toInt = v1.toInt + 1 := ti_addz h26 rfl rfl (by omega) (by omega)
        obtain ⟨z28, h29⟩ := ti_ex (v2 + 1 : Int32)
        have wz28 := ti_full z28
        refine mp_a (a_iinc (v := z28) (L' := [(2, .int z28), (1, .int z25), (3, .ref b10), (0, .ref 1)]) dX5_foldedCount_32 (by decide) rfl h29 rfl) (mpp 35 rfl ?_)
        try have e30 : z28.toInt = v2.toInt + 1 := ti_addz h29 rfl rfl (by omega) (by omega)
        refine mp_a (a_goto (t := 4) dX5_foldedCount_35 (by decide)) ?_
        refine MEvP.less (L := [(0, .ref 1), (1, .int z25), (2, .int z28)]) rfl rfl ⟨rfl, rfl, rfl, trivial⟩ ?_
        have i31 : z25.toInt = siF (fun k : Nat => isI (fv Po (rv Po 2 k) 2).toInt 1) z28.toInt.toNat := siF.step i_0 (by omega) (d := 1) (by show isI (fv Po (rv Po 2 v2.toInt.toNat) 2).toInt 1 = _; rw [q11r.2.2.2]; exact isI.yes (by omega)) (by omega)
        have i32 : z28.toInt ≤ (fv Po 1 1).toInt := by omega
        have i33 : 0 ≤ z25.toInt := by omega
        have i34 : z25.toInt ≤ 1 * z28.toInt := by omega
        have i35 : 0 ≤ z28.toInt := by omega
        exact ih _ (by omega) _ _ i31 i32 i33 i34 i35 rfl

set_option maxHeartbeats 4000000 in
theorem c_CS_foldedCount_NState {Po : mP}  (hT : Typ Po) (hX : XR Po)   : EvP 2 112 [.ref 1] Po (fun r P' => (∃ x : Int32, r = some (.int x) ∧ (x.toInt = siF (fun k : Nat => isI (fv Po (rv Po 2 k) 2).toInt 1) (fv Po 1 1).toInt.toNat ∧ 0 ≤ x.toInt ∧ x.toInt ≤ 8)) ∧ P' = Po) := by
  refine EvP.of qm_112 (Nat.le_of_ble_eq_true rfl) rfl ?_
  show MEvP _ none q_112 0 [(0, .ref 1)] [] _ 0 0 _
  have g1 : (0 : Int) ≤ (fv Po 1 1).toInt ∧ (fv Po 1 1).toInt ≤ 8 := Typ.rng hT rl_1 (by decide) (by decide) rfl
  refine mp_a (a_iconst (v := 0) dX5_foldedCount_0 rfl) (mpp 1 rfl ?_)
  refine mp_a (a_istore_n (L' := [(1, .int 0), (0, .ref 1)]) dX5_foldedCount_1 (by decide) rfl) (mpp 2 rfl ?_)
  refine mp_a (a_iconst (v := 0) dX5_foldedCount_2 rfl) (mpp 3 rfl ?_)
  refine mp_a (a_istore_n (L' := [(2, .int 0), (1, .int 0), (0, .ref 1)]) dX5_foldedCount_3 (by decide) rfl) (mpp 4 rfl ?_)
  refine MEvP.less (L := [(0, .ref 1), (1, .int 0), (2, .int 0)]) rfl rfl ⟨rfl, rfl, rfl, trivial⟩ ?_
  have i2 : (0 : Int) = siF (fun k : Nat => isI (fv Po (rv Po 2 k) 2).toInt 1) (0 : Int).toNat := rfl
  have i3 : (0 : Int) ≤ (fv Po 1 1).toInt := by omega
  have i4 : 0 ≤ (0 : Int) := by omega
  have i5 : (0 : Int) ≤ 1 * (0 : Int) := by omega
  have i6 : 0 ≤ (0 : Int) := by omega
  exact c_CS_foldedCount_NState_l4 hT hX   _ _ _ i2 i3 i4 i5 i6 rfl

set_option maxHeartbeats 4000000 in
theorem c_CS_panelCount_NState_l4 {Po : mP}  (hT : Typ Po) (hX : XR Po)   : ∀ (n : Nat) (v1 : Int32) (v2 : Int32), (v1.toInt = siF (fun k : Nat => pnI (fv Po (rv Po 2 k) 0).toInt (fv Po (rv Po 2 k) 1).toInt) v2.toInt.toNat) → (v2.toInt ≤ (fv Po 1 1).toInt) → (0 ≤ v1.toInt) → (v1.toInt ≤ 8 * v2.toInt) → (0 ≤ v2.toInt) → (2147483647 - v2.toInt).toNat = n → MEvP 1 none q_113 4 [(0, .ref 1), (1, .int v1), (2, .int v2)] [] Po 0 0 (fun r P' => (∃ x : Int32, r = some (.int x) ∧ (x.toInt = siF (fun k : Nat => pnI (fv Po (rv Po 2 k) 0).toInt (fv Po (rv Po 2 k) 1).toInt) (fv Po 1 1).toInt.toNat ∧ 0 ≤ x.toInt ∧ x.toInt ≤ 64)) ∧ P' = Po) := by
  intro n
  induction n using Nat.strongRecOn with | _ n ih => ?_
  intro v1 v2 i_0 i_1 i_2 i_3 i_4 hm
  have w_v1 := ti_full v1
  have w_v2 := ti_full v2
  have g1 : (0 : Int) ≤ (fv Po 1 1).toInt ∧ (fv Po 1 1).toInt ≤ 8 := Typ.rng hT rl_1 (by decide) (by decide) rfl
  refine mp_a (a_iload_n dX5_panelCount_4 rfl) (mpp 5 rfl ?_)
  refine mp_a (a_aload_n dX5_panelCount_5 rfl) (mpp 6 rfl ?_)
  refine mt_getI (i := 22) (k := 1) hT dX5_panelCount_6 rfl rl_1 (by decide) rfl (by decide) rfl (fun g2 g3 => mpp 9 rfl ?_)
  refine mp_Tb (t := 42) (j_icmp_ge dX5_panelCount_9) (by decide) (fun c4 => ?_) (fun c4 => mpp 12 rfl ?_)
  · have c4 : v2.toInt ≥ (fv Po 1 1).toInt := ti_ge c4
    refine mp_a (a_iload_n dX5_panelCount_42 rfl) (mpp 43 rfl ?_)
    have u5 : v1.toInt = siF (fun k : Nat => pnI (fv Po (rv Po 2 k) 0).toInt (fv Po (rv Po 2 k) 1).toInt) (fv Po 1 1).toInt.toNat ∧ 0 ≤ v1.toInt ∧ v1.toInt ≤ 64 := ⟨i_0.trans (congrArg (siF _) (by omega)), by omega, by omega⟩
    exact mp_iret ⟨⟨_, rfl, u5⟩, rfl⟩ dX5_panelCount_43 (Or.inl rfl)
  · have c4 : v2.toInt < (fv Po 1 1).toInt := ti_ge_n c4
    refine mp_a (a_aload_n dX5_panelCount_12 rfl) (mpp 13 rfl ?_)
    refine mp_a (a_iload_n dX5_panelCount_13 rfl) (mpp 14 rfl ?_)
    refine mt_callv (i := 28) (q' := q_9) (As := [.int v2]) (rest := []) hT dX5_panelCount_14 rfl qm_9 (by decide) rfl rl_1 (by decide) rfl (Nat.le_of_ble_eq_true rfl) rfl ⟨rfl, rfl⟩ ⟨Nat.le_of_ble_eq_true rfl, Nat.le_of_ble_eq_true rfl⟩ (EvP.mono (by decide) (c_CS_pieceAt_NState hT hX )) (fun r6 P7 g8 => mpp 17 rfl ?_)
    obtain ⟨g8, e9⟩ := g8
    have e9 := e9.symm
    subst e9
    rcases g8 with ⟨rfl, q11n⟩ | ⟨b10, rfl, q11, q11r⟩
    · show MEvP _ none q_113 17 [(0, .ref 1), (1, .int v1), (2, .int v2)] [.null] _ _ _ _
      replace q11n : v2.toInt < 0 ∨ (fv Po 1 1).toInt ≤ v2.toInt ∨ 8 ≤ v2.toInt := q11n
      refine mp_a (a_astore_nN (L' := [(3, .null), (0, .ref 1), (1, .int v1), (2, .int v2)]) dX5_panelCount_17 (by decide) rfl) (mpp 18 rfl ?_)
      refine mp_a (a_aload_nN dX5_panelCount_18 rfl) (mpp 19 rfl ?_)
      exfalso
      omega
    · show MEvP _ none q_113 17 [(0, .ref 1), (1, .int v1), (2, .int v2)] [.ref b10] _ _ _ _
      replace q11r : 0 ≤ v2.toInt ∧ v2.toInt ≤ 7 ∧ v2.toInt + 1 ≤ (fv Po 1 1).toInt ∧ rv Po 2 v2.toInt.toNat = b10 := q11r
      have w12 := np_ar q11
      refine mp_a (a_astore_n (L' := [(3, .ref b10), (0, .ref 1), (1, .int v1), (2, .int v2)]) dX5_panelCount_17 (by decide) rfl) (mpp 18 rfl ?_)
      refine mp_a (a_aload_n dX5_panelCount_18 rfl) (mpp 19 rfl ?_)
      refine mp_t (s_ifnullR dX5_panelCount_19) (mpp 22 rfl ?_)
      refine mp_a (a_aload_n dX5_panelCount_22 rfl) (mpp 23 rfl ?_)
      have g13 := ti_full (fv Po b10 0)
      refine mt_getI (i := 43) (k := 0) hT dX5_panelCount_23 rfl q11 (by decide) rfl (by decide) rfl (fun g14 g15 => mpp 26 rfl ?_)
      refine mp_Tb (t := 36) (j_if_ne dX5_panelCount_26) (by decide) (fun c16 => ?_) (fun c16 => mpp 29 rfl ?_)
      · have c16 : (fv Po b10 0).toInt ≠ 0 := ti_ne c16
        obtain ⟨z17, h18⟩ := ti_ex (v2 + 1 : Int32)
        have wz17 := ti_full z17
        refine mp_a (a_iinc (v := z17) (L' := [(2, .int z17), (3, .ref b10), (0, .ref 1), (1, .int v1)]) dX5_panelCount_36 (by decide) rfl h18 rfl) (mpp 39 rfl ?_)
        try have e19 : z17.toInt = v2.toInt + 1 := ti_addz h18 rfl rfl (by omega) (by omega)
        refine mp_a (a_goto (t := 4) dX5_panelCount_39 (by decide)) ?_
        refine MEvP.less (L := [(0, .ref 1), (1, .int v1), (2, .int z17)]) rfl rfl ⟨rfl, rfl, rfl, trivial⟩ ?_
        have i20 : v1.toInt = siF (fun k : Nat => pnI (fv Po (rv Po 2 k) 0).toInt (fv Po (rv Po 2 k) 1).toInt) z17.toInt.toNat := siF.step i_0 (by omega) (d := 0) (by show pnI (fv Po (rv Po 2 v2.toInt.toNat) 0).toInt (fv Po (rv Po 2 v2.toInt.toNat) 1).toInt = _; rw [q11r.2.2.2]; exact pnI.no (by omega)) (by omega)
        have i21 : z17.toInt ≤ (fv Po 1 1).toInt := by omega
        have i22 : 0 ≤ v1.toInt := by omega
        have i23 : v1.toInt ≤ 8 * z17.toInt := by omega
        have i24 : 0 ≤ z17.toInt := by omega
        exact ih _ (by omega) _ _ i20 i21 i22 i23 i24 rfl
      · have c16 : (fv Po b10 0).toInt = 0 := ti_ne_n c16
        refine mp_a (a_iload_n dX5_panelCount_29 rfl) (mpp 30 rfl ?_)
        refine mp_a (a_aload_n dX5_panelCount_30 rfl) (mpp 31 rfl ?_)
        have g25 : (0 : Int) ≤ (fv Po b10 1).toInt ∧ (fv Po b10 1).toInt ≤ 8 := Typ.rng hT q11 (by decide) (by decide) rfl
        refine mt_getI (i := 46) (k := 1) hT dX5_panelCount_31 rfl q11 (by decide) rfl (by decide) rfl (fun g26 g27 => mpp 34 rfl ?_)
        obtain ⟨z28, h29⟩ := ti_ex (v1 + (fv Po b10 1) : Int32)
        have wz28 := ti_full z28
        refine mp_t (s_iadd (v := z28) dX5_panelCount_34 h29) (mpp 35 rfl ?_)
        try have e30 : z28.toInt = v1.toInt + (fv Po b10 1).toInt := ti_addz h29 rfl rfl (by omega) (by omega)
        refine mp_a (a_istore_n (L' := [(1, .int z28), (3, .ref b10), (0, .ref 1), (2, .int v2)]) dX5_panelCount_35 (by decide) rfl) (mpp 36 rfl ?_)
        obtain ⟨z31, h32⟩ := ti_ex (v2 + 1 : Int32)
        have wz31 := ti_full z31
        refine mp_a (a_iinc (v := z31) (L' := [(2, .int z31), (1, .int z28), (3, .ref b10), (0, .ref 1)]) dX5_panelCount_36 (by decide) rfl h32 rfl) (mpp 39 rfl ?_)
        try have e33 : z31.toInt = v2.toInt + 1 := ti_addz h32 rfl rfl (by omega) (by omega)
        refine mp_a (a_goto (t := 4) dX5_panelCount_39 (by decide)) ?_
        refine MEvP.less (L := [(0, .ref 1), (1, .int z28), (2, .int z31)]) rfl rfl ⟨rfl, rfl, rfl, trivial⟩ ?_
        have i34 : z28.toInt = siF (fun k : Nat => pnI (fv Po (rv Po 2 k) 0).toInt (fv Po (rv Po 2 k) 1).toInt) z31.toInt.toNat := siF.step i_0 (by omega) (d := (fv Po b10 1).toInt) (by show pnI (fv Po (rv Po 2 v2.toInt.toNat) 0).toInt (fv Po (rv Po 2 v2.toInt.toNat) 1).toInt = _; rw [q11r.2.2.2]; exact pnI.yes (by omega)) (by omega)
        have i35 : z31.toInt ≤ (fv Po 1 1).toInt := by omega
        have i36 : 0 ≤ z28.toInt := by omega
        have i37 : z28.toInt ≤ 8 * z31.toInt := by omega
        have i38 : 0 ≤ z31.toInt := by omega
        exact ih _ (by omega) _ _ i34 i35 i36 i37 i38 rfl

set_option maxHeartbeats 4000000 in
theorem c_CS_panelCount_NState {Po : mP}  (hT : Typ Po) (hX : XR Po)   : EvP 2 113 [.ref 1] Po (fun r P' => (∃ x : Int32, r = some (.int x) ∧ (x.toInt = siF (fun k : Nat => pnI (fv Po (rv Po 2 k) 0).toInt (fv Po (rv Po 2 k) 1).toInt) (fv Po 1 1).toInt.toNat ∧ 0 ≤ x.toInt ∧ x.toInt ≤ 64)) ∧ P' = Po) := by
  refine EvP.of qm_113 (Nat.le_of_ble_eq_true rfl) rfl ?_
  show MEvP _ none q_113 0 [(0, .ref 1)] [] _ 0 0 _
  have g1 : (0 : Int) ≤ (fv Po 1 1).toInt ∧ (fv Po 1 1).toInt ≤ 8 := Typ.rng hT rl_1 (by decide) (by decide) rfl
  refine mp_a (a_iconst (v := 0) dX5_panelCount_0 rfl) (mpp 1 rfl ?_)
  refine mp_a (a_istore_n (L' := [(1, .int 0), (0, .ref 1)]) dX5_panelCount_1 (by decide) rfl) (mpp 2 rfl ?_)
  refine mp_a (a_iconst (v := 0) dX5_panelCount_2 rfl) (mpp 3 rfl ?_)
  refine mp_a (a_istore_n (L' := [(2, .int 0), (1, .int 0), (0, .ref 1)]) dX5_panelCount_3 (by decide) rfl) (mpp 4 rfl ?_)
  refine MEvP.less (L := [(0, .ref 1), (1, .int 0), (2, .int 0)]) rfl rfl ⟨rfl, rfl, rfl, trivial⟩ ?_
  have i2 : (0 : Int) = siF (fun k : Nat => pnI (fv Po (rv Po 2 k) 0).toInt (fv Po (rv Po 2 k) 1).toInt) (0 : Int).toNat := rfl
  have i3 : (0 : Int) ≤ (fv Po 1 1).toInt := by omega
  have i4 : 0 ≤ (0 : Int) := by omega
  have i5 : (0 : Int) ≤ 8 * (0 : Int) := by omega
  have i6 : 0 ≤ (0 : Int) := by omega
  exact c_CS_panelCount_NState_l4 hT hX   _ _ _ i2 i3 i4 i5 i6 rfl

set_option maxHeartbeats 4000000 in
theorem c_CS_creasesOf_NState_l4 {Po : mP} {t1 : Int32} (hT : Typ Po) (hX : XR Po)   : ∀ (n : Nat) (v2 : Int32) (v3 : Int32), (v2.toInt = siF (fun k : Nat => cntF (fun j : Nat => fv Po (rv Po 2 k + 2) j) t1.toInt (nC (fv Po (rv Po 2 k) 0).toInt (fv Po (rv Po 2 k) 1).toInt)) v3.toInt.toNat) → (v3.toInt ≤ (fv Po 1 1).toInt) → (0 ≤ v2.toInt) → (v2.toInt ≤ 8 * v3.toInt) → (0 ≤ v3.toInt) → (2147483647 - v3.toInt).toNat = n → MEvP 2 none q_114 4 [(0, .ref 1), (1, .int t1), (2, .int v2), (3, .int v3)] [] Po 0 0 (fun r P' => (∃ x : Int32, r = some (.int x) ∧ (0 ≤ x.toInt ∧ x.toInt ≤ 64 ∧ x.toInt = siF (fun k : Nat => cntF (fun j : Nat => fv Po (rv Po 2 k + 2) j) t1.toInt (nC (fv Po (rv Po 2 k) 0).toInt (fv Po (rv Po 2 k) 1).toInt)) (fv Po 1 1).toInt.toNat)) ∧ P' = Po) := by
  intro n
  induction n using Nat.strongRecOn with | _ n ih => ?_
  intro v2 v3 i_0 i_1 i_2 i_3 i_4 hm
  have w_t1 := ti_full t1
  have w_v2 := ti_full v2
  have w_v3 := ti_full v3
  have g1 : (0 : Int) ≤ (fv Po 1 1).toInt ∧ (fv Po 1 1).toInt ≤ 8 := Typ.rng hT rl_1 (by decide) (by decide) rfl
  refine mp_a (a_iload_n dX5_creasesOf_4 rfl) (mpp 5 rfl ?_)
  refine mp_a (a_aload_n dX5_creasesOf_5 rfl) (mpp 6 rfl ?_)
  refine mt_getI (i := 22) (k := 1) hT dX5_creasesOf_6 rfl rl_1 (by decide) rfl (by decide) rfl (fun g2 g3 => mpp 9 rfl ?_)
  refine mp_Tb (t := 39) (j_icmp_ge dX5_creasesOf_9) (by decide) (fun c4 => ?_) (fun c4 => mpp 12 rfl ?_)
  · have c4 : v3.toInt ≥ (fv Po 1 1).toInt := ti_ge c4
    refine mp_a (a_iload_n dX5_creasesOf_39 rfl) (mpp 40 rfl ?_)
    have u5 : 0 ≤ v2.toInt ∧ v2.toInt ≤ 64 ∧ v2.toInt = siF (fun k : Nat => cntF (fun j : Nat => fv Po (rv Po 2 k + 2) j) t1.toInt (nC (fv Po (rv Po 2 k) 0).toInt (fv Po (rv Po 2 k) 1).toInt)) (fv Po 1 1).toInt.toNat := ⟨by omega, by omega, i_0.trans (congrArg (siF _) (by omega))⟩
    exact mp_iret ⟨⟨_, rfl, u5⟩, rfl⟩ dX5_creasesOf_40 (Or.inl rfl)
  · have c4 : v3.toInt < (fv Po 1 1).toInt := ti_ge_n c4
    refine mp_a (a_aload_n dX5_creasesOf_12 rfl) (mpp 13 rfl ?_)
    refine mp_a (a_iload_n dX5_creasesOf_13 rfl) (mpp 14 rfl ?_)
    refine mt_callv (i := 28) (q' := q_9) (As := [.int v3]) (rest := []) hT dX5_creasesOf_14 rfl qm_9 (by decide) rfl rl_1 (by decide) rfl (Nat.le_of_ble_eq_true rfl) rfl ⟨rfl, rfl⟩ ⟨Nat.le_of_ble_eq_true rfl, Nat.le_of_ble_eq_true rfl⟩ (EvP.mono (by decide) (c_CS_pieceAt_NState hT hX )) (fun r6 P7 g8 => mpp 17 rfl ?_)
    obtain ⟨g8, e9⟩ := g8
    have e9 := e9.symm
    subst e9
    rcases g8 with ⟨rfl, q11n⟩ | ⟨b10, rfl, q11, q11r⟩
    · show MEvP _ none q_114 17 [(0, .ref 1), (1, .int t1), (2, .int v2), (3, .int v3)] [.null] _ _ _ _
      replace q11n : v3.toInt < 0 ∨ (fv Po 1 1).toInt ≤ v3.toInt ∨ 8 ≤ v3.toInt := q11n
      refine mp_a (a_astoreN (L' := [(4, .null), (0, .ref 1), (1, .int t1), (2, .int v2), (3, .int v3)]) dX5_creasesOf_17 (by decide) rfl) (mpp 19 rfl ?_)
      refine mp_a (a_aloadN dX5_creasesOf_19 rfl) (mpp 21 rfl ?_)
      exfalso
      omega
    · show MEvP _ none q_114 17 [(0, .ref 1), (1, .int t1), (2, .int v2), (3, .int v3)] [.ref b10] _ _ _ _
      replace q11r : 0 ≤ v3.toInt ∧ v3.toInt ≤ 7 ∧ v3.toInt + 1 ≤ (fv Po 1 1).toInt ∧ rv Po 2 v3.toInt.toNat = b10 := q11r
      have w12 := np_ar q11
      refine mp_a (a_astore (L' := [(4, .ref b10), (0, .ref 1), (1, .int t1), (2, .int v2), (3, .int v3)]) dX5_creasesOf_17 (by decide) rfl) (mpp 19 rfl ?_)
      refine mp_a (a_aload dX5_creasesOf_19 rfl) (mpp 21 rfl ?_)
      refine mp_t (s_ifnullR dX5_creasesOf_21) (mpp 24 rfl ?_)
      refine mp_a (a_iload_n dX5_creasesOf_24 rfl) (mpp 25 rfl ?_)
      refine mp_a (a_aload dX5_creasesOf_25 rfl) (mpp 27 rfl ?_)
      refine mp_a (a_iload_n dX5_creasesOf_27 rfl) (mpp 28 rfl ?_)
      refine mt_callv (i := 47) (q' := q_32) (As := [.int t1]) (rest := [.int v2]) hT dX5_creasesOf_28 rfl qm_32 (by decide) rfl q11 (by decide) rfl (Nat.le_of_ble_eq_true rfl) rfl ⟨rfl, rfl⟩ ⟨Nat.le_of_ble_eq_true rfl, Nat.le_of_ble_eq_true rfl⟩ (EvP.mono (by decide) (c_CP_countOf_NPiece hT hX q11)) (fun r13 P14 g15 => mpp 31 rfl ?_)
      obtain ⟨⟨x16, rfl, g17⟩, e18⟩ := g15
      have e18 := e18.symm
      subst e18
      have wx16 := ti_full x16
      replace g17 : 0 ≤ x16.toInt ∧ x16.toInt ≤ 8 ∧ x16.toInt = cntF (fun j : Nat => fv Po (b10 + 2) j) t1.toInt (nC (fv Po b10 0).toInt (fv Po b10 1).toInt) := g17
      have g19 := ti_full (fv Po b10 0)
      have g20 : (0 : Int) ≤ (fv Po b10 1).toInt ∧ (fv Po b10 1).toInt ≤ 8 := Typ.rng hT q11 (by decide) (by decide) rfl
      show MEvP _ none q_114 31 [(4, .ref b10), (0, .ref 1), (1, .int t1), (2, .int v2), (3, .int v3)] [.int x16, .int v2] _ _ _ _
      obtain ⟨z21, h22⟩ := ti_ex (v2 + x16 : Int32)
      have wz21 := ti_full z21
      refine mp_t (s_iadd (v := z21) dX5_creasesOf_31 h22) (mpp 32 rfl ?_)
      try have e23 : z21.toInt = v2.toInt + x16.toInt := ti_addz h22 rfl rfl (by omega) (by omega)
      refine mp_a (a_istore_n (L' := [(2, .int z21), (4, .ref b10), (0, .ref 1), (1, .int t1), (3, .int v3)]) dX5_creasesOf_32 (by decide) rfl) (mpp 33 rfl ?_)
      obtain ⟨z24, h25⟩ := ti_ex (v3 + 1 : Int32)
      have wz24 := ti_full z24
      refine mp_a (a_iinc (v := z24) (L' := [(3, .int z24), (2, .int z21), (4, .ref b10), (0, .ref 1), (1, .int t1)]) dX5_creasesOf_33 (by decide) rfl h25 rfl) (mpp 36 rfl ?_)
      try have e26 : z24.toInt = v3.toInt + 1 := ti_addz h25 rfl rfl (by omega) (by omega)
      refine mp_a (a_goto (t := 4) dX5_creasesOf_36 (by decide)) ?_
      refine MEvP.less (L := [(0, .ref 1), (1, .int t1), (2, .int z21), (3, .int z24)]) rfl rfl ⟨rfl, rfl, rfl, rfl, trivial⟩ ?_
      have i27 : z21.toInt = siF (fun k : Nat => cntF (fun j : Nat => fv Po (rv Po 2 k + 2) j) t1.toInt (nC (fv Po (rv Po 2 k) 0).toInt (fv Po (rv Po 2 k) 1).toInt)) z24.toInt.toNat := siF.step i_0 (by omega) (d := x16.toInt) (by show cntF (fun j : Nat => fv Po (rv Po 2 v3.toInt.toNat + 2) j) t1.toInt (nC (fv Po (rv Po 2 v3.toInt.toNat) 0).toInt (fv Po (rv Po 2 v3.toInt.toNat) 1).toInt) = _; rw [q11r.2.2.2]; exact g17.2.2.symm) (by omega)
      have i28 : z24.toInt ≤ (fv Po 1 1).toInt := by omega
      have i29 : 0 ≤ z21.toInt := by omega
      have i30 : z21.toInt ≤ 8 * z24.toInt := by omega
      have i31 : 0 ≤ z24.toInt := by omega
      exact ih _ (by omega) _ _ i27 i28 i29 i30 i31 rfl

set_option maxHeartbeats 4000000 in
theorem c_CS_creasesOf_NState {Po : mP} {t1 : Int32} (hT : Typ Po) (hX : XR Po)   : EvP 3 114 [.ref 1, .int t1] Po (fun r P' => (∃ x : Int32, r = some (.int x) ∧ (0 ≤ x.toInt ∧ x.toInt ≤ 64 ∧ x.toInt = siF (fun k : Nat => cntF (fun j : Nat => fv Po (rv Po 2 k + 2) j) t1.toInt (nC (fv Po (rv Po 2 k) 0).toInt (fv Po (rv Po 2 k) 1).toInt)) (fv Po 1 1).toInt.toNat)) ∧ P' = Po) := by
  refine EvP.of qm_114 (Nat.le_of_ble_eq_true rfl) rfl ?_
  show MEvP _ none q_114 0 [(0, .ref 1), (1, .int t1)] [] _ 0 0 _
  have w_t1 := ti_full t1
  have g1 : (0 : Int) ≤ (fv Po 1 1).toInt ∧ (fv Po 1 1).toInt ≤ 8 := Typ.rng hT rl_1 (by decide) (by decide) rfl
  refine mp_a (a_iconst (v := 0) dX5_creasesOf_0 rfl) (mpp 1 rfl ?_)
  refine mp_a (a_istore_n (L' := [(2, .int 0), (0, .ref 1), (1, .int t1)]) dX5_creasesOf_1 (by decide) rfl) (mpp 2 rfl ?_)
  refine mp_a (a_iconst (v := 0) dX5_creasesOf_2 rfl) (mpp 3 rfl ?_)
  refine mp_a (a_istore_n (L' := [(3, .int 0), (2, .int 0), (0, .ref 1), (1, .int t1)]) dX5_creasesOf_3 (by decide) rfl) (mpp 4 rfl ?_)
  refine MEvP.less (L := [(0, .ref 1), (1, .int t1), (2, .int 0), (3, .int 0)]) rfl rfl ⟨rfl, rfl, rfl, rfl, trivial⟩ ?_
  have i2 : (0 : Int) = siF (fun k : Nat => cntF (fun j : Nat => fv Po (rv Po 2 k + 2) j) t1.toInt (nC (fv Po (rv Po 2 k) 0).toInt (fv Po (rv Po 2 k) 1).toInt)) (0 : Int).toNat := rfl
  have i3 : (0 : Int) ≤ (fv Po 1 1).toInt := by omega
  have i4 : 0 ≤ (0 : Int) := by omega
  have i5 : (0 : Int) ≤ 8 * (0 : Int) := by omega
  have i6 : 0 ≤ (0 : Int) := by omega
  exact c_CS_creasesOf_NState_l4 hT hX   _ _ _ i2 i3 i4 i5 i6 rfl

set_option maxHeartbeats 4000000 in
theorem c_F_account {Po : mP} {t1 : Int32} (hT : Typ Po) (hX : XR Po)   : EvP 5 110 [.ref 0, .int t1] Po (fun r P' => (∃ x : Int32, r = some (.int x) ∧ (accountC Po x.toInt t1.toInt)) ∧ P' = Po) := by
  refine EvP.of qm_110 (Nat.le_of_ble_eq_true rfl) rfl ?_
  show MEvP _ none q_110 0 [(0, .ref 0), (1, .int t1)] [] _ 0 0 _
  have w_t1 := ti_full t1
  refine mp_a (a_iload_n dX6_account_0 rfl) (mpp 1 rfl ?_)
  have c1 : (t1.toInt < 0 ∨ 12 < t1.toInt) ∨ t1.toInt = 0 ∨ t1.toInt = 1 ∨ t1.toInt = 2 ∨ t1.toInt = 3 ∨ t1.toInt = 4 ∨ t1.toInt = 5 ∨ t1.toInt = 6 ∨ t1.toInt = 7 ∨ t1.toInt = 8 ∨ t1.toInt = 9 ∨ t1.toInt = 10 ∨ t1.toInt = 11 ∨ t1.toInt = 12 := by omega
  rcases c1 with c1 | c1 | c1 | c1 | c1 | c1 | c1 | c1 | c1 | c1 | c1 | c1 | c1 | c1
  · refine mp_t (s_tabOut (t := 185) dX6_account_1 c1 (by decide)) ?_
    refine mp_a (a_sipush (v := -1002) dX6_account_185 rfl) (mpp 188 rfl ?_)
    have u2 : accountC Po (-1002 : Int) t1.toInt := (show (t1.toInt = 0 ∧ (-1002 : Int) = (fv Po 1 1).toInt) ∨ (t1.toInt = 1 ∧ (-1002 : Int) = siF (fun k : Nat => isI (fv Po (rv Po 2 k) 0).toInt 0) (fv Po 1 1).toInt.toNat) ∨ (t1.toInt = 2 ∧ (-1002 : Int) = siF (fun k : Nat => isI (fv Po (rv Po 2 k) 0).toInt 1) (fv Po 1 1).toInt.toNat) ∨ (t1.toInt = 3 ∧ (-1002 : Int) = siF (fun k : Nat => isI (fv Po (rv Po 2 k) 2).toInt 1) (fv Po 1 1).toInt.toNat) ∨ (t1.toInt = 4 ∧ (-1002 : Int) = (fv Po 1 2).toInt) ∨ (t1.toInt = 5 ∧ (-1002 : Int) = (fv Po 1 2 - smF (fun k : Nat => wpC Po (rv Po 2 k)) (fv Po 1 1).toInt.toNat).toInt) ∨ (t1.toInt = 6 ∧ (-1002 : Int) = siF (fun k : Nat => pnI (fv Po (rv Po 2 k) 0).toInt (fv Po (rv Po 2 k) 1).toInt) (fv Po 1 1).toInt.toNat) ∨ (t1.toInt = 7 ∧ (-1002 : Int) = siF (fun k : Nat => cntF (fun j : Nat => fv Po (rv Po 2 k + 2) j) 1 (nC (fv Po (rv Po 2 k) 0).toInt (fv Po (rv Po 2 k) 1).toInt)) (fv Po 1 1).toInt.toNat) ∨ (t1.toInt = 8 ∧ (-1002 : Int) = siF (fun k : Nat => cntF (fun j : Nat => fv Po (rv Po 2 k + 2) j) 2 (nC (fv Po (rv Po 2 k) 0).toInt (fv Po (rv Po 2 k) 1).toInt)) (fv Po 1 1).toInt.toNat) ∨ (t1.toInt = 9 ∧ (-1002 : Int) = siF (fun k : Nat => cntF (fun j : Nat => fv Po (rv Po 2 k + 2) j) 0 (nC (fv Po (rv Po 2 k) 0).toInt (fv Po (rv Po 2 k) 1).toInt)) (fv Po 1 1).toInt.toNat) ∨ (t1.toInt = 10 ∧ (-1002 : Int) = (fv Po 1 3).toInt) ∨ (t1.toInt = 11 ∧ (-1002 : Int) = (fv Po 289 1).toInt) ∨ (t1.toInt = 12 ∧ (-1002 : Int) = (fv Po 79 2).toInt) ∨ ((t1.toInt < 0 ∨ 12 < t1.toInt) ∧ (-1002 : Int) = -1002) from by exact Or.inr (Or.inr (Or.inr (Or.inr (Or.inr (Or.inr (Or.inr (Or.inr (Or.inr (Or.inr (Or.inr (Or.inr (Or.inr (⟨by omega, by omega⟩))))))))))))))
    exact mp_iret ⟨⟨_, rfl, u2⟩, rfl⟩ dX6_account_188 (Or.inl rfl)
  · refine mp_t (s_tabIn (t := 68) (off := 67) dX6_account_1 (by omega) (by rw [c1]; rfl) (by decide)) ?_
    refine mp_a (a_aload_n dX6_account_68 rfl) (mpp 69 rfl ?_)
    refine mt_getU (i := 10) (k := 0) (A := 1) hT dX6_account_69 rfl rl_0 (by decide) rfl (by decide) rfl un_31 (mpp 72 rfl ?_)
    have g3 : (0 : Int) ≤ (fv Po 1 1).toInt ∧ (fv Po 1 1).toInt ≤ 8 := Typ.rng hT rl_1 (by decide) (by decide) rfl
    refine mt_getI (i := 87) (k := 1) hT dX6_account_72 rfl rl_1 (by decide) rfl (by decide) rfl (fun g4 g5 => mpp 75 rfl ?_)
    have u6 : accountC Po (fv Po 1 1).toInt t1.toInt := (show (t1.toInt = 0 ∧ (fv Po 1 1).toInt = (fv Po 1 1).toInt) ∨ (t1.toInt = 1 ∧ (fv Po 1 1).toInt = siF (fun k : Nat => isI (fv Po (rv Po 2 k) 0).toInt 0) (fv Po 1 1).toInt.toNat) ∨ (t1.toInt = 2 ∧ (fv Po 1 1).toInt = siF (fun k : Nat => isI (fv Po (rv Po 2 k) 0).toInt 1) (fv Po 1 1).toInt.toNat) ∨ (t1.toInt = 3 ∧ (fv Po 1 1).toInt = siF (fun k : Nat => isI (fv Po (rv Po 2 k) 2).toInt 1) (fv Po 1 1).toInt.toNat) ∨ (t1.toInt = 4 ∧ (fv Po 1 1).toInt = (fv Po 1 2).toInt) ∨ (t1.toInt = 5 ∧ (fv Po 1 1).toInt = (fv Po 1 2 - smF (fun k : Nat => wpC Po (rv Po 2 k)) (fv Po 1 1).toInt.toNat).toInt) ∨ (t1.toInt = 6 ∧ (fv Po 1 1).toInt = siF (fun k : Nat => pnI (fv Po (rv Po 2 k) 0).toInt (fv Po (rv Po 2 k) 1).toInt) (fv Po 1 1).toInt.toNat) ∨ (t1.toInt = 7 ∧ (fv Po 1 1).toInt = siF (fun k : Nat => cntF (fun j : Nat => fv Po (rv Po 2 k + 2) j) 1 (nC (fv Po (rv Po 2 k) 0).toInt (fv Po (rv Po 2 k) 1).toInt)) (fv Po 1 1).toInt.toNat) ∨ (t1.toInt = 8 ∧ (fv Po 1 1).toInt = siF (fun k : Nat => cntF (fun j : Nat => fv Po (rv Po 2 k + 2) j) 2 (nC (fv Po (rv Po 2 k) 0).toInt (fv Po (rv Po 2 k) 1).toInt)) (fv Po 1 1).toInt.toNat) ∨ (t1.toInt = 9 ∧ (fv Po 1 1).toInt = siF (fun k : Nat => cntF (fun j : Nat => fv Po (rv Po 2 k + 2) j) 0 (nC (fv Po (rv Po 2 k) 0).toInt (fv Po (rv Po 2 k) 1).toInt)) (fv Po 1 1).toInt.toNat) ∨ (t1.toInt = 10 ∧ (fv Po 1 1).toInt = (fv Po 1 3).toInt) ∨ (t1.toInt = 11 ∧ (fv Po 1 1).toInt = (fv Po 289 1).toInt) ∨ (t1.toInt = 12 ∧ (fv Po 1 1).toInt = (fv Po 79 2).toInt) ∨ ((t1.toInt < 0 ∨ 12 < t1.toInt) ∧ (fv Po 1 1).toInt = -1002) from by exact Or.inl (⟨by omega, by omega⟩))
    exact mp_iret ⟨⟨_, rfl, u6⟩, rfl⟩ dX6_account_75 (Or.inl rfl)
  · refine mp_t (s_tabIn (t := 76) (off := 75) dX6_account_1 (by omega) (by rw [c1]; rfl) (by decide)) ?_
    refine mp_a (a_aload_n dX6_account_76 rfl) (mpp 77 rfl ?_)
    refine mt_getU (i := 10) (k := 0) (A := 1) hT dX6_account_77 rfl rl_0 (by decide) rfl (by decide) rfl un_31 (mpp 80 rfl ?_)
    refine mp_a (a_iconst (v := 0) dX6_account_80 rfl) (mpp 81 rfl ?_)
    refine mt_callv (i := 252) (q' := q_111) (As := [.int 0]) (rest := []) hT dX6_account_81 rfl qm_111 (by decide) rfl rl_1 (by decide) rfl (Nat.le_of_ble_eq_true rfl) rfl ⟨rfl, rfl⟩ ⟨Nat.le_of_ble_eq_true rfl, Nat.le_of_ble_eq_true rfl⟩ (EvP.mono (by decide) (c_CS_countOfKind_NState hT hX )) (fun r7 P8 g9 => mpp 84 rfl ?_)
    obtain ⟨⟨x10, rfl, g11⟩, e12⟩ := g9
    have e12 := e12.symm
    subst e12
    have wx10 := ti_full x10
    replace g11 : x10.toInt = siF (fun k : Nat => isI (fv Po (rv Po 2 k) 0).toInt (0 : Int)) (fv Po 1 1).toInt.toNat ∧ 0 ≤ x10.toInt ∧ x10.toInt ≤ 8 := g11
    have g13 : (0 : Int) ≤ (fv Po 1 1).toInt ∧ (fv Po 1 1).toInt ≤ 8 := Typ.rng hT rl_1 (by decide) (by decide) rfl
    show MEvP _ none q_110 84 [(0, .ref 0), (1, .int t1)] [.int x10] _ _ _ _
    have u14 : accountC Po x10.toInt t1.toInt := (show (t1.toInt = 0 ∧ x10.toInt = (fv Po 1 1).toInt) ∨ (t1.toInt = 1 ∧ x10.toInt = siF (fun k : Nat => isI (fv Po (rv Po 2 k) 0).toInt 0) (fv Po 1 1).toInt.toNat) ∨ (t1.toInt = 2 ∧ x10.toInt = siF (fun k : Nat => isI (fv Po (rv Po 2 k) 0).toInt 1) (fv Po 1 1).toInt.toNat) ∨ (t1.toInt = 3 ∧ x10.toInt = siF (fun k : Nat => isI (fv Po (rv Po 2 k) 2).toInt 1) (fv Po 1 1).toInt.toNat) ∨ (t1.toInt = 4 ∧ x10.toInt = (fv Po 1 2).toInt) ∨ (t1.toInt = 5 ∧ x10.toInt = (fv Po 1 2 - smF (fun k : Nat => wpC Po (rv Po 2 k)) (fv Po 1 1).toInt.toNat).toInt) ∨ (t1.toInt = 6 ∧ x10.toInt = siF (fun k : Nat => pnI (fv Po (rv Po 2 k) 0).toInt (fv Po (rv Po 2 k) 1).toInt) (fv Po 1 1).toInt.toNat) ∨ (t1.toInt = 7 ∧ x10.toInt = siF (fun k : Nat => cntF (fun j : Nat => fv Po (rv Po 2 k + 2) j) 1 (nC (fv Po (rv Po 2 k) 0).toInt (fv Po (rv Po 2 k) 1).toInt)) (fv Po 1 1).toInt.toNat) ∨ (t1.toInt = 8 ∧ x10.toInt = siF (fun k : Nat => cntF (fun j : Nat => fv Po (rv Po 2 k + 2) j) 2 (nC (fv Po (rv Po 2 k) 0).toInt (fv Po (rv Po 2 k) 1).toInt)) (fv Po 1 1).toInt.toNat) ∨ (t1.toInt = 9 ∧ x10.toInt = siF (fun k : Nat => cntF (fun j : Nat => fv Po (rv Po 2 k + 2) j) 0 (nC (fv Po (rv Po 2 k) 0).toInt (fv Po (rv Po 2 k) 1).toInt)) (fv Po 1 1).toInt.toNat) ∨ (t1.toInt = 10 ∧ x10.toInt = (fv Po 1 3).toInt) ∨ (t1.toInt = 11 ∧ x10.toInt = (fv Po 289 1).toInt) ∨ (t1.toInt = 12 ∧ x10.toInt = (fv Po 79 2).toInt) ∨ ((t1.toInt < 0 ∨ 12 < t1.toInt) ∧ x10.toInt = -1002) from by exact Or.inr (Or.inl (⟨by omega, g11.1⟩)))
    exact mp_iret ⟨⟨_, rfl, u14⟩, rfl⟩ dX6_account_84 (Or.inl rfl)
  · refine mp_t (s_tabIn (t := 85) (off := 84) dX6_account_1 (by omega) (by rw [c1]; rfl) (by decide)) ?_
    refine mp_a (a_aload_n dX6_account_85 rfl) (mpp 86 rfl ?_)
    refine mt_getU (i := 10) (k := 0) (A := 1) hT dX6_account_86 rfl rl_0 (by decide) rfl (by decide) rfl un_31 (mpp 89 rfl ?_)
    refine mp_a (a_iconst (v := 1) dX6_account_89 rfl) (mpp 90 rfl ?_)
    refine mt_callv (i := 252) (q' := q_111) (As := [.int 1]) (rest := []) hT dX6_account_90 rfl qm_111 (by decide) rfl rl_1 (by decide) rfl (Nat.le_of_ble_eq_true rfl) rfl ⟨rfl, rfl⟩ ⟨Nat.le_of_ble_eq_true rfl, Nat.le_of_ble_eq_true rfl⟩ (EvP.mono (by decide) (c_CS_countOfKind_NState hT hX )) (fun r15 P16 g17 => mpp 93 rfl ?_)
    obtain ⟨⟨x18, rfl, g19⟩, e20⟩ := g17
    have e20 := e20.symm
    subst e20
    have wx18 := ti_full x18
    replace g19 : x18.toInt = siF (fun k : Nat => isI (fv Po (rv Po 2 k) 0).toInt (1 : Int)) (fv Po 1 1).toInt.toNat ∧ 0 ≤ x18.toInt ∧ x18.toInt ≤ 8 := g19
    have g21 : (0 : Int) ≤ (fv Po 1 1).toInt ∧ (fv Po 1 1).toInt ≤ 8 := Typ.rng hT rl_1 (by decide) (by decide) rfl
    show MEvP _ none q_110 93 [(0, .ref 0), (1, .int t1)] [.int x18] _ _ _ _
    have u22 : accountC Po x18.toInt t1.toInt := (show (t1.toInt = 0 ∧ x18.toInt = (fv Po 1 1).toInt) ∨ (t1.toInt = 1 ∧ x18.toInt = siF (fun k : Nat => isI (fv Po (rv Po 2 k) 0).toInt 0) (fv Po 1 1).toInt.toNat) ∨ (t1.toInt = 2 ∧ x18.toInt = siF (fun k : Nat => isI (fv Po (rv Po 2 k) 0).toInt 1) (fv Po 1 1).toInt.toNat) ∨ (t1.toInt = 3 ∧ x18.toInt = siF (fun k : Nat => isI (fv Po (rv Po 2 k) 2).toInt 1) (fv Po 1 1).toInt.toNat) ∨ (t1.toInt = 4 ∧ x18.toInt = (fv Po 1 2).toInt) ∨ (t1.toInt = 5 ∧ x18.toInt = (fv Po 1 2 - smF (fun k : Nat => wpC Po (rv Po 2 k)) (fv Po 1 1).toInt.toNat).toInt) ∨ (t1.toInt = 6 ∧ x18.toInt = siF (fun k : Nat => pnI (fv Po (rv Po 2 k) 0).toInt (fv Po (rv Po 2 k) 1).toInt) (fv Po 1 1).toInt.toNat) ∨ (t1.toInt = 7 ∧ x18.toInt = siF (fun k : Nat => cntF (fun j : Nat => fv Po (rv Po 2 k + 2) j) 1 (nC (fv Po (rv Po 2 k) 0).toInt (fv Po (rv Po 2 k) 1).toInt)) (fv Po 1 1).toInt.toNat) ∨ (t1.toInt = 8 ∧ x18.toInt = siF (fun k : Nat => cntF (fun j : Nat => fv Po (rv Po 2 k + 2) j) 2 (nC (fv Po (rv Po 2 k) 0).toInt (fv Po (rv Po 2 k) 1).toInt)) (fv Po 1 1).toInt.toNat) ∨ (t1.toInt = 9 ∧ x18.toInt = siF (fun k : Nat => cntF (fun j : Nat => fv Po (rv Po 2 k + 2) j) 0 (nC (fv Po (rv Po 2 k) 0).toInt (fv Po (rv Po 2 k) 1).toInt)) (fv Po 1 1).toInt.toNat) ∨ (t1.toInt = 10 ∧ x18.toInt = (fv Po 1 3).toInt) ∨ (t1.toInt = 11 ∧ x18.toInt = (fv Po 289 1).toInt) ∨ (t1.toInt = 12 ∧ x18.toInt = (fv Po 79 2).toInt) ∨ ((t1.toInt < 0 ∨ 12 < t1.toInt) ∧ x18.toInt = -1002) from by exact Or.inr (Or.inr (Or.inl (⟨by omega, g19.1⟩))))
    exact mp_iret ⟨⟨_, rfl, u22⟩, rfl⟩ dX6_account_93 (Or.inl rfl)
  · refine mp_t (s_tabIn (t := 94) (off := 93) dX6_account_1 (by omega) (by rw [c1]; rfl) (by decide)) ?_
    refine mp_a (a_aload_n dX6_account_94 rfl) (mpp 95 rfl ?_)
    refine mt_getU (i := 10) (k := 0) (A := 1) hT dX6_account_95 rfl rl_0 (by decide) rfl (by decide) rfl un_31 (mpp 98 rfl ?_)
    refine mt_callv (i := 255) (q' := q_112) (As := []) (rest := []) hT dX6_account_98 rfl qm_112 (by decide) rfl rl_1 (by decide) rfl (Nat.le_of_ble_eq_true rfl) rfl ⟨rfl, rfl⟩ ⟨Nat.le_of_ble_eq_true rfl, Nat.le_of_ble_eq_true rfl⟩ (EvP.mono (by decide) (c_CS_foldedCount_NState hT hX )) (fun r23 P24 g25 => mpp 101 rfl ?_)
    obtain ⟨⟨x26, rfl, g27⟩, e28⟩ := g25
    have e28 := e28.symm
    subst e28
    have wx26 := ti_full x26
    replace g27 : x26.toInt = siF (fun k : Nat => isI (fv Po (rv Po 2 k) 2).toInt 1) (fv Po 1 1).toInt.toNat ∧ 0 ≤ x26.toInt ∧ x26.toInt ≤ 8 := g27
    have g29 : (0 : Int) ≤ (fv Po 1 1).toInt ∧ (fv Po 1 1).toInt ≤ 8 := Typ.rng hT rl_1 (by decide) (by decide) rfl
    show MEvP _ none q_110 101 [(0, .ref 0), (1, .int t1)] [.int x26] _ _ _ _
    have u30 : accountC Po x26.toInt t1.toInt := (show (t1.toInt = 0 ∧ x26.toInt = (fv Po 1 1).toInt) ∨ (t1.toInt = 1 ∧ x26.toInt = siF (fun k : Nat => isI (fv Po (rv Po 2 k) 0).toInt 0) (fv Po 1 1).toInt.toNat) ∨ (t1.toInt = 2 ∧ x26.toInt = siF (fun k : Nat => isI (fv Po (rv Po 2 k) 0).toInt 1) (fv Po 1 1).toInt.toNat) ∨ (t1.toInt = 3 ∧ x26.toInt = siF (fun k : Nat => isI (fv Po (rv Po 2 k) 2).toInt 1) (fv Po 1 1).toInt.toNat) ∨ (t1.toInt = 4 ∧ x26.toInt = (fv Po 1 2).toInt) ∨ (t1.toInt = 5 ∧ x26.toInt = (fv Po 1 2 - smF (fun k : Nat => wpC Po (rv Po 2 k)) (fv Po 1 1).toInt.toNat).toInt) ∨ (t1.toInt = 6 ∧ x26.toInt = siF (fun k : Nat => pnI (fv Po (rv Po 2 k) 0).toInt (fv Po (rv Po 2 k) 1).toInt) (fv Po 1 1).toInt.toNat) ∨ (t1.toInt = 7 ∧ x26.toInt = siF (fun k : Nat => cntF (fun j : Nat => fv Po (rv Po 2 k + 2) j) 1 (nC (fv Po (rv Po 2 k) 0).toInt (fv Po (rv Po 2 k) 1).toInt)) (fv Po 1 1).toInt.toNat) ∨ (t1.toInt = 8 ∧ x26.toInt = siF (fun k : Nat => cntF (fun j : Nat => fv Po (rv Po 2 k + 2) j) 2 (nC (fv Po (rv Po 2 k) 0).toInt (fv Po (rv Po 2 k) 1).toInt)) (fv Po 1 1).toInt.toNat) ∨ (t1.toInt = 9 ∧ x26.toInt = siF (fun k : Nat => cntF (fun j : Nat => fv Po (rv Po 2 k + 2) j) 0 (nC (fv Po (rv Po 2 k) 0).toInt (fv Po (rv Po 2 k) 1).toInt)) (fv Po 1 1).toInt.toNat) ∨ (t1.toInt = 10 ∧ x26.toInt = (fv Po 1 3).toInt) ∨ (t1.toInt = 11 ∧ x26.toInt = (fv Po 289 1).toInt) ∨ (t1.toInt = 12 ∧ x26.toInt = (fv Po 79 2).toInt) ∨ ((t1.toInt < 0 ∨ 12 < t1.toInt) ∧ x26.toInt = -1002) from by exact Or.inr (Or.inr (Or.inr (Or.inl (⟨by omega, g27.1⟩)))))
    exact mp_iret ⟨⟨_, rfl, u30⟩, rfl⟩ dX6_account_101 (Or.inl rfl)
  · refine mp_t (s_tabIn (t := 102) (off := 101) dX6_account_1 (by omega) (by rw [c1]; rfl) (by decide)) ?_
    refine mp_a (a_aload_n dX6_account_102 rfl) (mpp 103 rfl ?_)
    refine mt_getU (i := 10) (k := 0) (A := 1) hT dX6_account_103 rfl rl_0 (by decide) rfl (by decide) rfl un_31 (mpp 106 rfl ?_)
    have g31 := ti_full (fv Po 1 2)
    refine mt_getI (i := 76) (k := 2) hT dX6_account_106 rfl rl_1 (by decide) rfl (by decide) rfl (fun g32 g33 => mpp 109 rfl ?_)
    have u34 : accountC Po (fv Po 1 2).toInt t1.toInt := (show (t1.toInt = 0 ∧ (fv Po 1 2).toInt = (fv Po 1 1).toInt) ∨ (t1.toInt = 1 ∧ (fv Po 1 2).toInt = siF (fun k : Nat => isI (fv Po (rv Po 2 k) 0).toInt 0) (fv Po 1 1).toInt.toNat) ∨ (t1.toInt = 2 ∧ (fv Po 1 2).toInt = siF (fun k : Nat => isI (fv Po (rv Po 2 k) 0).toInt 1) (fv Po 1 1).toInt.toNat) ∨ (t1.toInt = 3 ∧ (fv Po 1 2).toInt = siF (fun k : Nat => isI (fv Po (rv Po 2 k) 2).toInt 1) (fv Po 1 1).toInt.toNat) ∨ (t1.toInt = 4 ∧ (fv Po 1 2).toInt = (fv Po 1 2).toInt) ∨ (t1.toInt = 5 ∧ (fv Po 1 2).toInt = (fv Po 1 2 - smF (fun k : Nat => wpC Po (rv Po 2 k)) (fv Po 1 1).toInt.toNat).toInt) ∨ (t1.toInt = 6 ∧ (fv Po 1 2).toInt = siF (fun k : Nat => pnI (fv Po (rv Po 2 k) 0).toInt (fv Po (rv Po 2 k) 1).toInt) (fv Po 1 1).toInt.toNat) ∨ (t1.toInt = 7 ∧ (fv Po 1 2).toInt = siF (fun k : Nat => cntF (fun j : Nat => fv Po (rv Po 2 k + 2) j) 1 (nC (fv Po (rv Po 2 k) 0).toInt (fv Po (rv Po 2 k) 1).toInt)) (fv Po 1 1).toInt.toNat) ∨ (t1.toInt = 8 ∧ (fv Po 1 2).toInt = siF (fun k : Nat => cntF (fun j : Nat => fv Po (rv Po 2 k + 2) j) 2 (nC (fv Po (rv Po 2 k) 0).toInt (fv Po (rv Po 2 k) 1).toInt)) (fv Po 1 1).toInt.toNat) ∨ (t1.toInt = 9 ∧ (fv Po 1 2).toInt = siF (fun k : Nat => cntF (fun j : Nat => fv Po (rv Po 2 k + 2) j) 0 (nC (fv Po (rv Po 2 k) 0).toInt (fv Po (rv Po 2 k) 1).toInt)) (fv Po 1 1).toInt.toNat) ∨ (t1.toInt = 10 ∧ (fv Po 1 2).toInt = (fv Po 1 3).toInt) ∨ (t1.toInt = 11 ∧ (fv Po 1 2).toInt = (fv Po 289 1).toInt) ∨ (t1.toInt = 12 ∧ (fv Po 1 2).toInt = (fv Po 79 2).toInt) ∨ ((t1.toInt < 0 ∨ 12 < t1.toInt) ∧ (fv Po 1 2).toInt = -1002) from by exact Or.inr (Or.inr (Or.inr (Or.inr (Or.inl (⟨by omega, by omega⟩))))))
    exact mp_iret ⟨⟨_, rfl, u34⟩, rfl⟩ dX6_account_109 (Or.inl rfl)
  · refine mp_t (s_tabIn (t := 110) (off := 109) dX6_account_1 (by omega) (by rw [c1]; rfl) (by decide)) ?_
    refine mp_a (a_aload_n dX6_account_110 rfl) (mpp 111 rfl ?_)
    refine mt_getU (i := 10) (k := 0) (A := 1) hT dX6_account_111 rfl rl_0 (by decide) rfl (by decide) rfl un_31 (mpp 114 rfl ?_)
    have g35 := ti_full (fv Po 1 2)
    refine mt_getI (i := 76) (k := 2) hT dX6_account_114 rfl rl_1 (by decide) rfl (by decide) rfl (fun g36 g37 => mpp 117 rfl ?_)
    refine mp_a (a_aload_n dX6_account_117 rfl) (mpp 118 rfl ?_)
    refine mt_getU (i := 10) (k := 0) (A := 1) hT dX6_account_118 rfl rl_0 (by decide) rfl (by decide) rfl un_31 (mpp 121 rfl ?_)
    refine mt_callv (i := 64) (q' := q_8) (As := []) (rest := [.int (fv Po 1 2)]) hT dX6_account_121 rfl qm_8 (by decide) rfl rl_1 (by decide) rfl (Nat.le_of_ble_eq_true rfl) rfl ⟨rfl, rfl⟩ ⟨Nat.le_of_ble_eq_true rfl, Nat.le_of_ble_eq_true rfl⟩ (EvP.mono (by decide) (c_CS_occupied_NState hT hX )) (fun r38 P39 g40 => mpp 124 rfl ?_)
    obtain ⟨⟨x41, rfl, g42⟩, e43⟩ := g40
    have e43 := e43.symm
    subst e43
    have wx41 := ti_full x41
    replace g42 : x41.toInt = (smF (fun k : Nat => wpC Po (rv Po 2 k)) (fv Po 1 1).toInt.toNat).toInt := g42
    have g44 : (0 : Int) ≤ (fv Po 1 1).toInt ∧ (fv Po 1 1).toInt ≤ 8 := Typ.rng hT rl_1 (by decide) (by decide) rfl
    show MEvP _ none q_110 124 [(0, .ref 0), (1, .int t1)] [.int x41, .int (fv Po 1 2)] _ _ _ _
    obtain ⟨z45, h46⟩ := ti_ex ((fv Po 1 2) - x41 : Int32)
    have wz45 := ti_full z45
    refine mp_t (s_isub (v := z45) dX6_account_124 h46) (mpp 125 rfl ?_)
    try have e47 : z45.toInt = (fv Po 1 2).toInt - x41.toInt := ti_subz h46 rfl rfl (by omega) (by omega)
    have u48 : accountC Po z45.toInt t1.toInt := (show (t1.toInt = 0 ∧ z45.toInt = (fv Po 1 1).toInt) ∨ (t1.toInt = 1 ∧ z45.toInt = siF (fun k : Nat => isI (fv Po (rv Po 2 k) 0).toInt 0) (fv Po 1 1).toInt.toNat) ∨ (t1.toInt = 2 ∧ z45.toInt = siF (fun k : Nat => isI (fv Po (rv Po 2 k) 0).toInt 1) (fv Po 1 1).toInt.toNat) ∨ (t1.toInt = 3 ∧ z45.toInt = siF (fun k : Nat => isI (fv Po (rv Po 2 k) 2).toInt 1) (fv Po 1 1).toInt.toNat) ∨ (t1.toInt = 4 ∧ z45.toInt = (fv Po 1 2).toInt) ∨ (t1.toInt = 5 ∧ z45.toInt = (fv Po 1 2 - smF (fun k : Nat => wpC Po (rv Po 2 k)) (fv Po 1 1).toInt.toNat).toInt) ∨ (t1.toInt = 6 ∧ z45.toInt = siF (fun k : Nat => pnI (fv Po (rv Po 2 k) 0).toInt (fv Po (rv Po 2 k) 1).toInt) (fv Po 1 1).toInt.toNat) ∨ (t1.toInt = 7 ∧ z45.toInt = siF (fun k : Nat => cntF (fun j : Nat => fv Po (rv Po 2 k + 2) j) 1 (nC (fv Po (rv Po 2 k) 0).toInt (fv Po (rv Po 2 k) 1).toInt)) (fv Po 1 1).toInt.toNat) ∨ (t1.toInt = 8 ∧ z45.toInt = siF (fun k : Nat => cntF (fun j : Nat => fv Po (rv Po 2 k + 2) j) 2 (nC (fv Po (rv Po 2 k) 0).toInt (fv Po (rv Po 2 k) 1).toInt)) (fv Po 1 1).toInt.toNat) ∨ (t1.toInt = 9 ∧ z45.toInt = siF (fun k : Nat => cntF (fun j : Nat => fv Po (rv Po 2 k + 2) j) 0 (nC (fv Po (rv Po 2 k) 0).toInt (fv Po (rv Po 2 k) 1).toInt)) (fv Po 1 1).toInt.toNat) ∨ (t1.toInt = 10 ∧ z45.toInt = (fv Po 1 3).toInt) ∨ (t1.toInt = 11 ∧ z45.toInt = (fv Po 289 1).toInt) ∨ (t1.toInt = 12 ∧ z45.toInt = (fv Po 79 2).toInt) ∨ ((t1.toInt < 0 ∨ 12 < t1.toInt) ∧ z45.toInt = -1002) from by exact Or.inr (Or.inr (Or.inr (Or.inr (Or.inr (Or.inl (⟨by omega, by rw [← h46, Int32.toInt_inj.mp g42]⟩)))))))
    exact mp_iret ⟨⟨_, rfl, u48⟩, rfl⟩ dX6_account_125 (Or.inl rfl)
  · refine mp_t (s_tabIn (t := 126) (off := 125) dX6_account_1 (by omega) (by rw [c1]; rfl) (by decide)) ?_
    refine mp_a (a_aload_n dX6_account_126 rfl) (mpp 127 rfl ?_)
    refine mt_getU (i := 10) (k := 0) (A := 1) hT dX6_account_127 rfl rl_0 (by decide) rfl (by decide) rfl un_31 (mpp 130 rfl ?_)
    refine mt_callv (i := 258) (q' := q_113) (As := []) (rest := []) hT dX6_account_130 rfl qm_113 (by decide) rfl rl_1 (by decide) rfl (Nat.le_of_ble_eq_true rfl) rfl ⟨rfl, rfl⟩ ⟨Nat.le_of_ble_eq_true rfl, Nat.le_of_ble_eq_true rfl⟩ (EvP.mono (by decide) (c_CS_panelCount_NState hT hX )) (fun r49 P50 g51 => mpp 133 rfl ?_)
    obtain ⟨⟨x52, rfl, g53⟩, e54⟩ := g51
    have e54 := e54.symm
    subst e54
    have wx52 := ti_full x52
    replace g53 : x52.toInt = siF (fun k : Nat => pnI (fv Po (rv Po 2 k) 0).toInt (fv Po (rv Po 2 k) 1).toInt) (fv Po 1 1).toInt.toNat ∧ 0 ≤ x52.toInt ∧ x52.toInt ≤ 64 := g53
    have g55 : (0 : Int) ≤ (fv Po 1 1).toInt ∧ (fv Po 1 1).toInt ≤ 8 := Typ.rng hT rl_1 (by decide) (by decide) rfl
    show MEvP _ none q_110 133 [(0, .ref 0), (1, .int t1)] [.int x52] _ _ _ _
    have u56 : accountC Po x52.toInt t1.toInt := (show (t1.toInt = 0 ∧ x52.toInt = (fv Po 1 1).toInt) ∨ (t1.toInt = 1 ∧ x52.toInt = siF (fun k : Nat => isI (fv Po (rv Po 2 k) 0).toInt 0) (fv Po 1 1).toInt.toNat) ∨ (t1.toInt = 2 ∧ x52.toInt = siF (fun k : Nat => isI (fv Po (rv Po 2 k) 0).toInt 1) (fv Po 1 1).toInt.toNat) ∨ (t1.toInt = 3 ∧ x52.toInt = siF (fun k : Nat => isI (fv Po (rv Po 2 k) 2).toInt 1) (fv Po 1 1).toInt.toNat) ∨ (t1.toInt = 4 ∧ x52.toInt = (fv Po 1 2).toInt) ∨ (t1.toInt = 5 ∧ x52.toInt = (fv Po 1 2 - smF (fun k : Nat => wpC Po (rv Po 2 k)) (fv Po 1 1).toInt.toNat).toInt) ∨ (t1.toInt = 6 ∧ x52.toInt = siF (fun k : Nat => pnI (fv Po (rv Po 2 k) 0).toInt (fv Po (rv Po 2 k) 1).toInt) (fv Po 1 1).toInt.toNat) ∨ (t1.toInt = 7 ∧ x52.toInt = siF (fun k : Nat => cntF (fun j : Nat => fv Po (rv Po 2 k + 2) j) 1 (nC (fv Po (rv Po 2 k) 0).toInt (fv Po (rv Po 2 k) 1).toInt)) (fv Po 1 1).toInt.toNat) ∨ (t1.toInt = 8 ∧ x52.toInt = siF (fun k : Nat => cntF (fun j : Nat => fv Po (rv Po 2 k + 2) j) 2 (nC (fv Po (rv Po 2 k) 0).toInt (fv Po (rv Po 2 k) 1).toInt)) (fv Po 1 1).toInt.toNat) ∨ (t1.toInt = 9 ∧ x52.toInt = siF (fun k : Nat => cntF (fun j : Nat => fv Po (rv Po 2 k + 2) j) 0 (nC (fv Po (rv Po 2 k) 0).toInt (fv Po (rv Po 2 k) 1).toInt)) (fv Po 1 1).toInt.toNat) ∨ (t1.toInt = 10 ∧ x52.toInt = (fv Po 1 3).toInt) ∨ (t1.toInt = 11 ∧ x52.toInt = (fv Po 289 1).toInt) ∨ (t1.toInt = 12 ∧ x52.toInt = (fv Po 79 2).toInt) ∨ ((t1.toInt < 0 ∨ 12 < t1.toInt) ∧ x52.toInt = -1002) from by exact Or.inr (Or.inr (Or.inr (Or.inr (Or.inr (Or.inr (Or.inl (⟨by omega, g53.1⟩))))))))
    exact mp_iret ⟨⟨_, rfl, u56⟩, rfl⟩ dX6_account_133 (Or.inl rfl)
  · refine mp_t (s_tabIn (t := 134) (off := 133) dX6_account_1 (by omega) (by rw [c1]; rfl) (by decide)) ?_
    refine mp_a (a_aload_n dX6_account_134 rfl) (mpp 135 rfl ?_)
    refine mt_getU (i := 10) (k := 0) (A := 1) hT dX6_account_135 rfl rl_0 (by decide) rfl (by decide) rfl un_31 (mpp 138 rfl ?_)
    refine mp_a (a_iconst (v := 1) dX6_account_138 rfl) (mpp 139 rfl ?_)
    refine mt_callv (i := 261) (q' := q_114) (As := [.int 1]) (rest := []) hT dX6_account_139 rfl qm_114 (by decide) rfl rl_1 (by decide) rfl (Nat.le_of_ble_eq_true rfl) rfl ⟨rfl, rfl⟩ ⟨Nat.le_of_ble_eq_true rfl, Nat.le_of_ble_eq_true rfl⟩ (EvP.mono (by decide) (c_CS_creasesOf_NState hT hX )) (fun r57 P58 g59 => mpp 142 rfl ?_)
    obtain ⟨⟨x60, rfl, g61⟩, e62⟩ := g59
    have e62 := e62.symm
    subst e62
    have wx60 := ti_full x60
    replace g61 : 0 ≤ x60.toInt ∧ x60.toInt ≤ 64 ∧ x60.toInt = siF (fun k : Nat => cntF (fun j : Nat => fv Po (rv Po 2 k + 2) j) (1 : Int) (nC (fv Po (rv Po 2 k) 0).toInt (fv Po (rv Po 2 k) 1).toInt)) (fv Po 1 1).toInt.toNat := g61
    have g63 : (0 : Int) ≤ (fv Po 1 1).toInt ∧ (fv Po 1 1).toInt ≤ 8 := Typ.rng hT rl_1 (by decide) (by decide) rfl
    show MEvP _ none q_110 142 [(0, .ref 0), (1, .int t1)] [.int x60] _ _ _ _
    have u64 : accountC Po x60.toInt t1.toInt := (show (t1.toInt = 0 ∧ x60.toInt = (fv Po 1 1).toInt) ∨ (t1.toInt = 1 ∧ x60.toInt = siF (fun k : Nat => isI (fv Po (rv Po 2 k) 0).toInt 0) (fv Po 1 1).toInt.toNat) ∨ (t1.toInt = 2 ∧ x60.toInt = siF (fun k : Nat => isI (fv Po (rv Po 2 k) 0).toInt 1) (fv Po 1 1).toInt.toNat) ∨ (t1.toInt = 3 ∧ x60.toInt = siF (fun k : Nat => isI (fv Po (rv Po 2 k) 2).toInt 1) (fv Po 1 1).toInt.toNat) ∨ (t1.toInt = 4 ∧ x60.toInt = (fv Po 1 2).toInt) ∨ (t1.toInt = 5 ∧ x60.toInt = (fv Po 1 2 - smF (fun k : Nat => wpC Po (rv Po 2 k)) (fv Po 1 1).toInt.toNat).toInt) ∨ (t1.toInt = 6 ∧ x60.toInt = siF (fun k : Nat => pnI (fv Po (rv Po 2 k) 0).toInt (fv Po (rv Po 2 k) 1).toInt) (fv Po 1 1).toInt.toNat) ∨ (t1.toInt = 7 ∧ x60.toInt = siF (fun k : Nat => cntF (fun j : Nat => fv Po (rv Po 2 k + 2) j) 1 (nC (fv Po (rv Po 2 k) 0).toInt (fv Po (rv Po 2 k) 1).toInt)) (fv Po 1 1).toInt.toNat) ∨ (t1.toInt = 8 ∧ x60.toInt = siF (fun k : Nat => cntF (fun j : Nat => fv Po (rv Po 2 k + 2) j) 2 (nC (fv Po (rv Po 2 k) 0).toInt (fv Po (rv Po 2 k) 1).toInt)) (fv Po 1 1).toInt.toNat) ∨ (t1.toInt = 9 ∧ x60.toInt = siF (fun k : Nat => cntF (fun j : Nat => fv Po (rv Po 2 k + 2) j) 0 (nC (fv Po (rv Po 2 k) 0).toInt (fv Po (rv Po 2 k) 1).toInt)) (fv Po 1 1).toInt.toNat) ∨ (t1.toInt = 10 ∧ x60.toInt = (fv Po 1 3).toInt) ∨ (t1.toInt = 11 ∧ x60.toInt = (fv Po 289 1).toInt) ∨ (t1.toInt = 12 ∧ x60.toInt = (fv Po 79 2).toInt) ∨ ((t1.toInt < 0 ∨ 12 < t1.toInt) ∧ x60.toInt = -1002) from by exact Or.inr (Or.inr (Or.inr (Or.inr (Or.inr (Or.inr (Or.inr (Or.inl (⟨by omega, g61.2.2⟩)))))))))
    exact mp_iret ⟨⟨_, rfl, u64⟩, rfl⟩ dX6_account_142 (Or.inl rfl)
  · refine mp_t (s_tabIn (t := 143) (off := 142) dX6_account_1 (by omega) (by rw [c1]; rfl) (by decide)) ?_
    refine mp_a (a_aload_n dX6_account_143 rfl) (mpp 144 rfl ?_)
    refine mt_getU (i := 10) (k := 0) (A := 1) hT dX6_account_144 rfl rl_0 (by decide) rfl (by decide) rfl un_31 (mpp 147 rfl ?_)
    refine mp_a (a_iconst (v := 2) dX6_account_147 rfl) (mpp 148 rfl ?_)
    refine mt_callv (i := 261) (q' := q_114) (As := [.int 2]) (rest := []) hT dX6_account_148 rfl qm_114 (by decide) rfl rl_1 (by decide) rfl (Nat.le_of_ble_eq_true rfl) rfl ⟨rfl, rfl⟩ ⟨Nat.le_of_ble_eq_true rfl, Nat.le_of_ble_eq_true rfl⟩ (EvP.mono (by decide) (c_CS_creasesOf_NState hT hX )) (fun r65 P66 g67 => mpp 151 rfl ?_)
    obtain ⟨⟨x68, rfl, g69⟩, e70⟩ := g67
    have e70 := e70.symm
    subst e70
    have wx68 := ti_full x68
    replace g69 : 0 ≤ x68.toInt ∧ x68.toInt ≤ 64 ∧ x68.toInt = siF (fun k : Nat => cntF (fun j : Nat => fv Po (rv Po 2 k + 2) j) (2 : Int) (nC (fv Po (rv Po 2 k) 0).toInt (fv Po (rv Po 2 k) 1).toInt)) (fv Po 1 1).toInt.toNat := g69
    have g71 : (0 : Int) ≤ (fv Po 1 1).toInt ∧ (fv Po 1 1).toInt ≤ 8 := Typ.rng hT rl_1 (by decide) (by decide) rfl
    show MEvP _ none q_110 151 [(0, .ref 0), (1, .int t1)] [.int x68] _ _ _ _
    have u72 : accountC Po x68.toInt t1.toInt := (show (t1.toInt = 0 ∧ x68.toInt = (fv Po 1 1).toInt) ∨ (t1.toInt = 1 ∧ x68.toInt = siF (fun k : Nat => isI (fv Po (rv Po 2 k) 0).toInt 0) (fv Po 1 1).toInt.toNat) ∨ (t1.toInt = 2 ∧ x68.toInt = siF (fun k : Nat => isI (fv Po (rv Po 2 k) 0).toInt 1) (fv Po 1 1).toInt.toNat) ∨ (t1.toInt = 3 ∧ x68.toInt = siF (fun k : Nat => isI (fv Po (rv Po 2 k) 2).toInt 1) (fv Po 1 1).toInt.toNat) ∨ (t1.toInt = 4 ∧ x68.toInt = (fv Po 1 2).toInt) ∨ (t1.toInt = 5 ∧ x68.toInt = (fv Po 1 2 - smF (fun k : Nat => wpC Po (rv Po 2 k)) (fv Po 1 1).toInt.toNat).toInt) ∨ (t1.toInt = 6 ∧ x68.toInt = siF (fun k : Nat => pnI (fv Po (rv Po 2 k) 0).toInt (fv Po (rv Po 2 k) 1).toInt) (fv Po 1 1).toInt.toNat) ∨ (t1.toInt = 7 ∧ x68.toInt = siF (fun k : Nat => cntF (fun j : Nat => fv Po (rv Po 2 k + 2) j) 1 (nC (fv Po (rv Po 2 k) 0).toInt (fv Po (rv Po 2 k) 1).toInt)) (fv Po 1 1).toInt.toNat) ∨ (t1.toInt = 8 ∧ x68.toInt = siF (fun k : Nat => cntF (fun j : Nat => fv Po (rv Po 2 k + 2) j) 2 (nC (fv Po (rv Po 2 k) 0).toInt (fv Po (rv Po 2 k) 1).toInt)) (fv Po 1 1).toInt.toNat) ∨ (t1.toInt = 9 ∧ x68.toInt = siF (fun k : Nat => cntF (fun j : Nat => fv Po (rv Po 2 k + 2) j) 0 (nC (fv Po (rv Po 2 k) 0).toInt (fv Po (rv Po 2 k) 1).toInt)) (fv Po 1 1).toInt.toNat) ∨ (t1.toInt = 10 ∧ x68.toInt = (fv Po 1 3).toInt) ∨ (t1.toInt = 11 ∧ x68.toInt = (fv Po 289 1).toInt) ∨ (t1.toInt = 12 ∧ x68.toInt = (fv Po 79 2).toInt) ∨ ((t1.toInt < 0 ∨ 12 < t1.toInt) ∧ x68.toInt = -1002) from by exact Or.inr (Or.inr (Or.inr (Or.inr (Or.inr (Or.inr (Or.inr (Or.inr (Or.inl (⟨by omega, g69.2.2⟩))))))))))
    exact mp_iret ⟨⟨_, rfl, u72⟩, rfl⟩ dX6_account_151 (Or.inl rfl)
  · refine mp_t (s_tabIn (t := 152) (off := 151) dX6_account_1 (by omega) (by rw [c1]; rfl) (by decide)) ?_
    refine mp_a (a_aload_n dX6_account_152 rfl) (mpp 153 rfl ?_)
    refine mt_getU (i := 10) (k := 0) (A := 1) hT dX6_account_153 rfl rl_0 (by decide) rfl (by decide) rfl un_31 (mpp 156 rfl ?_)
    refine mp_a (a_iconst (v := 0) dX6_account_156 rfl) (mpp 157 rfl ?_)
    refine mt_callv (i := 261) (q' := q_114) (As := [.int 0]) (rest := []) hT dX6_account_157 rfl qm_114 (by decide) rfl rl_1 (by decide) rfl (Nat.le_of_ble_eq_true rfl) rfl ⟨rfl, rfl⟩ ⟨Nat.le_of_ble_eq_true rfl, Nat.le_of_ble_eq_true rfl⟩ (EvP.mono (by decide) (c_CS_creasesOf_NState hT hX )) (fun r73 P74 g75 => mpp 160 rfl ?_)
    obtain ⟨⟨x76, rfl, g77⟩, e78⟩ := g75
    have e78 := e78.symm
    subst e78
    have wx76 := ti_full x76
    replace g77 : 0 ≤ x76.toInt ∧ x76.toInt ≤ 64 ∧ x76.toInt = siF (fun k : Nat => cntF (fun j : Nat => fv Po (rv Po 2 k + 2) j) (0 : Int) (nC (fv Po (rv Po 2 k) 0).toInt (fv Po (rv Po 2 k) 1).toInt)) (fv Po 1 1).toInt.toNat := g77
    have g79 : (0 : Int) ≤ (fv Po 1 1).toInt ∧ (fv Po 1 1).toInt ≤ 8 := Typ.rng hT rl_1 (by decide) (by decide) rfl
    show MEvP _ none q_110 160 [(0, .ref 0), (1, .int t1)] [.int x76] _ _ _ _
    have u80 : accountC Po x76.toInt t1.toInt := (show (t1.toInt = 0 ∧ x76.toInt = (fv Po 1 1).toInt) ∨ (t1.toInt = 1 ∧ x76.toInt = siF (fun k : Nat => isI (fv Po (rv Po 2 k) 0).toInt 0) (fv Po 1 1).toInt.toNat) ∨ (t1.toInt = 2 ∧ x76.toInt = siF (fun k : Nat => isI (fv Po (rv Po 2 k) 0).toInt 1) (fv Po 1 1).toInt.toNat) ∨ (t1.toInt = 3 ∧ x76.toInt = siF (fun k : Nat => isI (fv Po (rv Po 2 k) 2).toInt 1) (fv Po 1 1).toInt.toNat) ∨ (t1.toInt = 4 ∧ x76.toInt = (fv Po 1 2).toInt) ∨ (t1.toInt = 5 ∧ x76.toInt = (fv Po 1 2 - smF (fun k : Nat => wpC Po (rv Po 2 k)) (fv Po 1 1).toInt.toNat).toInt) ∨ (t1.toInt = 6 ∧ x76.toInt = siF (fun k : Nat => pnI (fv Po (rv Po 2 k) 0).toInt (fv Po (rv Po 2 k) 1).toInt) (fv Po 1 1).toInt.toNat) ∨ (t1.toInt = 7 ∧ x76.toInt = siF (fun k : Nat => cntF (fun j : Nat => fv Po (rv Po 2 k + 2) j) 1 (nC (fv Po (rv Po 2 k) 0).toInt (fv Po (rv Po 2 k) 1).toInt)) (fv Po 1 1).toInt.toNat) ∨ (t1.toInt = 8 ∧ x76.toInt = siF (fun k : Nat => cntF (fun j : Nat => fv Po (rv Po 2 k + 2) j) 2 (nC (fv Po (rv Po 2 k) 0).toInt (fv Po (rv Po 2 k) 1).toInt)) (fv Po 1 1).toInt.toNat) ∨ (t1.toInt = 9 ∧ x76.toInt = siF (fun k : Nat => cntF (fun j : Nat => fv Po (rv Po 2 k + 2) j) 0 (nC (fv Po (rv Po 2 k) 0).toInt (fv Po (rv Po 2 k) 1).toInt)) (fv Po 1 1).toInt.toNat) ∨ (t1.toInt = 10 ∧ x76.toInt = (fv Po 1 3).toInt) ∨ (t1.toInt = 11 ∧ x76.toInt = (fv Po 289 1).toInt) ∨ (t1.toInt = 12 ∧ x76.toInt = (fv Po 79 2).toInt) ∨ ((t1.toInt < 0 ∨ 12 < t1.toInt) ∧ x76.toInt = -1002) from by exact Or.inr (Or.inr (Or.inr (Or.inr (Or.inr (Or.inr (Or.inr (Or.inr (Or.inr (Or.inl (⟨by omega, g77.2.2⟩)))))))))))
    exact mp_iret ⟨⟨_, rfl, u80⟩, rfl⟩ dX6_account_160 (Or.inl rfl)
  · refine mp_t (s_tabIn (t := 161) (off := 160) dX6_account_1 (by omega) (by rw [c1]; rfl) (by decide)) ?_
    refine mp_a (a_aload_n dX6_account_161 rfl) (mpp 162 rfl ?_)
    refine mt_getU (i := 10) (k := 0) (A := 1) hT dX6_account_162 rfl rl_0 (by decide) rfl (by decide) rfl un_31 (mpp 165 rfl ?_)
    have g81 := ti_full (fv Po 1 3)
    refine mt_getI (i := 172) (k := 3) hT dX6_account_165 rfl rl_1 (by decide) rfl (by decide) rfl (fun g82 g83 => mpp 168 rfl ?_)
    have u84 : accountC Po (fv Po 1 3).toInt t1.toInt := (show (t1.toInt = 0 ∧ (fv Po 1 3).toInt = (fv Po 1 1).toInt) ∨ (t1.toInt = 1 ∧ (fv Po 1 3).toInt = siF (fun k : Nat => isI (fv Po (rv Po 2 k) 0).toInt 0) (fv Po 1 1).toInt.toNat) ∨ (t1.toInt = 2 ∧ (fv Po 1 3).toInt = siF (fun k : Nat => isI (fv Po (rv Po 2 k) 0).toInt 1) (fv Po 1 1).toInt.toNat) ∨ (t1.toInt = 3 ∧ (fv Po 1 3).toInt = siF (fun k : Nat => isI (fv Po (rv Po 2 k) 2).toInt 1) (fv Po 1 1).toInt.toNat) ∨ (t1.toInt = 4 ∧ (fv Po 1 3).toInt = (fv Po 1 2).toInt) ∨ (t1.toInt = 5 ∧ (fv Po 1 3).toInt = (fv Po 1 2 - smF (fun k : Nat => wpC Po (rv Po 2 k)) (fv Po 1 1).toInt.toNat).toInt) ∨ (t1.toInt = 6 ∧ (fv Po 1 3).toInt = siF (fun k : Nat => pnI (fv Po (rv Po 2 k) 0).toInt (fv Po (rv Po 2 k) 1).toInt) (fv Po 1 1).toInt.toNat) ∨ (t1.toInt = 7 ∧ (fv Po 1 3).toInt = siF (fun k : Nat => cntF (fun j : Nat => fv Po (rv Po 2 k + 2) j) 1 (nC (fv Po (rv Po 2 k) 0).toInt (fv Po (rv Po 2 k) 1).toInt)) (fv Po 1 1).toInt.toNat) ∨ (t1.toInt = 8 ∧ (fv Po 1 3).toInt = siF (fun k : Nat => cntF (fun j : Nat => fv Po (rv Po 2 k + 2) j) 2 (nC (fv Po (rv Po 2 k) 0).toInt (fv Po (rv Po 2 k) 1).toInt)) (fv Po 1 1).toInt.toNat) ∨ (t1.toInt = 9 ∧ (fv Po 1 3).toInt = siF (fun k : Nat => cntF (fun j : Nat => fv Po (rv Po 2 k + 2) j) 0 (nC (fv Po (rv Po 2 k) 0).toInt (fv Po (rv Po 2 k) 1).toInt)) (fv Po 1 1).toInt.toNat) ∨ (t1.toInt = 10 ∧ (fv Po 1 3).toInt = (fv Po 1 3).toInt) ∨ (t1.toInt = 11 ∧ (fv Po 1 3).toInt = (fv Po 289 1).toInt) ∨ (t1.toInt = 12 ∧ (fv Po 1 3).toInt = (fv Po 79 2).toInt) ∨ ((t1.toInt < 0 ∨ 12 < t1.toInt) ∧ (fv Po 1 3).toInt = -1002) from by exact Or.inr (Or.inr (Or.inr (Or.inr (Or.inr (Or.inr (Or.inr (Or.inr (Or.inr (Or.inr (Or.inl (⟨by omega, by omega⟩))))))))))))
    exact mp_iret ⟨⟨_, rfl, u84⟩, rfl⟩ dX6_account_168 (Or.inl rfl)
  · refine mp_t (s_tabIn (t := 169) (off := 168) dX6_account_1 (by omega) (by rw [c1]; rfl) (by decide)) ?_
    refine mp_a (a_aload_n dX6_account_169 rfl) (mpp 170 rfl ?_)
    refine mt_getU (i := 32) (k := 4) (A := 289) hT dX6_account_170 rfl rl_0 (by decide) rfl (by decide) rfl un_8 (mpp 173 rfl ?_)
    have g85 : (0 : Int) ≤ (fv Po 289 1).toInt ∧ (fv Po 289 1).toInt ≤ 80 := Typ.rng hT rl_289 (by decide) (by decide) rfl
    refine mt_getI (i := 216) (k := 1) hT dX6_account_173 rfl rl_289 (by decide) rfl (by decide) rfl (fun g86 g87 => mpp 176 rfl ?_)
    have u88 : accountC Po (fv Po 289 1).toInt t1.toInt := (show (t1.toInt = 0 ∧ (fv Po 289 1).toInt = (fv Po 1 1).toInt) ∨ (t1.toInt = 1 ∧ (fv Po 289 1).toInt = siF (fun k : Nat => isI (fv Po (rv Po 2 k) 0).toInt 0) (fv Po 1 1).toInt.toNat) ∨ (t1.toInt = 2 ∧ (fv Po 289 1).toInt = siF (fun k : Nat => isI (fv Po (rv Po 2 k) 0).toInt 1) (fv Po 1 1).toInt.toNat) ∨ (t1.toInt = 3 ∧ (fv Po 289 1).toInt = siF (fun k : Nat => isI (fv Po (rv Po 2 k) 2).toInt 1) (fv Po 1 1).toInt.toNat) ∨ (t1.toInt = 4 ∧ (fv Po 289 1).toInt = (fv Po 1 2).toInt) ∨ (t1.toInt = 5 ∧ (fv Po 289 1).toInt = (fv Po 1 2 - smF (fun k : Nat => wpC Po (rv Po 2 k)) (fv Po 1 1).toInt.toNat).toInt) ∨ (t1.toInt = 6 ∧ (fv Po 289 1).toInt = siF (fun k : Nat => pnI (fv Po (rv Po 2 k) 0).toInt (fv Po (rv Po 2 k) 1).toInt) (fv Po 1 1).toInt.toNat) ∨ (t1.toInt = 7 ∧ (fv Po 289 1).toInt = siF (fun k : Nat => cntF (fun j : Nat => fv Po (rv Po 2 k + 2) j) 1 (nC (fv Po (rv Po 2 k) 0).toInt (fv Po (rv Po 2 k) 1).toInt)) (fv Po 1 1).toInt.toNat) ∨ (t1.toInt = 8 ∧ (fv Po 289 1).toInt = siF (fun k : Nat => cntF (fun j : Nat => fv Po (rv Po 2 k + 2) j) 2 (nC (fv Po (rv Po 2 k) 0).toInt (fv Po (rv Po 2 k) 1).toInt)) (fv Po 1 1).toInt.toNat) ∨ (t1.toInt = 9 ∧ (fv Po 289 1).toInt = siF (fun k : Nat => cntF (fun j : Nat => fv Po (rv Po 2 k + 2) j) 0 (nC (fv Po (rv Po 2 k) 0).toInt (fv Po (rv Po 2 k) 1).toInt)) (fv Po 1 1).toInt.toNat) ∨ (t1.toInt = 10 ∧ (fv Po 289 1).toInt = (fv Po 1 3).toInt) ∨ (t1.toInt = 11 ∧ (fv Po 289 1).toInt = (fv Po 289 1).toInt) ∨ (t1.toInt = 12 ∧ (fv Po 289 1).toInt = (fv Po 79 2).toInt) ∨ ((t1.toInt < 0 ∨ 12 < t1.toInt) ∧ (fv Po 289 1).toInt = -1002) from by exact Or.inr (Or.inr (Or.inr (Or.inr (Or.inr (Or.inr (Or.inr (Or.inr (Or.inr (Or.inr (Or.inr (Or.inl (⟨by omega, by omega⟩)))))))))))))
    exact mp_iret ⟨⟨_, rfl, u88⟩, rfl⟩ dX6_account_176 (Or.inl rfl)
  · refine mp_t (s_tabIn (t := 177) (off := 176) dX6_account_1 (by omega) (by rw [c1]; rfl) (by decide)) ?_
    refine mp_a (a_aload_n dX6_account_177 rfl) (mpp 178 rfl ?_)
    refine mt_getU (i := 25) (k := 3) (A := 79) hT dX6_account_178 rfl rl_0 (by decide) rfl (by decide) rfl un_6 (mpp 181 rfl ?_)
    have g89 : (0 : Int) ≤ (fv Po 79 2).toInt ∧ (fv Po 79 2).toInt ≤ 8 := Typ.rng hT rl_79 (by decide) (by decide) rfl
    refine mt_getI (i := 264) (k := 2) hT dX6_account_181 rfl rl_79 (by decide) rfl (by decide) rfl (fun g90 g91 => mpp 184 rfl ?_)
    have u92 : accountC Po (fv Po 79 2).toInt t1.toInt := (show (t1.toInt = 0 ∧ (fv Po 79 2).toInt = (fv Po 1 1).toInt) ∨ (t1.toInt = 1 ∧ (fv Po 79 2).toInt = siF (fun k : Nat => isI (fv Po (rv Po 2 k) 0).toInt 0) (fv Po 1 1).toInt.toNat) ∨ (t1.toInt = 2 ∧ (fv Po 79 2).toInt = siF (fun k : Nat => isI (fv Po (rv Po 2 k) 0).toInt 1) (fv Po 1 1).toInt.toNat) ∨ (t1.toInt = 3 ∧ (fv Po 79 2).toInt = siF (fun k : Nat => isI (fv Po (rv Po 2 k) 2).toInt 1) (fv Po 1 1).toInt.toNat) ∨ (t1.toInt = 4 ∧ (fv Po 79 2).toInt = (fv Po 1 2).toInt) ∨ (t1.toInt = 5 ∧ (fv Po 79 2).toInt = (fv Po 1 2 - smF (fun k : Nat => wpC Po (rv Po 2 k)) (fv Po 1 1).toInt.toNat).toInt) ∨ (t1.toInt = 6 ∧ (fv Po 79 2).toInt = siF (fun k : Nat => pnI (fv Po (rv Po 2 k) 0).toInt (fv Po (rv Po 2 k) 1).toInt) (fv Po 1 1).toInt.toNat) ∨ (t1.toInt = 7 ∧ (fv Po 79 2).toInt = siF (fun k : Nat => cntF (fun j : Nat => fv Po (rv Po 2 k + 2) j) 1 (nC (fv Po (rv Po 2 k) 0).toInt (fv Po (rv Po 2 k) 1).toInt)) (fv Po 1 1).toInt.toNat) ∨ (t1.toInt = 8 ∧ (fv Po 79 2).toInt = siF (fun k : Nat => cntF (fun j : Nat => fv Po (rv Po 2 k + 2) j) 2 (nC (fv Po (rv Po 2 k) 0).toInt (fv Po (rv Po 2 k) 1).toInt)) (fv Po 1 1).toInt.toNat) ∨ (t1.toInt = 9 ∧ (fv Po 79 2).toInt = siF (fun k : Nat => cntF (fun j : Nat => fv Po (rv Po 2 k + 2) j) 0 (nC (fv Po (rv Po 2 k) 0).toInt (fv Po (rv Po 2 k) 1).toInt)) (fv Po 1 1).toInt.toNat) ∨ (t1.toInt = 10 ∧ (fv Po 79 2).toInt = (fv Po 1 3).toInt) ∨ (t1.toInt = 11 ∧ (fv Po 79 2).toInt = (fv Po 289 1).toInt) ∨ (t1.toInt = 12 ∧ (fv Po 79 2).toInt = (fv Po 79 2).toInt) ∨ ((t1.toInt < 0 ∨ 12 < t1.toInt) ∧ (fv Po 79 2).toInt = -1002) from by exact Or.inr (Or.inr (Or.inr (Or.inr (Or.inr (Or.inr (Or.inr (Or.inr (Or.inr (Or.inr (Or.inr (Or.inr (Or.inl (⟨by omega, by omega⟩))))))))))))))
    exact mp_iret ⟨⟨_, rfl, u92⟩, rfl⟩ dX6_account_184 (Or.inl rfl)

set_option maxHeartbeats 4000000 in
theorem c_F_bitsOf_l15 {Po : mP} {t0 : UInt32} (hT : Typ Po) (hX : XR Po)  (hp0 : vf_n32 t0)  : ∀ (n : Nat) (u1 : UInt32) (v2 : Int32) (v3 : Int32), (vf_n32 u1) → (boL (126 - v3.toInt).toNat u1 v2 = boL 126 t0 127) → (¬ fz t0 FP.fconst0 ≤ 0) → (0 ≤ v3.toInt) → (2147483647 - v3.toInt).toNat = n → MEvP 0 none q_116 15 [(0, .float t0), (1, .float u1), (2, .int v2), (3, .int v3)] [] Po 0 0 (fun r P' => (∃ x : Int32, r = some (.int x) ∧ (x.toInt = (boF t0).toInt)) ∧ P' = Po) := by
  intro n
  induction n using Nat.strongRecOn with | _ n ih => ?_
  intro u1 v2 v3 i_0 i_1 i_2 i_3 hm
  have w_v2 := ti_full v2
  have w_v3 := ti_full v3
  refine mp_a (a_iload_n dX6_bitsOf_15 rfl) (mpp 16 rfl ?_)
  refine mp_a (a_bipush (v := 126) dX6_bitsOf_16 rfl) (mpp 18 rfl ?_)
  refine mp_Tb (t := 40) (j_icmp_ge dX6_bitsOf_18) (by decide) (fun c1 => ?_) (fun c1 => mpp 21 rfl ?_)
  · have c1 : v3.toInt ≥ 126 := ti_ge c1
    refine mp_a (a_iload_n dX6_bitsOf_40 rfl) (mpp 41 rfl ?_)
    refine mp_a (a_bipush (v := 23) dX6_bitsOf_41 rfl) (mpp 43 rfl ?_)
    obtain ⟨z2, h3⟩ := ti_ex (v2 <<< (23 &&& 31) : Int32)
    have wz2 := ti_full z2
    refine mp_t (s_ishl (v := z2) dX6_bitsOf_43 h3) (mpp 44 rfl ?_)
    refine mp_a (a_fload_n dX6_bitsOf_44 rfl) (mpp 45 rfl ?_)
    refine mp_t (s_fconst1 dX6_bitsOf_45) (mpp 46 rfl ?_)
    have v6 : vf_n32 (FP.fsub u1 FP.fconst1) := vf_sub i_0 (by decide +kernel)
    obtain ⟨y4, h5⟩ := uf_ex (FP.fsub u1 FP.fconst1)
    refine mp_t (s_fsub (v := y4) dX6_bitsOf_46 v6 h5) (mpp 47 rfl ?_)
    rw [h5] at v6
    refine mp_ldcw (v := 1258291200) dX6_bitsOf_47 rfl (mpp 50 rfl ?_)
    have v9 : vf_n32 (FP.fmul y4 (1258291200 : UInt32)) := vf_mul v6 (by decide +kernel)
    obtain ⟨y7, h8⟩ := uf_ex (FP.fmul y4 (1258291200 : UInt32))
    refine mp_t (s_fmul (v := y7) dX6_bitsOf_50 v9 h8) (mpp 51 rfl ?_)
    rw [h8] at v9
    obtain ⟨z10, h11⟩ := ti_ex (FP.f2i y7)
    have wz10 := ti_full z10
    refine mp_t (s_f2i (v := z10) dX6_bitsOf_51 h11) (mpp 52 rfl ?_)
    obtain ⟨z12, h13⟩ := ti_ex (z2 + z10 : Int32)
    have wz12 := ti_full z12
    refine mp_t (s_iadd (v := z12) dX6_bitsOf_52 h13) (mpp 53 rfl ?_)
    try have e14 : z12.toInt = z2.toInt + z10.toInt := ti_addz h13 rfl rfl (by omega) (by omega)
    have u15 : z12.toInt = (boF t0).toInt := boF.of i_2 i_1 (Or.inl (by omega)) h3 h5 h8 h11 h13
    exact mp_iret ⟨⟨_, rfl, u15⟩, rfl⟩ dX6_bitsOf_53 (Or.inl rfl)
  · have c1 : v3.toInt < 126 := ti_ge_n c1
    refine mp_a (a_fload_n dX6_bitsOf_21 rfl) (mpp 22 rfl ?_)
    refine mp_t (s_fconst1 dX6_bitsOf_22) (mpp 23 rfl ?_)
    obtain ⟨z16, h17⟩ := ti_ex (Op.cmpValue (FP.fcmp u1 FP.fconst1) .g)
    have wz16 := ti_full z16
    refine mp_t (s_fcmp (v := z16) dX6_bitsOf_23 h17) (mpp 24 rfl ?_)
    refine mp_Tb (t := 40) (j_if_ge dX6_bitsOf_24) (by decide) (fun c18 => ?_) (fun c18 => mpp 27 rfl ?_)
    · have c18 : z16.toInt ≥ 0 := ti_ge c18
      refine mp_a (a_iload_n dX6_bitsOf_40 rfl) (mpp 41 rfl ?_)
      refine mp_a (a_bipush (v := 23) dX6_bitsOf_41 rfl) (mpp 43 rfl ?_)
      obtain ⟨z19, h20⟩ := ti_ex (v2 <<< (23 &&& 31) : Int32)
      have wz19 := ti_full z19
      refine mp_t (s_ishl (v := z19) dX6_bitsOf_43 h20) (mpp 44 rfl ?_)
      refine mp_a (a_fload_n dX6_bitsOf_44 rfl) (mpp 45 rfl ?_)
      refine mp_t (s_fconst1 dX6_bitsOf_45) (mpp 46 rfl ?_)
      have v23 : vf_n32 (FP.fsub u1 FP.fconst1) := vf_sub i_0 (by decide +kernel)
      obtain ⟨y21, h22⟩ := uf_ex (FP.fsub u1 FP.fconst1)
      refine mp_t (s_fsub (v := y21) dX6_bitsOf_46 v23 h22) (mpp 47 rfl ?_)
      rw [h22] at v23
      refine mp_ldcw (v := 1258291200) dX6_bitsOf_47 rfl (mpp 50 rfl ?_)
      have v26 : vf_n32 (FP.fmul y21 (1258291200 : UInt32)) := vf_mul v23 (by decide +kernel)
      obtain ⟨y24, h25⟩ := uf_ex (FP.fmul y21 (1258291200 : UInt32))
      refine mp_t (s_fmul (v := y24) dX6_bitsOf_50 v26 h25) (mpp 51 rfl ?_)
      rw [h25] at v26
      obtain ⟨z27, h28⟩ := ti_ex (FP.f2i y24)
      have wz27 := ti_full z27
      refine mp_t (s_f2i (v := z27) dX6_bitsOf_51 h28) (mpp 52 rfl ?_)
      obtain ⟨z29, h30⟩ := ti_ex (z19 + z27 : Int32)
      have wz29 := ti_full z29
      refine mp_t (s_iadd (v := z29) dX6_bitsOf_52 h30) (mpp 53 rfl ?_)
      try have e31 : z29.toInt = z19.toInt + z27.toInt := ti_addz h30 rfl rfl (by omega) (by omega)
      have u32 : z29.toInt = (boF t0).toInt := boF.of i_2 i_1 (Or.inr (by show ¬ (Op.cmpValue (FP.fcmp u1 FP.fconst1) .g).toInt < 0; rw [h17]; omega)) h20 h22 h25 h28 h30
      exact mp_iret ⟨⟨_, rfl, u32⟩, rfl⟩ dX6_bitsOf_53 (Or.inl rfl)
    · have c18 : z16.toInt < 0 := ti_ge_n c18
      refine mp_a (a_fload_n dX6_bitsOf_27 rfl) (mpp 28 rfl ?_)
      refine mp_t (s_fconst2 dX6_bitsOf_28) (mpp 29 rfl ?_)
      have v35 : vf_n32 (FP.fmul u1 FP.fconst2) := vf_mul i_0 (by decide +kernel)
      obtain ⟨y33, h34⟩ := uf_ex (FP.fmul u1 FP.fconst2)
      refine mp_t (s_fmul (v := y33) dX6_bitsOf_29 v35 h34) (mpp 30 rfl ?_)
      rw [h34] at v35
      refine mp_a (a_fstore_n (L' := [(1, .float y33), (0, .float t0), (2, .int v2), (3, .int v3)]) dX6_bitsOf_30 (by decide) rfl) (mpp 31 rfl ?_)
      obtain ⟨z36, h37⟩ := ti_ex (v2 + (-1) : Int32)
      have wz36 := ti_full z36
      refine mp_a (a_iinc (v := z36) (L' := [(2, .int z36), (1, .float y33), (0, .float t0), (3, .int v3)]) dX6_bitsOf_31 (by decide) rfl h37 rfl) (mpp 34 rfl ?_)
      try have e38 : z36.toInt = v2.toInt + (-1) := ti_addz h37 rfl rfl (by omega) (by omega)
      obtain ⟨z39, h40⟩ := ti_ex (v3 + 1 : Int32)
      have wz39 := ti_full z39
      refine mp_a (a_iinc (v := z39) (L' := [(3, .int z39), (2, .int z36), (1, .float y33), (0, .float t0)]) dX6_bitsOf_34 (by decide) rfl h40 rfl) (mpp 37 rfl ?_)
      try have e41 : z39.toInt = v3.toInt + 1 := ti_addz h40 rfl rfl (by omega) (by omega)
      refine mp_a (a_goto (t := 15) dX6_bitsOf_37 (by decide)) ?_
      refine MEvP.less (L := [(0, .float t0), (1, .float y33), (2, .int z36), (3, .int z39)]) rfl rfl ⟨rfl, rfl, rfl, rfl, trivial⟩ ?_
      have i42 : vf_n32 y33 := v35
      have i43 : boL (126 - z39.toInt).toNat y33 z36 = boL 126 t0 127 := boL.step i_1 (by omega) (by show (Op.cmpValue (FP.fcmp u1 FP.fconst1) .g).toInt < 0; rw [h17]; omega) h34 h37
      have i44 : ¬ fz t0 FP.fconst0 ≤ 0 := i_2
      have i45 : 0 ≤ z39.toInt := by omega
      exact ih _ (by omega) _ _ _ i42 i43 i44 i45 rfl

set_option maxHeartbeats 4000000 in
theorem c_F_bitsOf {Po : mP} {t0 : UInt32} (hT : Typ Po) (hX : XR Po)  (hp0 : vf_n32 t0)  : EvP 1 116 [.float t0] Po (fun r P' => (∃ x : Int32, r = some (.int x) ∧ (x.toInt = (boF t0).toInt)) ∧ P' = Po) := by
  refine EvP.of qm_116 (Nat.le_of_ble_eq_true rfl) rfl ?_
  show MEvP _ none q_116 0 [(0, .float t0)] [] _ 0 0 _
  refine mp_a (a_fload_n dX6_bitsOf_0 rfl) (mpp 1 rfl ?_)
  refine mp_t (s_fconst0 dX6_bitsOf_1) (mpp 2 rfl ?_)
  obtain ⟨z1, h2⟩ := ti_ex (Op.cmpValue (FP.fcmp t0 FP.fconst0) .g)
  have wz1 := ti_full z1
  refine mp_t (s_fcmp (v := z1) dX6_bitsOf_2 h2) (mpp 3 rfl ?_)
  refine mp_Tb (t := 8) (j_if_gt dX6_bitsOf_3) (by decide) (fun c3 => ?_) (fun c3 => mpp 6 rfl ?_)
  · have c3 : z1.toInt > 0 := ti_gt c3
    refine mp_a (a_fload_n dX6_bitsOf_8 rfl) (mpp 9 rfl ?_)
    refine mp_a (a_fstore_n (L' := [(1, .float t0), (0, .float t0)]) dX6_bitsOf_9 (by decide) rfl) (mpp 10 rfl ?_)
    refine mp_a (a_bipush (v := 127) dX6_bitsOf_10 rfl) (mpp 12 rfl ?_)
    refine mp_a (a_istore_n (L' := [(2, .int 127), (1, .float t0), (0, .float t0)]) dX6_bitsOf_12 (by decide) rfl) (mpp 13 rfl ?_)
    refine mp_a (a_iconst (v := 0) dX6_bitsOf_13 rfl) (mpp 14 rfl ?_)
    refine mp_a (a_istore_n (L' := [(3, .int 0), (2, .int 127), (1, .float t0), (0, .float t0)]) dX6_bitsOf_14 (by decide) rfl) (mpp 15 rfl ?_)
    refine MEvP.less (L := [(0, .float t0), (1, .float t0), (2, .int 127), (3, .int 0)]) rfl rfl ⟨rfl, rfl, rfl, rfl, trivial⟩ ?_
    have i4 : vf_n32 t0 := hp0
    have i5 : boL (126 - (0 : Int)).toNat t0 127 = boL 126 t0 127 := rfl
    have i6 : ¬ fz t0 FP.fconst0 ≤ 0 := by show ¬ (Op.cmpValue (FP.fcmp t0 FP.fconst0) .g).toInt ≤ 0; rw [h2]; omega
    have i7 : 0 ≤ (0 : Int) := by omega
    exact c_F_bitsOf_l15 hT hX  hp0 _ _ _ _ i4 i5 i6 i7 rfl
  · have c3 : z1.toInt ≤ 0 := ti_gt_n c3
    refine mp_a (a_iconst (v := 0) dX6_bitsOf_6 rfl) (mpp 7 rfl ?_)
    have u8 : (0 : Int) = (boF t0).toInt := by unfold boF; rw [if_pos (by show (Op.cmpValue (FP.fcmp t0 FP.fconst0) .g).toInt ≤ 0; rw [h2]; omega)]; rfl
    exact mp_iret ⟨⟨_, rfl, u8⟩, rfl⟩ dX6_bitsOf_7 (Or.inl rfl)

set_option maxHeartbeats 4000000 in
theorem c_F_share {Po : mP}  (hT : Typ Po) (hX : XR Po)   : EvP 4 115 [.ref 0] Po (fun r P' => (∃ x : Int32, r = some (.int x) ∧ (shareC Po x.toInt)) ∧ P' = Po) := by
  refine EvP.of qm_115 (Nat.le_of_ble_eq_true rfl) rfl ?_
  show MEvP _ none q_115 0 [(0, .ref 0)] [] _ 0 0 _
  refine mp_a (a_aload_n dX6_share_0 rfl) (mpp 1 rfl ?_)
  refine mt_getU (i := 10) (k := 0) (A := 1) hT dX6_share_1 rfl rl_0 (by decide) rfl (by decide) rfl un_31 (mpp 4 rfl ?_)
  refine mp_a (a_iconst (v := 1) dX6_share_4 rfl) (mpp 5 rfl ?_)
  refine mt_callv (i := 261) (q' := q_114) (As := [.int 1]) (rest := []) hT dX6_share_5 rfl qm_114 (by decide) rfl rl_1 (by decide) rfl (Nat.le_of_ble_eq_true rfl) rfl ⟨rfl, rfl⟩ ⟨Nat.le_of_ble_eq_true rfl, Nat.le_of_ble_eq_true rfl⟩ (EvP.mono (by decide) (c_CS_creasesOf_NState hT hX )) (fun r1 P2 g3 => mpp 8 rfl ?_)
  obtain ⟨⟨x4, rfl, g5⟩, e6⟩ := g3
  have e6 := e6.symm
  subst e6
  have wx4 := ti_full x4
  replace g5 : 0 ≤ x4.toInt ∧ x4.toInt ≤ 64 ∧ x4.toInt = siF (fun k : Nat => cntF (fun j : Nat => fv Po (rv Po 2 k + 2) j) (1 : Int) (nC (fv Po (rv Po 2 k) 0).toInt (fv Po (rv Po 2 k) 1).toInt)) (fv Po 1 1).toInt.toNat := g5
  have g7 : (0 : Int) ≤ (fv Po 1 1).toInt ∧ (fv Po 1 1).toInt ≤ 8 := Typ.rng hT rl_1 (by decide) (by decide) rfl
  show MEvP _ none q_115 8 [(0, .ref 0)] [.int x4] _ _ _ _
  refine mp_a (a_aload_n dX6_share_8 rfl) (mpp 9 rfl ?_)
  refine mt_getU (i := 10) (k := 0) (A := 1) hT dX6_share_9 rfl rl_0 (by decide) rfl (by decide) rfl un_31 (mpp 12 rfl ?_)
  refine mp_a (a_iconst (v := 2) dX6_share_12 rfl) (mpp 13 rfl ?_)
  refine mt_callv (i := 261) (q' := q_114) (As := [.int 2]) (rest := [.int x4]) hT dX6_share_13 rfl qm_114 (by decide) rfl rl_1 (by decide) rfl (Nat.le_of_ble_eq_true rfl) rfl ⟨rfl, rfl⟩ ⟨Nat.le_of_ble_eq_true rfl, Nat.le_of_ble_eq_true rfl⟩ (EvP.mono (by decide) (c_CS_creasesOf_NState hT hX )) (fun r8 P9 g10 => mpp 16 rfl ?_)
  obtain ⟨⟨x11, rfl, g12⟩, e13⟩ := g10
  have e13 := e13.symm
  subst e13
  have wx11 := ti_full x11
  replace g12 : 0 ≤ x11.toInt ∧ x11.toInt ≤ 64 ∧ x11.toInt = siF (fun k : Nat => cntF (fun j : Nat => fv Po (rv Po 2 k + 2) j) (2 : Int) (nC (fv Po (rv Po 2 k) 0).toInt (fv Po (rv Po 2 k) 1).toInt)) (fv Po 1 1).toInt.toNat := g12
  show MEvP _ none q_115 16 [(0, .ref 0)] [.int x11, .int x4] _ _ _ _
  obtain ⟨z14, h15⟩ := ti_ex (x4 + x11 : Int32)
  have wz14 := ti_full z14
  refine mp_t (s_iadd (v := z14) dX6_share_16 h15) (mpp 17 rfl ?_)
  try have e16 : z14.toInt = x4.toInt + x11.toInt := ti_addz h15 rfl rfl (by omega) (by omega)
  refine mp_a (a_istore_n (L' := [(1, .int z14), (0, .ref 0)]) dX6_share_17 (by decide) rfl) (mpp 18 rfl ?_)
  refine mp_a (a_iload_n dX6_share_18 rfl) (mpp 19 rfl ?_)
  refine mp_a (a_aload_n dX6_share_19 rfl) (mpp 20 rfl ?_)
  refine mt_getU (i := 10) (k := 0) (A := 1) hT dX6_share_20 rfl rl_0 (by decide) rfl (by decide) rfl un_31 (mpp 23 rfl ?_)
  refine mp_a (a_iconst (v := 0) dX6_share_23 rfl) (mpp 24 rfl ?_)
  refine mt_callv (i := 261) (q' := q_114) (As := [.int 0]) (rest := [.int z14]) hT dX6_share_24 rfl qm_114 (by decide) rfl rl_1 (by decide) rfl (Nat.le_of_ble_eq_true rfl) rfl ⟨rfl, rfl⟩ ⟨Nat.le_of_ble_eq_true rfl, Nat.le_of_ble_eq_true rfl⟩ (EvP.mono (by decide) (c_CS_creasesOf_NState hT hX )) (fun r17 P18 g19 => mpp 27 rfl ?_)
  obtain ⟨⟨x20, rfl, g21⟩, e22⟩ := g19
  have e22 := e22.symm
  subst e22
  have wx20 := ti_full x20
  replace g21 : 0 ≤ x20.toInt ∧ x20.toInt ≤ 64 ∧ x20.toInt = siF (fun k : Nat => cntF (fun j : Nat => fv Po (rv Po 2 k + 2) j) (0 : Int) (nC (fv Po (rv Po 2 k) 0).toInt (fv Po (rv Po 2 k) 1).toInt)) (fv Po 1 1).toInt.toNat := g21
  show MEvP _ none q_115 27 [(1, .int z14), (0, .ref 0)] [.int x20, .int z14] _ _ _ _
  obtain ⟨z23, h24⟩ := ti_ex (z14 + x20 : Int32)
  have wz23 := ti_full z23
  refine mp_t (s_iadd (v := z23) dX6_share_27 h24) (mpp 28 rfl ?_)
  try have e25 : z23.toInt = z14.toInt + x20.toInt := ti_addz h24 rfl rfl (by omega) (by omega)
  refine mp_a (a_istore_n (L' := [(2, .int z23), (1, .int z14), (0, .ref 0)]) dX6_share_28 (by decide) rfl) (mpp 29 rfl ?_)
  refine mp_a (a_iload_n dX6_share_29 rfl) (mpp 30 rfl ?_)
  refine mp_Tb (t := 37) (j_if_gt dX6_share_30) (by decide) (fun c26 => ?_) (fun c26 => mpp 33 rfl ?_)
  · have c26 : z23.toInt > 0 := ti_gt c26
    refine mp_a (a_iload_n dX6_share_37 rfl) (mpp 38 rfl ?_)
    obtain ⟨y27, h28⟩ := uf_ex (FP.i2f z14)
    refine mp_t (s_i2f (v := y27) dX6_share_38 h28) (mpp 39 rfl ?_)
    refine mp_a (a_iload_n dX6_share_39 rfl) (mpp 40 rfl ?_)
    obtain ⟨y29, h30⟩ := uf_ex (FP.i2f z23)
    refine mp_t (s_i2f (v := y29) dX6_share_40 h30) (mpp 41 rfl ?_)
    have v33 : vf_n32 (FP.fdiv y27 y29) := vf_div h28 h30 ⟨by omega, by omega⟩ ⟨by omega, by omega⟩
    obtain ⟨y31, h32⟩ := uf_ex (FP.fdiv y27 y29)
    refine mp_t (s_fdiv (v := y31) dX6_share_41 v33 h32) (mpp 42 rfl ?_)
    rw [h32] at v33
    have p34 : vf_n32 y31 := by omega
    refine mp_calls (i := 265) (q' := q_116) (As := [.float y31]) (rest := []) dX6_share_42 rfl qm_116 (by decide) rfl (Nat.le_of_ble_eq_true rfl) rfl ⟨rfl, rfl⟩ ⟨Nat.le_of_ble_eq_true rfl, Nat.le_of_ble_eq_true rfl⟩ (EvP.mono (by decide) (c_F_bitsOf hT hX p34 )) (fun r35 P36 g37 => mpp 45 rfl ?_)
    obtain ⟨⟨x38, rfl, g39⟩, e40⟩ := g37
    have e40 := e40.symm
    subst e40
    have wx38 := ti_full x38
    replace g39 : x38.toInt = (boF y31).toInt := g39
    show MEvP _ none q_115 45 [(2, .int z23), (1, .int z14), (0, .ref 0)] [.int x38] _ _ _ _
    have u41 : shareC Po x38.toInt := (show ((∃ D A : Int32, D.toInt = siF (fun k : Nat => cntF (fun j : Nat => fv Po (rv Po 2 k + 2) j) 1 (nC (fv Po (rv Po 2 k) 0).toInt (fv Po (rv Po 2 k) 1).toInt)) (fv Po 1 1).toInt.toNat + siF (fun k : Nat => cntF (fun j : Nat => fv Po (rv Po 2 k + 2) j) 2 (nC (fv Po (rv Po 2 k) 0).toInt (fv Po (rv Po 2 k) 1).toInt)) (fv Po 1 1).toInt.toNat ∧ A.toInt = siF (fun k : Nat => cntF (fun j : Nat => fv Po (rv Po 2 k + 2) j) 1 (nC (fv Po (rv Po 2 k) 0).toInt (fv Po (rv Po 2 k) 1).toInt)) (fv Po 1 1).toInt.toNat + siF (fun k : Nat => cntF (fun j : Nat => fv Po (rv Po 2 k + 2) j) 2 (nC (fv Po (rv Po 2 k) 0).toInt (fv Po (rv Po 2 k) 1).toInt)) (fv Po 1 1).toInt.toNat + siF (fun k : Nat => cntF (fun j : Nat => fv Po (rv Po 2 k + 2) j) 0 (nC (fv Po (rv Po 2 k) 0).toInt (fv Po (rv Po 2 k) 1).toInt)) (fv Po 1 1).toInt.toNat ∧ ((A.toInt ≤ 0 ∧ x38.toInt = -1004) ∨ (0 < A.toInt ∧ x38.toInt = (boF (FP.fdiv (FP.i2f D) (FP.i2f A))).toInt)))) from by exact ⟨z14, z23, by omega, by omega, Or.inr ⟨by omega, by rw [h28, h30, h32]; exact g39⟩⟩)
    exact mp_iret ⟨⟨_, rfl, u41⟩, rfl⟩ dX6_share_45 (Or.inl rfl)
  · have c26 : z23.toInt ≤ 0 := ti_gt_n c26
    refine mp_a (a_sipush (v := -1004) dX6_share_33 rfl) (mpp 36 rfl ?_)
    have u42 : shareC Po (-1004 : Int) := (show ((∃ D A : Int32, D.toInt = siF (fun k : Nat => cntF (fun j : Nat => fv Po (rv Po 2 k + 2) j) 1 (nC (fv Po (rv Po 2 k) 0).toInt (fv Po (rv Po 2 k) 1).toInt)) (fv Po 1 1).toInt.toNat + siF (fun k : Nat => cntF (fun j : Nat => fv Po (rv Po 2 k + 2) j) 2 (nC (fv Po (rv Po 2 k) 0).toInt (fv Po (rv Po 2 k) 1).toInt)) (fv Po 1 1).toInt.toNat ∧ A.toInt = siF (fun k : Nat => cntF (fun j : Nat => fv Po (rv Po 2 k + 2) j) 1 (nC (fv Po (rv Po 2 k) 0).toInt (fv Po (rv Po 2 k) 1).toInt)) (fv Po 1 1).toInt.toNat + siF (fun k : Nat => cntF (fun j : Nat => fv Po (rv Po 2 k + 2) j) 2 (nC (fv Po (rv Po 2 k) 0).toInt (fv Po (rv Po 2 k) 1).toInt)) (fv Po 1 1).toInt.toNat + siF (fun k : Nat => cntF (fun j : Nat => fv Po (rv Po 2 k + 2) j) 0 (nC (fv Po (rv Po 2 k) 0).toInt (fv Po (rv Po 2 k) 1).toInt)) (fv Po 1 1).toInt.toNat ∧ ((A.toInt ≤ 0 ∧ (-1004 : Int) = -1004) ∨ (0 < A.toInt ∧ (-1004 : Int) = (boF (FP.fdiv (FP.i2f D) (FP.i2f A))).toInt)))) from by exact ⟨z14, z23, by omega, by omega, Or.inl ⟨by omega, rfl⟩⟩)
    exact mp_iret ⟨⟨_, rfl, u42⟩, rfl⟩ dX6_share_36 (Or.inl rfl)

