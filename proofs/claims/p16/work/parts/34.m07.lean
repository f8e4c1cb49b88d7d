/-! methods on typed pools, 7 (written by a program) -/
set_option maxHeartbeats 4000000 in
theorem c_CR_after_Reducer {Po : mP} {t1 : Int32} (hT : Typ Po) (hX : XR Po)   : EvP 1 50 [.ref 291, .int t1] Po (fun r P' => (∃ x : Int32, r = some (.int x) ∧ (t1.toInt < 0 ∨ x.toInt = (nxI (fv Po 291 1).toInt.toNat t1.toInt.toNat : Nat))) ∧ P' = Po) := by
  refine EvP.of qm_50 (Nat.le_of_ble_eq_true rfl) rfl ?_
  show MEvP _ none q_50 0 [(0, .ref 291), (1, .int t1)] [] _ 0 0 _
  have w_t1 := ti_full t1
  have g1 : (0 : Int) ≤ (fv Po 291 1).toInt ∧ (fv Po 291 1).toInt ≤ 8 := Typ.rng hT rl_291 (by decide) (by decide) rfl
  refine mp_a (a_iload_n dX3_after_0 rfl) (mpp 1 rfl ?_)
  refine mp_a (a_aload_n dX3_after_1 rfl) (mpp 2 rfl ?_)
  refine mt_getI (i := 28) (k := 1) hT dX3_after_2 rfl rl_291 (by decide) rfl (by decide) rfl (fun g2 g3 => mpp 5 rfl ?_)
  refine mp_a (a_iconst (v := 1) dX3_after_5 rfl) (mpp 6 rfl ?_)
  obtain ⟨z4, h5⟩ := ti_ex ((fv Po 291 1) - 1 : Int32)
  have wz4 := ti_full z4
  refine mp_t (s_isub (v := z4) dX3_after_6 h5) (mpp 7 rfl ?_)
  try have e6 : z4.toInt = (fv Po 291 1).toInt - 1 := ti_subz h5 rfl rfl (by omega) (by omega)
  refine mp_Tb (t := 16) (j_icmp_ge dX3_after_7) (by decide) (fun c7 => ?_) (fun c7 => mpp 10 rfl ?_)
  · have c7 : t1.toInt ≥ z4.toInt := ti_ge c7
    refine mp_a (a_iconst (v := 0) dX3_after_16 rfl) (mpp 17 rfl ?_)
    have w9_ : ((nxI (fv Po 291 1).toInt.toNat t1.toInt.toNat : Nat) : Int) = if t1.toInt.toNat + 1 < (fv Po 291 1).toInt.toNat then ((t1.toInt.toNat + 1 : Nat) : Int) else 0 := by unfold nxI; split <;> rfl
    have u8 : t1.toInt < 0 ∨ (0 : Int) = (nxI (fv Po 291 1).toInt.toNat t1.toInt.toNat : Nat) := by split at w9_ <;> omega
    exact mp_iret ⟨⟨_, rfl, u8⟩, rfl⟩ dX3_after_17 (Or.inl rfl)
  · have c7 : t1.toInt < z4.toInt := ti_ge_n c7
    refine mp_a (a_iload_n dX3_after_10 rfl) (mpp 11 rfl ?_)
    refine mp_a (a_iconst (v := 1) dX3_after_11 rfl) (mpp 12 rfl ?_)
    obtain ⟨z10, h11⟩ := ti_ex (t1 + 1 : Int32)
    have wz10 := ti_full z10
    refine mp_t (s_iadd (v := z10) dX3_after_12 h11) (mpp 13 rfl ?_)
    try have e12 : z10.toInt = t1.toInt + 1 := ti_addz h11 rfl rfl (by omega) (by omega)
    refine mp_a (a_goto (t := 17) dX3_after_13 (by decide)) ?_
    have w14_ : ((nxI (fv Po 291 1).toInt.toNat t1.toInt.toNat : Nat) : Int) = if t1.toInt.toNat + 1 < (fv Po 291 1).toInt.toNat then ((t1.toInt.toNat + 1 : Nat) : Int) else 0 := by unfold nxI; split <;> rfl
    have u13 : t1.toInt < 0 ∨ z10.toInt = (nxI (fv Po 291 1).toInt.toNat t1.toInt.toNat : Nat) := by split at w14_ <;> omega
    exact mp_iret ⟨⟨_, rfl, u13⟩, rfl⟩ dX3_after_17 (Or.inl rfl)

set_option maxHeartbeats 4000000 in
theorem c_F_at_rcreases {Po : mP} {t1 : Int32} (hT : Typ Po) (hX : XR Po)   : EvP 1 12 [.ref 293, .int t1] Po (fun r P' => (∃ x : Int32, r = some (.int x) ∧ ((0 ≤ t1.toInt ∧ t1.toInt ≤ 7 ∧ x.toInt = (fv Po 293 t1.toInt.toNat).toInt) ∨ ((t1.toInt < 0 ∨ 8 ≤ t1.toInt) ∧ x.toInt = 0))) ∧ P' = Po) := by
  refine EvP.of qm_12 (Nat.le_of_ble_eq_true rfl) rfl ?_
  show MEvP _ none q_12 0 [(0, .ref 293), (1, .int t1)] [] _ 0 0 _
  have w_t1 := ti_full t1
  refine mp_a (a_iload_n dX6_at_0 rfl) (mpp 1 rfl ?_)
  refine mp_Tb (t := 16) (j_if_lt dX6_at_1) (by decide) (fun c1 => ?_) (fun c1 => mpp 4 rfl ?_)
  · have c1 : t1.toInt < 0 := ti_lt c1
    refine mp_a (a_iconst (v := 0) dX6_at_16 rfl) (mpp 17 rfl ?_)
    have u2 : (0 ≤ t1.toInt ∧ t1.toInt ≤ 7 ∧ (0 : Int) = (fv Po 293 t1.toInt.toNat).toInt) ∨ ((t1.toInt < 0 ∨ 8 ≤ t1.toInt) ∧ (0 : Int) = 0) := by omega
    exact mp_iret ⟨⟨_, rfl, u2⟩, rfl⟩ dX6_at_17 (Or.inl rfl)
  · have c1 : t1.toInt ≥ 0 := ti_lt_n c1
    refine mp_a (a_iload_n dX6_at_4 rfl) (mpp 5 rfl ?_)
    refine mp_a (a_aload_n dX6_at_5 rfl) (mpp 6 rfl ?_)
    refine mt_len (n := 8) hT dX6_at_6 rl_293 (by decide) (by decide) rfl (mpp 7 rfl ?_)
    refine mp_Tb (t := 16) (j_icmp_ge dX6_at_7) (by decide) (fun c3 => ?_) (fun c3 => mpp 10 rfl ?_)
    · have c3 : t1.toInt ≥ 8 := ti_ge c3
      refine mp_a (a_iconst (v := 0) dX6_at_16 rfl) (mpp 17 rfl ?_)
      have u4 : (0 ≤ t1.toInt ∧ t1.toInt ≤ 7 ∧ (0 : Int) = (fv Po 293 t1.toInt.toNat).toInt) ∨ ((t1.toInt < 0 ∨ 8 ≤ t1.toInt) ∧ (0 : Int) = 0) := by omega
      exact mp_iret ⟨⟨_, rfl, u4⟩, rfl⟩ dX6_at_17 (Or.inl rfl)
    · have c3 : t1.toInt < 8 := ti_ge_n c3
      refine mp_a (a_aload_n dX6_at_10 rfl) (mpp 11 rfl ?_)
      refine mp_a (a_iload_n dX6_at_11 rfl) (mpp 12 rfl ?_)
      refine mt_ial (n := 8) hT dX6_at_12 rl_293 (by decide) rfl rfl (by omega) (by omega) rfl (fun g5 g6 => mpp 13 rfl ?_)
      refine mp_a (a_goto (t := 17) dX6_at_13 (by decide)) ?_
      have u7 : (0 ≤ t1.toInt ∧ t1.toInt ≤ 7 ∧ (fv Po 293 t1.toInt.toNat).toInt = (fv Po 293 t1.toInt.toNat).toInt) ∨ ((t1.toInt < 0 ∨ 8 ≤ t1.toInt) ∧ (fv Po 293 t1.toInt.toNat).toInt = 0) := by omega
      exact mp_iret ⟨⟨_, rfl, u7⟩, rfl⟩ dX6_at_17 (Or.inl rfl)

set_option maxHeartbeats 4000000 in
theorem c_CR_firstStep_Reducer_l107 {Po : mP}  (hT : Typ Po) (hX : XR Po)   : ∀ (n : Nat) (v1 : Int32) (v2 : Int32) (v3 : Int32), (2 ≤ (fv Po 291 1).toInt) → (((fv Po 291 0).toInt = 0 ∧ v1.toInt = 1 ∧ v2.toInt = 1) ∨ ((fv Po 291 0).toInt ≠ 0 ∧ v1.toInt = 0 ∧ v2.toInt = 0)) → (v2.toInt ≤ v3.toInt) → (∀ j : Nat, v2.toInt ≤ (j : Int) → (j : Int) < v3.toInt → ¬ CRf cC (fv Po 291 1).toInt.toNat (fun j : Nat => fv Po 292 j) (fun j : Nat => fv Po 293 j) j) → (((fv Po 291 0).toInt = 0 ∧ ¬ (fv Po 292 0).toInt ≤ (fv Po 292 1).toInt ∧ ¬ (fv Po 292 ((fv Po 291 1).toInt.toNat - 1)).toInt ≤ (fv Po 292 ((fv Po 291 1).toInt.toNat - 2)).toInt) ∨ ((fv Po 291 0).toInt ≠ 0 ∧ 3 ≤ (fv Po 291 1).toInt)) → (v3.toInt ≤ (fv Po 291 1).toInt) → (2147483647 - v3.toInt).toNat = n → MEvP 1 none q_52 107 [(0, .ref 291), (1, .int v1), (2, .int v2), (3, .int v3)] [] Po 0 0 (fun r P' => (∃ x : Int32, r = some (.int x) ∧ ((x.toInt = 0 ∨ 2 ≤ (fv Po 291 1).toInt) ∧ FS cC (rC Po) x.toInt)) ∧ P' = Po) := by
  intro n
  induction n using Nat.strongRecOn with | _ n ih => ?_
  intro v1 v2 v3 i_0 i_1 i_2 i_3 i_4 i_5 hm
  have w_v1 := ti_full v1
  have w_v2 := ti_full v2
  have w_v3 := ti_full v3
  have g1 : (0 : Int) ≤ (fv Po 291 1).toInt ∧ (fv Po 291 1).toInt ≤ 8 := Typ.rng hT rl_291 (by decide) (by decide) rfl
  have g2 := ti_full (fv Po 291 0)
  refine mp_a (a_iload_n dX3_firstStep_107 rfl) (mpp 108 rfl ?_)
  refine mp_a (a_aload_n dX3_firstStep_108 rfl) (mpp 109 rfl ?_)
  refine mt_getI (i := 28) (k := 1) hT dX3_firstStep_109 rfl rl_291 (by decide) rfl (by decide) rfl (fun g3 g4 => mpp 112 rfl ?_)
  refine mp_a (a_iload_n dX3_firstStep_112 rfl) (mpp 113 rfl ?_)
  obtain ⟨z5, h6⟩ := ti_ex ((fv Po 291 1) - v2 : Int32)
  have wz5 := ti_full z5
  refine mp_t (s_isub (v := z5) dX3_firstStep_113 h6) (mpp 114 rfl ?_)
  try have e7 : z5.toInt = (fv Po 291 1).toInt - v2.toInt := ti_subz h6 rfl rfl (by omega) (by omega)
  refine mp_Tb (t := 209) (j_icmp_ge dX3_firstStep_114) (by decide) (fun c8 => ?_) (fun c8 => mpp 117 rfl ?_)
  · have c8 : v3.toInt ≥ z5.toInt := ti_ge c8
    refine mp_a (a_iconst (v := 0) dX3_firstStep_209 rfl) (mpp 210 rfl ?_)
    have u9 : ((0 : Int) = 0 ∨ 2 ≤ (fv Po 291 1).toInt) ∧ FS cC (rC Po) (0 : Int) := ⟨by omega, if hk : (fv Po 291 0).toInt = 0 then (by unfold rC; rw [decide_eq_true (show (fv Po 291 0).toInt = 0 from by omega)]; exact FS_tm (Or.inr (Or.inr (Or.inr ⟨Or.inl ⟨rfl, by omega, by show ¬ (fv Po 292 0).toInt ≤ (fv Po 292 1).toInt; omega, by show ¬ (fv Po 292 ((fv Po 291 1).toInt.toNat - 1)).toInt ≤ (fv Po 292 ((fv Po 291 1).toInt.toNat - 2)).toInt; omega⟩, Or.inr ⟨fun j h1 h2 => i_3 j (by have h1 : 1 ≤ j := h1; omega) (by have h2 : j < (fv Po 291 1).toInt.toNat - 1 := h2; omega), rfl⟩⟩)))) else (by unfold rC; rw [decide_eq_false (show ¬ (fv Po 291 0).toInt = 0 from by omega)]; exact FS_tm (Or.inr (Or.inr (Or.inr ⟨Or.inr ⟨rfl, by omega⟩, Or.inr ⟨fun j h1 h2 => i_3 j (by have h1 : 0 ≤ j := h1; omega) (by have h2 : j < (fv Po 291 1).toInt.toNat := h2; omega), rfl⟩⟩))))⟩
    exact mp_iret ⟨⟨_, rfl, u9⟩, rfl⟩ dX3_firstStep_210 (Or.inl rfl)
  · have c8 : v3.toInt < z5.toInt := ti_ge_n c8
    refine mp_a (a_aload_n dX3_firstStep_117 rfl) (mpp 118 rfl ?_)
    refine mt_getU (i := 9) (k := 2) (A := 292) hT dX3_firstStep_118 rfl rl_291 (by decide) rfl (by decide) rfl un_11 (mpp 121 rfl ?_)
    refine mp_a (a_iload_n dX3_firstStep_121 rfl) (mpp 122 rfl ?_)
    refine mp_calls (i := 39) (q' := q_12) (As := [.ref 292, .int v3]) (rest := []) dX3_firstStep_122 rfl qm_12 (by decide) rfl (Nat.le_of_ble_eq_true rfl) rfl ⟨rfl, rfl⟩ ⟨Nat.le_of_ble_eq_true rfl, Nat.le_of_ble_eq_true rfl⟩ (EvP.mono (by decide) (c_F_at_rsizes hT hX )) (fun r11 P12 g13 => mpp 125 rfl ?_)
    obtain ⟨⟨x14, rfl, g15⟩, e16⟩ := g13
    have e16 := e16.symm
    subst e16
    have wx14 := ti_full x14
    replace g15 : (0 ≤ v3.toInt ∧ v3.toInt ≤ 7 ∧ x14.toInt = (fv Po 292 v3.toInt.toNat).toInt) ∨ ((v3.toInt < 0 ∨ 8 ≤ v3.toInt) ∧ x14.toInt = 0) := g15
    try replace g15 : x14.toInt = (fv Po 292 v3.toInt.toNat).toInt := (g15.resolve_right (by omega)).2.2
    show MEvP _ none q_52 125 [(0, .ref 291), (1, .int v1), (2, .int v2), (3, .int v3)] [.int x14] _ _ _ _
    refine mp_a (a_aload_n dX3_firstStep_125 rfl) (mpp 126 rfl ?_)
    refine mt_getU (i := 9) (k := 2) (A := 292) hT dX3_firstStep_126 rfl rl_291 (by decide) rfl (by decide) rfl un_11 (mpp 129 rfl ?_)
    refine mp_a (a_aload_n dX3_firstStep_129 rfl) (mpp 130 rfl ?_)
    refine mp_a (a_iload_n dX3_firstStep_130 rfl) (mpp 131 rfl ?_)
    refine mt_callv (i := 80) (q' := q_49) (As := [.int v3]) (rest := [.ref 292, .int x14]) hT dX3_firstStep_131 rfl qm_49 (by decide) rfl rl_291 (by decide) rfl (Nat.le_of_ble_eq_true rfl) rfl ⟨rfl, rfl⟩ ⟨Nat.le_of_ble_eq_true rfl, Nat.le_of_ble_eq_true rfl⟩ (EvP.mono (by decide) (c_CR_before_Reducer hT hX )) (fun r17 P18 g19 => mpp 134 rfl ?_)
    obtain ⟨⟨x20, rfl, g21⟩, e22⟩ := g19
    have e22 := e22.symm
    subst e22
    have wx20 := ti_full x20
    replace g21 : v3.toInt < 0 ∨ x20.toInt = (prI (fv Po 291 1).toInt.toNat v3.toInt.toNat : Nat) ∨ (fv Po 291 1).toInt = 0 := g21
    try replace g21 : x20.toInt = (prI (fv Po 291 1).toInt.toNat v3.toInt.toNat : Nat) := ((g21.resolve_left (by omega)).resolve_right (by omega))
    show MEvP _ none q_52 134 [(0, .ref 291), (1, .int v1), (2, .int v2), (3, .int v3)] [.int x20, .ref 292, .int x14] _ _ _ _
    refine mp_calls (i := 39) (q' := q_12) (As := [.ref 292, .int x20]) (rest := [.int x14]) dX3_firstStep_134 rfl qm_12 (by decide) rfl (Nat.le_of_ble_eq_true rfl) rfl ⟨rfl, rfl⟩ ⟨Nat.le_of_ble_eq_true rfl, Nat.le_of_ble_eq_true rfl⟩ (EvP.mono (by decide) (c_F_at_rsizes hT hX )) (fun r23 P24 g25 => mpp 137 rfl ?_)
    obtain ⟨⟨x26, rfl, g27⟩, e28⟩ := g25
    have e28 := e28.symm
    subst e28
    have wx26 := ti_full x26
    replace g27 : (0 ≤ x20.toInt ∧ x20.toInt ≤ 7 ∧ x26.toInt = (fv Po 292 x20.toInt.toNat).toInt) ∨ ((x20.toInt < 0 ∨ 8 ≤ x20.toInt) ∧ x26.toInt = 0) := g27
    try replace g27 : x26.toInt = (fv Po 292 x20.toInt.toNat).toInt := (g27.resolve_right (by omega)).2.2
    show MEvP _ none q_52 137 [(0, .ref 291), (1, .int v1), (2, .int v2), (3, .int v3)] [.int x26, .int x14] _ _ _ _
    refine mp_Tb (t := 167) (j_icmp_gt dX3_firstStep_137) (by decide) (fun c29 => ?_) (fun c29 => mpp 140 rfl ?_)
    · have c29 : x14.toInt > x26.toInt := ti_gt c29
      refine mp_a (a_iconst (v := 0) dX3_firstStep_167 rfl) (mpp 168 rfl ?_)
      refine mp_a (a_istore (L' := [(4, .int 0), (0, .ref 291), (1, .int v1), (2, .int v2), (3, .int v3)]) dX3_firstStep_168 (by decide) rfl) (mpp 170 rfl ?_)
      refine mp_a (a_iload dX3_firstStep_170 rfl) (mpp 172 rfl ?_)
      refine mp_Tt (t := 203) (j_if_eq dX3_firstStep_172) (by decide) (by decide) ?_
      obtain ⟨z30, h31⟩ := ti_ex (v3 + 1 : Int32)
      have wz30 := ti_full z30
      refine mp_a (a_iinc (v := z30) (L' := [(3, .int z30), (4, .int 0), (0, .ref 291), (1, .int v1), (2, .int v2)]) dX3_firstStep_203 (by decide) rfl h31 rfl) (mpp 206 rfl ?_)
      try have e32 : z30.toInt = v3.toInt + 1 := ti_addz h31 rfl rfl (by omega) (by omega)
      refine mp_a (a_goto (t := 107) dX3_firstStep_206 (by decide)) ?_
      refine MEvP.less (L := [(0, .ref 291), (1, .int v1), (2, .int v2), (3, .int z30)]) rfl rfl ⟨rfl, rfl, rfl, rfl, trivial⟩ ?_
      have i33 : 2 ≤ (fv Po 291 1).toInt := by omega
      have i34 : ((fv Po 291 0).toInt = 0 ∧ v1.toInt = 1 ∧ v2.toInt = 1) ∨ ((fv Po 291 0).toInt ≠ 0 ∧ v1.toInt = 0 ∧ v2.toInt = 0) := by omega
      have i35 : v2.toInt ≤ z30.toInt := by omega
      have q37 := prI_lt (n := (fv Po 291 1).toInt.toNat) (i := v3.toInt.toNat) (by omega)
      have q38 := nxI_lt (n := (fv Po 291 1).toInt.toNat) (i := v3.toInt.toNat) (by omega)
      have q39 : x14.toInt = (fv Po 292 v3.toInt.toNat).toInt := by omega
      have q40 : x26.toInt = (fv Po 292 (prI (fv Po 291 1).toInt.toNat v3.toInt.toNat)).toInt := by rw [show (prI (fv Po 291 1).toInt.toNat v3.toInt.toNat) = x20.toInt.toNat from by omega]; omega
      have w41_ : ¬ ((fv Po 292 v3.toInt.toNat).toInt ≤ (fv Po 292 (prI (fv Po 291 1).toInt.toNat v3.toInt.toNat)).toInt ∧ (fv Po 292 v3.toInt.toNat).toInt ≤ (fv Po 292 (nxI (fv Po 291 1).toInt.toNat v3.toInt.toNat)).toInt ∧ ¬ (fv Po 293 v3.toInt.toNat).toInt = (fv Po 293 (nxI (fv Po 291 1).toInt.toNat v3.toInt.toNat)).toInt) := by omega
      have i36 : ∀ j : Nat, v2.toInt ≤ (j : Int) → (j : Int) < z30.toInt → ¬ CRf cC (fv Po 291 1).toInt.toNat (fun j : Nat => fv Po 292 j) (fun j : Nat => fv Po 293 j) j := fun j h1 h2 => if e : j = v3.toInt.toNat then fun h => w41_ (e ▸ h) else i_3 j h1 (by omega)
      have i42 : ((fv Po 291 0).toInt = 0 ∧ ¬ (fv Po 292 0).toInt ≤ (fv Po 292 1).toInt ∧ ¬ (fv Po 292 ((fv Po 291 1).toInt.toNat - 1)).toInt ≤ (fv Po 292 ((fv Po 291 1).toInt.toNat - 2)).toInt) ∨ ((fv Po 291 0).toInt ≠ 0 ∧ 3 ≤ (fv Po 291 1).toInt) := i_4
      have i43 : z30.toInt ≤ (fv Po 291 1).toInt := by omega
      exact ih _ (by omega) _ _ _ i33 i34 i35 i36 i42 i43 rfl
    · have c29 : x14.toInt ≤ x26.toInt := ti_gt_n c29
      refine mp_a (a_aload_n dX3_firstStep_140 rfl) (mpp 141 rfl ?_)
      refine mt_getU (i := 9) (k := 2) (A := 292) hT dX3_firstStep_141 rfl rl_291 (by decide) rfl (by decide) rfl un_11 (mpp 144 rfl ?_)
      refine mp_a (a_iload_n dX3_firstStep_144 rfl) (mpp 145 rfl ?_)
      refine mp_calls (i := 39) (q' := q_12) (As := [.ref 292, .int v3]) (rest := []) dX3_firstStep_145 rfl qm_12 (by decide) rfl (Nat.le_of_ble_eq_true rfl) rfl ⟨rfl, rfl⟩ ⟨Nat.le_of_ble_eq_true rfl, Nat.le_of_ble_eq_true rfl⟩ (EvP.mono (by decide) (c_F_at_rsizes hT hX )) (fun r44 P45 g46 => mpp 148 rfl ?_)
      obtain ⟨⟨x47, rfl, g48⟩, e49⟩ := g46
      have e49 := e49.symm
      subst e49
      have wx47 := ti_full x47
      replace g48 : (0 ≤ v3.toInt ∧ v3.toInt ≤ 7 ∧ x47.toInt = (fv Po 292 v3.toInt.toNat).toInt) ∨ ((v3.toInt < 0 ∨ 8 ≤ v3.toInt) ∧ x47.toInt = 0) := g48
      try replace g48 : x47.toInt = (fv Po 292 v3.toInt.toNat).toInt := (g48.resolve_right (by omega)).2.2
      show MEvP _ none q_52 148 [(0, .ref 291), (1, .int v1), (2, .int v2), (3, .int v3)] [.int x47] _ _ _ _
      refine mp_a (a_aload_n dX3_firstStep_148 rfl) (mpp 149 rfl ?_)
      refine mt_getU (i := 9) (k := 2) (A := 292) hT dX3_firstStep_149 rfl rl_291 (by decide) rfl (by decide) rfl un_11 (mpp 152 rfl ?_)
      refine mp_a (a_aload_n dX3_firstStep_152 rfl) (mpp 153 rfl ?_)
      refine mp_a (a_iload_n dX3_firstStep_153 rfl) (mpp 154 rfl ?_)
      refine mt_callv (i := 83) (q' := q_50) (As := [.int v3]) (rest := [.ref 292, .int x47]) hT dX3_firstStep_154 rfl qm_50 (by decide) rfl rl_291 (by decide) rfl (Nat.le_of_ble_eq_true rfl) rfl ⟨rfl, rfl⟩ ⟨Nat.le_of_ble_eq_true rfl, Nat.le_of_ble_eq_true rfl⟩ (EvP.mono (by decide) (c_CR_after_Reducer hT hX )) (fun r50 P51 g52 => mpp 157 rfl ?_)
      obtain ⟨⟨x53, rfl, g54⟩, e55⟩ := g52
      have e55 := e55.symm
      subst e55
      have wx53 := ti_full x53
      replace g54 : v3.toInt < 0 ∨ x53.toInt = (nxI (fv Po 291 1).toInt.toNat v3.toInt.toNat : Nat) := g54
      try replace g54 : x53.toInt = (nxI (fv Po 291 1).toInt.toNat v3.toInt.toNat : Nat) := (g54.resolve_left (by omega))
      show MEvP _ none q_52 157 [(0, .ref 291), (1, .int v1), (2, .int v2), (3, .int v3)] [.int x53, .ref 292, .int x47] _ _ _ _
      refine mp_calls (i := 39) (q' := q_12) (As := [.ref 292, .int x53]) (rest := [.int x47]) dX3_firstStep_157 rfl qm_12 (by decide) rfl (Nat.le_of_ble_eq_true rfl) rfl ⟨rfl, rfl⟩ ⟨Nat.le_of_ble_eq_true rfl, Nat.le_of_ble_eq_true rfl⟩ (EvP.mono (by decide) (c_F_at_rsizes hT hX )) (fun r56 P57 g58 => mpp 160 rfl ?_)
      obtain ⟨⟨x59, rfl, g60⟩, e61⟩ := g58
      have e61 := e61.symm
      subst e61
      have wx59 := ti_full x59
      replace g60 : (0 ≤ x53.toInt ∧ x53.toInt ≤ 7 ∧ x59.toInt = (fv Po 292 x53.toInt.toNat).toInt) ∨ ((x53.toInt < 0 ∨ 8 ≤ x53.toInt) ∧ x59.toInt = 0) := g60
      try replace g60 : x59.toInt = (fv Po 292 x53.toInt.toNat).toInt := (g60.resolve_right (by omega)).2.2
      show MEvP _ none q_52 160 [(0, .ref 291), (1, .int v1), (2, .int v2), (3, .int v3)] [.int x59, .int x47] _ _ _ _
      refine mp_Tb (t := 167) (j_icmp_gt dX3_firstStep_160) (by decide) (fun c62 => ?_) (fun c62 => mpp 163 rfl ?_)
      · have c62 : x47.toInt > x59.toInt := ti_gt c62
        refine mp_a (a_iconst (v := 0) dX3_firstStep_167 rfl) (mpp 168 rfl ?_)
        refine mp_a (a_istore (L' := [(4, .int 0), (0, .ref 291), (1, .int v1), (2, .int v2), (3, .int v3)]) dX3_firstStep_168 (by decide) rfl) (mpp 170 rfl ?_)
        refine mp_a (a_iload dX3_firstStep_170 rfl) (mpp 172 rfl ?_)
        refine mp_Tt (t := 203) (j_if_eq dX3_firstStep_172) (by decide) (by decide) ?_
        obtain ⟨z63, h64⟩ := ti_ex (v3 + 1 : Int32)
        have wz63 := ti_full z63
        refine mp_a (a_iinc (v := z63) (L' := [(3, .int z63), (4, .int 0), (0, .ref 291), (1, .int v1), (2, .int v2)]) dX3_firstStep_203 (by decide) rfl h64 rfl) (mpp 206 rfl ?_)
        try have e65 : z63.toInt = v3.toInt + 1 := ti_addz h64 rfl rfl (by omega) (by omega)
        refine mp_a (a_goto (t := 107) dX3_firstStep_206 (by decide)) ?_
        refine MEvP.less (L := [(0, .ref 291), (1, .int v1), (2, .int v2), (3, .int z63)]) rfl rfl ⟨rfl, rfl, rfl, rfl, trivial⟩ ?_
        have i66 : 2 ≤ (fv Po 291 1).toInt := by omega
        have i67 : ((fv Po 291 0).toInt = 0 ∧ v1.toInt = 1 ∧ v2.toInt = 1) ∨ ((fv Po 291 0).toInt ≠ 0 ∧ v1.toInt = 0 ∧ v2.toInt = 0) := by omega
        have i68 : v2.toInt ≤ z63.toInt := by omega
        have q70 := prI_lt (n := (fv Po 291 1).toInt.toNat) (i := v3.toInt.toNat) (by omega)
        have q71 := nxI_lt (n := (fv Po 291 1).toInt.toNat) (i := v3.toInt.toNat) (by omega)
        have q72 : x14.toInt = (fv Po 292 v3.toInt.toNat).toInt := by omega
        have q73 : x26.toInt = (fv Po 292 (prI (fv Po 291 1).toInt.toNat v3.toInt.toNat)).toInt := by rw [show (prI (fv Po 291 1).toInt.toNat v3.toInt.toNat) = x20.toInt.toNat from by omega]; omega
        have q74 : x47.toInt = (fv Po 292 v3.toInt.toNat).toInt := by omega
        have q75 : x59.toInt = (fv Po 292 (nxI (fv Po 291 1).toInt.toNat v3.toInt.toNat)).toInt := by rw [show (nxI (fv Po 291 1).toInt.toNat v3.toInt.toNat) = x53.toInt.toNat from by omega]; omega
        have w76_ : ¬ ((fv Po 292 v3.toInt.toNat).toInt ≤ (fv Po 292 (prI (fv Po 291 1).toInt.toNat v3.toInt.toNat)).toInt ∧ (fv Po 292 v3.toInt.toNat).toInt ≤ (fv Po 292 (nxI (fv Po 291 1).toInt.toNat v3.toInt.toNat)).toInt ∧ ¬ (fv Po 293 v3.toInt.toNat).toInt = (fv Po 293 (nxI (fv Po 291 1).toInt.toNat v3.toInt.toNat)).toInt) := by omega
        have i69 : ∀ j : Nat, v2.toInt ≤ (j : Int) → (j : Int) < z63.toInt → ¬ CRf cC (fv Po 291 1).toInt.toNat (fun j : Nat => fv Po 292 j) (fun j : Nat => fv Po 293 j) j := fun j h1 h2 => if e : j = v3.toInt.toNat then fun h => w76_ (e ▸ h) else i_3 j h1 (by omega)
        have i77 : ((fv Po 291 0).toInt = 0 ∧ ¬ (fv Po 292 0).toInt ≤ (fv Po 292 1).toInt ∧ ¬ (fv Po 292 ((fv Po 291 1).toInt.toNat - 1)).toInt ≤ (fv Po 292 ((fv Po 291 1).toInt.toNat - 2)).toInt) ∨ ((fv Po 291 0).toInt ≠ 0 ∧ 3 ≤ (fv Po 291 1).toInt) := i_4
        have i78 : z63.toInt ≤ (fv Po 291 1).toInt := by omega
        exact ih _ (by omega) _ _ _ i66 i67 i68 i69 i77 i78 rfl
      · have c62 : x47.toInt ≤ x59.toInt := ti_gt_n c62
        refine mp_a (a_iconst (v := 1) dX3_firstStep_163 rfl) (mpp 164 rfl ?_)
        refine mp_a (a_goto (t := 168) dX3_firstStep_164 (by decide)) ?_
        refine mp_a (a_istore (L' := [(4, .int 1), (0, .ref 291), (1, .int v1), (2, .int v2), (3, .int v3)]) dX3_firstStep_168 (by decide) rfl) (mpp 170 rfl ?_)
        refine mp_a (a_iload dX3_firstStep_170 rfl) (mpp 172 rfl ?_)
        refine mp_Tf (t := 203) (j_if_eq dX3_firstStep_172) (by decide) (by decide) (mpp 175 rfl ?_)
        refine mp_a (a_aload_n dX3_firstStep_175 rfl) (mpp 176 rfl ?_)
        refine mt_getU (i := 15) (k := 3) (A := 293) hT dX3_firstStep_176 rfl rl_291 (by decide) rfl (by decide) rfl un_12 (mpp 179 rfl ?_)
        refine mp_a (a_iload_n dX3_firstStep_179 rfl) (mpp 180 rfl ?_)
        refine mp_calls (i := 39) (q' := q_12) (As := [.ref 293, .int v3]) (rest := []) dX3_firstStep_180 rfl qm_12 (by decide) rfl (Nat.le_of_ble_eq_true rfl) rfl ⟨rfl, rfl⟩ ⟨Nat.le_of_ble_eq_true rfl, Nat.le_of_ble_eq_true rfl⟩ (EvP.mono (by decide) (c_F_at_rcreases hT hX )) (fun r79 P80 g81 => mpp 183 rfl ?_)
        obtain ⟨⟨x82, rfl, g83⟩, e84⟩ := g81
        have e84 := e84.symm
        subst e84
        have wx82 := ti_full x82
        replace g83 : (0 ≤ v3.toInt ∧ v3.toInt ≤ 7 ∧ x82.toInt = (fv Po 293 v3.toInt.toNat).toInt) ∨ ((v3.toInt < 0 ∨ 8 ≤ v3.toInt) ∧ x82.toInt = 0) := g83
        try replace g83 : x82.toInt = (fv Po 293 v3.toInt.toNat).toInt := (g83.resolve_right (by omega)).2.2
        show MEvP _ none q_52 183 [(4, .int 1), (0, .ref 291), (1, .int v1), (2, .int v2), (3, .int v3)] [.int x82] _ _ _ _
        refine mp_a (a_aload_n dX3_firstStep_183 rfl) (mpp 184 rfl ?_)
        refine mt_getU (i := 15) (k := 3) (A := 293) hT dX3_firstStep_184 rfl rl_291 (by decide) rfl (by decide) rfl un_12 (mpp 187 rfl ?_)
        refine mp_a (a_aload_n dX3_firstStep_187 rfl) (mpp 188 rfl ?_)
        refine mp_a (a_iload_n dX3_firstStep_188 rfl) (mpp 189 rfl ?_)
        refine mt_callv (i := 83) (q' := q_50) (As := [.int v3]) (rest := [.ref 293, .int x82]) hT dX3_firstStep_189 rfl qm_50 (by decide) rfl rl_291 (by decide) rfl (Nat.le_of_ble_eq_true rfl) rfl ⟨rfl, rfl⟩ ⟨Nat.le_of_ble_eq_true rfl, Nat.le_of_ble_eq_true rfl⟩ (EvP.mono (by decide) (c_CR_after_Reducer hT hX )) (fun r85 P86 g87 => mpp 192 rfl ?_)
        obtain ⟨⟨x88, rfl, g89⟩, e90⟩ := g87
        have e90 := e90.symm
        subst e90
        have wx88 := ti_full x88
        replace g89 : v3.toInt < 0 ∨ x88.toInt = (nxI (fv Po 291 1).toInt.toNat v3.toInt.toNat : Nat) := g89
        try replace g89 : x88.toInt = (nxI (fv Po 291 1).toInt.toNat v3.toInt.toNat : Nat) := (g89.resolve_left (by omega))
        show MEvP _ none q_52 192 [(4, .int 1), (0, .ref 291), (1, .int v1), (2, .int v2), (3, .int v3)] [.int x88, .ref 293, .int x82] _ _ _ _
        refine mp_calls (i := 39) (q' := q_12) (As := [.ref 293, .int x88]) (rest := [.int x82]) dX3_firstStep_192 rfl qm_12 (by decide) rfl (Nat.le_of_ble_eq_true rfl) rfl ⟨rfl, rfl⟩ ⟨Nat.le_of_ble_eq_true rfl, Nat.le_of_ble_eq_true rfl⟩ (EvP.mono (by decide) (c_F_at_rcreases hT hX )) (fun r91 P92 g93 => mpp 195 rfl ?_)
        obtain ⟨⟨x94, rfl, g95⟩, e96⟩ := g93
        have e96 := e96.symm
        subst e96
        have wx94 := ti_full x94
        replace g95 : (0 ≤ x88.toInt ∧ x88.toInt ≤ 7 ∧ x94.toInt = (fv Po 293 x88.toInt.toNat).toInt) ∨ ((x88.toInt < 0 ∨ 8 ≤ x88.toInt) ∧ x94.toInt = 0) := g95
        try replace g95 : x94.toInt = (fv Po 293 x88.toInt.toNat).toInt := (g95.resolve_right (by omega)).2.2
        show MEvP _ none q_52 195 [(4, .int 1), (0, .ref 291), (1, .int v1), (2, .int v2), (3, .int v3)] [.int x94, .int x82] _ _ _ _
        refine mp_Tb (t := 203) (j_icmp_eq dX3_firstStep_195) (by decide) (fun c97 => ?_) (fun c97 => mpp 198 rfl ?_)
        · have c97 : x82.toInt = x94.toInt := ti_eq c97
          obtain ⟨z98, h99⟩ := ti_ex (v3 + 1 : Int32)
          have wz98 := ti_full z98
          refine mp_a (a_iinc (v := z98) (L' := [(3, .int z98), (4, .int 1), (0, .ref 291), (1, .int v1), (2, .int v2)]) dX3_firstStep_203 (by decide) rfl h99 rfl) (mpp 206 rfl ?_)
          try have e100 : z98.toInt = v3.toInt + 1 := ti_addz h99 rfl rfl (by omega) (by omega)
          refine mp_a (a_goto (t := 107) dX3_firstStep_206 (by decide)) ?_
          refine MEvP.less (L := [(0, .ref 291), (1, .int v1), (2, .int v2), (3, .int z98)]) rfl rfl ⟨rfl, rfl, rfl, rfl, trivial⟩ ?_
          have i101 : 2 ≤ (fv Po 291 1).toInt := by omega
          have i102 : ((fv Po 291 0).toInt = 0 ∧ v1.toInt = 1 ∧ v2.toInt = 1) ∨ ((fv Po 291 0).toInt ≠ 0 ∧ v1.toInt = 0 ∧ v2.toInt = 0) := by omega
          have i103 : v2.toInt ≤ z98.toInt := by omega
          have q105 := prI_lt (n := (fv Po 291 1).toInt.toNat) (i := v3.toInt.toNat) (by omega)
          have q106 := nxI_lt (n := (fv Po 291 1).toInt.toNat) (i := v3.toInt.toNat) (by omega)
          have q107 : x14.toInt = (fv Po 292 v3.toInt.toNat).toInt := by omega
          have q108 : x26.toInt = (fv Po 292 (prI (fv Po 291 1).toInt.toNat v3.toInt.toNat)).toInt := by rw [show (prI (fv Po 291 1).toInt.toNat v3.toInt.toNat) = x20.toInt.toNat from by omega]; omega
          have q109 : x47.toInt = (fv Po 292 v3.toInt.toNat).toInt := by omega
          have q110 : x59.toInt = (fv Po 292 (nxI (fv Po 291 1).toInt.toNat v3.toInt.toNat)).toInt := by rw [show (nxI (fv Po 291 1).toInt.toNat v3.toInt.toNat) = x53.toInt.toNat from by omega]; omega
          have q111 : x82.toInt = (fv Po 293 v3.toInt.toNat).toInt := by omega
          have q112 : x94.toInt = (fv Po 293 (nxI (fv Po 291 1).toInt.toNat v3.toInt.toNat)).toInt := by rw [show (nxI (fv Po 291 1).toInt.toNat v3.toInt.toNat) = x88.toInt.toNat from by omega]; omega
          have w113_ : ¬ ((fv Po 292 v3.toInt.toNat).toInt ≤ (fv Po 292 (prI (fv Po 291 1).toInt.toNat v3.toInt.toNat)).toInt ∧ (fv Po 292 v3.toInt.toNat).toInt ≤ (fv Po 292 (nxI (fv Po 291 1).toInt.toNat v3.toInt.toNat)).toInt ∧ ¬ (fv Po 293 v3.toInt.toNat).toInt = (fv Po 293 (nxI (fv Po 291 1).toInt.toNat v3.toInt.toNat)).toInt) := by omega
          have i104 : ∀ j : Nat, v2.toInt ≤ (j : Int) → (j : Int) < z98.toInt → ¬ CRf cC (fv Po 291 1).toInt.toNat (fun j : Nat => fv Po 292 j) (fun j : Nat => fv Po 293 j) j := fun j h1 h2 => if e : j = v3.toInt.toNat then fun h => w113_ (e ▸ h) else i_3 j h1 (by omega)
          have i114 : ((fv Po 291 0).toInt = 0 ∧ ¬ (fv Po 292 0).toInt ≤ (fv Po 292 1).toInt ∧ ¬ (fv Po 292 ((fv Po 291 1).toInt.toNat - 1)).toInt ≤ (fv Po 292 ((fv Po 291 1).toInt.toNat - 2)).toInt) ∨ ((fv Po 291 0).toInt ≠ 0 ∧ 3 ≤ (fv Po 291 1).toInt) := i_4
          have i115 : z98.toInt ≤ (fv Po 291 1).toInt := by omega
          exact ih _ (by omega) _ _ _ i101 i102 i103 i104 i114 i115 rfl
        · have c97 : x82.toInt ≠ x94.toInt := ti_eq_n c97
          refine mp_a (a_bipush (v := 10) dX3_firstStep_198 rfl) (mpp 200 rfl ?_)
          refine mp_a (a_iload_n dX3_firstStep_200 rfl) (mpp 201 rfl ?_)
          obtain ⟨z116, h117⟩ := ti_ex (10 + v3 : Int32)
          have wz116 := ti_full z116
          refine mp_t (s_iadd (v := z116) dX3_firstStep_201 h117) (mpp 202 rfl ?_)
          try have e118 : z116.toInt = 10 + v3.toInt := ti_addz h117 rfl rfl (by omega) (by omega)
          have q121 := prI_lt (n := (fv Po 291 1).toInt.toNat) (i := v3.toInt.toNat) (by omega)
          have q122 := nxI_lt (n := (fv Po 291 1).toInt.toNat) (i := v3.toInt.toNat) (by omega)
          have q123 : x14.toInt = (fv Po 292 v3.toInt.toNat).toInt := by omega
          have q124 : x26.toInt = (fv Po 292 (prI (fv Po 291 1).toInt.toNat v3.toInt.toNat)).toInt := by rw [show (prI (fv Po 291 1).toInt.toNat v3.toInt.toNat) = x20.toInt.toNat from by omega]; omega
          have q125 : x47.toInt = (fv Po 292 v3.toInt.toNat).toInt := by omega
          have q126 : x59.toInt = (fv Po 292 (nxI (fv Po 291 1).toInt.toNat v3.toInt.toNat)).toInt := by rw [show (nxI (fv Po 291 1).toInt.toNat v3.toInt.toNat) = x53.toInt.toNat from by omega]; omega
          have q127 : x82.toInt = (fv Po 293 v3.toInt.toNat).toInt := by omega
          have q128 : x94.toInt = (fv Po 293 (nxI (fv Po 291 1).toInt.toNat v3.toInt.toNat)).toInt := by rw [show (nxI (fv Po 291 1).toInt.toNat v3.toInt.toNat) = x88.toInt.toNat from by omega]; omega
          have w120_ : ((fv Po 292 v3.toInt.toNat).toInt ≤ (fv Po 292 (prI (fv Po 291 1).toInt.toNat v3.toInt.toNat)).toInt ∧ (fv Po 292 v3.toInt.toNat).toInt ≤ (fv Po 292 (nxI (fv Po 291 1).toInt.toNat v3.toInt.toNat)).toInt ∧ ¬ (fv Po 293 v3.toInt.toNat).toInt = (fv Po 293 (nxI (fv Po 291 1).toInt.toNat v3.toInt.toNat)).toInt) := by omega
          have u119 : (z116.toInt = 0 ∨ 2 ≤ (fv Po 291 1).toInt) ∧ FS cC (rC Po) z116.toInt := ⟨by omega, if hk : (fv Po 291 0).toInt = 0 then (by unfold rC; rw [decide_eq_true (show (fv Po 291 0).toInt = 0 from by omega)]; exact FS_tm (Or.inr (Or.inr (Or.inr ⟨Or.inl ⟨rfl, by omega, by show ¬ (fv Po 292 0).toInt ≤ (fv Po 292 1).toInt; omega, by show ¬ (fv Po 292 ((fv Po 291 1).toInt.toNat - 1)).toInt ≤ (fv Po 292 ((fv Po 291 1).toInt.toNat - 2)).toInt; omega⟩, Or.inl ⟨v3.toInt.toNat, (show 1 ≤ v3.toInt.toNat from by omega), (show v3.toInt.toNat < (fv Po 291 1).toInt.toNat - 1 from by omega), w120_, fun j h1 h2 => i_3 j (by have h1 : 1 ≤ j := h1; omega) (by omega), by omega⟩⟩)))) else (by unfold rC; rw [decide_eq_false (show ¬ (fv Po 291 0).toInt = 0 from by omega)]; exact FS_tm (Or.inr (Or.inr (Or.inr ⟨Or.inr ⟨rfl, by omega⟩, Or.inl ⟨v3.toInt.toNat, (show 0 ≤ v3.toInt.toNat from by omega), (show v3.toInt.toNat < (fv Po 291 1).toInt.toNat from by omega), w120_, fun j h1 h2 => i_3 j (by have h1 : 0 ≤ j := h1; omega) (by omega), by omega⟩⟩))))⟩
          exact mp_iret ⟨⟨_, rfl, u119⟩, rfl⟩ dX3_firstStep_202 (Or.inl rfl)

set_option maxHeartbeats 4000000 in
theorem c_CR_firstStep_Reducer {Po : mP}  (hT : Typ Po) (hX : XR Po)   : EvP 2 52 [.ref 291] Po (fun r P' => (∃ x : Int32, r = some (.int x) ∧ ((x.toInt = 0 ∨ 2 ≤ (fv Po 291 1).toInt) ∧ FS cC (rC Po) x.toInt)) ∧ P' = Po) := by
  refine EvP.of qm_52 (Nat.le_of_ble_eq_true rfl) rfl ?_
  show MEvP _ none q_52 0 [(0, .ref 291)] [] _ 0 0 _
  have g1 : (0 : Int) ≤ (fv Po 291 1).toInt ∧ (fv Po 291 1).toInt ≤ 8 := Typ.rng hT rl_291 (by decide) (by decide) rfl
  refine mp_a (a_aload_n dX3_firstStep_0 rfl) (mpp 1 rfl ?_)
  have g2 := ti_full (fv Po 291 0)
  refine mt_getI (i := 24) (k := 0) hT dX3_firstStep_1 rfl rl_291 (by decide) rfl (by decide) rfl (fun g3 g4 => mpp 4 rfl ?_)
  refine mp_Tb (t := 11) (j_if_ne dX3_firstStep_4) (by decide) (fun c5 => ?_) (fun c5 => mpp 7 rfl ?_)
  · have c5 : (fv Po 291 0).toInt ≠ 0 := ti_ne c5
    refine mp_a (a_iconst (v := 0) dX3_firstStep_11 rfl) (mpp 12 rfl ?_)
    refine mp_a (a_istore_n (L' := [(1, .int 0), (0, .ref 291)]) dX3_firstStep_12 (by decide) rfl) (mpp 13 rfl ?_)
    refine mp_a (a_aload_n dX3_firstStep_13 rfl) (mpp 14 rfl ?_)
    refine mt_getI (i := 28) (k := 1) hT dX3_firstStep_14 rfl rl_291 (by decide) rfl (by decide) rfl (fun g6 g7 => mpp 17 rfl ?_)
    refine mp_a (a_iconst (v := 2) dX3_firstStep_17 rfl) (mpp 18 rfl ?_)
    refine mp_Tb (t := 33) (j_icmp_lt dX3_firstStep_18) (by decide) (fun c8 => ?_) (fun c8 => mpp 21 rfl ?_)
    · have c8 : (fv Po 291 1).toInt < 2 := ti_lt c8
      refine mp_a (a_iconst (v := 0) dX3_firstStep_33 rfl) (mpp 34 rfl ?_)
      have u9 : ((0 : Int) = 0 ∨ 2 ≤ (fv Po 291 1).toInt) ∧ FS cC (rC Po) (0 : Int) := ⟨Or.inl rfl, if hk : (fv Po 291 0).toInt = 0 then (by unfold rC; rw [decide_eq_true hk]; exact FS_tm (Or.inl ⟨Or.inl (by omega), rfl⟩)) else (by unfold rC; rw [decide_eq_false hk]; exact FS_tm (Or.inl ⟨(by have : ((fv Po 291 1).toInt.toNat < 2 ∨ (fv Po 291 1).toInt.toNat = 2) := (by omega); exact this.imp id (fun h => ⟨h, rfl⟩)), rfl⟩))⟩
      exact mp_iret ⟨⟨_, rfl, u9⟩, rfl⟩ dX3_firstStep_34 (Or.inl rfl)
    · have c8 : (fv Po 291 1).toInt ≥ 2 := ti_lt_n c8
      refine mp_a (a_aload_n dX3_firstStep_21 rfl) (mpp 22 rfl ?_)
      refine mt_getI (i := 28) (k := 1) hT dX3_firstStep_22 rfl rl_291 (by decide) rfl (by decide) rfl (fun g11 g12 => mpp 25 rfl ?_)
      refine mp_a (a_iconst (v := 2) dX3_firstStep_25 rfl) (mpp 26 rfl ?_)
      refine mp_Tb (t := 35) (j_icmp_ne dX3_firstStep_26) (by decide) (fun c13 => ?_) (fun c13 => mpp 29 rfl ?_)
      · have c13 : (fv Po 291 1).toInt ≠ 2 := ti_ne c13
        refine mp_a (a_iload_n dX3_firstStep_35 rfl) (mpp 36 rfl ?_)
        refine mp_Tt (t := 60) (j_if_eq dX3_firstStep_36) (by decide) (by decide) ?_
        refine mp_a (a_iload_n dX3_firstStep_60 rfl) (mpp 61 rfl ?_)
        refine mp_Tt (t := 95) (j_if_eq dX3_firstStep_61) (by decide) (by decide) ?_
        refine mp_a (a_iload_n dX3_firstStep_95 rfl) (mpp 96 rfl ?_)
        refine mp_Tt (t := 103) (j_if_eq dX3_firstStep_96) (by decide) (by decide) ?_
        refine mp_a (a_iconst (v := 0) dX3_firstStep_103 rfl) (mpp 104 rfl ?_)
        refine mp_a (a_istore_n (L' := [(2, .int 0), (1, .int 0), (0, .ref 291)]) dX3_firstStep_104 (by decide) rfl) (mpp 105 rfl ?_)
        refine mp_a (a_iload_n dX3_firstStep_105 rfl) (mpp 106 rfl ?_)
        refine mp_a (a_istore_n (L' := [(3, .int 0), (2, .int 0), (1, .int 0), (0, .ref 291)]) dX3_firstStep_106 (by decide) rfl) (mpp 107 rfl ?_)
        refine MEvP.less (L := [(0, .ref 291), (1, .int 0), (2, .int 0), (3, .int 0)]) rfl rfl ⟨rfl, rfl, rfl, rfl, trivial⟩ ?_
        have i14 : 2 ≤ (fv Po 291 1).toInt := by omega
        have i15 : ((fv Po 291 0).toInt = 0 ∧ (0 : Int) = 1 ∧ (0 : Int) = 1) ∨ ((fv Po 291 0).toInt ≠ 0 ∧ (0 : Int) = 0 ∧ (0 : Int) = 0) := by omega
        have i16 : (0 : Int) ≤ (0 : Int) := by omega
        have i17 : ∀ j : Nat, (0 : Int) ≤ (j : Int) → (j : Int) < (0 : Int) → ¬ CRf cC (fv Po 291 1).toInt.toNat (fun j : Nat => fv Po 292 j) (fun j : Nat => fv Po 293 j) j := fun j h1 h2 => absurd h1 (by omega)
        have i18 : ((fv Po 291 0).toInt = 0 ∧ ¬ (fv Po 292 0).toInt ≤ (fv Po 292 1).toInt ∧ ¬ (fv Po 292 ((fv Po 291 1).toInt.toNat - 1)).toInt ≤ (fv Po 292 ((fv Po 291 1).toInt.toNat - 2)).toInt) ∨ ((fv Po 291 0).toInt ≠ 0 ∧ 3 ≤ (fv Po 291 1).toInt) := by omega
        have i19 : (0 : Int) ≤ (fv Po 291 1).toInt := by omega
        exact c_CR_firstStep_Reducer_l107 hT hX   _ _ _ _ i14 i15 i16 i17 i18 i19 rfl
      · have c13 : (fv Po 291 1).toInt = 2 := ti_ne_n c13
        refine mp_a (a_iload_n dX3_firstStep_29 rfl) (mpp 30 rfl ?_)
        refine mp_Tf (t := 35) (j_if_ne dX3_firstStep_30) (by decide) (by decide) (mpp 33 rfl ?_)
        refine mp_a (a_iconst (v := 0) dX3_firstStep_33 rfl) (mpp 34 rfl ?_)
        have u20 : ((0 : Int) = 0 ∨ 2 ≤ (fv Po 291 1).toInt) ∧ FS cC (rC Po) (0 : Int) := ⟨Or.inl rfl, if hk : (fv Po 291 0).toInt = 0 then (by unfold rC; rw [decide_eq_true hk]; exact FS_tm (Or.inl ⟨Or.inl (by omega), rfl⟩)) else (by unfold rC; rw [decide_eq_false hk]; exact FS_tm (Or.inl ⟨(by have : ((fv Po 291 1).toInt.toNat < 2 ∨ (fv Po 291 1).toInt.toNat = 2) := (by omega); exact this.imp id (fun h => ⟨h, rfl⟩)), rfl⟩))⟩
        exact mp_iret ⟨⟨_, rfl, u20⟩, rfl⟩ dX3_firstStep_34 (Or.inl rfl)
  · have c5 : (fv Po 291 0).toInt = 0 := ti_ne_n c5
    refine mp_a (a_iconst (v := 1) dX3_firstStep_7 rfl) (mpp 8 rfl ?_)
    refine mp_a (a_goto (t := 12) dX3_firstStep_8 (by decide)) ?_
    refine mp_a (a_istore_n (L' := [(1, .int 1), (0, .ref 291)]) dX3_firstStep_12 (by decide) rfl) (mpp 13 rfl ?_)
    refine mp_a (a_aload_n dX3_firstStep_13 rfl) (mpp 14 rfl ?_)
    refine mt_getI (i := 28) (k := 1) hT dX3_firstStep_14 rfl rl_291 (by decide) rfl (by decide) rfl (fun g22 g23 => mpp 17 rfl ?_)
    refine mp_a (a_iconst (v := 2) dX3_firstStep_17 rfl) (mpp 18 rfl ?_)
    refine mp_Tb (t := 33) (j_icmp_lt dX3_firstStep_18) (by decide) (fun c24 => ?_) (fun c24 => mpp 21 rfl ?_)
    · have c24 : (fv Po 291 1).toInt < 2 := ti_lt c24
      refine mp_a (a_iconst (v := 0) dX3_firstStep_33 rfl) (mpp 34 rfl ?_)
      have u25 : ((0 : Int) = 0 ∨ 2 ≤ (fv Po 291 1).toInt) ∧ FS cC (rC Po) (0 : Int) := ⟨Or.inl rfl, if hk : (fv Po 291 0).toInt = 0 then (by unfold rC; rw [decide_eq_true hk]; exact FS_tm (Or.inl ⟨Or.inl (by omega), rfl⟩)) else (by unfold rC; rw [decide_eq_false hk]; exact FS_tm (Or.inl ⟨(by have : ((fv Po 291 1).toInt.toNat < 2 ∨ (fv Po 291 1).toInt.toNat = 2) := (by omega); exact this.imp id (fun h => ⟨h, rfl⟩)), rfl⟩))⟩
      exact mp_iret ⟨⟨_, rfl, u25⟩, rfl⟩ dX3_firstStep_34 (Or.inl rfl)
    · have c24 : (fv Po 291 1).toInt ≥ 2 := ti_lt_n c24
      refine mp_a (a_aload_n dX3_firstStep_21 rfl) (mpp 22 rfl ?_)
      refine mt_getI (i := 28) (k := 1) hT dX3_firstStep_22 rfl rl_291 (by decide) rfl (by decide) rfl (fun g27 g28 => mpp 25 rfl ?_)
      refine mp_a (a_iconst (v := 2) dX3_firstStep_25 rfl) (mpp 26 rfl ?_)
      refine mp_Tb (t := 35) (j_icmp_ne dX3_firstStep_26) (by decide) (fun c29 => ?_) (fun c29 => mpp 29 rfl ?_)
      · have c29 : (fv Po 291 1).toInt ≠ 2 := ti_ne c29
        refine mp_a (a_iload_n dX3_firstStep_35 rfl) (mpp 36 rfl ?_)
        refine mp_Tf (t := 60) (j_if_eq dX3_firstStep_36) (by decide) (by decide) (mpp 39 rfl ?_)
        refine mp_a (a_aload_n dX3_firstStep_39 rfl) (mpp 40 rfl ?_)
        refine mt_getU (i := 9) (k := 2) (A := 292) hT dX3_firstStep_40 rfl rl_291 (by decide) rfl (by decide) rfl un_11 (mpp 43 rfl ?_)
        refine mp_a (a_iconst (v := 0) dX3_firstStep_43 rfl) (mpp 44 rfl ?_)
        refine mp_calls (i := 39) (q' := q_12) (As := [.ref 292, .int 0]) (rest := []) dX3_firstStep_44 rfl qm_12 (by decide) rfl (Nat.le_of_ble_eq_true rfl) rfl ⟨rfl, rfl⟩ ⟨Nat.le_of_ble_eq_true rfl, Nat.le_of_ble_eq_true rfl⟩ (EvP.mono (by decide) (c_F_at_rsizes hT hX )) (fun r30 P31 g32 => mpp 47 rfl ?_)
        obtain ⟨⟨x33, rfl, g34⟩, e35⟩ := g32
        have e35 := e35.symm
        subst e35
        have wx33 := ti_full x33
        replace g34 : (0 ≤ (0 : Int) ∧ (0 : Int) ≤ 7 ∧ x33.toInt = (fv Po 292 0).toInt) ∨ (((0 : Int) < 0 ∨ 8 ≤ (0 : Int)) ∧ x33.toInt = 0) := g34
        try replace g34 : x33.toInt = (fv Po 292 0).toInt := (g34.resolve_right (by omega)).2.2
        show MEvP _ none q_52 47 [(1, .int 1), (0, .ref 291)] [.int x33] _ _ _ _
        refine mp_a (a_aload_n dX3_firstStep_47 rfl) (mpp 48 rfl ?_)
        refine mt_getU (i := 9) (k := 2) (A := 292) hT dX3_firstStep_48 rfl rl_291 (by decide) rfl (by decide) rfl un_11 (mpp 51 rfl ?_)
        refine mp_a (a_iconst (v := 1) dX3_firstStep_51 rfl) (mpp 52 rfl ?_)
        refine mp_calls (i := 39) (q' := q_12) (As := [.ref 292, .int 1]) (rest := [.int x33]) dX3_firstStep_52 rfl qm_12 (by decide) rfl (Nat.le_of_ble_eq_true rfl) rfl ⟨rfl, rfl⟩ ⟨Nat.le_of_ble_eq_true rfl, Nat.le_of_ble_eq_true rfl⟩ (EvP.mono (by decide) (c_F_at_rsizes hT hX )) (fun r36 P37 g38 => mpp 55 rfl ?_)
        obtain ⟨⟨x39, rfl, g40⟩, e41⟩ := g38
        have e41 := e41.symm
        subst e41
        have wx39 := ti_full x39
        replace g40 : (0 ≤ (1 : Int) ∧ (1 : Int) ≤ 7 ∧ x39.toInt = (fv Po 292 1).toInt) ∨ (((1 : Int) < 0 ∨ 8 ≤ (1 : Int)) ∧ x39.toInt = 0) := g40
        try replace g40 : x39.toInt = (fv Po 292 1).toInt := (g40.resolve_right (by omega)).2.2
        show MEvP _ none q_52 55 [(1, .int 1), (0, .ref 291)] [.int x39, .int x33] _ _ _ _
        refine mp_Tb (t := 60) (j_icmp_gt dX3_firstStep_55) (by decide) (fun c42 => ?_) (fun c42 => mpp 58 rfl ?_)
        · have c42 : x33.toInt > x39.toInt := ti_gt c42
          refine mp_a (a_iload_n dX3_firstStep_60 rfl) (mpp 61 rfl ?_)
          refine mp_Tf (t := 95) (j_if_eq dX3_firstStep_61) (by decide) (by decide) (mpp 64 rfl ?_)
          refine mp_a (a_aload_n dX3_firstStep_64 rfl) (mpp 65 rfl ?_)
          refine mt_getU (i := 9) (k := 2) (A := 292) hT dX3_firstStep_65 rfl rl_291 (by decide) rfl (by decide) rfl un_11 (mpp 68 rfl ?_)
          refine mp_a (a_aload_n dX3_firstStep_68 rfl) (mpp 69 rfl ?_)
          refine mt_getI (i := 28) (k := 1) hT dX3_firstStep_69 rfl rl_291 (by decide) rfl (by decide) rfl (fun g43 g44 => mpp 72 rfl ?_)
          refine mp_a (a_iconst (v := 1) dX3_firstStep_72 rfl) (mpp 73 rfl ?_)
          obtain ⟨z45, h46⟩ := ti_ex ((fv Po 291 1) - 1 : Int32)
          have wz45 := ti_full z45
          refine mp_t (s_isub (v := z45) dX3_firstStep_73 h46) (mpp 74 rfl ?_)
          try have e47 : z45.toInt = (fv Po 291 1).toInt - 1 := ti_subz h46 rfl rfl (by omega) (by omega)
          refine mp_calls (i := 39) (q' := q_12) (As := [.ref 292, .int z45]) (rest := []) dX3_firstStep_74 rfl qm_12 (by decide) rfl (Nat.le_of_ble_eq_true rfl) rfl ⟨rfl, rfl⟩ ⟨Nat.le_of_ble_eq_true rfl, Nat.le_of_ble_eq_true rfl⟩ (EvP.mono (by decide) (c_F_at_rsizes hT hX )) (fun r48 P49 g50 => mpp 77 rfl ?_)
          obtain ⟨⟨x51, rfl, g52⟩, e53⟩ := g50
          have e53 := e53.symm
          subst e53
          have wx51 := ti_full x51
          replace g52 : (0 ≤ z45.toInt ∧ z45.toInt ≤ 7 ∧ x51.toInt = (fv Po 292 z45.toInt.toNat).toInt) ∨ ((z45.toInt < 0 ∨ 8 ≤ z45.toInt) ∧ x51.toInt = 0) := g52
          try replace g52 : x51.toInt = (fv Po 292 z45.toInt.toNat).toInt := (g52.resolve_right (by omega)).2.2
          show MEvP _ none q_52 77 [(1, .int 1), (0, .ref 291)] [.int x51] _ _ _ _
          refine mp_a (a_aload_n dX3_firstStep_77 rfl) (mpp 78 rfl ?_)
          refine mt_getU (i := 9) (k := 2) (A := 292) hT dX3_firstStep_78 rfl rl_291 (by decide) rfl (by decide) rfl un_11 (mpp 81 rfl ?_)
          refine mp_a (a_aload_n dX3_firstStep_81 rfl) (mpp 82 rfl ?_)
          refine mt_getI (i := 28) (k := 1) hT dX3_firstStep_82 rfl rl_291 (by decide) rfl (by decide) rfl (fun g54 g55 => mpp 85 rfl ?_)
          refine mp_a (a_iconst (v := 2) dX3_firstStep_85 rfl) (mpp 86 rfl ?_)
          obtain ⟨z56, h57⟩ := ti_ex ((fv Po 291 1) - 2 : Int32)
          have wz56 := ti_full z56
          refine mp_t (s_isub (v := z56) dX3_firstStep_86 h57) (mpp 87 rfl ?_)
          try have e58 : z56.toInt = (fv Po 291 1).toInt - 2 := ti_subz h57 rfl rfl (by omega) (by omega)
          refine mp_calls (i := 39) (q' := q_12) (As := [.ref 292, .int z56]) (rest := [.int x51]) dX3_firstStep_87 rfl qm_12 (by decide) rfl (Nat.le_of_ble_eq_true rfl) rfl ⟨rfl, rfl⟩ ⟨Nat.le_of_ble_eq_true rfl, Nat.le_of_ble_eq_true rfl⟩ (EvP.mono (by decide) (c_F_at_rsizes hT hX )) (fun r59 P60 g61 => mpp 90 rfl ?_)
          obtain ⟨⟨x62, rfl, g63⟩, e64⟩ := g61
          have e64 := e64.symm
          subst e64
          have wx62 := ti_full x62
          replace g63 : (0 ≤ z56.toInt ∧ z56.toInt ≤ 7 ∧ x62.toInt = (fv Po 292 z56.toInt.toNat).toInt) ∨ ((z56.toInt < 0 ∨ 8 ≤ z56.toInt) ∧ x62.toInt = 0) := g63
          try replace g63 : x62.toInt = (fv Po 292 z56.toInt.toNat).toInt := (g63.resolve_right (by omega)).2.2
          show MEvP _ none q_52 90 [(1, .int 1), (0, .ref 291)] [.int x62, .int x51] _ _ _ _
          refine mp_Tb (t := 95) (j_icmp_gt dX3_firstStep_90) (by decide) (fun c65 => ?_) (fun c65 => mpp 93 rfl ?_)
          · have c65 : x51.toInt > x62.toInt := ti_gt c65
            refine mp_a (a_iload_n dX3_firstStep_95 rfl) (mpp 96 rfl ?_)
            refine mp_Tf (t := 103) (j_if_eq dX3_firstStep_96) (by decide) (by decide) (mpp 99 rfl ?_)
            refine mp_a (a_iconst (v := 1) dX3_firstStep_99 rfl) (mpp 100 rfl ?_)
            refine mp_a (a_goto (t := 104) dX3_firstStep_100 (by decide)) ?_
            refine mp_a (a_istore_n (L' := [(2, .int 1), (1, .int 1), (0, .ref 291)]) dX3_firstStep_104 (by decide) rfl) (mpp 105 rfl ?_)
            refine mp_a (a_iload_n dX3_firstStep_105 rfl) (mpp 106 rfl ?_)
            refine mp_a (a_istore_n (L' := [(3, .int 1), (2, .int 1), (1, .int 1), (0, .ref 291)]) dX3_firstStep_106 (by decide) rfl) (mpp 107 rfl ?_)
            refine MEvP.less (L := [(0, .ref 291), (1, .int 1), (2, .int 1), (3, .int 1)]) rfl rfl ⟨rfl, rfl, rfl, rfl, trivial⟩ ?_
            have i66 : 2 ≤ (fv Po 291 1).toInt := by omega
            have i67 : ((fv Po 291 0).toInt = 0 ∧ (1 : Int) = 1 ∧ (1 : Int) = 1) ∨ ((fv Po 291 0).toInt ≠ 0 ∧ (1 : Int) = 0 ∧ (1 : Int) = 0) := by omega
            have i68 : (1 : Int) ≤ (1 : Int) := by omega
            have i69 : ∀ j : Nat, (1 : Int) ≤ (j : Int) → (j : Int) < (1 : Int) → ¬ CRf cC (fv Po 291 1).toInt.toNat (fun j : Nat => fv Po 292 j) (fun j : Nat => fv Po 293 j) j := fun j h1 h2 => absurd h1 (by omega)
            have q71 : x51.toInt = (fv Po 292 ((fv Po 291 1).toInt.toNat - 1)).toInt := by rw [show (fv Po 291 1).toInt.toNat - 1 = z45.toInt.toNat from by omega]; omega
            have q72 : x62.toInt = (fv Po 292 ((fv Po 291 1).toInt.toNat - 2)).toInt := by rw [show (fv Po 291 1).toInt.toNat - 2 = z56.toInt.toNat from by omega]; omega
            have i70 : ((fv Po 291 0).toInt = 0 ∧ ¬ (fv Po 292 0).toInt ≤ (fv Po 292 1).toInt ∧ ¬ (fv Po 292 ((fv Po 291 1).toInt.toNat - 1)).toInt ≤ (fv Po 292 ((fv Po 291 1).toInt.toNat - 2)).toInt) ∨ ((fv Po 291 0).toInt ≠ 0 ∧ 3 ≤ (fv Po 291 1).toInt) := by omega
            have i73 : (1 : Int) ≤ (fv Po 291 1).toInt := by omega
            exact c_CR_firstStep_Reducer_l107 hT hX   _ _ _ _ i66 i67 i68 i69 i70 i73 rfl
          · have c65 : x51.toInt ≤ x62.toInt := ti_gt_n c65
            refine mp_a (a_iconst (v := 2) dX3_firstStep_93 rfl) (mpp 94 rfl ?_)
            have q76 : x51.toInt = (fv Po 292 ((fv Po 291 1).toInt.toNat - 1)).toInt := by rw [show (fv Po 291 1).toInt.toNat - 1 = z45.toInt.toNat from by omega]; omega
            have q77 : x62.toInt = (fv Po 292 ((fv Po 291 1).toInt.toNat - 2)).toInt := by rw [show (fv Po 291 1).toInt.toNat - 2 = z56.toInt.toNat from by omega]; omega
            have u74 : ((2 : Int) = 0 ∨ 2 ≤ (fv Po 291 1).toInt) ∧ FS cC (rC Po) (2 : Int) := ⟨Or.inr (by omega), by unfold rC; rw [decide_eq_true (show (fv Po 291 0).toInt = 0 from by omega)]; exact FS_tm (Or.inr (Or.inr (Or.inl ⟨by omega, rfl, by show ¬ (fv Po 292 0).toInt ≤ (fv Po 292 1).toInt; omega, by show (fv Po 292 ((fv Po 291 1).toInt.toNat - 1)).toInt ≤ (fv Po 292 ((fv Po 291 1).toInt.toNat - 2)).toInt; omega, rfl⟩)))⟩
            exact mp_iret ⟨⟨_, rfl, u74⟩, rfl⟩ dX3_firstStep_94 (Or.inl rfl)
        · have c42 : x33.toInt ≤ x39.toInt := ti_gt_n c42
          refine mp_a (a_iconst (v := 1) dX3_firstStep_58 rfl) (mpp 59 rfl ?_)
          have u78 : ((1 : Int) = 0 ∨ 2 ≤ (fv Po 291 1).toInt) ∧ FS cC (rC Po) (1 : Int) := ⟨Or.inr (by omega), by unfold rC; rw [decide_eq_true (show (fv Po 291 0).toInt = 0 from by omega)]; exact FS_tm (Or.inr (Or.inl ⟨by omega, rfl, by show (fv Po 292 0).toInt ≤ (fv Po 292 1).toInt; omega, rfl⟩))⟩
          exact mp_iret ⟨⟨_, rfl, u78⟩, rfl⟩ dX3_firstStep_59 (Or.inl rfl)
      · have c29 : (fv Po 291 1).toInt = 2 := ti_ne_n c29
        refine mp_a (a_iload_n dX3_firstStep_29 rfl) (mpp 30 rfl ?_)
        refine mp_Tt (t := 35) (j_if_ne dX3_firstStep_30) (by decide) (by decide) ?_
        refine mp_a (a_iload_n dX3_firstStep_35 rfl) (mpp 36 rfl ?_)
        refine mp_Tf (t := 60) (j_if_eq dX3_firstStep_36) (by decide) (by decide) (mpp 39 rfl ?_)
        refine mp_a (a_aload_n dX3_firstStep_39 rfl) (mpp 40 rfl ?_)
        refine mt_getU (i := 9) (k := 2) (A := 292) hT dX3_firstStep_40 rfl rl_291 (by decide) rfl (by decide) rfl un_11 (mpp 43 rfl ?_)
        refine mp_a (a_iconst (v := 0) dX3_firstStep_43 rfl) (mpp 44 rfl ?_)
        refine mp_calls (i := 39) (q' := q_12) (As := [.ref 292, .int 0]) (rest := []) dX3_firstStep_44 rfl qm_12 (by decide) rfl (Nat.le_of_ble_eq_true rfl) rfl ⟨rfl, rfl⟩ ⟨Nat.le_of_ble_eq_true rfl, Nat.le_of_ble_eq_true rfl⟩ (EvP.mono (by decide) (c_F_at_rsizes hT hX )) (fun r80 P81 g82 => mpp 47 rfl ?_)
        obtain ⟨⟨x83, rfl, g84⟩, e85⟩ := g82
        have e85 := e85.symm
        subst e85
        have wx83 := ti_full x83
        replace g84 : (0 ≤ (0 : Int) ∧ (0 : Int) ≤ 7 ∧ x83.toInt = (fv Po 292 0).toInt) ∨ (((0 : Int) < 0 ∨ 8 ≤ (0 : Int)) ∧ x83.toInt = 0) := g84
        try replace g84 : x83.toInt = (fv Po 292 0).toInt := (g84.resolve_right (by omega)).2.2
        show MEvP _ none q_52 47 [(1, .int 1), (0, .ref 291)] [.int x83] _ _ _ _
        refine mp_a (a_aload_n dX3_firstStep_47 rfl) (mpp 48 rfl ?_)
        refine mt_getU (i := 9) (k := 2) (A := 292) hT dX3_firstStep_48 rfl rl_291 (by decide) rfl (by decide) rfl un_11 (mpp 51 rfl ?_)
        refine mp_a (a_iconst (v := 1) dX3_firstStep_51 rfl) (mpp 52 rfl ?_)
        refine mp_calls (i := 39) (q' := q_12) (As := [.ref 292, .int 1]) (rest := [.int x83]) dX3_firstStep_52 rfl qm_12 (by decide) rfl (Nat.le_of_ble_eq_true rfl) rfl ⟨rfl, rfl⟩ ⟨Nat.le_of_ble_eq_true rfl, Nat.le_of_ble_eq_true rfl⟩ (EvP.mono (by decide) (c_F_at_rsizes hT hX )) (fun r86 P87 g88 => mpp 55 rfl ?_)
        obtain ⟨⟨x89, rfl, g90⟩, e91⟩ := g88
        have e91 := e91.symm
        subst e91
        have wx89 := ti_full x89
        replace g90 : (0 ≤ (1 : Int) ∧ (1 : Int) ≤ 7 ∧ x89.toInt = (fv Po 292 1).toInt) ∨ (((1 : Int) < 0 ∨ 8 ≤ (1 : Int)) ∧ x89.toInt = 0) := g90
        try replace g90 : x89.toInt = (fv Po 292 1).toInt := (g90.resolve_right (by omega)).2.2
        show MEvP _ none q_52 55 [(1, .int 1), (0, .ref 291)] [.int x89, .int x83] _ _ _ _
        refine mp_Tb (t := 60) (j_icmp_gt dX3_firstStep_55) (by decide) (fun c92 => ?_) (fun c92 => mpp 58 rfl ?_)
        · have c92 : x83.toInt > x89.toInt := ti_gt c92
          refine mp_a (a_iload_n dX3_firstStep_60 rfl) (mpp 61 rfl ?_)
          refine mp_Tf (t := 95) (j_if_eq dX3_firstStep_61) (by decide) (by decide) (mpp 64 rfl ?_)
          refine mp_a (a_aload_n dX3_firstStep_64 rfl) (mpp 65 rfl ?_)
          refine mt_getU (i := 9) (k := 2) (A := 292) hT dX3_firstStep_65 rfl rl_291 (by decide) rfl (by decide) rfl un_11 (mpp 68 rfl ?_)
          refine mp_a (a_aload_n dX3_firstStep_68 rfl) (mpp 69 rfl ?_)
          refine mt_getI (i := 28) (k := 1) hT dX3_firstStep_69 rfl rl_291 (by decide) rfl (by decide) rfl (fun g93 g94 => mpp 72 rfl ?_)
          refine mp_a (a_iconst (v := 1) dX3_firstStep_72 rfl) (mpp 73 rfl ?_)
          obtain ⟨z95, h96⟩ := ti_ex ((fv Po 291 1) - 1 : Int32)
          have wz95 := ti_full z95
          refine mp_t (s_isub (v := z95) dX3_firstStep_73 h96) (mpp 74 rfl ?_)
          try have e97 : z95.toInt = (fv Po 291 1).toInt - 1 := ti_subz h96 rfl rfl (by omega) (by omega)
          refine mp_calls (i := 39) (q' := q_12) (As := [.ref 292, .int z95]) (rest := []) dX3_firstStep_74 rfl qm_12 (by decide) rfl (Nat.le_of_ble_eq_true rfl) rfl ⟨rfl, rfl⟩ ⟨Nat.le_of_ble_eq_true rfl, Nat.le_of_ble_eq_true rfl⟩ (EvP.mono (by decide) (c_F_at_rsizes hT hX )) (fun r98 P99 g100 => mpp 77 rfl ?_)
          obtain ⟨⟨x101, rfl, g102⟩, e103⟩ := g100
          have e103 := e103.symm
          subst e103
          have wx101 := ti_full x101
          replace g102 : (0 ≤ z95.toInt ∧ z95.toInt ≤ 7 ∧ x101.toInt = (fv Po 292 z95.toInt.toNat).toInt) ∨ ((z95.toInt < 0 ∨ 8 ≤ z95.toInt) ∧ x101.toInt = 0) := g102
          try replace g102 : x101.toInt = (fv Po 292 z95.toInt.toNat).toInt := (g102.resolve_right (by omega)).2.2
          show MEvP _ none q_52 77 [(1, .int 1), (0, .ref 291)] [.int x101] _ _ _ _
          refine mp_a (a_aload_n dX3_firstStep_77 rfl) (mpp 78 rfl ?_)
          refine mt_getU (i := 9) (k := 2) (A := 292) hT dX3_firstStep_78 rfl rl_291 (by decide) rfl (by decide) rfl un_11 (mpp 81 rfl ?_)
          refine mp_a (a_aload_n dX3_firstStep_81 rfl) (mpp 82 rfl ?_)
          refine mt_getI (i := 28) (k := 1) hT dX3_firstStep_82 rfl rl_291 (by decide) rfl (by decide) rfl (fun g104 g105 => mpp 85 rfl ?_)
          refine mp_a (a_iconst (v := 2) dX3_firstStep_85 rfl) (mpp 86 rfl ?_)
          obtain ⟨z106, h107⟩ := ti_ex ((fv Po 291 1) - 2 : Int32)
          have wz106 := ti_full z106
          refine mp_t (s_isub (v := z106) dX3_firstStep_86 h107) (mpp 87 rfl ?_)
          try have e108 : z106.toInt = (fv Po 291 1).toInt - 2 := ti_subz h107 rfl rfl (by omega) (by omega)
          refine mp_calls (i := 39) (q' := q_12) (As := [.ref 292, .int z106]) (rest := [.int x101]) dX3_firstStep_87 rfl qm_12 (by decide) rfl (Nat.le_of_ble_eq_true rfl) rfl ⟨rfl, rfl⟩ ⟨Nat.le_of_ble_eq_true rfl, Nat.le_of_ble_eq_true rfl⟩ (EvP.mono (by decide) (c_F_at_rsizes hT hX )) (fun r109 P110 g111 => mpp 90 rfl ?_)
          obtain ⟨⟨x112, rfl, g113⟩, e114⟩ := g111
          have e114 := e114.symm
          subst e114
          have wx112 := ti_full x112
          replace g113 : (0 ≤ z106.toInt ∧ z106.toInt ≤ 7 ∧ x112.toInt = (fv Po 292 z106.toInt.toNat).toInt) ∨ ((z106.toInt < 0 ∨ 8 ≤ z106.toInt) ∧ x112.toInt = 0) := g113
          try replace g113 : x112.toInt = (fv Po 292 z106.toInt.toNat).toInt := (g113.resolve_right (by omega)).2.2
          show MEvP _ none q_52 90 [(1, .int 1), (0, .ref 291)] [.int x112, .int x101] _ _ _ _
          refine mp_Tb (t := 95) (j_icmp_gt dX3_firstStep_90) (by decide) (fun c115 => ?_) (fun c115 => mpp 93 rfl ?_)
          · have c115 : x101.toInt > x112.toInt := ti_gt c115
            refine mp_a (a_iload_n dX3_firstStep_95 rfl) (mpp 96 rfl ?_)
            refine mp_Tf (t := 103) (j_if_eq dX3_firstStep_96) (by decide) (by decide) (mpp 99 rfl ?_)
            refine mp_a (a_iconst (v := 1) dX3_firstStep_99 rfl) (mpp 100 rfl ?_)
            refine mp_a (a_goto (t := 104) dX3_firstStep_100 (by decide)) ?_
            refine mp_a (a_istore_n (L' := [(2, .int 1), (1, .int 1), (0, .ref 291)]) dX3_firstStep_104 (by decide) rfl) (mpp 105 rfl ?_)
            refine mp_a (a_iload_n dX3_firstStep_105 rfl) (mpp 106 rfl ?_)
            refine mp_a (a_istore_n (L' := [(3, .int 1), (2, .int 1), (1, .int 1), (0, .ref 291)]) dX3_firstStep_106 (by decide) rfl) (mpp 107 rfl ?_)
            refine MEvP.less (L := [(0, .ref 291), (1, .int 1), (2, .int 1), (3, .int 1)]) rfl rfl ⟨rfl, rfl, rfl, rfl, trivial⟩ ?_
            have i116 : 2 ≤ (fv Po 291 1).toInt := by omega
            have i117 : ((fv Po 291 0).toInt = 0 ∧ (1 : Int) = 1 ∧ (1 : Int) = 1) ∨ ((fv Po 291 0).toInt ≠ 0 ∧ (1 : Int) = 0 ∧ (1 : Int) = 0) := by omega
            have i118 : (1 : Int) ≤ (1 : Int) := by omega
            have i119 : ∀ j : Nat, (1 : Int) ≤ (j : Int) → (j : Int) < (1 : Int) → ¬ CRf cC (fv Po 291 1).toInt.toNat (fun j : Nat => fv Po 292 j) (fun j : Nat => fv Po 293 j) j := fun j h1 h2 => absurd h1 (by omega)
            have q121 : x101.toInt = (fv Po 292 ((fv Po 291 1).toInt.toNat - 1)).toInt := by rw [show (fv Po 291 1).toInt.toNat - 1 = z95.toInt.toNat from by omega]; omega
            have q122 : x112.toInt = (fv Po 292 ((fv Po 291 1).toInt.toNat - 2)).toInt := by rw [show (fv Po 291 1).toInt.toNat - 2 = z106.toInt.toNat from by omega]; omega
            have i120 : ((fv Po 291 0).toInt = 0 ∧ ¬ (fv Po 292 0).toInt ≤ (fv Po 292 1).toInt ∧ ¬ (fv Po 292 ((fv Po 291 1).toInt.toNat - 1)).toInt ≤ (fv Po 292 ((fv Po 291 1).toInt.toNat - 2)).toInt) ∨ ((fv Po 291 0).toInt ≠ 0 ∧ 3 ≤ (fv Po 291 1).toInt) := by omega
            have i123 : (1 : Int) ≤ (fv Po 291 1).toInt := by omega
            exact c_CR_firstStep_Reducer_l107 hT hX   _ _ _ _ i116 i117 i118 i119 i120 i123 rfl
          · have c115 : x101.toInt ≤ x112.toInt := ti_gt_n c115
            refine mp_a (a_iconst (v := 2) dX3_firstStep_93 rfl) (mpp 94 rfl ?_)
            have q126 : x101.toInt = (fv Po 292 ((fv Po 291 1).toInt.toNat - 1)).toInt := by rw [show (fv Po 291 1).toInt.toNat - 1 = z95.toInt.toNat from by omega]; omega
            have q127 : x112.toInt = (fv Po 292 ((fv Po 291 1).toInt.toNat - 2)).toInt := by rw [show (fv Po 291 1).toInt.toNat - 2 = z106.toInt.toNat from by omega]; omega
            have u124 : ((2 : Int) = 0 ∨ 2 ≤ (fv Po 291 1).toInt) ∧ FS cC (rC Po) (2 : Int) := ⟨Or.inr (by omega), by unfold rC; rw [decide_eq_true (show (fv Po 291 0).toInt = 0 from by omega)]; exact FS_tm (Or.inr (Or.inr (Or.inl ⟨by omega, rfl, by show ¬ (fv Po 292 0).toInt ≤ (fv Po 292 1).toInt; omega, by show (fv Po 292 ((fv Po 291 1).toInt.toNat - 1)).toInt ≤ (fv Po 292 ((fv Po 291 1).toInt.toNat - 2)).toInt; omega, rfl⟩)))⟩
            exact mp_iret ⟨⟨_, rfl, u124⟩, rfl⟩ dX3_firstStep_94 (Or.inl rfl)
        · have c92 : x83.toInt ≤ x89.toInt := ti_gt_n c92
          refine mp_a (a_iconst (v := 1) dX3_firstStep_58 rfl) (mpp 59 rfl ?_)
          have u128 : ((1 : Int) = 0 ∨ 2 ≤ (fv Po 291 1).toInt) ∧ FS cC (rC Po) (1 : Int) := ⟨Or.inr (by omega), by unfold rC; rw [decide_eq_true (show (fv Po 291 0).toInt = 0 from by omega)]; exact FS_tm (Or.inr (Or.inl ⟨by omega, rfl, by show (fv Po 292 0).toInt ≤ (fv Po 292 1).toInt; omega, rfl⟩))⟩
          exact mp_iret ⟨⟨_, rfl, u128⟩, rfl⟩ dX3_firstStep_59 (Or.inl rfl)

set_option maxHeartbeats 4000000 in
theorem c_F_put_rsizes {Po : mP} {t1 : Int32} {t2 : Int32} (hT : Typ Po) (hX : XR Po)   : EvP 1 22 [.ref 292, .int t1, .int t2] Po (fun r P' => (r = none ∧ (True)) ∧ Typ P' ∧ KW [704] Po P' ∧ ((t1.toInt < 0 ∨ 8 ≤ t1.toInt) ∨ (fv P' 292 t1.toInt.toNat).toInt = t2.toInt) ∧ (∀ x j : Nat, ¬ (x = 292 ∧ j = t1.toInt.toNat) → fv P' x j = fv Po x j) ∧ KI 292 (292 + 1) Po P') := by
  refine EvP.of qm_22 (Nat.le_of_ble_eq_true rfl) rfl ?_
  show MEvP _ none q_22 0 [(0, .ref 292), (1, .int t1), (2, .int t2)] [] _ 0 0 _
  have w_t1 := ti_full t1
  have w_t2 := ti_full t2
  refine mp_a (a_iload_n dX6_put_0 rfl) (mpp 1 rfl ?_)
  refine mp_Tb (t := 14) (j_if_lt dX6_put_1) (by decide) (fun c1 => ?_) (fun c1 => mpp 4 rfl ?_)
  · have c1 : t1.toInt < 0 := ti_lt c1
    have u2 : ((t1.toInt < 0 ∨ 8 ≤ t1.toInt) ∨ (fv Po 292 t1.toInt.toNat).toInt = t2.toInt) := Or.inl (by omega)
    have u3 : (∀ x j : Nat, ¬ (x = 292 ∧ j = t1.toInt.toNat) → fv Po x j = fv Po x j) := fun _ _ _ => rfl
    have u4 : KI 292 (292 + 1) Po Po := fun _ _ _ => rfl
    exact mp_ret ⟨⟨rfl, trivial⟩, hT, KW.refl, ⟨u2, u3, u4⟩⟩ dX6_put_14 rfl
  · have c1 : t1.toInt ≥ 0 := ti_lt_n c1
    refine mp_a (a_iload_n dX6_put_4 rfl) (mpp 5 rfl ?_)
    refine mp_a (a_aload_n dX6_put_5 rfl) (mpp 6 rfl ?_)
    refine mt_len (n := 8) hT dX6_put_6 rl_292 (by decide) (by decide) rfl (mpp 7 rfl ?_)
    refine mp_Tb (t := 14) (j_icmp_ge dX6_put_7) (by decide) (fun c5 => ?_) (fun c5 => mpp 10 rfl ?_)
    · have c5 : t1.toInt ≥ 8 := ti_ge c5
      have u6 : ((t1.toInt < 0 ∨ 8 ≤ t1.toInt) ∨ (fv Po 292 t1.toInt.toNat).toInt = t2.toInt) := Or.inl (by omega)
      have u7 : (∀ x j : Nat, ¬ (x = 292 ∧ j = t1.toInt.toNat) → fv Po x j = fv Po x j) := fun _ _ _ => rfl
      have u8 : KI 292 (292 + 1) Po Po := fun _ _ _ => rfl
      exact mp_ret ⟨⟨rfl, trivial⟩, hT, KW.refl, ⟨u6, u7, u8⟩⟩ dX6_put_14 rfl
    · have c5 : t1.toInt < 8 := ti_ge_n c5
      refine mp_a (a_aload_n dX6_put_10 rfl) (mpp 11 rfl ?_)
      refine mp_a (a_iload_n dX6_put_11 rfl) (mpp 12 rfl ?_)
      refine mp_a (a_iload_n dX6_put_12 rfl) (mpp 13 rfl ?_)
      refine mt_ias (n := 8) hT dX6_put_13 rl_292 (by decide) rfl rfl (by omega) (by omega) rfl (ti_full t2) (fun P9 hT10 f11 f12 f13 => mpp 14 rfl ?_)
      have k14 : KW [704] Po P9 := KW.step KW.refl rl_292 rfl f12 f13
      have u15 : ((t1.toInt < 0 ∨ 8 ≤ t1.toInt) ∨ (fv P9 292 t1.toInt.toNat).toInt = t2.toInt) := Or.inr (congrArg Int32.toInt f11)
      have u16 : (∀ x j : Nat, ¬ (x = 292 ∧ j = t1.toInt.toNat) → fv P9 x j = fv Po x j) := f12
      have u17 : KI 292 (292 + 1) Po P9 := by
        intro x j hx
        rw [f12 x j (by omega)]
      exact mp_ret ⟨⟨rfl, trivial⟩, hT10, k14, ⟨u15, u16, u17⟩⟩ dX6_put_14 rfl

set_option maxHeartbeats 4000000 in
theorem c_F_takeOut_rsizes_l2 {Po : mP} {t1 : Int32} (hTo : Typ Po) (hX : XR Po) (hp0 : 0 ≤ t1.toInt)  : ∀ (n : Nat) (v2 : Int32), ∀ (P : mP), Typ P → KW [704] Po P → (TKL Po P 292 t1.toInt.toNat v2.toInt.toNat) → (t1.toInt ≤ v2.toInt) → (KI 292 (292 + 1) Po P) → (2147483647 - v2.toInt).toNat = n → MEvP 0 none q_54 2 [(0, .ref 292), (1, .int t1), (2, .int v2)] [] P 0 0 (fun r P' => (r = none ∧ (True)) ∧ Typ P' ∧ KW [704] Po P' ∧ (∀ j : Nat, j < 7 → fv P' 292 j = tk t1.toInt.toNat (fun j : Nat => fv Po 292 j) j) ∧ KI 292 (292 + 1) Po P') := by
  intro n
  induction n using Nat.strongRecOn with | _ n ih => ?_
  intro v2 P hT hK i_0 i_1 i_2 hm
  have w_t1 := ti_full t1
  have w_v2 := ti_full v2
  refine mp_a (a_iload_n dX6_takeOut_2 rfl) (mpp 3 rfl ?_)
  refine mp_Tb (t := 28) (j_if_lt dX6_takeOut_3) (by decide) (fun c1 => ?_) (fun c1 => mpp 6 rfl ?_)
  · have c1 : v2.toInt < 0 := ti_lt c1
    have u2 : (∀ j : Nat, j < 7 → fv P 292 j = tk t1.toInt.toNat (fun j : Nat => fv Po 292 j) j) ∧ KI 292 (292 + 1) Po P := ⟨fun j hj => i_0.fin (by omega) j hj, i_2⟩
    exact mp_ret ⟨⟨rfl, trivial⟩, hT, hK, u2⟩ dX6_takeOut_28 rfl
  · have c1 : v2.toInt ≥ 0 := ti_lt_n c1
    refine mp_a (a_iload_n dX6_takeOut_6 rfl) (mpp 7 rfl ?_)
    refine mp_a (a_aload_n dX6_takeOut_7 rfl) (mpp 8 rfl ?_)
    refine mt_len (n := 8) hT dX6_takeOut_8 rl_292 (by decide) (by decide) rfl (mpp 9 rfl ?_)
    refine mp_a (a_iconst (v := 1) dX6_takeOut_9 rfl) (mpp 10 rfl ?_)
    refine mp_t (s_isub (v := 7) dX6_takeOut_10 rfl) (mpp 11 rfl ?_)
    refine mp_Tb (t := 28) (j_icmp_ge dX6_takeOut_11) (by decide) (fun c3 => ?_) (fun c3 => mpp 14 rfl ?_)
    · have c3 : v2.toInt ≥ 7 := ti_ge c3
      have u4 : (∀ j : Nat, j < 7 → fv P 292 j = tk t1.toInt.toNat (fun j : Nat => fv Po 292 j) j) ∧ KI 292 (292 + 1) Po P := ⟨fun j hj => i_0.fin (by omega) j hj, i_2⟩
      exact mp_ret ⟨⟨rfl, trivial⟩, hT, hK, u4⟩ dX6_takeOut_28 rfl
    · have c3 : v2.toInt < 7 := ti_ge_n c3
      refine mp_a (a_aload_n dX6_takeOut_14 rfl) (mpp 15 rfl ?_)
      refine mp_a (a_iload_n dX6_takeOut_15 rfl) (mpp 16 rfl ?_)
      refine mp_a (a_aload_n dX6_takeOut_16 rfl) (mpp 17 rfl ?_)
      refine mp_a (a_iload_n dX6_takeOut_17 rfl) (mpp 18 rfl ?_)
      refine mp_a (a_iconst (v := 1) dX6_takeOut_18 rfl) (mpp 19 rfl ?_)
      obtain ⟨z5, h6⟩ := ti_ex (v2 + 1 : Int32)
      have wz5 := ti_full z5
      refine mp_t (s_iadd (v := z5) dX6_takeOut_19 h6) (mpp 20 rfl ?_)
      try have e7 : z5.toInt = v2.toInt + 1 := ti_addz h6 rfl rfl (by omega) (by omega)
      refine mt_ial (n := 8) hT dX6_takeOut_20 rl_292 (by decide) rfl rfl (by omega) (by omega) rfl (fun g8 g9 => mpp 21 rfl ?_)
      refine mt_ias (n := 8) hT dX6_takeOut_21 rl_292 (by decide) rfl rfl (by omega) (by omega) rfl (ti_full (fv P 292 z5.toInt.toNat)) (fun P10 hT11 f12 f13 f14 => mpp 22 rfl ?_)
      have k15 : KW [704] Po P10 := KW.step hK rl_292 rfl f13 f14
      obtain ⟨z16, h17⟩ := ti_ex (v2 + 1 : Int32)
      have wz16 := ti_full z16
      refine mp_a (a_iinc (v := z16) (L' := [(2, .int z16), (0, .ref 292), (1, .int t1)]) dX6_takeOut_22 (by decide) rfl h17 rfl) (mpp 25 rfl ?_)
      try have e18 : z16.toInt = v2.toInt + 1 := ti_addz h17 rfl rfl (by omega) (by omega)
      refine mp_a (a_goto (t := 2) dX6_takeOut_25 (by decide)) ?_
      refine MEvP.less (L := [(0, .ref 292), (1, .int t1), (2, .int z16)]) rfl rfl ⟨rfl, rfl, rfl, trivial⟩ ?_
      have i19 : TKL Po P10 292 t1.toInt.toNat z16.toInt.toNat := TKL.step (m := z5.toInt.toNat) i_0 (by omega) rfl (by omega) f12 (fun j hj => f13 _ j (fun e => hj e.2))
      have i20 : t1.toInt ≤ z16.toInt := by omega
      have i21 : KI 292 (292 + 1) Po P10 := fun x j hx => by rw [f13 x j (by omega), i_2 x j (by omega)]
      exact ih _ (by omega) _ P10 hT11 k15 i19 i20 i21 rfl

set_option maxHeartbeats 4000000 in
theorem c_F_takeOut_rsizes {Po : mP} {t1 : Int32} (hT : Typ Po) (hX : XR Po)  (hp0 : 0 ≤ t1.toInt)  : EvP 1 54 [.ref 292, .int t1] Po (fun r P' => (r = none ∧ (True)) ∧ Typ P' ∧ KW [704] Po P' ∧ (∀ j : Nat, j < 7 → fv P' 292 j = tk t1.toInt.toNat (fun j : Nat => fv Po 292 j) j) ∧ KI 292 (292 + 1) Po P') := by
  refine EvP.of qm_54 (Nat.le_of_ble_eq_true rfl) rfl ?_
  show MEvP _ none q_54 0 [(0, .ref 292), (1, .int t1)] [] _ 0 0 _
  have w_t1 := ti_full t1
  refine mp_a (a_iload_n dX6_takeOut_0 rfl) (mpp 1 rfl ?_)
  refine mp_a (a_istore_n (L' := [(2, .int t1), (0, .ref 292), (1, .int t1)]) dX6_takeOut_1 (by decide) rfl) (mpp 2 rfl ?_)
  refine MEvP.less (L := [(0, .ref 292), (1, .int t1), (2, .int t1)]) rfl rfl ⟨rfl, rfl, rfl, trivial⟩ ?_
  have i1 : TKL Po Po 292 t1.toInt.toNat t1.toInt.toNat := TKL.start rfl
  have i2 : t1.toInt ≤ t1.toInt := by omega
  have i3 : KI 292 (292 + 1) Po Po := KI.refl
  exact c_F_takeOut_rsizes_l2 hT hX  hp0 _ _ Po hT KW.refl i1 i2 i3 rfl

set_option maxHeartbeats 4000000 in
theorem c_F_takeOut_rcreases_l2 {Po : mP} {t1 : Int32} (hTo : Typ Po) (hX : XR Po) (hp0 : 0 ≤ t1.toInt)  : ∀ (n : Nat) (v2 : Int32), ∀ (P : mP), Typ P → KW [768] Po P → (TKL Po P 293 t1.toInt.toNat v2.toInt.toNat) → (t1.toInt ≤ v2.toInt) → (KI 293 (293 + 1) Po P) → (2147483647 - v2.toInt).toNat = n → MEvP 0 none q_54 2 [(0, .ref 293), (1, .int t1), (2, .int v2)] [] P 0 0 (fun r P' => (r = none ∧ (True)) ∧ Typ P' ∧ KW [768] Po P' ∧ (∀ j : Nat, j < 7 → fv P' 293 j = tk t1.toInt.toNat (fun j : Nat => fv Po 293 j) j) ∧ KI 293 (293 + 1) Po P') := by
  intro n
  induction n using Nat.strongRecOn with | _ n ih => ?_
  intro v2 P hT hK i_0 i_1 i_2 hm
  have w_t1 := ti_full t1
  have w_v2 := ti_full v2
  refine mp_a (a_iload_n dX6_takeOut_2 rfl) (mpp 3 rfl ?_)
  refine mp_Tb (t := 28) (j_if_lt dX6_takeOut_3) (by decide) (fun c1 => ?_) (fun c1 => mpp 6 rfl ?_)
  · have c1 : v2.toInt < 0 := ti_lt c1
    have u2 : (∀ j : Nat, j < 7 → fv P 293 j = tk t1.toInt.toNat (fun j : Nat => fv Po 293 j) j) ∧ KI 293 (293 + 1) Po P := ⟨fun j hj => i_0.fin (by omega) j hj, i_2⟩
    exact mp_ret ⟨⟨rfl, trivial⟩, hT, hK, u2⟩ dX6_takeOut_28 rfl
  · have c1 : v2.toInt ≥ 0 := ti_lt_n c1
    refine mp_a (a_iload_n dX6_takeOut_6 rfl) (mpp 7 rfl ?_)
    refine mp_a (a_aload_n dX6_takeOut_7 rfl) (mpp 8 rfl ?_)
    refine mt_len (n := 8) hT dX6_takeOut_8 rl_293 (by decide) (by decide) rfl (mpp 9 rfl ?_)
    refine mp_a (a_iconst (v := 1) dX6_takeOut_9 rfl) (mpp 10 rfl ?_)
    refine mp_t (s_isub (v := 7) dX6_takeOut_10 rfl) (mpp 11 rfl ?_)
    refine mp_Tb (t := 28) (j_icmp_ge dX6_takeOut_11) (by decide) (fun c3 => ?_) (fun c3 => mpp 14 rfl ?_)
    · have c3 : v2.toInt ≥ 7 := ti_ge c3
      have u4 : (∀ j : Nat, j < 7 → fv P 293 j = tk t1.toInt.toNat (fun j : Nat => fv Po 293 j) j) ∧ KI 293 (293 + 1) Po P := ⟨fun j hj => i_0.fin (by omega) j hj, i_2⟩
      exact mp_ret ⟨⟨rfl, trivial⟩, hT, hK, u4⟩ dX6_takeOut_28 rfl
    · have c3 : v2.toInt < 7 := ti_ge_n c3
      refine mp_a (a_aload_n dX6_takeOut_14 rfl) (mpp 15 rfl ?_)
      refine mp_a (a_iload_n dX6_takeOut_15 rfl) (mpp 16 rfl ?_)
      refine mp_a (a_aload_n dX6_takeOut_16 rfl) (mpp 17 rfl ?_)
      refine mp_a (a_iload_n dX6_takeOut_17 rfl) (mpp 18 rfl ?_)
      refine mp_a (a_iconst (v := 1) dX6_takeOut_18 rfl) (mpp 19 rfl ?_)
      obtain ⟨z5, h6⟩ := ti_ex (v2 + 1 : Int32)
      have wz5 := ti_full z5
      refine mp_t (s_iadd (v := z5) dX6_takeOut_19 h6) (mpp 20 rfl ?_)
      try have e7 : z5.toInt = v2.toInt + 1 := ti_addz h6 rfl rfl (by omega) (by omega)
      refine mt_ial (n := 8) hT dX6_takeOut_20 rl_293 (by decide) rfl rfl (by omega) (by omega) rfl (fun g8 g9 => mpp 21 rfl ?_)
      refine mt_ias (n := 8) hT dX6_takeOut_21 rl_293 (by decide) rfl rfl (by omega) (by omega) rfl (ti_full (fv P 293 z5.toInt.toNat)) (fun P10 hT11 f12 f13 f14 => mpp 22 rfl ?_)
      have k15 : KW [768] Po P10 := KW.step hK rl_293 rfl f13 f14
      obtain ⟨z16, h17⟩ := ti_ex (v2 + 1 : Int32)
      have wz16 := ti_full z16
      refine mp_a (a_iinc (v := z16) (L' := [(2, .int z16), (0, .ref 293), (1, .int t1)]) dX6_takeOut_22 (by decide) rfl h17 rfl) (mpp 25 rfl ?_)
      try have e18 : z16.toInt = v2.toInt + 1 := ti_addz h17 rfl rfl (by omega) (by omega)
      refine mp_a (a_goto (t := 2) dX6_takeOut_25 (by decide)) ?_
      refine MEvP.less (L := [(0, .ref 293), (1, .int t1), (2, .int z16)]) rfl rfl ⟨rfl, rfl, rfl, trivial⟩ ?_
      have i19 : TKL Po P10 293 t1.toInt.toNat z16.toInt.toNat := TKL.step (m := z5.toInt.toNat) i_0 (by omega) rfl (by omega) f12 (fun j hj => f13 _ j (fun e => hj e.2))
      have i20 : t1.toInt ≤ z16.toInt := by omega
      have i21 : KI 293 (293 + 1) Po P10 := fun x j hx => by rw [f13 x j (by omega), i_2 x j (by omega)]
      exact ih _ (by omega) _ P10 hT11 k15 i19 i20 i21 rfl

set_option maxHeartbeats 4000000 in
theorem c_F_takeOut_rcreases {Po : mP} {t1 : Int32} (hT : Typ Po) (hX : XR Po)  (hp0 : 0 ≤ t1.toInt)  : EvP 1 54 [.ref 293, .int t1] Po (fun r P' => (r = none ∧ (True)) ∧ Typ P' ∧ KW [768] Po P' ∧ (∀ j : Nat, j < 7 → fv P' 293 j = tk t1.toInt.toNat (fun j : Nat => fv Po 293 j) j) ∧ KI 293 (293 + 1) Po P') := by
  refine EvP.of qm_54 (Nat.le_of_ble_eq_true rfl) rfl ?_
  show MEvP _ none q_54 0 [(0, .ref 293), (1, .int t1)] [] _ 0 0 _
  have w_t1 := ti_full t1
  refine mp_a (a_iload_n dX6_takeOut_0 rfl) (mpp 1 rfl ?_)
  refine mp_a (a_istore_n (L' := [(2, .int t1), (0, .ref 293), (1, .int t1)]) dX6_takeOut_1 (by decide) rfl) (mpp 2 rfl ?_)
  refine MEvP.less (L := [(0, .ref 293), (1, .int t1), (2, .int t1)]) rfl rfl ⟨rfl, rfl, rfl, trivial⟩ ?_
  have i1 : TKL Po Po 293 t1.toInt.toNat t1.toInt.toNat := TKL.start rfl
  have i2 : t1.toInt ≤ t1.toInt := by omega
  have i3 : KI 293 (293 + 1) Po Po := KI.refl
  exact c_F_takeOut_rcreases_l2 hT hX  hp0 _ _ Po hT KW.refl i1 i2 i3 rfl

