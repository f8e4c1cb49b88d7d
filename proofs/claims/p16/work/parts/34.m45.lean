/-! methods on typed pools, 45 (written by a program) -/
set_option maxHeartbeats 4000000 in
theorem c_M_ways_l16 {Po : mP} {t1 : Int32}  : ∀ (n : Nat) (v2 : Int32) (v3 : Int32), ∀ (P : mP), Typ P → KW [1101, 1102, 1536, 1600] Po P → (0 ≤ t1.toInt) → (t1.toInt ≤ 7) → (t1.toInt + 1 ≤ (fv Po 302 0).toInt) → (v3.toInt.toNat ≤ shN (cI (fv Po 302 (3 + 19 * t1.toInt.toNat)).toInt (fv Po 302 (4 + 19 * t1.toInt.toNat)).toInt)) → (∀ j : Nat, fv P 302 j = fv Po 302 j) → (CNr (WAYp cM eM (fv Po 302 (3 + 19 * t1.toInt.toNat)).toInt (fv Po 302 (4 + 19 * t1.toInt.toNat)).toInt (fun j : Nat => fv Po 302 (6 + 19 * t1.toInt.toNat + j)) (fun j : Nat => fv Po 302 (14 + 19 * t1.toInt.toNat + j))) v3.toInt.toNat v2.toInt) → (0 ≤ v2.toInt) → (v2.toInt ≤ v3.toInt) → (0 ≤ v3.toInt) → (2147483647 - v3.toInt).toNat = n → MEvP 6 none q_177 16 [(0, .ref 301), (1, .int t1), (2, .int v2), (3, .int v3)] [] P 0 0 (fun r P' => (∃ x : Int32, r = some (.int x) ∧ (waysM (sr Po) x.toInt t1.toInt)) ∧ Typ P' ∧ KW [1101, 1102, 1536, 1600] Po P' ∧ True) := by
  intro n
  induction n using Nat.strongRecOn with | _ n ih => ?_
  intro v2 v3 P hT hK i_0 i_1 i_2 i_3 i_4 i_5 i_6 i_7 i_8 hm
  have w_t1 := ti_full t1
  have w_v2 := ti_full v2
  have w_v3 := ti_full v3
  refine mp_a (a_iload_n dX7_ways_16 rfl) (mpp 17 rfl ?_)
  refine mp_a (a_iconst (v := 1) dX7_ways_17 rfl) (mpp 18 rfl ?_)
  refine mp_a (a_aload_n dX7_ways_18 rfl) (mpp 19 rfl ?_)
  refine mp_a (a_iload_n dX7_ways_19 rfl) (mpp 20 rfl ?_)
  have p1 : 0 ≤ t1.toInt := by omega
  have p2 : t1.toInt ≤ 7 := by omega
  refine mt_callv (i := 88) (q' := q_136) (As := [.int t1]) (rest := [.int 1, .int v3]) hT dX7_ways_20 rfl qm_136 (by decide) rfl rl_301 (by decide) rfl (Nat.le_of_ble_eq_true rfl) rfl ⟨rfl, rfl⟩ ⟨Nat.le_of_ble_eq_true rfl, Nat.le_of_ble_eq_true rfl⟩ (EvP.mono (by decide) (c_M_creases hT p1 p2 )) (fun r3 P4 g5 => mpp 23 rfl ?_)
  obtain ⟨⟨x6, rfl, g7⟩, e8⟩ := g5
  have e8 := e8.symm
  subst e8
  have wx6 := ti_full x6
  replace g7 : -1 ≤ x6.toInt ∧ x6.toInt ≤ 8 ∧ (((fv P 302 (3 + 19 * t1.toInt.toNat)).toInt = 1 ∧ x6.toInt = (fv P 302 (4 + 19 * t1.toInt.toNat)).toInt) ∨ ((fv P 302 (3 + 19 * t1.toInt.toNat)).toInt = 0 ∧ x6.toInt = (fv P 302 (4 + 19 * t1.toInt.toNat)).toInt - 1)) := g7
  try have g9 : (0 : Int) ≤ (fv P 302 (3 + 19 * t1.toInt.toNat)).toInt ∧ (fv P 302 (3 + 19 * t1.toInt.toNat)).toInt ≤ 1 := s3_rng hT (by omega)
  try have g10 : (0 : Int) ≤ (fv P 302 (4 + 19 * t1.toInt.toNat)).toInt ∧ (fv P 302 (4 + 19 * t1.toInt.toNat)).toInt ≤ 8 := s4_rng hT (by omega)
  show MEvP _ none q_177 23 [(0, .ref 301), (1, .int t1), (2, .int v2), (3, .int v3)] [.int x6, .int 1, .int v3] _ _ _ _
  obtain ⟨z11, h12⟩ := ti_ex (1 <<< (x6 &&& 31) : Int32)
  have wz11 := ti_full z11
  refine mp_t (s_ishl (v := z11) dX7_ways_23 h12) (mpp 24 rfl ?_)
  refine mp_Tb (t := 59) (j_icmp_ge dX7_ways_24) (by decide) (fun c13 => ?_) (fun c13 => mpp 27 rfl ?_)
  · have c13 : v3.toInt ≥ z11.toInt := ti_ge c13
    refine mp_a (a_iload_n dX7_ways_59 rfl) (mpp 60 rfl ?_)
    have w15_0 := congrArg Int32.toInt (i_4 (3 + 19 * t1.toInt.toNat))
    have w15_1 := congrArg Int32.toInt (i_4 (4 + 19 * t1.toInt.toNat))
    have w15_s : shN (cI (fv Po 302 (3 + 19 * t1.toInt.toNat)).toInt (fv Po 302 (4 + 19 * t1.toInt.toNat)).toInt) = z11.toInt.toNat := shN_of h12 (by unfold cI; split <;> omega)
    have u14 : waysM (sr Po) v2.toInt t1.toInt := (show (v2.toInt = -1001 ∧ (t1.toInt < 0 ∨ (fv Po 302 (0)).toInt ≤ t1.toInt)) ∨ ((0 ≤ t1.toInt ∧ t1.toInt + 1 ≤ (fv Po 302 (0)).toInt ∧ t1.toInt ≤ 7) ∧ CNr (WAYp cM eM (fv Po 302 (3 + 19 * t1.toInt.toNat)).toInt (fv Po 302 (4 + 19 * t1.toInt.toNat)).toInt (fun j : Nat => fv Po 302 (6 + 19 * t1.toInt.toNat + j)) (fun j : Nat => fv Po 302 (14 + 19 * t1.toInt.toNat + j))) (shN (cI (fv Po 302 (3 + 19 * t1.toInt.toNat)).toInt (fv Po 302 (4 + 19 * t1.toInt.toNat)).toInt)) v2.toInt) from Or.inr (⟨by omega, (show v3.toInt.toNat = shN (cI (fv Po 302 (3 + 19 * t1.toInt.toNat)).toInt (fv Po 302 (4 + 19 * t1.toInt.toNat)).toInt) from by omega) ▸ i_5⟩))
    exact mp_iret ⟨⟨_, rfl, u14⟩, hT, hK, trivial⟩ dX7_ways_60 (Or.inl rfl)
  · have c13 : v3.toInt < z11.toInt := ti_ge_n c13
    refine mp_a (a_iload_n dX7_ways_27 rfl) (mpp 28 rfl ?_)
    refine mp_a (a_aload_n dX7_ways_28 rfl) (mpp 29 rfl ?_)
    refine mp_a (a_iload_n dX7_ways_29 rfl) (mpp 30 rfl ?_)
    refine mp_a (a_iload_n dX7_ways_30 rfl) (mpp 31 rfl ?_)
    have p16 : 0 ≤ t1.toInt := by omega
    have p17 : t1.toInt ≤ 7 := by omega
    refine mt_callv (i := 219) (q' := q_178) (As := [.int t1, .int v3]) (rest := [.int v2]) hT dX7_ways_31 rfl qm_178 (by decide) rfl rl_301 (by decide) rfl (Nat.le_of_ble_eq_true rfl) rfl ⟨rfl, rfl⟩ ⟨Nat.le_of_ble_eq_true rfl, Nat.le_of_ble_eq_true rfl⟩ (EvP.mono (by decide) (c_M_otherwise hT p16 p17 )) (fun r18 P19 g20 => mpp 34 rfl ?_)
    obtain ⟨⟨x21, rfl, g22⟩, e23⟩ := g20
    have e23 := e23.symm
    subst e23
    have wx21 := ti_full x21
    replace g22 : 0 ≤ x21.toInt ∧ x21.toInt ≤ 8 ∧ x21.toInt = chF (fun j : Nat => fv P 302 (14 + 19 * t1.toInt.toNat + j)) v3 (nC (fv P 302 (3 + 19 * t1.toInt.toNat)).toInt (fv P 302 (4 + 19 * t1.toInt.toNat)).toInt) := g22
    show MEvP _ none q_177 34 [(0, .ref 301), (1, .int t1), (2, .int v2), (3, .int v3)] [.int x21, .int v2] _ _ _ _
    refine mp_Tb (t := 50) (j_if_ne dX7_ways_34) (by decide) (fun c24 => ?_) (fun c24 => mpp 37 rfl ?_)
    · have c24 : x21.toInt ≠ 0 := ti_ne c24
      refine mp_a (a_iconst (v := 0) dX7_ways_50 rfl) (mpp 51 rfl ?_)
      obtain ⟨z25, h26⟩ := ti_ex (v2 + 0 : Int32)
      have wz25 := ti_full z25
      refine mp_t (s_iadd (v := z25) dX7_ways_51 h26) (mpp 52 rfl ?_)
      try have e27 : z25.toInt = v2.toInt + 0 := ti_addz h26 rfl rfl (by omega) (by omega)
      refine mp_a (a_istore_n (L' := [(2, .int z25), (0, .ref 301), (1, .int t1), (3, .int v3)]) dX7_ways_52 (by decide) rfl) (mpp 53 rfl ?_)
      obtain ⟨z28, h29⟩ := ti_ex (v3 + 1 : Int32)
      have wz28 := ti_full z28
      refine mp_a (a_iinc (v := z28) (L' := [(3, .int z28), (2, .int z25), (0, .ref 301), (1, .int t1)]) dX7_ways_53 (by decide) rfl h29 rfl) (mpp 56 rfl ?_)
      try have e30 : z28.toInt = v3.toInt + 1 := ti_addz h29 rfl rfl (by omega) (by omega)
      refine mp_a (a_goto (t := 16) dX7_ways_56 (by decide)) ?_
      refine MEvP.less (L := [(0, .ref 301), (1, .int t1), (2, .int z25), (3, .int z28)]) rfl rfl ⟨rfl, rfl, rfl, rfl, trivial⟩ ?_
      have i31 : 0 ≤ t1.toInt := by omega
      have i32 : t1.toInt ≤ 7 := by omega
      have i33 : t1.toInt + 1 ≤ (fv Po 302 0).toInt := by omega
      have w35_0 := congrArg Int32.toInt (i_4 (3 + 19 * t1.toInt.toNat))
      have w35_1 := congrArg Int32.toInt (i_4 (4 + 19 * t1.toInt.toNat))
      have w35_s : shN (cI (fv Po 302 (3 + 19 * t1.toInt.toNat)).toInt (fv Po 302 (4 + 19 * t1.toInt.toNat)).toInt) = z11.toInt.toNat := shN_of h12 (by unfold cI; split <;> omega)
      have i34 : z28.toInt.toNat ≤ shN (cI (fv Po 302 (3 + 19 * t1.toInt.toNat)).toInt (fv Po 302 (4 + 19 * t1.toInt.toNat)).toInt) := by omega
      have i36 : ∀ j : Nat, fv P 302 j = fv Po 302 j := fun j => i_4 j
      have w38_f : ∀ j : Nat, fv P 302 j = fv Po 302 j := i_4
      have w38_0 := g22
      simp only [w38_f] at w38_0
      have i37 : CNr (WAYp cM eM (fv Po 302 (3 + 19 * t1.toInt.toNat)).toInt (fv Po 302 (4 + 19 * t1.toInt.toNat)).toInt (fun j : Nat => fv Po 302 (6 + 19 * t1.toInt.toNat + j)) (fun j : Nat => fv Po 302 (14 + 19 * t1.toInt.toNat + j))) z28.toInt.toNat z25.toInt := CNr.no i_5 (by omega) rfl (by omega) (fun q => by have q1 := q.1; omega) (by omega)
      have i39 : 0 ≤ z25.toInt := by omega
      have i40 : z25.toInt ≤ z28.toInt := by omega
      have i41 : 0 ≤ z28.toInt := by omega
      exact ih _ (by omega) _ _ P hT hK i31 i32 i33 i34 i36 i37 i39 i40 i41 rfl
    · have c24 : x21.toInt = 0 := ti_ne_n c24
      refine mp_a (a_aload_n dX7_ways_37 rfl) (mpp 38 rfl ?_)
      refine mp_a (a_iload_n dX7_ways_38 rfl) (mpp 39 rfl ?_)
      refine mp_a (a_iload_n dX7_ways_39 rfl) (mpp 40 rfl ?_)
      have p42 : 0 ≤ t1.toInt := by omega
      have p43 : t1.toInt ≤ 7 := by omega
      refine mt_callv (i := 222) (q' := q_179) (As := [.int t1, .int v3]) (rest := [.int v2]) hT dX7_ways_40 rfl qm_179 (by decide) rfl rl_301 (by decide) rfl (Nat.le_of_ble_eq_true rfl) rfl ⟨rfl, rfl⟩ ⟨Nat.le_of_ble_eq_true rfl, Nat.le_of_ble_eq_true rfl⟩ (EvP.mono (by decide) (c_M_foldsBy hT p42 p43 )) (fun r44 P45 g46 => mpp 43 rfl ?_)
      obtain ⟨⟨x47, rfl, g48⟩, hT49, k50, R51⟩ := g46
      have k52 : KW [1101, 1102, 1536, 1600] Po P45 := KW.trans hK k50 rfl
      have wx47 := ti_full x47
      replace g48 : 0 ≤ x47.toInt ∧ x47.toInt ≤ 1 ∧ ((x47.toInt = 1 ∧ FWf cM eM (fv P 302 (3 + 19 * t1.toInt.toNat)).toInt (fv P 302 (4 + 19 * t1.toInt.toNat)).toInt (fun j : Nat => fv P 302 (6 + 19 * t1.toInt.toNat + j)) v3) ∨ (x47.toInt = 0 ∧ ¬ FWf cM eM (fv P 302 (3 + 19 * t1.toInt.toNat)).toInt (fv P 302 (4 + 19 * t1.toInt.toNat)).toInt (fun j : Nat => fv P 302 (6 + 19 * t1.toInt.toNat + j)) v3)) := g48
      show MEvP _ none q_177 43 [(0, .ref 301), (1, .int t1), (2, .int v2), (3, .int v3)] [.int x47, .int v2] _ _ _ _
      refine mp_Tb (t := 50) (j_if_eq dX7_ways_43) (by decide) (fun c54 => ?_) (fun c54 => mpp 46 rfl ?_)
      · have c54 : x47.toInt = 0 := ti_eq c54
        refine mp_a (a_iconst (v := 0) dX7_ways_50 rfl) (mpp 51 rfl ?_)
        obtain ⟨z55, h56⟩ := ti_ex (v2 + 0 : Int32)
        have wz55 := ti_full z55
        refine mp_t (s_iadd (v := z55) dX7_ways_51 h56) (mpp 52 rfl ?_)
        try have e57 : z55.toInt = v2.toInt + 0 := ti_addz h56 rfl rfl (by omega) (by omega)
        refine mp_a (a_istore_n (L' := [(2, .int z55), (0, .ref 301), (1, .int t1), (3, .int v3)]) dX7_ways_52 (by decide) rfl) (mpp 53 rfl ?_)
        obtain ⟨z58, h59⟩ := ti_ex (v3 + 1 : Int32)
        have wz58 := ti_full z58
        refine mp_a (a_iinc (v := z58) (L' := [(3, .int z58), (2, .int z55), (0, .ref 301), (1, .int t1)]) dX7_ways_53 (by decide) rfl h59 rfl) (mpp 56 rfl ?_)
        try have e60 : z58.toInt = v3.toInt + 1 := ti_addz h59 rfl rfl (by omega) (by omega)
        refine mp_a (a_goto (t := 16) dX7_ways_56 (by decide)) ?_
        refine MEvP.less (L := [(0, .ref 301), (1, .int t1), (2, .int z55), (3, .int z58)]) rfl rfl ⟨rfl, rfl, rfl, rfl, trivial⟩ ?_
        have i61 : 0 ≤ t1.toInt := by omega
        have i62 : t1.toInt ≤ 7 := by omega
        have i63 : t1.toInt + 1 ≤ (fv Po 302 0).toInt := by omega
        have w65_0 := congrArg Int32.toInt (i_4 (3 + 19 * t1.toInt.toNat))
        have w65_1 := congrArg Int32.toInt (i_4 (4 + 19 * t1.toInt.toNat))
        have w65_s : shN (cI (fv Po 302 (3 + 19 * t1.toInt.toNat)).toInt (fv Po 302 (4 + 19 * t1.toInt.toNat)).toInt) = z11.toInt.toNat := shN_of h12 (by unfold cI; split <;> omega)
        have i64 : z58.toInt.toNat ≤ shN (cI (fv Po 302 (3 + 19 * t1.toInt.toNat)).toInt (fv Po 302 (4 + 19 * t1.toInt.toNat)).toInt) := by omega
        have i66 : ∀ j : Nat, fv P45 302 j = fv Po 302 j := fun j => (KW.at k50 j rl_302 rfl).trans (i_4 j)
        have w68_f : ∀ j : Nat, fv P 302 j = fv Po 302 j := i_4
        have w68_0 := g22
        simp only [w68_f] at w68_0
        have w68_1 := g48
        simp only [w68_f] at w68_1
        have i67 : CNr (WAYp cM eM (fv Po 302 (3 + 19 * t1.toInt.toNat)).toInt (fv Po 302 (4 + 19 * t1.toInt.toNat)).toInt (fun j : Nat => fv Po 302 (6 + 19 * t1.toInt.toNat + j)) (fun j : Nat => fv Po 302 (14 + 19 * t1.toInt.toNat + j))) z58.toInt.toNat z55.toInt := CNr.no i_5 (by omega) rfl (by omega) (fun q => (w68_1.2.2.resolve_left (by omega)).2 q.2) (by omega)
        have i69 : 0 ≤ z55.toInt := by omega
        have i70 : z55.toInt ≤ z58.toInt := by omega
        have i71 : 0 ≤ z58.toInt := by omega
        exact ih _ (by omega) _ _ P45 hT49 k52 i61 i62 i63 i64 i66 i67 i69 i70 i71 rfl
      · have c54 : x47.toInt ≠ 0 := ti_eq_n c54
        refine mp_a (a_iconst (v := 1) dX7_ways_46 rfl) (mpp 47 rfl ?_)
        refine mp_a (a_goto (t := 51) dX7_ways_47 (by decide)) ?_
        obtain ⟨z72, h73⟩ := ti_ex (v2 + 1 : Int32)
        have wz72 := ti_full z72
        refine mp_t (s_iadd (v := z72) dX7_ways_51 h73) (mpp 52 rfl ?_)
        try have e74 : z72.toInt = v2.toInt + 1 := ti_addz h73 rfl rfl (by omega) (by omega)
        refine mp_a (a_istore_n (L' := [(2, .int z72), (0, .ref 301), (1, .int t1), (3, .int v3)]) dX7_ways_52 (by decide) rfl) (mpp 53 rfl ?_)
        obtain ⟨z75, h76⟩ := ti_ex (v3 + 1 : Int32)
        have wz75 := ti_full z75
        refine mp_a (a_iinc (v := z75) (L' := [(3, .int z75), (2, .int z72), (0, .ref 301), (1, .int t1)]) dX7_ways_53 (by decide) rfl h76 rfl) (mpp 56 rfl ?_)
        try have e77 : z75.toInt = v3.toInt + 1 := ti_addz h76 rfl rfl (by omega) (by omega)
        refine mp_a (a_goto (t := 16) dX7_ways_56 (by decide)) ?_
        refine MEvP.less (L := [(0, .ref 301), (1, .int t1), (2, .int z72), (3, .int z75)]) rfl rfl ⟨rfl, rfl, rfl, rfl, trivial⟩ ?_
        have i78 : 0 ≤ t1.toInt := by omega
        have i79 : t1.toInt ≤ 7 := by omega
        have i80 : t1.toInt + 1 ≤ (fv Po 302 0).toInt := by omega
        have w82_0 := congrArg Int32.toInt (i_4 (3 + 19 * t1.toInt.toNat))
        have w82_1 := congrArg Int32.toInt (i_4 (4 + 19 * t1.toInt.toNat))
        have w82_s : shN (cI (fv Po 302 (3 + 19 * t1.toInt.toNat)).toInt (fv Po 302 (4 + 19 * t1.toInt.toNat)).toInt) = z11.toInt.toNat := shN_of h12 (by unfold cI; split <;> omega)
        have i81 : z75.toInt.toNat ≤ shN (cI (fv Po 302 (3 + 19 * t1.toInt.toNat)).toInt (fv Po 302 (4 + 19 * t1.toInt.toNat)).toInt) := by omega
        have i83 : ∀ j : Nat, fv P45 302 j = fv Po 302 j := fun j => (KW.at k50 j rl_302 rfl).trans (i_4 j)
        have w85_f : ∀ j : Nat, fv P 302 j = fv Po 302 j := i_4
        have w85_0 := g22
        simp only [w85_f] at w85_0
        have w85_1 := g48
        simp only [w85_f] at w85_1
        have i84 : CNr (WAYp cM eM (fv Po 302 (3 + 19 * t1.toInt.toNat)).toInt (fv Po 302 (4 + 19 * t1.toInt.toNat)).toInt (fun j : Nat => fv Po 302 (6 + 19 * t1.toInt.toNat + j)) (fun j : Nat => fv Po 302 (14 + 19 * t1.toInt.toNat + j))) z75.toInt.toNat z72.toInt := CNr.yes i_5 (by omega) rfl (by omega) ⟨by omega, (w85_1.2.2.resolve_right (by omega)).2⟩ (by omega)
        have i86 : 0 ≤ z72.toInt := by omega
        have i87 : z72.toInt ≤ z75.toInt := by omega
        have i88 : 0 ≤ z75.toInt := by omega
        exact ih _ (by omega) _ _ P45 hT49 k52 i78 i79 i80 i81 i83 i84 i86 i87 i88 rfl

set_option maxHeartbeats 4000000 in
theorem c_M_ways {Po : mP} {t1 : Int32} (hT : Typ Po)   : EvP 7 177 [.ref 301, .int t1] Po (fun r P' => (∃ x : Int32, r = some (.int x) ∧ (waysM (sr Po) x.toInt t1.toInt)) ∧ Typ P' ∧ KW [1101, 1102, 1536, 1600] Po P' ∧ True) := by
  refine EvP.of qm_177 (Nat.le_of_ble_eq_true rfl) rfl ?_
  show MEvP _ none q_177 0 [(0, .ref 301), (1, .int t1)] [] _ 0 0 _
  have w_t1 := ti_full t1
  refine mp_a (a_aload_n dX7_ways_0 rfl) (mpp 1 rfl ?_)
  refine mp_a (a_iload_n dX7_ways_1 rfl) (mpp 2 rfl ?_)
  refine mt_callv (i := 85) (q' := q_144) (As := [.int t1]) (rest := []) hT dX7_ways_2 rfl qm_144 (by decide) rfl rl_301 (by decide) rfl (Nat.le_of_ble_eq_true rfl) rfl ⟨rfl, rfl⟩ ⟨Nat.le_of_ble_eq_true rfl, Nat.le_of_ble_eq_true rfl⟩ (EvP.mono (by decide) (c_M_isPiece hT )) (fun r1 P2 g3 => mpp 5 rfl ?_)
  obtain ⟨⟨x4, rfl, g5⟩, e6⟩ := g3
  have e6 := e6.symm
  subst e6
  have wx4 := ti_full x4
  replace g5 : 0 ≤ x4.toInt ∧ x4.toInt ≤ 1 ∧ ((x4.toInt = 1 ∧ 0 ≤ t1.toInt ∧ t1.toInt + 1 ≤ (fv Po 302 0).toInt ∧ t1.toInt ≤ 7) ∨ (x4.toInt = 0 ∧ (t1.toInt < 0 ∨ (fv Po 302 0).toInt ≤ t1.toInt))) := g5
  have g7 : (0 : Int) ≤ (fv Po 302 0).toInt ∧ (fv Po 302 0).toInt ≤ 8 := Typ.rng hT rl_302 (by decide) (by decide) rfl
  show MEvP _ none q_177 5 [(0, .ref 301), (1, .int t1)] [.int x4] _ _ _ _
  refine mp_Tb (t := 12) (j_if_ne dX7_ways_5) (by decide) (fun c8 => ?_) (fun c8 => mpp 8 rfl ?_)
  · have c8 : x4.toInt ≠ 0 := ti_ne c8
    refine mp_a (a_iconst (v := 0) dX7_ways_12 rfl) (mpp 13 rfl ?_)
    refine mp_a (a_istore_n (L' := [(2, .int 0), (0, .ref 301), (1, .int t1)]) dX7_ways_13 (by decide) rfl) (mpp 14 rfl ?_)
    refine mp_a (a_iconst (v := 0) dX7_ways_14 rfl) (mpp 15 rfl ?_)
    refine mp_a (a_istore_n (L' := [(3, .int 0), (2, .int 0), (0, .ref 301), (1, .int t1)]) dX7_ways_15 (by decide) rfl) (mpp 16 rfl ?_)
    refine MEvP.less (L := [(0, .ref 301), (1, .int t1), (2, .int 0), (3, .int 0)]) rfl rfl ⟨rfl, rfl, rfl, rfl, trivial⟩ ?_
    have i9 : 0 ≤ t1.toInt := by omega
    have i10 : t1.toInt ≤ 7 := by omega
    have i11 : t1.toInt + 1 ≤ (fv Po 302 0).toInt := by omega
    have i12 : (0 : Int).toNat ≤ shN (cI (fv Po 302 (3 + 19 * t1.toInt.toNat)).toInt (fv Po 302 (4 + 19 * t1.toInt.toNat)).toInt) := Nat.zero_le _
    have i13 : ∀ j : Nat, fv Po 302 j = fv Po 302 j := fun _ => rfl
    have i14 : CNr (WAYp cM eM (fv Po 302 (3 + 19 * t1.toInt.toNat)).toInt (fv Po 302 (4 + 19 * t1.toInt.toNat)).toInt (fun j : Nat => fv Po 302 (6 + 19 * t1.toInt.toNat + j)) (fun j : Nat => fv Po 302 (14 + 19 * t1.toInt.toNat + j))) (0 : Int).toNat (0 : Int) := rfl
    have i15 : 0 ≤ (0 : Int) := by omega
    have i16 : (0 : Int) ≤ (0 : Int) := by omega
    have i17 : 0 ≤ (0 : Int) := by omega
    exact c_M_ways_l16    _ _ _ Po hT KW.refl i9 i10 i11 i12 i13 i14 i15 i16 i17 rfl
  · have c8 : x4.toInt = 0 := ti_ne_n c8
    refine mp_a (a_sipush (v := -1001) dX7_ways_8 rfl) (mpp 11 rfl ?_)
    have u18 : waysM (sr Po) (-1001 : Int) t1.toInt := (show ((-1001 : Int) = -1001 ∧ (t1.toInt < 0 ∨ (fv Po 302 (0)).toInt ≤ t1.toInt)) ∨ ((0 ≤ t1.toInt ∧ t1.toInt + 1 ≤ (fv Po 302 (0)).toInt ∧ t1.toInt ≤ 7) ∧ CNr (WAYp cM eM (fv Po 302 (3 + 19 * t1.toInt.toNat)).toInt (fv Po 302 (4 + 19 * t1.toInt.toNat)).toInt (fun j : Nat => fv Po 302 (6 + 19 * t1.toInt.toNat + j)) (fun j : Nat => fv Po 302 (14 + 19 * t1.toInt.toNat + j))) (shN (cI (fv Po 302 (3 + 19 * t1.toInt.toNat)).toInt (fv Po 302 (4 + 19 * t1.toInt.toNat)).toInt)) (-1001 : Int)) from Or.inl (⟨by omega, by omega⟩))
    exact mp_iret ⟨⟨_, rfl, u18⟩, hT, KW.refl, trivial⟩ dX7_ways_11 (Or.inl rfl)

set_option maxHeartbeats 4000000 in
theorem c_M_fewest_l18 {Po : mP} {t1 : Int32}  : ∀ (n : Nat) (v2 : Int32) (v3 : Int32), ∀ (P : mP), Typ P → KW [1101, 1102, 1536, 1600] Po P → (0 ≤ t1.toInt) → (t1.toInt ≤ 7) → (t1.toInt + 1 ≤ (fv Po 302 0).toInt) → (v3.toInt.toNat ≤ shN (cI (fv Po 302 (3 + 19 * t1.toInt.toNat)).toInt (fv Po 302 (4 + 19 * t1.toInt.toNat)).toInt)) → (∀ j : Nat, fv P 302 j = fv Po 302 j) → (FEr (fun v : Int32 => chF (fun j : Nat => fv Po 302 (14 + 19 * t1.toInt.toNat + j)) v (nC (fv Po 302 (3 + 19 * t1.toInt.toNat)).toInt (fv Po 302 (4 + 19 * t1.toInt.toNat)).toInt)) (FWf cM eM (fv Po 302 (3 + 19 * t1.toInt.toNat)).toInt (fv Po 302 (4 + 19 * t1.toInt.toNat)).toInt (fun j : Nat => fv Po 302 (6 + 19 * t1.toInt.toNat + j))) v3.toInt.toNat v2.toInt) → (0 ≤ v3.toInt) → (2147483647 - v3.toInt).toNat = n → MEvP 6 none q_181 18 [(0, .ref 301), (1, .int t1), (2, .int v2), (3, .int v3)] [] P 0 0 (fun r P' => (∃ x : Int32, r = some (.int x) ∧ (fewestM (sr Po) x.toInt t1.toInt)) ∧ Typ P' ∧ KW [1101, 1102, 1536, 1600] Po P' ∧ True) := by
  intro n
  induction n using Nat.strongRecOn with | _ n ih => ?_
  intro v2 v3 P hT hK i_0 i_1 i_2 i_3 i_4 i_5 i_6 hm
  have w_t1 := ti_full t1
  have w_v2 := ti_full v2
  have w_v3 := ti_full v3
  refine mp_a (a_iload_n dX7_fewest_18 rfl) (mpp 19 rfl ?_)
  refine mp_a (a_iconst (v := 1) dX7_fewest_19 rfl) (mpp 20 rfl ?_)
  refine mp_a (a_aload_n dX7_fewest_20 rfl) (mpp 21 rfl ?_)
  refine mp_a (a_iload_n dX7_fewest_21 rfl) (mpp 22 rfl ?_)
  have p1 : 0 ≤ t1.toInt := by omega
  have p2 : t1.toInt ≤ 7 := by omega
  refine mt_callv (i := 88) (q' := q_136) (As := [.int t1]) (rest := [.int 1, .int v3]) hT dX7_fewest_22 rfl qm_136 (by decide) rfl rl_301 (by decide) rfl (Nat.le_of_ble_eq_true rfl) rfl ⟨rfl, rfl⟩ ⟨Nat.le_of_ble_eq_true rfl, Nat.le_of_ble_eq_true rfl⟩ (EvP.mono (by decide) (c_M_creases hT p1 p2 )) (fun r3 P4 g5 => mpp 25 rfl ?_)
  obtain ⟨⟨x6, rfl, g7⟩, e8⟩ := g5
  have e8 := e8.symm
  subst e8
  have wx6 := ti_full x6
  replace g7 : -1 ≤ x6.toInt ∧ x6.toInt ≤ 8 ∧ (((fv P 302 (3 + 19 * t1.toInt.toNat)).toInt = 1 ∧ x6.toInt = (fv P 302 (4 + 19 * t1.toInt.toNat)).toInt) ∨ ((fv P 302 (3 + 19 * t1.toInt.toNat)).toInt = 0 ∧ x6.toInt = (fv P 302 (4 + 19 * t1.toInt.toNat)).toInt - 1)) := g7
  try have g9 : (0 : Int) ≤ (fv P 302 (3 + 19 * t1.toInt.toNat)).toInt ∧ (fv P 302 (3 + 19 * t1.toInt.toNat)).toInt ≤ 1 := s3_rng hT (by omega)
  try have g10 : (0 : Int) ≤ (fv P 302 (4 + 19 * t1.toInt.toNat)).toInt ∧ (fv P 302 (4 + 19 * t1.toInt.toNat)).toInt ≤ 8 := s4_rng hT (by omega)
  show MEvP _ none q_181 25 [(0, .ref 301), (1, .int t1), (2, .int v2), (3, .int v3)] [.int x6, .int 1, .int v3] _ _ _ _
  obtain ⟨z11, h12⟩ := ti_ex (1 <<< (x6 &&& 31) : Int32)
  have wz11 := ti_full z11
  refine mp_t (s_ishl (v := z11) dX7_fewest_25 h12) (mpp 26 rfl ?_)
  refine mp_Tb (t := 68) (j_icmp_ge dX7_fewest_26) (by decide) (fun c13 => ?_) (fun c13 => mpp 29 rfl ?_)
  · have c13 : v3.toInt ≥ z11.toInt := ti_ge c13
    refine mp_a (a_iload_n dX7_fewest_68 rfl) (mpp 69 rfl ?_)
    have w15_0 := congrArg Int32.toInt (i_4 (3 + 19 * t1.toInt.toNat))
    have w15_1 := congrArg Int32.toInt (i_4 (4 + 19 * t1.toInt.toNat))
    have w15_s : shN (cI (fv Po 302 (3 + 19 * t1.toInt.toNat)).toInt (fv Po 302 (4 + 19 * t1.toInt.toNat)).toInt) = z11.toInt.toNat := shN_of h12 (by unfold cI; split <;> omega)
    have u14 : fewestM (sr Po) v2.toInt t1.toInt := (show (v2.toInt = -1001 ∧ (t1.toInt < 0 ∨ (fv Po 302 (0)).toInt ≤ t1.toInt)) ∨ ((0 ≤ t1.toInt ∧ t1.toInt + 1 ≤ (fv Po 302 (0)).toInt ∧ t1.toInt ≤ 7) ∧ FEr (fun v : Int32 => chF (fun j : Nat => fv Po 302 (14 + 19 * t1.toInt.toNat + j)) v (nC (fv Po 302 (3 + 19 * t1.toInt.toNat)).toInt (fv Po 302 (4 + 19 * t1.toInt.toNat)).toInt)) (FWf cM eM (fv Po 302 (3 + 19 * t1.toInt.toNat)).toInt (fv Po 302 (4 + 19 * t1.toInt.toNat)).toInt (fun j : Nat => fv Po 302 (6 + 19 * t1.toInt.toNat + j))) (shN (cI (fv Po 302 (3 + 19 * t1.toInt.toNat)).toInt (fv Po 302 (4 + 19 * t1.toInt.toNat)).toInt)) v2.toInt) from Or.inr (⟨by omega, (show v3.toInt.toNat = shN (cI (fv Po 302 (3 + 19 * t1.toInt.toNat)).toInt (fv Po 302 (4 + 19 * t1.toInt.toNat)).toInt) from by omega) ▸ i_5⟩))
    exact mp_iret ⟨⟨_, rfl, u14⟩, hT, hK, trivial⟩ dX7_fewest_69 (Or.inl rfl)
  · have c13 : v3.toInt < z11.toInt := ti_ge_n c13
    refine mp_a (a_aload_n dX7_fewest_29 rfl) (mpp 30 rfl ?_)
    refine mp_a (a_iload_n dX7_fewest_30 rfl) (mpp 31 rfl ?_)
    refine mp_a (a_iload_n dX7_fewest_31 rfl) (mpp 32 rfl ?_)
    have p16 : 0 ≤ t1.toInt := by omega
    have p17 : t1.toInt ≤ 7 := by omega
    refine mt_callv (i := 219) (q' := q_178) (As := [.int t1, .int v3]) (rest := []) hT dX7_fewest_32 rfl qm_178 (by decide) rfl rl_301 (by decide) rfl (Nat.le_of_ble_eq_true rfl) rfl ⟨rfl, rfl⟩ ⟨Nat.le_of_ble_eq_true rfl, Nat.le_of_ble_eq_true rfl⟩ (EvP.mono (by decide) (c_M_otherwise hT p16 p17 )) (fun r18 P19 g20 => mpp 35 rfl ?_)
    obtain ⟨⟨x21, rfl, g22⟩, e23⟩ := g20
    have e23 := e23.symm
    subst e23
    have wx21 := ti_full x21
    replace g22 : 0 ≤ x21.toInt ∧ x21.toInt ≤ 8 ∧ x21.toInt = chF (fun j : Nat => fv P 302 (14 + 19 * t1.toInt.toNat + j)) v3 (nC (fv P 302 (3 + 19 * t1.toInt.toNat)).toInt (fv P 302 (4 + 19 * t1.toInt.toNat)).toInt) := g22
    show MEvP _ none q_181 35 [(0, .ref 301), (1, .int t1), (2, .int v2), (3, .int v3)] [.int x21] _ _ _ _
    refine mp_a (a_istore (L' := [(4, .int x21), (0, .ref 301), (1, .int t1), (2, .int v2), (3, .int v3)]) dX7_fewest_35 (by decide) rfl) (mpp 37 rfl ?_)
    refine mp_a (a_iload_n dX7_fewest_37 rfl) (mpp 38 rfl ?_)
    refine mp_a (a_sipush (v := -1004) dX7_fewest_38 rfl) (mpp 41 rfl ?_)
    refine mp_Tb (t := 50) (j_icmp_eq dX7_fewest_41) (by decide) (fun c24 => ?_) (fun c24 => mpp 44 rfl ?_)
    · have c24 : v2.toInt = (-1004) := ti_eq c24
      refine mp_a (a_aload_n dX7_fewest_50 rfl) (mpp 51 rfl ?_)
      refine mp_a (a_iload_n dX7_fewest_51 rfl) (mpp 52 rfl ?_)
      refine mp_a (a_iload_n dX7_fewest_52 rfl) (mpp 53 rfl ?_)
      have p25 : 0 ≤ t1.toInt := by omega
      have p26 : t1.toInt ≤ 7 := by omega
      refine mt_callv (i := 222) (q' := q_179) (As := [.int t1, .int v3]) (rest := []) hT dX7_fewest_53 rfl qm_179 (by decide) rfl rl_301 (by decide) rfl (Nat.le_of_ble_eq_true rfl) rfl ⟨rfl, rfl⟩ ⟨Nat.le_of_ble_eq_true rfl, Nat.le_of_ble_eq_true rfl⟩ (EvP.mono (by decide) (c_M_foldsBy hT p25 p26 )) (fun r27 P28 g29 => mpp 56 rfl ?_)
      obtain ⟨⟨x30, rfl, g31⟩, hT32, k33, R34⟩ := g29
      have k35 : KW [1101, 1102, 1536, 1600] Po P28 := KW.trans hK k33 rfl
      have wx30 := ti_full x30
      replace g31 : 0 ≤ x30.toInt ∧ x30.toInt ≤ 1 ∧ ((x30.toInt = 1 ∧ FWf cM eM (fv P 302 (3 + 19 * t1.toInt.toNat)).toInt (fv P 302 (4 + 19 * t1.toInt.toNat)).toInt (fun j : Nat => fv P 302 (6 + 19 * t1.toInt.toNat + j)) v3) ∨ (x30.toInt = 0 ∧ ¬ FWf cM eM (fv P 302 (3 + 19 * t1.toInt.toNat)).toInt (fv P 302 (4 + 19 * t1.toInt.toNat)).toInt (fun j : Nat => fv P 302 (6 + 19 * t1.toInt.toNat + j)) v3)) := g31
      show MEvP _ none q_181 56 [(4, .int x21), (0, .ref 301), (1, .int t1), (2, .int v2), (3, .int v3)] [.int x30] _ _ _ _
      refine mp_Tb (t := 62) (j_if_eq dX7_fewest_56) (by decide) (fun c37 => ?_) (fun c37 => mpp 59 rfl ?_)
      · have c37 : x30.toInt = 0 := ti_eq c37
        obtain ⟨z38, h39⟩ := ti_ex (v3 + 1 : Int32)
        have wz38 := ti_full z38
        refine mp_a (a_iinc (v := z38) (L' := [(3, .int z38), (4, .int x21), (0, .ref 301), (1, .int t1), (2, .int v2)]) dX7_fewest_62 (by decide) rfl h39 rfl) (mpp 65 rfl ?_)
        try have e40 : z38.toInt = v3.toInt + 1 := ti_addz h39 rfl rfl (by omega) (by omega)
        refine mp_a (a_goto (t := 18) dX7_fewest_65 (by decide)) ?_
        refine MEvP.less (L := [(0, .ref 301), (1, .int t1), (2, .int v2), (3, .int z38)]) rfl rfl ⟨rfl, rfl, rfl, rfl, trivial⟩ ?_
        have i41 : 0 ≤ t1.toInt := by omega
        have i42 : t1.toInt ≤ 7 := by omega
        have i43 : t1.toInt + 1 ≤ (fv Po 302 0).toInt := by omega
        have w45_0 := congrArg Int32.toInt (i_4 (3 + 19 * t1.toInt.toNat))
        have w45_1 := congrArg Int32.toInt (i_4 (4 + 19 * t1.toInt.toNat))
        have w45_s : shN (cI (fv Po 302 (3 + 19 * t1.toInt.toNat)).toInt (fv Po 302 (4 + 19 * t1.toInt.toNat)).toInt) = z11.toInt.toNat := shN_of h12 (by unfold cI; split <;> omega)
        have i44 : z38.toInt.toNat ≤ shN (cI (fv Po 302 (3 + 19 * t1.toInt.toNat)).toInt (fv Po 302 (4 + 19 * t1.toInt.toNat)).toInt) := by omega
        have i46 : ∀ j : Nat, fv P28 302 j = fv Po 302 j := fun j => (KW.at k33 j rl_302 rfl).trans (i_4 j)
        have w48_f : ∀ j : Nat, fv P 302 j = fv Po 302 j := i_4
        have w48_0 := g22
        simp only [w48_f] at w48_0
        have w48_1 := g31
        simp only [w48_f] at w48_1
        have i47 : FEr (fun v : Int32 => chF (fun j : Nat => fv Po 302 (14 + 19 * t1.toInt.toNat + j)) v (nC (fv Po 302 (3 + 19 * t1.toInt.toNat)).toInt (fv Po 302 (4 + 19 * t1.toInt.toNat)).toInt)) (FWf cM eM (fv Po 302 (3 + 19 * t1.toInt.toNat)).toInt (fv Po 302 (4 + 19 * t1.toInt.toNat)).toInt (fun j : Nat => fv Po 302 (6 + 19 * t1.toInt.toNat + j))) z38.toInt.toNat v2.toInt := FEr.no i_5 (by omega) rfl (by omega) w48_0.2.2 (Or.inr (w48_1.2.2.resolve_left (by omega)).2) rfl
        have i49 : 0 ≤ z38.toInt := by omega
        exact ih _ (by omega) _ _ P28 hT32 k35 i41 i42 i43 i44 i46 i47 i49 rfl
      · have c37 : x30.toInt ≠ 0 := ti_eq_n c37
        refine mp_a (a_iload dX7_fewest_59 rfl) (mpp 61 rfl ?_)
        refine mp_a (a_istore_n (L' := [(2, .int x21), (4, .int x21), (0, .ref 301), (1, .int t1), (3, .int v3)]) dX7_fewest_61 (by decide) rfl) (mpp 62 rfl ?_)
        obtain ⟨z50, h51⟩ := ti_ex (v3 + 1 : Int32)
        have wz50 := ti_full z50
        refine mp_a (a_iinc (v := z50) (L' := [(3, .int z50), (2, .int x21), (4, .int x21), (0, .ref 301), (1, .int t1)]) dX7_fewest_62 (by decide) rfl h51 rfl) (mpp 65 rfl ?_)
        try have e52 : z50.toInt = v3.toInt + 1 := ti_addz h51 rfl rfl (by omega) (by omega)
        refine mp_a (a_goto (t := 18) dX7_fewest_65 (by decide)) ?_
        refine MEvP.less (L := [(0, .ref 301), (1, .int t1), (2, .int x21), (3, .int z50)]) rfl rfl ⟨rfl, rfl, rfl, rfl, trivial⟩ ?_
        have i53 : 0 ≤ t1.toInt := by omega
        have i54 : t1.toInt ≤ 7 := by omega
        have i55 : t1.toInt + 1 ≤ (fv Po 302 0).toInt := by omega
        have w57_0 := congrArg Int32.toInt (i_4 (3 + 19 * t1.toInt.toNat))
        have w57_1 := congrArg Int32.toInt (i_4 (4 + 19 * t1.toInt.toNat))
        have w57_s : shN (cI (fv Po 302 (3 + 19 * t1.toInt.toNat)).toInt (fv Po 302 (4 + 19 * t1.toInt.toNat)).toInt) = z11.toInt.toNat := shN_of h12 (by unfold cI; split <;> omega)
        have i56 : z50.toInt.toNat ≤ shN (cI (fv Po 302 (3 + 19 * t1.toInt.toNat)).toInt (fv Po 302 (4 + 19 * t1.toInt.toNat)).toInt) := by omega
        have i58 : ∀ j : Nat, fv P28 302 j = fv Po 302 j := fun j => (KW.at k33 j rl_302 rfl).trans (i_4 j)
        have w60_f : ∀ j : Nat, fv P 302 j = fv Po 302 j := i_4
        have w60_0 := g22
        simp only [w60_f] at w60_0
        have w60_1 := g31
        simp only [w60_f] at w60_1
        have i59 : FEr (fun v : Int32 => chF (fun j : Nat => fv Po 302 (14 + 19 * t1.toInt.toNat + j)) v (nC (fv Po 302 (3 + 19 * t1.toInt.toNat)).toInt (fv Po 302 (4 + 19 * t1.toInt.toNat)).toInt)) (FWf cM eM (fv Po 302 (3 + 19 * t1.toInt.toNat)).toInt (fv Po 302 (4 + 19 * t1.toInt.toNat)).toInt (fun j : Nat => fv Po 302 (6 + 19 * t1.toInt.toNat + j))) z50.toInt.toNat x21.toInt := FEr.yes i_5 (by omega) rfl (by omega) w60_0.2.2 (by omega) (w60_1.2.2.resolve_right (by omega)).2 rfl
        have i61 : 0 ≤ z50.toInt := by omega
        exact ih _ (by omega) _ _ P28 hT32 k35 i53 i54 i55 i56 i58 i59 i61 rfl
    · have c24 : v2.toInt ≠ (-1004) := ti_eq_n c24
      refine mp_a (a_iload dX7_fewest_44 rfl) (mpp 46 rfl ?_)
      refine mp_a (a_iload_n dX7_fewest_46 rfl) (mpp 47 rfl ?_)
      refine mp_Tb (t := 62) (j_icmp_ge dX7_fewest_47) (by decide) (fun c62 => ?_) (fun c62 => mpp 50 rfl ?_)
      · have c62 : x21.toInt ≥ v2.toInt := ti_ge c62
        obtain ⟨z63, h64⟩ := ti_ex (v3 + 1 : Int32)
        have wz63 := ti_full z63
        refine mp_a (a_iinc (v := z63) (L' := [(3, .int z63), (4, .int x21), (0, .ref 301), (1, .int t1), (2, .int v2)]) dX7_fewest_62 (by decide) rfl h64 rfl) (mpp 65 rfl ?_)
        try have e65 : z63.toInt = v3.toInt + 1 := ti_addz h64 rfl rfl (by omega) (by omega)
        refine mp_a (a_goto (t := 18) dX7_fewest_65 (by decide)) ?_
        refine MEvP.less (L := [(0, .ref 301), (1, .int t1), (2, .int v2), (3, .int z63)]) rfl rfl ⟨rfl, rfl, rfl, rfl, trivial⟩ ?_
        have i66 : 0 ≤ t1.toInt := by omega
        have i67 : t1.toInt ≤ 7 := by omega
        have i68 : t1.toInt + 1 ≤ (fv Po 302 0).toInt := by omega
        have w70_0 := congrArg Int32.toInt (i_4 (3 + 19 * t1.toInt.toNat))
        have w70_1 := congrArg Int32.toInt (i_4 (4 + 19 * t1.toInt.toNat))
        have w70_s : shN (cI (fv Po 302 (3 + 19 * t1.toInt.toNat)).toInt (fv Po 302 (4 + 19 * t1.toInt.toNat)).toInt) = z11.toInt.toNat := shN_of h12 (by unfold cI; split <;> omega)
        have i69 : z63.toInt.toNat ≤ shN (cI (fv Po 302 (3 + 19 * t1.toInt.toNat)).toInt (fv Po 302 (4 + 19 * t1.toInt.toNat)).toInt) := by omega
        have i71 : ∀ j : Nat, fv P 302 j = fv Po 302 j := fun j => i_4 j
        have w73_f : ∀ j : Nat, fv P 302 j = fv Po 302 j := i_4
        have w73_0 := g22
        simp only [w73_f] at w73_0
        have i72 : FEr (fun v : Int32 => chF (fun j : Nat => fv Po 302 (14 + 19 * t1.toInt.toNat + j)) v (nC (fv Po 302 (3 + 19 * t1.toInt.toNat)).toInt (fv Po 302 (4 + 19 * t1.toInt.toNat)).toInt)) (FWf cM eM (fv Po 302 (3 + 19 * t1.toInt.toNat)).toInt (fv Po 302 (4 + 19 * t1.toInt.toNat)).toInt (fun j : Nat => fv Po 302 (6 + 19 * t1.toInt.toNat + j))) z63.toInt.toNat v2.toInt := FEr.no i_5 (by omega) rfl (by omega) w73_0.2.2 (Or.inl (by omega)) rfl
        have i74 : 0 ≤ z63.toInt := by omega
        exact ih _ (by omega) _ _ P hT hK i66 i67 i68 i69 i71 i72 i74 rfl
      · have c62 : x21.toInt < v2.toInt := ti_ge_n c62
        refine mp_a (a_aload_n dX7_fewest_50 rfl) (mpp 51 rfl ?_)
        refine mp_a (a_iload_n dX7_fewest_51 rfl) (mpp 52 rfl ?_)
        refine mp_a (a_iload_n dX7_fewest_52 rfl) (mpp 53 rfl ?_)
        have p75 : 0 ≤ t1.toInt := by omega
        have p76 : t1.toInt ≤ 7 := by omega
        refine mt_callv (i := 222) (q' := q_179) (As := [.int t1, .int v3]) (rest := []) hT dX7_fewest_53 rfl qm_179 (by decide) rfl rl_301 (by decide) rfl (Nat.le_of_ble_eq_true rfl) rfl ⟨rfl, rfl⟩ ⟨Nat.le_of_ble_eq_true rfl, Nat.le_of_ble_eq_true rfl⟩ (EvP.mono (by decide) (c_M_foldsBy hT p75 p76 )) (fun r77 P78 g79 => mpp 56 rfl ?_)
        obtain ⟨⟨x80, rfl, g81⟩, hT82, k83, R84⟩ := g79
        have k85 : KW [1101, 1102, 1536, 1600] Po P78 := KW.trans hK k83 rfl
        have wx80 := ti_full x80
        replace g81 : 0 ≤ x80.toInt ∧ x80.toInt ≤ 1 ∧ ((x80.toInt = 1 ∧ FWf cM eM (fv P 302 (3 + 19 * t1.toInt.toNat)).toInt (fv P 302 (4 + 19 * t1.toInt.toNat)).toInt (fun j : Nat => fv P 302 (6 + 19 * t1.toInt.toNat + j)) v3) ∨ (x80.toInt = 0 ∧ ¬ FWf cM eM (fv P 302 (3 + 19 * t1.toInt.toNat)).toInt (fv P 302 (4 + 19 * t1.toInt.toNat)).toInt (fun j : Nat => fv P 302 (6 + 19 * t1.toInt.toNat + j)) v3)) := g81
        show MEvP _ none q_181 56 [(4, .int x21), (0, .ref 301), (1, .int t1), (2, .int v2), (3, .int v3)] [.int x80] _ _ _ _
        refine mp_Tb (t := 62) (j_if_eq dX7_fewest_56) (by decide) (fun c87 => ?_) (fun c87 => mpp 59 rfl ?_)
        · have c87 : x80.toInt = 0 := ti_eq c87
          obtain ⟨z88, h89⟩ := ti_ex (v3 + 1 : Int32)
          have wz88 := ti_full z88
          refine mp_a (a_iinc (v := z88) (L' := [(3, .int z88), (4, .int x21), (0, .ref 301), (1, .int t1), (2, .int v2)]) dX7_fewest_62 (by decide) rfl h89 rfl) (mpp 65 rfl ?_)
          try have e90 : z88.toInt = v3.toInt + 1 := ti_addz h89 rfl rfl (by omega) (by omega)
          refine mp_a (a_goto (t := 18) dX7_fewest_65 (by decide)) ?_
          refine MEvP.less (L := [(0, .ref 301), (1, .int t1), (2, .int v2), (3, .int z88)]) rfl rfl ⟨rfl, rfl, rfl, rfl, trivial⟩ ?_
          have i91 : 0 ≤ t1.toInt := by omega
          have i92 : t1.toInt ≤ 7 := by omega
          have i93 : t1.toInt + 1 ≤ (fv Po 302 0).toInt := by omega
          have w95_0 := congrArg Int32.toInt (i_4 (3 + 19 * t1.toInt.toNat))
          have w95_1 := congrArg Int32.toInt (i_4 (4 + 19 * t1.toInt.toNat))
          have w95_s : shN (cI (fv Po 302 (3 + 19 * t1.toInt.toNat)).toInt (fv Po 302 (4 + 19 * t1.toInt.toNat)).toInt) = z11.toInt.toNat := shN_of h12 (by unfold cI; split <;> omega)
          have i94 : z88.toInt.toNat ≤ shN (cI (fv Po 302 (3 + 19 * t1.toInt.toNat)).toInt (fv Po 302 (4 + 19 * t1.toInt.toNat)).toInt) := by omega
          have i96 : ∀ j : Nat, fv P78 302 j = fv Po 302 j := fun j => (KW.at k83 j rl_302 rfl).trans (i_4 j)
          have w98_f : ∀ j : Nat, fv P 302 j = fv Po 302 j := i_4
          have w98_0 := g22
          simp only [w98_f] at w98_0
          have w98_1 := g81
          simp only [w98_f] at w98_1
          have i97 : FEr (fun v : Int32 => chF (fun j : Nat => fv Po 302 (14 + 19 * t1.toInt.toNat + j)) v (nC (fv Po 302 (3 + 19 * t1.toInt.toNat)).toInt (fv Po 302 (4 + 19 * t1.toInt.toNat)).toInt)) (FWf cM eM (fv Po 302 (3 + 19 * t1.toInt.toNat)).toInt (fv Po 302 (4 + 19 * t1.toInt.toNat)).toInt (fun j : Nat => fv Po 302 (6 + 19 * t1.toInt.toNat + j))) z88.toInt.toNat v2.toInt := FEr.no i_5 (by omega) rfl (by omega) w98_0.2.2 (Or.inr (w98_1.2.2.resolve_left (by omega)).2) rfl
          have i99 : 0 ≤ z88.toInt := by omega
          exact ih _ (by omega) _ _ P78 hT82 k85 i91 i92 i93 i94 i96 i97 i99 rfl
        · have c87 : x80.toInt ≠ 0 := ti_eq_n c87
          refine mp_a (a_iload dX7_fewest_59 rfl) (mpp 61 rfl ?_)
          refine mp_a (a_istore_n (L' := [(2, .int x21), (4, .int x21), (0, .ref 301), (1, .int t1), (3, .int v3)]) dX7_fewest_61 (by decide) rfl) (mpp 62 rfl ?_)
          obtain ⟨z100, h101⟩ := ti_ex (v3 + 1 : Int32)
          have wz100 := ti_full z100
          refine mp_a (a_iinc (v := z100) (L' := [(3, .int z100), (2, .int x21), (4, .int x21), (0, .ref 301), (1, .int t1)]) dX7_fewest_62 (by decide) rfl h101 rfl) (mpp 65 rfl ?_)
          try have e102 : z100.toInt = v3.toInt + 1 := ti_addz h101 rfl rfl (by omega) (by omega)
          refine mp_a (a_goto (t := 18) dX7_fewest_65 (by decide)) ?_
          refine MEvP.less (L := [(0, .ref 301), (1, .int t1), (2, .int x21), (3, .int z100)]) rfl rfl ⟨rfl, rfl, rfl, rfl, trivial⟩ ?_
          have i103 : 0 ≤ t1.toInt := by omega
          have i104 : t1.toInt ≤ 7 := by omega
          have i105 : t1.toInt + 1 ≤ (fv Po 302 0).toInt := by omega
          have w107_0 := congrArg Int32.toInt (i_4 (3 + 19 * t1.toInt.toNat))
          have w107_1 := congrArg Int32.toInt (i_4 (4 + 19 * t1.toInt.toNat))
          have w107_s : shN (cI (fv Po 302 (3 + 19 * t1.toInt.toNat)).toInt (fv Po 302 (4 + 19 * t1.toInt.toNat)).toInt) = z11.toInt.toNat := shN_of h12 (by unfold cI; split <;> omega)
          have i106 : z100.toInt.toNat ≤ shN (cI (fv Po 302 (3 + 19 * t1.toInt.toNat)).toInt (fv Po 302 (4 + 19 * t1.toInt.toNat)).toInt) := by omega
          have i108 : ∀ j : Nat, fv P78 302 j = fv Po 302 j := fun j => (KW.at k83 j rl_302 rfl).trans (i_4 j)
          have w110_f : ∀ j : Nat, fv P 302 j = fv Po 302 j := i_4
          have w110_0 := g22
          simp only [w110_f] at w110_0
          have w110_1 := g81
          simp only [w110_f] at w110_1
          have i109 : FEr (fun v : Int32 => chF (fun j : Nat => fv Po 302 (14 + 19 * t1.toInt.toNat + j)) v (nC (fv Po 302 (3 + 19 * t1.toInt.toNat)).toInt (fv Po 302 (4 + 19 * t1.toInt.toNat)).toInt)) (FWf cM eM (fv Po 302 (3 + 19 * t1.toInt.toNat)).toInt (fv Po 302 (4 + 19 * t1.toInt.toNat)).toInt (fun j : Nat => fv Po 302 (6 + 19 * t1.toInt.toNat + j))) z100.toInt.toNat x21.toInt := FEr.yes i_5 (by omega) rfl (by omega) w110_0.2.2 (by omega) (w110_1.2.2.resolve_right (by omega)).2 rfl
          have i111 : 0 ≤ z100.toInt := by omega
          exact ih _ (by omega) _ _ P78 hT82 k85 i103 i104 i105 i106 i108 i109 i111 rfl

set_option maxHeartbeats 4000000 in
theorem c_M_fewest {Po : mP} {t1 : Int32} (hT : Typ Po)   : EvP 7 181 [.ref 301, .int t1] Po (fun r P' => (∃ x : Int32, r = some (.int x) ∧ (fewestM (sr Po) x.toInt t1.toInt)) ∧ Typ P' ∧ KW [1101, 1102, 1536, 1600] Po P' ∧ True) := by
  refine EvP.of qm_181 (Nat.le_of_ble_eq_true rfl) rfl ?_
  show MEvP _ none q_181 0 [(0, .ref 301), (1, .int t1)] [] _ 0 0 _
  have w_t1 := ti_full t1
  refine mp_a (a_aload_n dX7_fewest_0 rfl) (mpp 1 rfl ?_)
  refine mp_a (a_iload_n dX7_fewest_1 rfl) (mpp 2 rfl ?_)
  refine mt_callv (i := 85) (q' := q_144) (As := [.int t1]) (rest := []) hT dX7_fewest_2 rfl qm_144 (by decide) rfl rl_301 (by decide) rfl (Nat.le_of_ble_eq_true rfl) rfl ⟨rfl, rfl⟩ ⟨Nat.le_of_ble_eq_true rfl, Nat.le_of_ble_eq_true rfl⟩ (EvP.mono (by decide) (c_M_isPiece hT )) (fun r1 P2 g3 => mpp 5 rfl ?_)
  obtain ⟨⟨x4, rfl, g5⟩, e6⟩ := g3
  have e6 := e6.symm
  subst e6
  have wx4 := ti_full x4
  replace g5 : 0 ≤ x4.toInt ∧ x4.toInt ≤ 1 ∧ ((x4.toInt = 1 ∧ 0 ≤ t1.toInt ∧ t1.toInt + 1 ≤ (fv Po 302 0).toInt ∧ t1.toInt ≤ 7) ∨ (x4.toInt = 0 ∧ (t1.toInt < 0 ∨ (fv Po 302 0).toInt ≤ t1.toInt))) := g5
  have g7 : (0 : Int) ≤ (fv Po 302 0).toInt ∧ (fv Po 302 0).toInt ≤ 8 := Typ.rng hT rl_302 (by decide) (by decide) rfl
  show MEvP _ none q_181 5 [(0, .ref 301), (1, .int t1)] [.int x4] _ _ _ _
  refine mp_Tb (t := 12) (j_if_ne dX7_fewest_5) (by decide) (fun c8 => ?_) (fun c8 => mpp 8 rfl ?_)
  · have c8 : x4.toInt ≠ 0 := ti_ne c8
    refine mp_a (a_sipush (v := -1004) dX7_fewest_12 rfl) (mpp 15 rfl ?_)
    refine mp_a (a_istore_n (L' := [(2, .int (-1004)), (0, .ref 301), (1, .int t1)]) dX7_fewest_15 (by decide) rfl) (mpp 16 rfl ?_)
    refine mp_a (a_iconst (v := 0) dX7_fewest_16 rfl) (mpp 17 rfl ?_)
    refine mp_a (a_istore_n (L' := [(3, .int 0), (2, .int (-1004)), (0, .ref 301), (1, .int t1)]) dX7_fewest_17 (by decide) rfl) (mpp 18 rfl ?_)
    refine MEvP.less (L := [(0, .ref 301), (1, .int t1), (2, .int (-1004)), (3, .int 0)]) rfl rfl ⟨rfl, rfl, rfl, rfl, trivial⟩ ?_
    have i9 : 0 ≤ t1.toInt := by omega
    have i10 : t1.toInt ≤ 7 := by omega
    have i11 : t1.toInt + 1 ≤ (fv Po 302 0).toInt := by omega
    have i12 : (0 : Int).toNat ≤ shN (cI (fv Po 302 (3 + 19 * t1.toInt.toNat)).toInt (fv Po 302 (4 + 19 * t1.toInt.toNat)).toInt) := Nat.zero_le _
    have i13 : ∀ j : Nat, fv Po 302 j = fv Po 302 j := fun _ => rfl
    have i14 : FEr (fun v : Int32 => chF (fun j : Nat => fv Po 302 (14 + 19 * t1.toInt.toNat + j)) v (nC (fv Po 302 (3 + 19 * t1.toInt.toNat)).toInt (fv Po 302 (4 + 19 * t1.toInt.toNat)).toInt)) (FWf cM eM (fv Po 302 (3 + 19 * t1.toInt.toNat)).toInt (fv Po 302 (4 + 19 * t1.toInt.toNat)).toInt (fun j : Nat => fv Po 302 (6 + 19 * t1.toInt.toNat + j))) (0 : Int).toNat (-1004 : Int) := rfl
    have i15 : 0 ≤ (0 : Int) := by omega
    exact c_M_fewest_l18    _ _ _ Po hT KW.refl i9 i10 i11 i12 i13 i14 i15 rfl
  · have c8 : x4.toInt = 0 := ti_ne_n c8
    refine mp_a (a_sipush (v := -1001) dX7_fewest_8 rfl) (mpp 11 rfl ?_)
    have u16 : fewestM (sr Po) (-1001 : Int) t1.toInt := (show ((-1001 : Int) = -1001 ∧ (t1.toInt < 0 ∨ (fv Po 302 (0)).toInt ≤ t1.toInt)) ∨ ((0 ≤ t1.toInt ∧ t1.toInt + 1 ≤ (fv Po 302 (0)).toInt ∧ t1.toInt ≤ 7) ∧ FEr (fun v : Int32 => chF (fun j : Nat => fv Po 302 (14 + 19 * t1.toInt.toNat + j)) v (nC (fv Po 302 (3 + 19 * t1.toInt.toNat)).toInt (fv Po 302 (4 + 19 * t1.toInt.toNat)).toInt)) (FWf cM eM (fv Po 302 (3 + 19 * t1.toInt.toNat)).toInt (fv Po 302 (4 + 19 * t1.toInt.toNat)).toInt (fun j : Nat => fv Po 302 (6 + 19 * t1.toInt.toNat + j))) (shN (cI (fv Po 302 (3 + 19 * t1.toInt.toNat)).toInt (fv Po 302 (4 + 19 * t1.toInt.toNat)).toInt)) (-1001 : Int)) from Or.inl (⟨by omega, by omega⟩))
    exact mp_iret ⟨⟨_, rfl, u16⟩, hT, KW.refl, trivial⟩ dX7_fewest_11 (Or.inl rfl)

set_option maxHeartbeats 4000000 in
theorem c_M_isStripWithout {Po : mP} {t1 : Int32} {t2 : Int32} {t3 : Int32} (hT : Typ Po)  (hp0 : 0 ≤ t1.toInt) (hp1 : t1.toInt ≤ 7)  : EvP 4 209 [.ref 301, .int t1, .int t2, .int t3] Po (fun r P' => (∃ x : Int32, r = some (.int x) ∧ (0 ≤ x.toInt ∧ x.toInt ≤ 1 ∧ ((x.toInt = 1 ∧ (fv Po 302 (3 + 19 * t1.toInt.toNat)).toInt = 0 ∧ (t2.toInt < 0 ∨ t3.toInt < t2.toInt)) ∨ (x.toInt = 0 ∧ ((fv Po 302 (3 + 19 * t1.toInt.toNat)).toInt = 1 ∨ (0 ≤ t2.toInt ∧ t2.toInt ≤ t3.toInt)))))) ∧ P' = Po) := by
  refine EvP.of qm_209 (Nat.le_of_ble_eq_true rfl) rfl ?_
  show MEvP _ none q_209 0 [(0, .ref 301), (1, .int t1), (2, .int t2), (3, .int t3)] [] _ 0 0 _
  have w_t1 := ti_full t1
  have w_t2 := ti_full t2
  have w_t3 := ti_full t3
  try have g1 : (0 : Int) ≤ (fv Po 302 (3 + 19 * t1.toInt.toNat)).toInt ∧ (fv Po 302 (3 + 19 * t1.toInt.toNat)).toInt ≤ 1 := s3_rng hT (by omega)
  refine mp_a (a_aload_n dX7_isStripWithout_0 rfl) (mpp 1 rfl ?_)
  refine mp_a (a_iload_n dX7_isStripWithout_1 rfl) (mpp 2 rfl ?_)
  have p2 : 0 ≤ t1.toInt := by omega
  have p3 : t1.toInt ≤ 7 := by omega
  refine mt_callv (i := 81) (q' := q_138) (As := [.int t1]) (rest := []) hT dX7_isStripWithout_2 rfl qm_138 (by decide) rfl rl_301 (by decide) rfl (Nat.le_of_ble_eq_true rfl) rfl ⟨rfl, rfl⟩ ⟨Nat.le_of_ble_eq_true rfl, Nat.le_of_ble_eq_true rfl⟩ (EvP.mono (by decide) (c_M_isCorner hT p2 p3 )) (fun r4 P5 g6 => mpp 5 rfl ?_)
  obtain ⟨⟨x7, rfl, g8⟩, e9⟩ := g6
  have e9 := e9.symm
  subst e9
  have wx7 := ti_full x7
  replace g8 : 0 ≤ x7.toInt ∧ x7.toInt ≤ 1 ∧ ((x7.toInt = 1 ∧ (fv Po 302 (3 + 19 * t1.toInt.toNat)).toInt = 1) ∨ (x7.toInt = 0 ∧ (fv Po 302 (3 + 19 * t1.toInt.toNat)).toInt = 0)) := g8
  show MEvP _ none q_209 5 [(0, .ref 301), (1, .int t1), (2, .int t2), (3, .int t3)] [.int x7] _ _ _ _
  refine mp_Tb (t := 21) (j_if_ne dX7_isStripWithout_5) (by decide) (fun c10 => ?_) (fun c10 => mpp 8 rfl ?_)
  · have c10 : x7.toInt ≠ 0 := ti_ne c10
    refine mp_a (a_iconst (v := 0) dX7_isStripWithout_21 rfl) (mpp 22 rfl ?_)
    have u11 : 0 ≤ (0 : Int) ∧ (0 : Int) ≤ 1 ∧ (((0 : Int) = 1 ∧ (fv Po 302 (3 + 19 * t1.toInt.toNat)).toInt = 0 ∧ (t2.toInt < 0 ∨ t3.toInt < t2.toInt)) ∨ ((0 : Int) = 0 ∧ ((fv Po 302 (3 + 19 * t1.toInt.toNat)).toInt = 1 ∨ (0 ≤ t2.toInt ∧ t2.toInt ≤ t3.toInt)))) := by omega
    exact mp_iret ⟨⟨_, rfl, u11⟩, rfl⟩ dX7_isStripWithout_22 (Or.inr ⟨rfl, by decide⟩)
  · have c10 : x7.toInt = 0 := ti_ne_n c10
    refine mp_a (a_iload_n dX7_isStripWithout_8 rfl) (mpp 9 rfl ?_)
    refine mp_a (a_iconst (v := 0) dX7_isStripWithout_9 rfl) (mpp 10 rfl ?_)
    refine mp_a (a_iload_n dX7_isStripWithout_10 rfl) (mpp 11 rfl ?_)
    refine mp_calls (i := 61) (q' := q_127) (As := [.int t2, .int 0, .int t3]) (rest := []) dX7_isStripWithout_11 rfl qm_127 (by decide) rfl (Nat.le_of_ble_eq_true rfl) rfl ⟨rfl, rfl⟩ ⟨Nat.le_of_ble_eq_true rfl, Nat.le_of_ble_eq_true rfl⟩ (EvP.mono (by decide) (c_M_isIn hT )) (fun r12 P13 g14 => mpp 14 rfl ?_)
    obtain ⟨⟨x15, rfl, g16⟩, e17⟩ := g14
    have e17 := e17.symm
    subst e17
    have wx15 := ti_full x15
    replace g16 : 0 ≤ x15.toInt ∧ x15.toInt ≤ 1 ∧ ((x15.toInt = 1 ∧ (0 : Int) ≤ t2.toInt ∧ t2.toInt ≤ t3.toInt) ∨ (x15.toInt = 0 ∧ (t2.toInt < (0 : Int) ∨ t3.toInt < t2.toInt))) := g16
    show MEvP _ none q_209 14 [(0, .ref 301), (1, .int t1), (2, .int t2), (3, .int t3)] [.int x15] _ _ _ _
    refine mp_Tb (t := 21) (j_if_ne dX7_isStripWithout_14) (by decide) (fun c18 => ?_) (fun c18 => mpp 17 rfl ?_)
    · have c18 : x15.toInt ≠ 0 := ti_ne c18
      refine mp_a (a_iconst (v := 0) dX7_isStripWithout_21 rfl) (mpp 22 rfl ?_)
      have u19 : 0 ≤ (0 : Int) ∧ (0 : Int) ≤ 1 ∧ (((0 : Int) = 1 ∧ (fv Po 302 (3 + 19 * t1.toInt.toNat)).toInt = 0 ∧ (t2.toInt < 0 ∨ t3.toInt < t2.toInt)) ∨ ((0 : Int) = 0 ∧ ((fv Po 302 (3 + 19 * t1.toInt.toNat)).toInt = 1 ∨ (0 ≤ t2.toInt ∧ t2.toInt ≤ t3.toInt)))) := by omega
      exact mp_iret ⟨⟨_, rfl, u19⟩, rfl⟩ dX7_isStripWithout_22 (Or.inr ⟨rfl, by decide⟩)
    · have c18 : x15.toInt = 0 := ti_ne_n c18
      refine mp_a (a_iconst (v := 1) dX7_isStripWithout_17 rfl) (mpp 18 rfl ?_)
      refine mp_a (a_goto (t := 22) dX7_isStripWithout_18 (by decide)) ?_
      have u20 : 0 ≤ (1 : Int) ∧ (1 : Int) ≤ 1 ∧ (((1 : Int) = 1 ∧ (fv Po 302 (3 + 19 * t1.toInt.toNat)).toInt = 0 ∧ (t2.toInt < 0 ∨ t3.toInt < t2.toInt)) ∨ ((1 : Int) = 0 ∧ ((fv Po 302 (3 + 19 * t1.toInt.toNat)).toInt = 1 ∨ (0 ≤ t2.toInt ∧ t2.toInt ≤ t3.toInt)))) := by omega
      exact mp_iret ⟨⟨_, rfl, u20⟩, rfl⟩ dX7_isStripWithout_22 (Or.inr ⟨rfl, by decide⟩)

set_option maxHeartbeats 4000000 in
theorem c_M_place {Po : mP} {t1 : Int32} {t2 : Int32} (hT : Typ Po)   : EvP 5 210 [.ref 301, .int t1, .int t2] Po (fun r P' => (∃ x : Int32, r = some (.int x) ∧ (placeM (sr Po) x.toInt t1.toInt t2.toInt)) ∧ P' = Po) := by
  refine EvP.of qm_210 (Nat.le_of_ble_eq_true rfl) rfl ?_
  show MEvP _ none q_210 0 [(0, .ref 301), (1, .int t1), (2, .int t2)] [] _ 0 0 _
  have w_t1 := ti_full t1
  have w_t2 := ti_full t2
  refine mp_a (a_aload_n dX7_place_0 rfl) (mpp 1 rfl ?_)
  refine mp_a (a_iload_n dX7_place_1 rfl) (mpp 2 rfl ?_)
  refine mt_callv (i := 85) (q' := q_144) (As := [.int t1]) (rest := []) hT dX7_place_2 rfl qm_144 (by decide) rfl rl_301 (by decide) rfl (Nat.le_of_ble_eq_true rfl) rfl ⟨rfl, rfl⟩ ⟨Nat.le_of_ble_eq_true rfl, Nat.le_of_ble_eq_true rfl⟩ (EvP.mono (by decide) (c_M_isPiece hT )) (fun r1 P2 g3 => mpp 5 rfl ?_)
  obtain ⟨⟨x4, rfl, g5⟩, e6⟩ := g3
  have e6 := e6.symm
  subst e6
  have wx4 := ti_full x4
  replace g5 : 0 ≤ x4.toInt ∧ x4.toInt ≤ 1 ∧ ((x4.toInt = 1 ∧ 0 ≤ t1.toInt ∧ t1.toInt + 1 ≤ (fv Po 302 0).toInt ∧ t1.toInt ≤ 7) ∨ (x4.toInt = 0 ∧ (t1.toInt < 0 ∨ (fv Po 302 0).toInt ≤ t1.toInt))) := g5
  have g7 : (0 : Int) ≤ (fv Po 302 0).toInt ∧ (fv Po 302 0).toInt ≤ 8 := Typ.rng hT rl_302 (by decide) (by decide) rfl
  show MEvP _ none q_210 5 [(0, .ref 301), (1, .int t1), (2, .int t2)] [.int x4] _ _ _ _
  refine mp_Tb (t := 23) (j_if_eq dX7_place_5) (by decide) (fun c8 => ?_) (fun c8 => mpp 8 rfl ?_)
  · have c8 : x4.toInt = 0 := ti_eq c8
    refine mp_a (a_sipush (v := -1001) dX7_place_23 rfl) (mpp 26 rfl ?_)
    have u9 : placeM (sr Po) (-1001 : Int) t1.toInt t2.toInt := (show ((-1001 : Int) = -1001 ∧ ((t1.toInt < 0 ∨ (fv Po 302 (0)).toInt ≤ t1.toInt) ∨ ((0 ≤ t1.toInt ∧ t1.toInt + 1 ≤ (fv Po 302 (0)).toInt ∧ t1.toInt ≤ 7) ∧ (fv Po 302 (3 + 19 * t1.toInt.toNat)).toInt = 0 ∧ (t2.toInt < 0 ∨ (fv Po 302 (4 + 19 * t1.toInt.toNat)).toInt < t2.toInt)))) ∨ ((0 ≤ t1.toInt ∧ t1.toInt + 1 ≤ (fv Po 302 (0)).toInt ∧ t1.toInt ≤ 7) ∧ (fv Po 302 (3 + 19 * t1.toInt.toNat)).toInt = 1 ∧ (-1001 : Int) = -1002) ∨ ((0 ≤ t1.toInt ∧ t1.toInt + 1 ≤ (fv Po 302 (0)).toInt ∧ t1.toInt ≤ 7) ∧ (fv Po 302 (3 + 19 * t1.toInt.toNat)).toInt = 0 ∧ (0 ≤ t2.toInt ∧ t2.toInt ≤ (fv Po 302 (4 + 19 * t1.toInt.toNat)).toInt) ∧ (-1001 : Int) = (plF (fun j : Nat => fv Po 302 (6 + 19 * t1.toInt.toNat + j)) t2.toInt.toNat).toInt) from Or.inl (⟨by omega, by omega⟩))
    exact mp_iret ⟨⟨_, rfl, u9⟩, rfl⟩ dX7_place_26 (Or.inl rfl)
  · have c8 : x4.toInt ≠ 0 := ti_eq_n c8
    refine mp_a (a_aload_n dX7_place_8 rfl) (mpp 9 rfl ?_)
    refine mp_a (a_iload_n dX7_place_9 rfl) (mpp 10 rfl ?_)
    refine mp_a (a_iload_n dX7_place_10 rfl) (mpp 11 rfl ?_)
    refine mp_a (a_aload_n dX7_place_11 rfl) (mpp 12 rfl ?_)
    refine mp_a (a_iload_n dX7_place_12 rfl) (mpp 13 rfl ?_)
    refine mp_a (a_iconst (v := 1) dX7_place_13 rfl) (mpp 14 rfl ?_)
    have p10 : 0 ≤ t1.toInt := by omega
    have p11 : t1.toInt ≤ 7 := by omega
    have p12 : 0 ≤ (1 : Int) := by omega
    have p13 : (1 : Int) ≤ 18 := by omega
    refine mt_callv (i := 78) (q' := q_137) (As := [.int t1, .int 1]) (rest := [.int t2, .int t1, .ref 301]) hT dX7_place_14 rfl qm_137 (by decide) rfl rl_301 (by decide) rfl (Nat.le_of_ble_eq_true rfl) rfl ⟨rfl, rfl⟩ ⟨Nat.le_of_ble_eq_true rfl, Nat.le_of_ble_eq_true rfl⟩ (EvP.mono (by decide) (c_M_of_c1 hT p10 p11 p12 p13 )) (fun r14 P15 g16 => mpp 17 rfl ?_)
    obtain ⟨⟨x17, rfl, g18⟩, e19⟩ := g16
    have e19 := e19.symm
    subst e19
    have wx17 := ti_full x17
    replace g18 : x17.toInt = (fv Po 302 (4 + 19 * t1.toInt.toNat)).toInt ∧ 0 ≤ x17.toInt ∧ x17.toInt ≤ 8 := g18
    try have g20 : (0 : Int) ≤ (fv Po 302 (4 + 19 * t1.toInt.toNat)).toInt ∧ (fv Po 302 (4 + 19 * t1.toInt.toNat)).toInt ≤ 8 := s4_rng hT (by omega)
    show MEvP _ none q_210 17 [(0, .ref 301), (1, .int t1), (2, .int t2)] [.int x17, .int t2, .int t1, .ref 301] _ _ _ _
    have p21 : 0 ≤ t1.toInt := by omega
    have p22 : t1.toInt ≤ 7 := by omega
    refine mt_callv (i := 285) (q' := q_209) (As := [.int t1, .int t2, .int x17]) (rest := []) hT dX7_place_17 rfl qm_209 (by decide) rfl rl_301 (by decide) rfl (Nat.le_of_ble_eq_true rfl) rfl ⟨rfl, rfl⟩ ⟨Nat.le_of_ble_eq_true rfl, Nat.le_of_ble_eq_true rfl⟩ (EvP.mono (by decide) (c_M_isStripWithout hT p21 p22 )) (fun r23 P24 g25 => mpp 20 rfl ?_)
    obtain ⟨⟨x26, rfl, g27⟩, e28⟩ := g25
    have e28 := e28.symm
    subst e28
    have wx26 := ti_full x26
    replace g27 : 0 ≤ x26.toInt ∧ x26.toInt ≤ 1 ∧ ((x26.toInt = 1 ∧ (fv Po 302 (3 + 19 * t1.toInt.toNat)).toInt = 0 ∧ (t2.toInt < 0 ∨ x17.toInt < t2.toInt)) ∨ (x26.toInt = 0 ∧ ((fv Po 302 (3 + 19 * t1.toInt.toNat)).toInt = 1 ∨ (0 ≤ t2.toInt ∧ t2.toInt ≤ x17.toInt)))) := g27
    try have g29 : (0 : Int) ≤ (fv Po 302 (3 + 19 * t1.toInt.toNat)).toInt ∧ (fv Po 302 (3 + 19 * t1.toInt.toNat)).toInt ≤ 1 := s3_rng hT (by omega)
    show MEvP _ none q_210 20 [(0, .ref 301), (1, .int t1), (2, .int t2)] [.int x26] _ _ _ _
    refine mp_Tb (t := 27) (j_if_eq dX7_place_20) (by decide) (fun c30 => ?_) (fun c30 => mpp 23 rfl ?_)
    · have c30 : x26.toInt = 0 := ti_eq c30
      refine mp_a (a_aload_n dX7_place_27 rfl) (mpp 28 rfl ?_)
      refine mp_a (a_iload_n dX7_place_28 rfl) (mpp 29 rfl ?_)
      have p31 : 0 ≤ t1.toInt := by omega
      have p32 : t1.toInt ≤ 7 := by omega
      refine mt_callv (i := 81) (q' := q_138) (As := [.int t1]) (rest := []) hT dX7_place_29 rfl qm_138 (by decide) rfl rl_301 (by decide) rfl (Nat.le_of_ble_eq_true rfl) rfl ⟨rfl, rfl⟩ ⟨Nat.le_of_ble_eq_true rfl, Nat.le_of_ble_eq_true rfl⟩ (EvP.mono (by decide) (c_M_isCorner hT p31 p32 )) (fun r33 P34 g35 => mpp 32 rfl ?_)
      obtain ⟨⟨x36, rfl, g37⟩, e38⟩ := g35
      have e38 := e38.symm
      subst e38
      have wx36 := ti_full x36
      replace g37 : 0 ≤ x36.toInt ∧ x36.toInt ≤ 1 ∧ ((x36.toInt = 1 ∧ (fv Po 302 (3 + 19 * t1.toInt.toNat)).toInt = 1) ∨ (x36.toInt = 0 ∧ (fv Po 302 (3 + 19 * t1.toInt.toNat)).toInt = 0)) := g37
      show MEvP _ none q_210 32 [(0, .ref 301), (1, .int t1), (2, .int t2)] [.int x36] _ _ _ _
      refine mp_Tb (t := 41) (j_if_eq dX7_place_32) (by decide) (fun c39 => ?_) (fun c39 => mpp 35 rfl ?_)
      · have c39 : x36.toInt = 0 := ti_eq c39
        refine mp_a (a_aload_n dX7_place_41 rfl) (mpp 42 rfl ?_)
        refine mp_a (a_iload_n dX7_place_42 rfl) (mpp 43 rfl ?_)
        refine mp_a (a_iload_n dX7_place_43 rfl) (mpp 44 rfl ?_)
        have p40 : 0 ≤ t1.toInt := by omega
        have p41 : t1.toInt ≤ 7 := by omega
        have p42 : t2.toInt ≤ 8 := by omega
        refine mt_callv (i := 225) (q' := q_186) (As := [.int t1, .int t2]) (rest := []) hT dX7_place_44 rfl qm_186 (by decide) rfl rl_301 (by decide) rfl (Nat.le_of_ble_eq_true rfl) rfl ⟨rfl, rfl⟩ ⟨Nat.le_of_ble_eq_true rfl, Nat.le_of_ble_eq_true rfl⟩ (EvP.mono (by decide) (c_M_placeOf hT p40 p41 p42 )) (fun r43 P44 g45 => mpp 47 rfl ?_)
        obtain ⟨⟨x46, rfl, g47⟩, e48⟩ := g45
        have e48 := e48.symm
        subst e48
        have wx46 := ti_full x46
        replace g47 : x46.toInt = (plF (fun j : Nat => fv Po 302 (6 + 19 * t1.toInt.toNat + j)) t2.toInt.toNat).toInt := g47
        show MEvP _ none q_210 47 [(0, .ref 301), (1, .int t1), (2, .int t2)] [.int x46] _ _ _ _
        have u49 : placeM (sr Po) x46.toInt t1.toInt t2.toInt := (show (x46.toInt = -1001 ∧ ((t1.toInt < 0 ∨ (fv Po 302 (0)).toInt ≤ t1.toInt) ∨ ((0 ≤ t1.toInt ∧ t1.toInt + 1 ≤ (fv Po 302 (0)).toInt ∧ t1.toInt ≤ 7) ∧ (fv Po 302 (3 + 19 * t1.toInt.toNat)).toInt = 0 ∧ (t2.toInt < 0 ∨ (fv Po 302 (4 + 19 * t1.toInt.toNat)).toInt < t2.toInt)))) ∨ ((0 ≤ t1.toInt ∧ t1.toInt + 1 ≤ (fv Po 302 (0)).toInt ∧ t1.toInt ≤ 7) ∧ (fv Po 302 (3 + 19 * t1.toInt.toNat)).toInt = 1 ∧ x46.toInt = -1002) ∨ ((0 ≤ t1.toInt ∧ t1.toInt + 1 ≤ (fv Po 302 (0)).toInt ∧ t1.toInt ≤ 7) ∧ (fv Po 302 (3 + 19 * t1.toInt.toNat)).toInt = 0 ∧ (0 ≤ t2.toInt ∧ t2.toInt ≤ (fv Po 302 (4 + 19 * t1.toInt.toNat)).toInt) ∧ x46.toInt = (plF (fun j : Nat => fv Po 302 (6 + 19 * t1.toInt.toNat + j)) t2.toInt.toNat).toInt) from Or.inr (Or.inr (⟨by omega, by omega, by omega, g47⟩)))
        exact mp_iret ⟨⟨_, rfl, u49⟩, rfl⟩ dX7_place_47 (Or.inl rfl)
      · have c39 : x36.toInt ≠ 0 := ti_eq_n c39
        refine mp_a (a_sipush (v := -1002) dX7_place_35 rfl) (mpp 38 rfl ?_)
        refine mp_a (a_goto (t := 47) dX7_place_38 (by decide)) ?_
        have u50 : placeM (sr Po) (-1002 : Int) t1.toInt t2.toInt := (show ((-1002 : Int) = -1001 ∧ ((t1.toInt < 0 ∨ (fv Po 302 (0)).toInt ≤ t1.toInt) ∨ ((0 ≤ t1.toInt ∧ t1.toInt + 1 ≤ (fv Po 302 (0)).toInt ∧ t1.toInt ≤ 7) ∧ (fv Po 302 (3 + 19 * t1.toInt.toNat)).toInt = 0 ∧ (t2.toInt < 0 ∨ (fv Po 302 (4 + 19 * t1.toInt.toNat)).toInt < t2.toInt)))) ∨ ((0 ≤ t1.toInt ∧ t1.toInt + 1 ≤ (fv Po 302 (0)).toInt ∧ t1.toInt ≤ 7) ∧ (fv Po 302 (3 + 19 * t1.toInt.toNat)).toInt = 1 ∧ (-1002 : Int) = -1002) ∨ ((0 ≤ t1.toInt ∧ t1.toInt + 1 ≤ (fv Po 302 (0)).toInt ∧ t1.toInt ≤ 7) ∧ (fv Po 302 (3 + 19 * t1.toInt.toNat)).toInt = 0 ∧ (0 ≤ t2.toInt ∧ t2.toInt ≤ (fv Po 302 (4 + 19 * t1.toInt.toNat)).toInt) ∧ (-1002 : Int) = (plF (fun j : Nat => fv Po 302 (6 + 19 * t1.toInt.toNat + j)) t2.toInt.toNat).toInt) from Or.inr (Or.inl (⟨by omega, by omega, by omega⟩)))
        exact mp_iret ⟨⟨_, rfl, u50⟩, rfl⟩ dX7_place_47 (Or.inl rfl)
    · have c30 : x26.toInt ≠ 0 := ti_eq_n c30
      refine mp_a (a_sipush (v := -1001) dX7_place_23 rfl) (mpp 26 rfl ?_)
      have u51 : placeM (sr Po) (-1001 : Int) t1.toInt t2.toInt := (show ((-1001 : Int) = -1001 ∧ ((t1.toInt < 0 ∨ (fv Po 302 (0)).toInt ≤ t1.toInt) ∨ ((0 ≤ t1.toInt ∧ t1.toInt + 1 ≤ (fv Po 302 (0)).toInt ∧ t1.toInt ≤ 7) ∧ (fv Po 302 (3 + 19 * t1.toInt.toNat)).toInt = 0 ∧ (t2.toInt < 0 ∨ (fv Po 302 (4 + 19 * t1.toInt.toNat)).toInt < t2.toInt)))) ∨ ((0 ≤ t1.toInt ∧ t1.toInt + 1 ≤ (fv Po 302 (0)).toInt ∧ t1.toInt ≤ 7) ∧ (fv Po 302 (3 + 19 * t1.toInt.toNat)).toInt = 1 ∧ (-1001 : Int) = -1002) ∨ ((0 ≤ t1.toInt ∧ t1.toInt + 1 ≤ (fv Po 302 (0)).toInt ∧ t1.toInt ≤ 7) ∧ (fv Po 302 (3 + 19 * t1.toInt.toNat)).toInt = 0 ∧ (0 ≤ t2.toInt ∧ t2.toInt ≤ (fv Po 302 (4 + 19 * t1.toInt.toNat)).toInt) ∧ (-1001 : Int) = (plF (fun j : Nat => fv Po 302 (6 + 19 * t1.toInt.toNat + j)) t2.toInt.toNat).toInt) from Or.inl (⟨by omega, by omega⟩))
      exact mp_iret ⟨⟨_, rfl, u51⟩, rfl⟩ dX7_place_26 (Or.inl rfl)

set_option maxHeartbeats 4000000 in
theorem c_M_layer {Po : mP} {t1 : Int32} {t2 : Int32} (hT : Typ Po) (hR : Rel Po) (hp0 : ∀ l : Nat, l < 7 → (fv Po 313 l).toInt = 0)  : EvP 14 208 [.ref 301, .int t1, .int t2] Po (fun r P' => (∃ x : Int32, r = some (.int x) ∧ ((layerM (sr Po) x.toInt t1.toInt t2.toInt) ∧ (∀ l : Nat, l < 7 → fv P' 313 l = fv Po 313 l))) ∧ Typ P' ∧ KW [1107, 1108, 1109, 1664, 1728, 1792, 1856] Po P' ∧ Rel P') := by
  refine EvP.of qm_208 (Nat.le_of_ble_eq_true rfl) rfl ?_
  show MEvP _ none q_208 0 [(0, .ref 301), (1, .int t1), (2, .int t2)] [] _ 0 0 _
  have w_t1 := ti_full t1
  have w_t2 := ti_full t2
  refine mp_a (a_aload_n dX7_layer_0 rfl) (mpp 1 rfl ?_)
  refine mp_a (a_iload_n dX7_layer_1 rfl) (mpp 2 rfl ?_)
  refine mt_callv (i := 85) (q' := q_144) (As := [.int t1]) (rest := []) hT dX7_layer_2 rfl qm_144 (by decide) rfl rl_301 (by decide) rfl (Nat.le_of_ble_eq_true rfl) rfl ⟨rfl, rfl⟩ ⟨Nat.le_of_ble_eq_true rfl, Nat.le_of_ble_eq_true rfl⟩ (EvP.mono (by decide) (c_M_isPiece hT )) (fun r1 P2 g3 => mpp 5 rfl ?_)
  obtain ⟨⟨x4, rfl, g5⟩, e6⟩ := g3
  have e6 := e6.symm
  subst e6
  have wx4 := ti_full x4
  replace g5 : 0 ≤ x4.toInt ∧ x4.toInt ≤ 1 ∧ ((x4.toInt = 1 ∧ 0 ≤ t1.toInt ∧ t1.toInt + 1 ≤ (fv Po 302 0).toInt ∧ t1.toInt ≤ 7) ∨ (x4.toInt = 0 ∧ (t1.toInt < 0 ∨ (fv Po 302 0).toInt ≤ t1.toInt))) := g5
  have g7 : (0 : Int) ≤ (fv Po 302 0).toInt ∧ (fv Po 302 0).toInt ≤ 8 := Typ.rng hT rl_302 (by decide) (by decide) rfl
  show MEvP _ none q_208 5 [(0, .ref 301), (1, .int t1), (2, .int t2)] [.int x4] _ _ _ _
  refine mp_Tb (t := 25) (j_if_eq dX7_layer_5) (by decide) (fun c8 => ?_) (fun c8 => mpp 8 rfl ?_)
  · have c8 : x4.toInt = 0 := ti_eq c8
    refine mp_a (a_sipush (v := -1001) dX7_layer_25 rfl) (mpp 28 rfl ?_)
    have u9 : (layerM (sr Po) (-1001 : Int) t1.toInt t2.toInt) ∧ (∀ l : Nat, l < 7 → fv Po 313 l = fv Po 313 l) := ⟨(show ((-1001 : Int) = -1001 ∧ ((t1.toInt < 0 ∨ (fv Po 302 (0)).toInt ≤ t1.toInt) ∨ ((0 ≤ t1.toInt ∧ t1.toInt + 1 ≤ (fv Po 302 (0)).toInt ∧ t1.toInt ≤ 7) ∧ (fv Po 302 (3 + 19 * t1.toInt.toNat)).toInt = 0 ∧ (t2.toInt < 0 ∨ (fv Po 302 (4 + 19 * t1.toInt.toNat)).toInt ≤ t2.toInt)))) ∨ ((0 ≤ t1.toInt ∧ t1.toInt + 1 ≤ (fv Po 302 (0)).toInt ∧ t1.toInt ≤ 7) ∧ ((fv Po 302 (3 + 19 * t1.toInt.toNat)).toInt = 1 ∨ (0 ≤ t2.toInt ∧ t2.toInt < (fv Po 302 (4 + 19 * t1.toInt.toNat)).toInt)) ∧ (((fv Po 302 (3 + 19 * t1.toInt.toNat)).toInt = 1 ∧ (-1001 : Int) = -1002) ∨ ((fv Po 302 (3 + 19 * t1.toInt.toNat)).toInt = 0 ∧ 1 ≤ cntF (fun j : Nat => fv Po 302 (14 + 19 * t1.toInt.toNat + j)) 0 (nC (fv Po 302 (3 + 19 * t1.toInt.toNat)).toInt (fv Po 302 (4 + 19 * t1.toInt.toNat)).toInt) ∧ (-1001 : Int) = -1004))) ∨ ((0 ≤ t1.toInt ∧ t1.toInt + 1 ≤ (fv Po 302 (0)).toInt ∧ t1.toInt ≤ 7) ∧ (fv Po 302 (3 + 19 * t1.toInt.toNat)).toInt = 0 ∧ (0 ≤ t2.toInt ∧ t2.toInt < (fv Po 302 (4 + 19 * t1.toInt.toNat)).toInt) ∧ cntF (fun j : Nat => fv Po 302 (14 + 19 * t1.toInt.toNat + j)) 0 (nC (fv Po 302 (3 + 19 * t1.toInt.toNat)).toInt (fv Po 302 (4 + 19 * t1.toInt.toNat)).toInt) = 0 ∧ (sT (fv Po 302 (4 + 19 * t1.toInt.toNat)).toInt.toNat (fun j : Nat => fv Po 302 (14 + 19 * t1.toInt.toNat + j)) (PSm (fv Po 302 (4 + 19 * t1.toInt.toNat)).toInt.toNat (fun j : Nat => (plF (fun j : Nat => fv Po 302 (6 + 19 * t1.toInt.toNat + j)) j).toInt))) = 0 ∧ (-1001 : Int) = -1004) ∨ ((0 ≤ t1.toInt ∧ t1.toInt + 1 ≤ (fv Po 302 (0)).toInt ∧ t1.toInt ≤ 7) ∧ (fv Po 302 (3 + 19 * t1.toInt.toNat)).toInt = 0 ∧ (0 ≤ t2.toInt ∧ t2.toInt < (fv Po 302 (4 + 19 * t1.toInt.toNat)).toInt) ∧ cntF (fun j : Nat => fv Po 302 (14 + 19 * t1.toInt.toNat + j)) 0 (nC (fv Po 302 (3 + 19 * t1.toInt.toNat)).toInt (fv Po 302 (4 + 19 * t1.toInt.toNat)).toInt) = 0 ∧ 1 ≤ (sT (fv Po 302 (4 + 19 * t1.toInt.toNat)).toInt.toNat (fun j : Nat => fv Po 302 (14 + 19 * t1.toInt.toNat + j)) (PSm (fv Po 302 (4 + 19 * t1.toInt.toNat)).toInt.toNat (fun j : Nat => (plF (fun j : Nat => fv Po 302 (6 + 19 * t1.toInt.toNat + j)) j).toInt))) ∧ (∃ f : Nat → Int, (sF (fv Po 302 (4 + 19 * t1.toInt.toNat)).toInt.toNat (fun j : Nat => fv Po 302 (14 + 19 * t1.toInt.toNat + j)) (PSm (fv Po 302 (4 + 19 * t1.toInt.toNat)).toInt.toNat (fun j : Nat => (plF (fun j : Nat => fv Po 302 (6 + 19 * t1.toInt.toNat + j)) j).toInt))) = some f ∧ (-1001 : Int) = f t2.toInt.toNat)) from Or.inl (⟨by omega, by omega⟩)), fun _ _ => rfl⟩
    exact mp_iret ⟨⟨_, rfl, u9⟩, hT, KW.refl, hR⟩ dX7_layer_28 (Or.inl rfl)
  · have c8 : x4.toInt ≠ 0 := ti_eq_n c8
    refine mp_a (a_aload_n dX7_layer_8 rfl) (mpp 9 rfl ?_)
    refine mp_a (a_iload_n dX7_layer_9 rfl) (mpp 10 rfl ?_)
    refine mp_a (a_iload_n dX7_layer_10 rfl) (mpp 11 rfl ?_)
    refine mp_a (a_aload_n dX7_layer_11 rfl) (mpp 12 rfl ?_)
    refine mp_a (a_iload_n dX7_layer_12 rfl) (mpp 13 rfl ?_)
    refine mp_a (a_iconst (v := 1) dX7_layer_13 rfl) (mpp 14 rfl ?_)
    have p10 : 0 ≤ t1.toInt := by omega
    have p11 : t1.toInt ≤ 7 := by omega
    have p12 : 0 ≤ (1 : Int) := by omega
    have p13 : (1 : Int) ≤ 18 := by omega
    refine mt_callv (i := 78) (q' := q_137) (As := [.int t1, .int 1]) (rest := [.int t2, .int t1, .ref 301]) hT dX7_layer_14 rfl qm_137 (by decide) rfl rl_301 (by decide) rfl (Nat.le_of_ble_eq_true rfl) rfl ⟨rfl, rfl⟩ ⟨Nat.le_of_ble_eq_true rfl, Nat.le_of_ble_eq_true rfl⟩ (EvP.mono (by decide) (c_M_of_c1 hT p10 p11 p12 p13 )) (fun r14 P15 g16 => mpp 17 rfl ?_)
    obtain ⟨⟨x17, rfl, g18⟩, e19⟩ := g16
    have e19 := e19.symm
    subst e19
    have wx17 := ti_full x17
    replace g18 : x17.toInt = (fv Po 302 (4 + 19 * t1.toInt.toNat)).toInt ∧ 0 ≤ x17.toInt ∧ x17.toInt ≤ 8 := g18
    try have g20 : (0 : Int) ≤ (fv Po 302 (4 + 19 * t1.toInt.toNat)).toInt ∧ (fv Po 302 (4 + 19 * t1.toInt.toNat)).toInt ≤ 8 := s4_rng hT (by omega)
    show MEvP _ none q_208 17 [(0, .ref 301), (1, .int t1), (2, .int t2)] [.int x17, .int t2, .int t1, .ref 301] _ _ _ _
    refine mp_a (a_iconst (v := 1) dX7_layer_17 rfl) (mpp 18 rfl ?_)
    obtain ⟨z21, h22⟩ := ti_ex (x17 - 1 : Int32)
    have wz21 := ti_full z21
    refine mp_t (s_isub (v := z21) dX7_layer_18 h22) (mpp 19 rfl ?_)
    try have e23 : z21.toInt = x17.toInt - 1 := ti_subz h22 rfl rfl (by omega) (by omega)
    have p24 : 0 ≤ t1.toInt := by omega
    have p25 : t1.toInt ≤ 7 := by omega
    refine mt_callv (i := 285) (q' := q_209) (As := [.int t1, .int t2, .int z21]) (rest := []) hT dX7_layer_19 rfl qm_209 (by decide) rfl rl_301 (by decide) rfl (Nat.le_of_ble_eq_true rfl) rfl ⟨rfl, rfl⟩ ⟨Nat.le_of_ble_eq_true rfl, Nat.le_of_ble_eq_true rfl⟩ (EvP.mono (by decide) (c_M_isStripWithout hT p24 p25 )) (fun r26 P27 g28 => mpp 22 rfl ?_)
    obtain ⟨⟨x29, rfl, g30⟩, e31⟩ := g28
    have e31 := e31.symm
    subst e31
    have wx29 := ti_full x29
    replace g30 : 0 ≤ x29.toInt ∧ x29.toInt ≤ 1 ∧ ((x29.toInt = 1 ∧ (fv Po 302 (3 + 19 * t1.toInt.toNat)).toInt = 0 ∧ (t2.toInt < 0 ∨ z21.toInt < t2.toInt)) ∨ (x29.toInt = 0 ∧ ((fv Po 302 (3 + 19 * t1.toInt.toNat)).toInt = 1 ∨ (0 ≤ t2.toInt ∧ t2.toInt ≤ z21.toInt)))) := g30
    try have g32 : (0 : Int) ≤ (fv Po 302 (3 + 19 * t1.toInt.toNat)).toInt ∧ (fv Po 302 (3 + 19 * t1.toInt.toNat)).toInt ≤ 1 := s3_rng hT (by omega)
    show MEvP _ none q_208 22 [(0, .ref 301), (1, .int t1), (2, .int t2)] [.int x29] _ _ _ _
    refine mp_Tb (t := 29) (j_if_eq dX7_layer_22) (by decide) (fun c33 => ?_) (fun c33 => mpp 25 rfl ?_)
    · have c33 : x29.toInt = 0 := ti_eq c33
      refine mp_a (a_aload_n dX7_layer_29 rfl) (mpp 30 rfl ?_)
      refine mp_a (a_iload_n dX7_layer_30 rfl) (mpp 31 rfl ?_)
      refine mt_callv (i := 279) (q' := q_199) (As := [.int t1]) (rest := []) hT dX7_layer_31 rfl qm_199 (by decide) rfl rl_301 (by decide) rfl (Nat.le_of_ble_eq_true rfl) rfl ⟨rfl, rfl⟩ ⟨Nat.le_of_ble_eq_true rfl, Nat.le_of_ble_eq_true rfl⟩ (EvP.mono (by decide) (c_M_wrongStrip hT )) (fun r34 P35 g36 => mpp 34 rfl ?_)
      obtain ⟨⟨x37, rfl, g38⟩, e39⟩ := g36
      have e39 := e39.symm
      subst e39
      have wx37 := ti_full x37
      replace g38 : (x37.toInt = -1001 ∧ (t1.toInt < 0 ∨ (fv Po 302 0).toInt ≤ t1.toInt)) ∨ (x37.toInt = -1002 ∧ (0 ≤ t1.toInt ∧ t1.toInt + 1 ≤ (fv Po 302 0).toInt ∧ t1.toInt ≤ 7) ∧ (fv Po 302 (3 + 19 * t1.toInt.toNat)).toInt = 1) ∨ (x37.toInt = -1004 ∧ (0 ≤ t1.toInt ∧ t1.toInt + 1 ≤ (fv Po 302 0).toInt ∧ t1.toInt ≤ 7) ∧ (fv Po 302 (3 + 19 * t1.toInt.toNat)).toInt = 0 ∧ 1 ≤ cntF (fun j : Nat => fv Po 302 (14 + 19 * t1.toInt.toNat + j)) 0 (nC (fv Po 302 (3 + 19 * t1.toInt.toNat)).toInt (fv Po 302 (4 + 19 * t1.toInt.toNat)).toInt)) ∨ (x37.toInt = 0 ∧ (0 ≤ t1.toInt ∧ t1.toInt + 1 ≤ (fv Po 302 0).toInt ∧ t1.toInt ≤ 7) ∧ (fv Po 302 (3 + 19 * t1.toInt.toNat)).toInt = 0 ∧ cntF (fun j : Nat => fv Po 302 (14 + 19 * t1.toInt.toNat + j)) 0 (nC (fv Po 302 (3 + 19 * t1.toInt.toNat)).toInt (fv Po 302 (4 + 19 * t1.toInt.toNat)).toInt) = 0) := g38
      show MEvP _ none q_208 34 [(0, .ref 301), (1, .int t1), (2, .int t2)] [.int x37] _ _ _ _
      refine mp_a (a_istore_n (L' := [(3, .int x37), (0, .ref 301), (1, .int t1), (2, .int t2)]) dX7_layer_34 (by decide) rfl) (mpp 35 rfl ?_)
      refine mp_a (a_iload_n dX7_layer_35 rfl) (mpp 36 rfl ?_)
      refine mp_Tb (t := 41) (j_if_eq dX7_layer_36) (by decide) (fun c40 => ?_) (fun c40 => mpp 39 rfl ?_)
      · have c40 : x37.toInt = 0 := ti_eq c40
        refine mp_a (a_aload_n dX7_layer_41 rfl) (mpp 42 rfl ?_)
        refine mp_a (a_iload_n dX7_layer_42 rfl) (mpp 43 rfl ?_)
        have p41 : 0 ≤ t1.toInt := by omega
        have p42 : t1.toInt ≤ 7 := by omega
        have p43 : (fv Po 302 (4 + 19 * t1.toInt.toNat)).toInt ≤ 7 := Rel.use hR (p := t1.toInt.toNat) (by omega) (by omega)
        have p44 : ∀ l : Nat, l < 7 → (fv Po 313 l).toInt = 0 := hp0
        refine mt_callv (i := 282) (q' := q_200) (As := [.int t1]) (rest := []) hT dX7_layer_43 rfl qm_200 (by decide) rfl rl_301 (by decide) rfl (Nat.le_of_ble_eq_true rfl) rfl ⟨rfl, rfl⟩ ⟨Nat.le_of_ble_eq_true rfl, Nat.le_of_ble_eq_true rfl⟩ (EvP.mono (by decide) (c_M_ordersOf hT p41 p42 p43 p44 )) (fun r45 P46 g47 => mpp 46 rfl ?_)
        obtain ⟨⟨x48, rfl, g49⟩, hT50, k51, R52⟩ := g47
        have k53 : KW [1107, 1108, 1109, 1664, 1728, 1792, 1856] Po P46 := KW.trans KW.refl k51 rfl
        have R55 := Rel.kw hR k51 rfl
        have wx48 := ti_full x48
        replace g49 : ORD Po P46 t1.toInt.toNat x48.toInt := g49
        show MEvP _ none q_208 46 [(3, .int x37), (0, .ref 301), (1, .int t1), (2, .int t2)] [.int x48] _ _ _ _
        refine mp_Tb (t := 58) (j_if_le dX7_layer_46) (by decide) (fun c56 => ?_) (fun c56 => mpp 49 rfl ?_)
        · have c56 : x48.toInt ≤ 0 := ti_le c56
          refine mp_a (a_sipush (v := -1004) dX7_layer_58 rfl) (mpp 61 rfl ?_)
          have u57 : (layerM (sr Po) (-1004 : Int) t1.toInt t2.toInt) ∧ (∀ l : Nat, l < 7 → fv P46 313 l = fv Po 313 l) := ⟨(show ((-1004 : Int) = -1001 ∧ ((t1.toInt < 0 ∨ (fv Po 302 (0)).toInt ≤ t1.toInt) ∨ ((0 ≤ t1.toInt ∧ t1.toInt + 1 ≤ (fv Po 302 (0)).toInt ∧ t1.toInt ≤ 7) ∧ (fv Po 302 (3 + 19 * t1.toInt.toNat)).toInt = 0 ∧ (t2.toInt < 0 ∨ (fv Po 302 (4 + 19 * t1.toInt.toNat)).toInt ≤ t2.toInt)))) ∨ ((0 ≤ t1.toInt ∧ t1.toInt + 1 ≤ (fv Po 302 (0)).toInt ∧ t1.toInt ≤ 7) ∧ ((fv Po 302 (3 + 19 * t1.toInt.toNat)).toInt = 1 ∨ (0 ≤ t2.toInt ∧ t2.toInt < (fv Po 302 (4 + 19 * t1.toInt.toNat)).toInt)) ∧ (((fv Po 302 (3 + 19 * t1.toInt.toNat)).toInt = 1 ∧ (-1004 : Int) = -1002) ∨ ((fv Po 302 (3 + 19 * t1.toInt.toNat)).toInt = 0 ∧ 1 ≤ cntF (fun j : Nat => fv Po 302 (14 + 19 * t1.toInt.toNat + j)) 0 (nC (fv Po 302 (3 + 19 * t1.toInt.toNat)).toInt (fv Po 302 (4 + 19 * t1.toInt.toNat)).toInt) ∧ (-1004 : Int) = -1004))) ∨ ((0 ≤ t1.toInt ∧ t1.toInt + 1 ≤ (fv Po 302 (0)).toInt ∧ t1.toInt ≤ 7) ∧ (fv Po 302 (3 + 19 * t1.toInt.toNat)).toInt = 0 ∧ (0 ≤ t2.toInt ∧ t2.toInt < (fv Po 302 (4 + 19 * t1.toInt.toNat)).toInt) ∧ cntF (fun j : Nat => fv Po 302 (14 + 19 * t1.toInt.toNat + j)) 0 (nC (fv Po 302 (3 + 19 * t1.toInt.toNat)).toInt (fv Po 302 (4 + 19 * t1.toInt.toNat)).toInt) = 0 ∧ (sT (fv Po 302 (4 + 19 * t1.toInt.toNat)).toInt.toNat (fun j : Nat => fv Po 302 (14 + 19 * t1.toInt.toNat + j)) (PSm (fv Po 302 (4 + 19 * t1.toInt.toNat)).toInt.toNat (fun j : Nat => (plF (fun j : Nat => fv Po 302 (6 + 19 * t1.toInt.toNat + j)) j).toInt))) = 0 ∧ (-1004 : Int) = -1004) ∨ ((0 ≤ t1.toInt ∧ t1.toInt + 1 ≤ (fv Po 302 (0)).toInt ∧ t1.toInt ≤ 7) ∧ (fv Po 302 (3 + 19 * t1.toInt.toNat)).toInt = 0 ∧ (0 ≤ t2.toInt ∧ t2.toInt < (fv Po 302 (4 + 19 * t1.toInt.toNat)).toInt) ∧ cntF (fun j : Nat => fv Po 302 (14 + 19 * t1.toInt.toNat + j)) 0 (nC (fv Po 302 (3 + 19 * t1.toInt.toNat)).toInt (fv Po 302 (4 + 19 * t1.toInt.toNat)).toInt) = 0 ∧ 1 ≤ (sT (fv Po 302 (4 + 19 * t1.toInt.toNat)).toInt.toNat (fun j : Nat => fv Po 302 (14 + 19 * t1.toInt.toNat + j)) (PSm (fv Po 302 (4 + 19 * t1.toInt.toNat)).toInt.toNat (fun j : Nat => (plF (fun j : Nat => fv Po 302 (6 + 19 * t1.toInt.toNat + j)) j).toInt))) ∧ (∃ f : Nat → Int, (sF (fv Po 302 (4 + 19 * t1.toInt.toNat)).toInt.toNat (fun j : Nat => fv Po 302 (14 + 19 * t1.toInt.toNat + j)) (PSm (fv Po 302 (4 + 19 * t1.toInt.toNat)).toInt.toNat (fun j : Nat => (plF (fun j : Nat => fv Po 302 (6 + 19 * t1.toInt.toNat + j)) j).toInt))) = some f ∧ (-1004 : Int) = f t2.toInt.toNat)) from Or.inr (Or.inr (Or.inl (⟨by omega, by omega, by omega, by omega, by have q := g49.1; have nn := sT_nn (n := (fv Po 302 (4 + 19 * t1.toInt.toNat)).toInt.toNat) (cr := fun j : Nat => fv Po 302 (14 + 19 * t1.toInt.toNat + j)) (ps := PSm (fv Po 302 (4 + 19 * t1.toInt.toNat)).toInt.toNat (fun j : Nat => (plF (fun j : Nat => fv Po 302 (6 + 19 * t1.toInt.toNat + j)) j).toInt)); rw [← q] at nn; rw [← q]; omega, by omega⟩)))), g49.2.1⟩
          exact mp_iret ⟨⟨_, rfl, u57⟩, hT50, k53, R55⟩ dX7_layer_61 (Or.inl rfl)
        · have c56 : x48.toInt > 0 := ti_le_n c56
          refine mp_a (a_aload_n dX7_layer_49 rfl) (mpp 50 rfl ?_)
          refine mt_getU (i := 37) (k := 16) (A := 311) hT50 dX7_layer_50 rfl rl_301 (by decide) rfl (by decide) rfl un_27 (mpp 53 rfl ?_)
          refine mp_a (a_iload_n dX7_layer_53 rfl) (mpp 54 rfl ?_)
          refine mt_ial (n := 7) hT50 dX7_layer_54 rl_311 (by decide) rfl rfl (by omega) (by omega) rfl (fun g58 g59 => mpp 55 rfl ?_)
          refine mp_a (a_goto (t := 61) dX7_layer_55 (by decide)) ?_
          obtain ⟨fw61_, aw61_, bw61_⟩ := g49.2.2 (by omega)
          have u60 : (layerM (sr Po) (fv P46 311 t2.toInt.toNat).toInt t1.toInt t2.toInt) ∧ (∀ l : Nat, l < 7 → fv P46 313 l = fv Po 313 l) := ⟨(show ((fv P46 311 t2.toInt.toNat).toInt = -1001 ∧ ((t1.toInt < 0 ∨ (fv Po 302 (0)).toInt ≤ t1.toInt) ∨ ((0 ≤ t1.toInt ∧ t1.toInt + 1 ≤ (fv Po 302 (0)).toInt ∧ t1.toInt ≤ 7) ∧ (fv Po 302 (3 + 19 * t1.toInt.toNat)).toInt = 0 ∧ (t2.toInt < 0 ∨ (fv Po 302 (4 + 19 * t1.toInt.toNat)).toInt ≤ t2.toInt)))) ∨ ((0 ≤ t1.toInt ∧ t1.toInt + 1 ≤ (fv Po 302 (0)).toInt ∧ t1.toInt ≤ 7) ∧ ((fv Po 302 (3 + 19 * t1.toInt.toNat)).toInt = 1 ∨ (0 ≤ t2.toInt ∧ t2.toInt < (fv Po 302 (4 + 19 * t1.toInt.toNat)).toInt)) ∧ (((fv Po 302 (3 + 19 * t1.toInt.toNat)).toInt = 1 ∧ (fv P46 311 t2.toInt.toNat).toInt = -1002) ∨ ((fv Po 302 (3 + 19 * t1.toInt.toNat)).toInt = 0 ∧ 1 ≤ cntF (fun j : Nat => fv Po 302 (14 + 19 * t1.toInt.toNat + j)) 0 (nC (fv Po 302 (3 + 19 * t1.toInt.toNat)).toInt (fv Po 302 (4 + 19 * t1.toInt.toNat)).toInt) ∧ (fv P46 311 t2.toInt.toNat).toInt = -1004))) ∨ ((0 ≤ t1.toInt ∧ t1.toInt + 1 ≤ (fv Po 302 (0)).toInt ∧ t1.toInt ≤ 7) ∧ (fv Po 302 (3 + 19 * t1.toInt.toNat)).toInt = 0 ∧ (0 ≤ t2.toInt ∧ t2.toInt < (fv Po 302 (4 + 19 * t1.toInt.toNat)).toInt) ∧ cntF (fun j : Nat => fv Po 302 (14 + 19 * t1.toInt.toNat + j)) 0 (nC (fv Po 302 (3 + 19 * t1.toInt.toNat)).toInt (fv Po 302 (4 + 19 * t1.toInt.toNat)).toInt) = 0 ∧ (sT (fv Po 302 (4 + 19 * t1.toInt.toNat)).toInt.toNat (fun j : Nat => fv Po 302 (14 + 19 * t1.toInt.toNat + j)) (PSm (fv Po 302 (4 + 19 * t1.toInt.toNat)).toInt.toNat (fun j : Nat => (plF (fun j : Nat => fv Po 302 (6 + 19 * t1.toInt.toNat + j)) j).toInt))) = 0 ∧ (fv P46 311 t2.toInt.toNat).toInt = -1004) ∨ ((0 ≤ t1.toInt ∧ t1.toInt + 1 ≤ (fv Po 302 (0)).toInt ∧ t1.toInt ≤ 7) ∧ (fv Po 302 (3 + 19 * t1.toInt.toNat)).toInt = 0 ∧ (0 ≤ t2.toInt ∧ t2.toInt < (fv Po 302 (4 + 19 * t1.toInt.toNat)).toInt) ∧ cntF (fun j : Nat => fv Po 302 (14 + 19 * t1.toInt.toNat + j)) 0 (nC (fv Po 302 (3 + 19 * t1.toInt.toNat)).toInt (fv Po 302 (4 + 19 * t1.toInt.toNat)).toInt) = 0 ∧ 1 ≤ (sT (fv Po 302 (4 + 19 * t1.toInt.toNat)).toInt.toNat (fun j : Nat => fv Po 302 (14 + 19 * t1.toInt.toNat + j)) (PSm (fv Po 302 (4 + 19 * t1.toInt.toNat)).toInt.toNat (fun j : Nat => (plF (fun j : Nat => fv Po 302 (6 + 19 * t1.toInt.toNat + j)) j).toInt))) ∧ (∃ f : Nat → Int, (sF (fv Po 302 (4 + 19 * t1.toInt.toNat)).toInt.toNat (fun j : Nat => fv Po 302 (14 + 19 * t1.toInt.toNat + j)) (PSm (fv Po 302 (4 + 19 * t1.toInt.toNat)).toInt.toNat (fun j : Nat => (plF (fun j : Nat => fv Po 302 (6 + 19 * t1.toInt.toNat + j)) j).toInt))) = some f ∧ (fv P46 311 t2.toInt.toNat).toInt = f t2.toInt.toNat)) from Or.inr (Or.inr (Or.inr (⟨by omega, by omega, by omega, by omega, by have q := g49.1; rw [← q]; omega, ⟨fw61_, aw61_, bw61_ t2.toInt.toNat (by omega)⟩⟩)))), g49.2.1⟩
          exact mp_iret ⟨⟨_, rfl, u60⟩, hT50, k53, R55⟩ dX7_layer_61 (Or.inl rfl)
      · have c40 : x37.toInt ≠ 0 := ti_eq_n c40
        refine mp_a (a_iload_n dX7_layer_39 rfl) (mpp 40 rfl ?_)
        have u62 : (layerM (sr Po) x37.toInt t1.toInt t2.toInt) ∧ (∀ l : Nat, l < 7 → fv Po 313 l = fv Po 313 l) := ⟨(show (x37.toInt = -1001 ∧ ((t1.toInt < 0 ∨ (fv Po 302 (0)).toInt ≤ t1.toInt) ∨ ((0 ≤ t1.toInt ∧ t1.toInt + 1 ≤ (fv Po 302 (0)).toInt ∧ t1.toInt ≤ 7) ∧ (fv Po 302 (3 + 19 * t1.toInt.toNat)).toInt = 0 ∧ (t2.toInt < 0 ∨ (fv Po 302 (4 + 19 * t1.toInt.toNat)).toInt ≤ t2.toInt)))) ∨ ((0 ≤ t1.toInt ∧ t1.toInt + 1 ≤ (fv Po 302 (0)).toInt ∧ t1.toInt ≤ 7) ∧ ((fv Po 302 (3 + 19 * t1.toInt.toNat)).toInt = 1 ∨ (0 ≤ t2.toInt ∧ t2.toInt < (fv Po 302 (4 + 19 * t1.toInt.toNat)).toInt)) ∧ (((fv Po 302 (3 + 19 * t1.toInt.toNat)).toInt = 1 ∧ x37.toInt = -1002) ∨ ((fv Po 302 (3 + 19 * t1.toInt.toNat)).toInt = 0 ∧ 1 ≤ cntF (fun j : Nat => fv Po 302 (14 + 19 * t1.toInt.toNat + j)) 0 (nC (fv Po 302 (3 + 19 * t1.toInt.toNat)).toInt (fv Po 302 (4 + 19 * t1.toInt.toNat)).toInt) ∧ x37.toInt = -1004))) ∨ ((0 ≤ t1.toInt ∧ t1.toInt + 1 ≤ (fv Po 302 (0)).toInt ∧ t1.toInt ≤ 7) ∧ (fv Po 302 (3 + 19 * t1.toInt.toNat)).toInt = 0 ∧ (0 ≤ t2.toInt ∧ t2.toInt < (fv Po 302 (4 + 19 * t1.toInt.toNat)).toInt) ∧ cntF (fun j : Nat => fv Po 302 (14 + 19 * t1.toInt.toNat + j)) 0 (nC (fv Po 302 (3 + 19 * t1.toInt.toNat)).toInt (fv Po 302 (4 + 19 * t1.toInt.toNat)).toInt) = 0 ∧ (sT (fv Po 302 (4 + 19 * t1.toInt.toNat)).toInt.toNat (fun j : Nat => fv Po 302 (14 + 19 * t1.toInt.toNat + j)) (PSm (fv Po 302 (4 + 19 * t1.toInt.toNat)).toInt.toNat (fun j : Nat => (plF (fun j : Nat => fv Po 302 (6 + 19 * t1.toInt.toNat + j)) j).toInt))) = 0 ∧ x37.toInt = -1004) ∨ ((0 ≤ t1.toInt ∧ t1.toInt + 1 ≤ (fv Po 302 (0)).toInt ∧ t1.toInt ≤ 7) ∧ (fv Po 302 (3 + 19 * t1.toInt.toNat)).toInt = 0 ∧ (0 ≤ t2.toInt ∧ t2.toInt < (fv Po 302 (4 + 19 * t1.toInt.toNat)).toInt) ∧ cntF (fun j : Nat => fv Po 302 (14 + 19 * t1.toInt.toNat + j)) 0 (nC (fv Po 302 (3 + 19 * t1.toInt.toNat)).toInt (fv Po 302 (4 + 19 * t1.toInt.toNat)).toInt) = 0 ∧ 1 ≤ (sT (fv Po 302 (4 + 19 * t1.toInt.toNat)).toInt.toNat (fun j : Nat => fv Po 302 (14 + 19 * t1.toInt.toNat + j)) (PSm (fv Po 302 (4 + 19 * t1.toInt.toNat)).toInt.toNat (fun j : Nat => (plF (fun j : Nat => fv Po 302 (6 + 19 * t1.toInt.toNat + j)) j).toInt))) ∧ (∃ f : Nat → Int, (sF (fv Po 302 (4 + 19 * t1.toInt.toNat)).toInt.toNat (fun j : Nat => fv Po 302 (14 + 19 * t1.toInt.toNat + j)) (PSm (fv Po 302 (4 + 19 * t1.toInt.toNat)).toInt.toNat (fun j : Nat => (plF (fun j : Nat => fv Po 302 (6 + 19 * t1.toInt.toNat + j)) j).toInt))) = some f ∧ x37.toInt = f t2.toInt.toNat)) from Or.inr (Or.inl (⟨by omega, by omega, by omega⟩))), fun _ _ => rfl⟩
        exact mp_iret ⟨⟨_, rfl, u62⟩, hT, KW.refl, hR⟩ dX7_layer_40 (Or.inl rfl)
    · have c33 : x29.toInt ≠ 0 := ti_eq_n c33
      refine mp_a (a_sipush (v := -1001) dX7_layer_25 rfl) (mpp 28 rfl ?_)
      have u63 : (layerM (sr Po) (-1001 : Int) t1.toInt t2.toInt) ∧ (∀ l : Nat, l < 7 → fv Po 313 l = fv Po 313 l) := ⟨(show ((-1001 : Int) = -1001 ∧ ((t1.toInt < 0 ∨ (fv Po 302 (0)).toInt ≤ t1.toInt) ∨ ((0 ≤ t1.toInt ∧ t1.toInt + 1 ≤ (fv Po 302 (0)).toInt ∧ t1.toInt ≤ 7) ∧ (fv Po 302 (3 + 19 * t1.toInt.toNat)).toInt = 0 ∧ (t2.toInt < 0 ∨ (fv Po 302 (4 + 19 * t1.toInt.toNat)).toInt ≤ t2.toInt)))) ∨ ((0 ≤ t1.toInt ∧ t1.toInt + 1 ≤ (fv Po 302 (0)).toInt ∧ t1.toInt ≤ 7) ∧ ((fv Po 302 (3 + 19 * t1.toInt.toNat)).toInt = 1 ∨ (0 ≤ t2.toInt ∧ t2.toInt < (fv Po 302 (4 + 19 * t1.toInt.toNat)).toInt)) ∧ (((fv Po 302 (3 + 19 * t1.toInt.toNat)).toInt = 1 ∧ (-1001 : Int) = -1002) ∨ ((fv Po 302 (3 + 19 * t1.toInt.toNat)).toInt = 0 ∧ 1 ≤ cntF (fun j : Nat => fv Po 302 (14 + 19 * t1.toInt.toNat + j)) 0 (nC (fv Po 302 (3 + 19 * t1.toInt.toNat)).toInt (fv Po 302 (4 + 19 * t1.toInt.toNat)).toInt) ∧ (-1001 : Int) = -1004))) ∨ ((0 ≤ t1.toInt ∧ t1.toInt + 1 ≤ (fv Po 302 (0)).toInt ∧ t1.toInt ≤ 7) ∧ (fv Po 302 (3 + 19 * t1.toInt.toNat)).toInt = 0 ∧ (0 ≤ t2.toInt ∧ t2.toInt < (fv Po 302 (4 + 19 * t1.toInt.toNat)).toInt) ∧ cntF (fun j : Nat => fv Po 302 (14 + 19 * t1.toInt.toNat + j)) 0 (nC (fv Po 302 (3 + 19 * t1.toInt.toNat)).toInt (fv Po 302 (4 + 19 * t1.toInt.toNat)).toInt) = 0 ∧ (sT (fv Po 302 (4 + 19 * t1.toInt.toNat)).toInt.toNat (fun j : Nat => fv Po 302 (14 + 19 * t1.toInt.toNat + j)) (PSm (fv Po 302 (4 + 19 * t1.toInt.toNat)).toInt.toNat (fun j : Nat => (plF (fun j : Nat => fv Po 302 (6 + 19 * t1.toInt.toNat + j)) j).toInt))) = 0 ∧ (-1001 : Int) = -1004) ∨ ((0 ≤ t1.toInt ∧ t1.toInt + 1 ≤ (fv Po 302 (0)).toInt ∧ t1.toInt ≤ 7) ∧ (fv Po 302 (3 + 19 * t1.toInt.toNat)).toInt = 0 ∧ (0 ≤ t2.toInt ∧ t2.toInt < (fv Po 302 (4 + 19 * t1.toInt.toNat)).toInt) ∧ cntF (fun j : Nat => fv Po 302 (14 + 19 * t1.toInt.toNat + j)) 0 (nC (fv Po 302 (3 + 19 * t1.toInt.toNat)).toInt (fv Po 302 (4 + 19 * t1.toInt.toNat)).toInt) = 0 ∧ 1 ≤ (sT (fv Po 302 (4 + 19 * t1.toInt.toNat)).toInt.toNat (fun j : Nat => fv Po 302 (14 + 19 * t1.toInt.toNat + j)) (PSm (fv Po 302 (4 + 19 * t1.toInt.toNat)).toInt.toNat (fun j : Nat => (plF (fun j : Nat => fv Po 302 (6 + 19 * t1.toInt.toNat + j)) j).toInt))) ∧ (∃ f : Nat → Int, (sF (fv Po 302 (4 + 19 * t1.toInt.toNat)).toInt.toNat (fun j : Nat => fv Po 302 (14 + 19 * t1.toInt.toNat + j)) (PSm (fv Po 302 (4 + 19 * t1.toInt.toNat)).toInt.toNat (fun j : Nat => (plF (fun j : Nat => fv Po 302 (6 + 19 * t1.toInt.toNat + j)) j).toInt))) = some f ∧ (-1001 : Int) = f t2.toInt.toNat)) from Or.inl (⟨by omega, by omega⟩)), fun _ _ => rfl⟩
      exact mp_iret ⟨⟨_, rfl, u63⟩, hT, KW.refl, hR⟩ dX7_layer_28 (Or.inl rfl)

