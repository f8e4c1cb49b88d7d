/-! methods on typed pools, 16 (written by a program) -/
set_option maxHeartbeats 4000000 in
theorem c_M_laysSizes {Po : mP} {t1 : Int32} (hT : Typ Po)   : EvP 2 128 [.ref 301, .int t1] Po (fun r P' => (∃ x : Int32, r = some (.int x) ∧ (0 ≤ x.toInt ∧ x.toInt ≤ 8)) ∧ Typ P' ∧ KW [1408] Po P' ∧ True) := by
  refine EvP.of qm_128 (Nat.le_of_ble_eq_true rfl) rfl ?_
  show MEvP _ none q_128 0 [(0, .ref 301), (1, .int t1)] [] _ 0 0 _
  refine mp_a (a_iload_n dX7_laysSizes_0 rfl) (mpp 1 rfl ?_)
  refine mp_Tb (t := 8) (j_if_ge dX7_laysSizes_1) (by decide) (fun c1 => ?_) (fun c1 => mpp 4 rfl ?_)
  · have c1 : t1.toInt ≥ 0 := ti_ge c1
    refine mp_a (a_iload_n dX7_laysSizes_8 rfl) (mpp 9 rfl ?_)
    refine mp_calls (i := 95) (q' := q_129) (As := [.int t1]) (rest := []) dX7_laysSizes_9 rfl qm_129 (by decide) rfl (Nat.le_of_ble_eq_true rfl) rfl ⟨rfl, rfl⟩ ⟨Nat.le_of_ble_eq_true rfl, Nat.le_of_ble_eq_true rfl⟩ (EvP.mono (by decide) (c_M_digits hT )) (fun r2 P3 g4 => mpp 12 rfl ?_)
    obtain ⟨⟨x5, rfl, g6⟩, e7⟩ := g4
    have e7 := e7.symm
    subst e7
    have wx5 := ti_full x5
    show MEvP _ none q_128 12 [(0, .ref 301), (1, .int t1)] [.int x5] _ _ _ _
    refine mp_a (a_istore_n (L' := [(2, .int x5), (0, .ref 301), (1, .int t1)]) dX7_laysSizes_12 (by decide) rfl) (mpp 13 rfl ?_)
    refine mp_a (a_iload_n dX7_laysSizes_13 rfl) (mpp 14 rfl ?_)
    refine mp_a (a_iconst (v := 1) dX7_laysSizes_14 rfl) (mpp 15 rfl ?_)
    refine mp_a (a_bipush (v := 8) dX7_laysSizes_15 rfl) (mpp 17 rfl ?_)
    refine mp_calls (i := 61) (q' := q_127) (As := [.int x5, .int 1, .int 8]) (rest := []) dX7_laysSizes_17 rfl qm_127 (by decide) rfl (Nat.le_of_ble_eq_true rfl) rfl ⟨rfl, rfl⟩ ⟨Nat.le_of_ble_eq_true rfl, Nat.le_of_ble_eq_true rfl⟩ (EvP.mono (by decide) (c_M_isIn hT )) (fun r8 P9 g10 => mpp 20 rfl ?_)
    obtain ⟨⟨x11, rfl, g12⟩, e13⟩ := g10
    have e13 := e13.symm
    subst e13
    have wx11 := ti_full x11
    have g12 : 0 ≤ x11.toInt ∧ x11.toInt ≤ 1 ∧ ((x11.toInt = 1 ∧ (1 : Int) ≤ x5.toInt ∧ x5.toInt ≤ (8 : Int)) ∨ (x11.toInt = 0 ∧ (x5.toInt < (1 : Int) ∨ (8 : Int) < x5.toInt))) := g12
    show MEvP _ none q_128 20 [(2, .int x5), (0, .ref 301), (1, .int t1)] [.int x11] _ _ _ _
    refine mp_Tb (t := 25) (j_if_ne dX7_laysSizes_20) (by decide) (fun c14 => ?_) (fun c14 => mpp 23 rfl ?_)
    · have c14 : x11.toInt ≠ 0 := ti_ne c14
      refine mp_a (a_iload_n dX7_laysSizes_25 rfl) (mpp 26 rfl ?_)
      refine mp_a (a_istore_n (L' := [(3, .int t1), (2, .int x5), (0, .ref 301), (1, .int t1)]) dX7_laysSizes_26 (by decide) rfl) (mpp 27 rfl ?_)
      refine mp_a (a_iconst (v := 1) dX7_laysSizes_27 rfl) (mpp 28 rfl ?_)
      refine mp_a (a_istore (L' := [(4, .int 1), (3, .int t1), (2, .int x5), (0, .ref 301), (1, .int t1)]) dX7_laysSizes_28 (by decide) rfl) (mpp 30 rfl ?_)
      refine mp_a (a_iload_n dX7_laysSizes_30 rfl) (mpp 31 rfl ?_)
      refine mp_a (a_iconst (v := 1) dX7_laysSizes_31 rfl) (mpp 32 rfl ?_)
      obtain ⟨z15, h16⟩ := ti_ex (x5 - 1 : Int32)
      have wz15 := ti_full z15
      refine mp_t (s_isub (v := z15) dX7_laysSizes_32 h16) (mpp 33 rfl ?_)
      try have e17 : z15.toInt = x5.toInt - 1 := ti_subz h16 rfl rfl (by omega) (by omega)
      refine mp_a (a_istore (L' := [(5, .int z15), (4, .int 1), (3, .int t1), (2, .int x5), (0, .ref 301), (1, .int t1)]) dX7_laysSizes_33 (by decide) rfl) (mpp 35 rfl ?_)
      refine MEvP.less (L := [(0, .ref 301), (1, .int t1), (2, .int x5), (3, .int t1), (4, .int 1), (5, .int z15)]) rfl rfl ⟨rfl, rfl, rfl, rfl, rfl, rfl, trivial⟩ ?_
      have i18 : z15.toInt ≤ 7 := by omega
      have i19 : 0 ≤ x5.toInt := by omega
      have i20 : x5.toInt ≤ 8 := by omega
      exact c_M_laysSizes_l35   _ _ _ _ _ Po hT KW.refl i18 i19 i20 rfl
    · have c14 : x11.toInt = 0 := ti_ne_n c14
      refine mp_a (a_iconst (v := 0) dX7_laysSizes_23 rfl) (mpp 24 rfl ?_)
      have u21 : 0 ≤ (0 : Int) ∧ (0 : Int) ≤ 8 := by omega
      exact mp_iret ⟨⟨_, rfl, u21⟩, hT, KW.refl, trivial⟩ dX7_laysSizes_24 (Or.inl rfl)
  · have c1 : t1.toInt < 0 := ti_ge_n c1
    refine mp_a (a_iconst (v := 0) dX7_laysSizes_4 rfl) (mpp 5 rfl ?_)
    refine mp_a (a_goto (t := 12) dX7_laysSizes_5 (by decide)) ?_
    refine mp_a (a_istore_n (L' := [(2, .int 0), (0, .ref 301), (1, .int t1)]) dX7_laysSizes_12 (by decide) rfl) (mpp 13 rfl ?_)
    refine mp_a (a_iload_n dX7_laysSizes_13 rfl) (mpp 14 rfl ?_)
    refine mp_a (a_iconst (v := 1) dX7_laysSizes_14 rfl) (mpp 15 rfl ?_)
    refine mp_a (a_bipush (v := 8) dX7_laysSizes_15 rfl) (mpp 17 rfl ?_)
    refine mp_calls (i := 61) (q' := q_127) (As := [.int 0, .int 1, .int 8]) (rest := []) dX7_laysSizes_17 rfl qm_127 (by decide) rfl (Nat.le_of_ble_eq_true rfl) rfl ⟨rfl, rfl⟩ ⟨Nat.le_of_ble_eq_true rfl, Nat.le_of_ble_eq_true rfl⟩ (EvP.mono (by decide) (c_M_isIn hT )) (fun r22 P23 g24 => mpp 20 rfl ?_)
    obtain ⟨⟨x25, rfl, g26⟩, e27⟩ := g24
    have e27 := e27.symm
    subst e27
    have wx25 := ti_full x25
    have g26 : 0 ≤ x25.toInt ∧ x25.toInt ≤ 1 ∧ ((x25.toInt = 1 ∧ (1 : Int) ≤ (0 : Int) ∧ (0 : Int) ≤ (8 : Int)) ∨ (x25.toInt = 0 ∧ ((0 : Int) < (1 : Int) ∨ (8 : Int) < (0 : Int)))) := g26
    show MEvP _ none q_128 20 [(2, .int 0), (0, .ref 301), (1, .int t1)] [.int x25] _ _ _ _
    refine mp_Tb (t := 25) (j_if_ne dX7_laysSizes_20) (by decide) (fun c28 => ?_) (fun c28 => mpp 23 rfl ?_)
    · have c28 : x25.toInt ≠ 0 := ti_ne c28
      refine mp_a (a_iload_n dX7_laysSizes_25 rfl) (mpp 26 rfl ?_)
      refine mp_a (a_istore_n (L' := [(3, .int t1), (2, .int 0), (0, .ref 301), (1, .int t1)]) dX7_laysSizes_26 (by decide) rfl) (mpp 27 rfl ?_)
      refine mp_a (a_iconst (v := 1) dX7_laysSizes_27 rfl) (mpp 28 rfl ?_)
      refine mp_a (a_istore (L' := [(4, .int 1), (3, .int t1), (2, .int 0), (0, .ref 301), (1, .int t1)]) dX7_laysSizes_28 (by decide) rfl) (mpp 30 rfl ?_)
      refine mp_a (a_iload_n dX7_laysSizes_30 rfl) (mpp 31 rfl ?_)
      refine mp_a (a_iconst (v := 1) dX7_laysSizes_31 rfl) (mpp 32 rfl ?_)
      refine mp_t (s_isub (v := (-1)) dX7_laysSizes_32 rfl) (mpp 33 rfl ?_)
      refine mp_a (a_istore (L' := [(5, .int (-1)), (4, .int 1), (3, .int t1), (2, .int 0), (0, .ref 301), (1, .int t1)]) dX7_laysSizes_33 (by decide) rfl) (mpp 35 rfl ?_)
      refine MEvP.less (L := [(0, .ref 301), (1, .int t1), (2, .int 0), (3, .int t1), (4, .int 1), (5, .int (-1))]) rfl rfl ⟨rfl, rfl, rfl, rfl, rfl, rfl, trivial⟩ ?_
      have i29 : (-1 : Int) ≤ 7 := by omega
      have i30 : 0 ≤ (0 : Int) := by omega
      have i31 : (0 : Int) ≤ 8 := by omega
      exact c_M_laysSizes_l35   _ _ _ _ _ Po hT KW.refl i29 i30 i31 rfl
    · have c28 : x25.toInt = 0 := ti_ne_n c28
      refine mp_a (a_iconst (v := 0) dX7_laysSizes_23 rfl) (mpp 24 rfl ?_)
      have u32 : 0 ≤ (0 : Int) ∧ (0 : Int) ≤ 8 := by omega
      exact mp_iret ⟨⟨_, rfl, u32⟩, hT, KW.refl, trivial⟩ dX7_laysSizes_24 (Or.inl rfl)

set_option maxHeartbeats 4000000 in
theorem c_M_sumOfNew_l4 {Po : mP} {t1 : Int32} (hT : Typ Po)  (hp0 : t1.toInt ≤ 8)  : ∀ (n : Nat) (v2 : Int32) (v3 : Int32), (0 ≤ v3.toInt) → (2147483647 - v3.toInt).toNat = n → MEvP 0 none q_131 4 [(0, .ref 301), (1, .int t1), (2, .int v2), (3, .int v3)] [] Po 0 0 (fun r P' => (∃ x : Int32, r = some (.int x) ∧ (True)) ∧ P' = Po) := by
  intro n
  induction n using Nat.strongRecOn with | _ n ih => ?_
  intro v2 v3 i_0 hm
  have w_v2 := ti_full v2
  have w_v3 := ti_full v3
  refine mp_a (a_iload_n dX7_sumOfNew_4 rfl) (mpp 5 rfl ?_)
  refine mp_a (a_iload_n dX7_sumOfNew_5 rfl) (mpp 6 rfl ?_)
  refine mp_Tb (t := 24) (j_icmp_ge dX7_sumOfNew_6) (by decide) (fun c1 => ?_) (fun c1 => mpp 9 rfl ?_)
  · have c1 : v3.toInt ≥ t1.toInt := ti_ge c1
    refine mp_a (a_iload_n dX7_sumOfNew_24 rfl) (mpp 25 rfl ?_)
    exact mp_iret ⟨⟨_, rfl, trivial⟩, rfl⟩ dX7_sumOfNew_25 (Or.inl rfl)
  · have c1 : v3.toInt < t1.toInt := ti_ge_n c1
    refine mp_a (a_iload_n dX7_sumOfNew_9 rfl) (mpp 10 rfl ?_)
    refine mp_a (a_aload_n dX7_sumOfNew_10 rfl) (mpp 11 rfl ?_)
    refine mt_getU (i := 22) (k := 9) (A := 306) hT dX7_sumOfNew_11 rfl rl_301 (by decide) rfl (by decide) rfl un_22 (mpp 14 rfl ?_)
    refine mp_a (a_iload_n dX7_sumOfNew_14 rfl) (mpp 15 rfl ?_)
    refine mt_ial (n := 8) hT dX7_sumOfNew_15 rl_306 (by decide) rfl rfl (by omega) (by omega) rfl (fun g2 g3 => mpp 16 rfl ?_)
    obtain ⟨z4, h5⟩ := ti_ex (v2 + (fv Po 306 v3.toInt.toNat) : Int32)
    have wz4 := ti_full z4
    refine mp_t (s_iadd (v := z4) dX7_sumOfNew_16 h5) (mpp 17 rfl ?_)
    try have e6 : z4.toInt = v2.toInt + (fv Po 306 v3.toInt.toNat).toInt := ti_addz h5 rfl rfl (by omega) (by omega)
    refine mp_a (a_istore_n (L' := [(2, .int z4), (0, .ref 301), (1, .int t1), (3, .int v3)]) dX7_sumOfNew_17 (by decide) rfl) (mpp 18 rfl ?_)
    obtain ⟨z7, h8⟩ := ti_ex (v3 + 1 : Int32)
    have wz7 := ti_full z7
    refine mp_a (a_iinc (v := z7) (L' := [(3, .int z7), (2, .int z4), (0, .ref 301), (1, .int t1)]) dX7_sumOfNew_18 (by decide) rfl h8 rfl) (mpp 21 rfl ?_)
    try have e9 : z7.toInt = v3.toInt + 1 := ti_addz h8 rfl rfl (by omega) (by omega)
    refine mp_a (a_goto (t := 4) dX7_sumOfNew_21 (by decide)) ?_
    refine MEvP.less (L := [(0, .ref 301), (1, .int t1), (2, .int z4), (3, .int z7)]) rfl rfl ⟨rfl, rfl, rfl, rfl, trivial⟩ ?_
    have i10 : 0 ≤ z7.toInt := by omega
    exact ih _ (by omega) _ _ i10 rfl

set_option maxHeartbeats 4000000 in
theorem c_M_sumOfNew {Po : mP} {t1 : Int32} (hT : Typ Po)  (hp0 : t1.toInt ≤ 8)  : EvP 1 131 [.ref 301, .int t1] Po (fun r P' => (∃ x : Int32, r = some (.int x) ∧ (True)) ∧ P' = Po) := by
  refine EvP.of qm_131 (Nat.le_of_ble_eq_true rfl) rfl ?_
  show MEvP _ none q_131 0 [(0, .ref 301), (1, .int t1)] [] _ 0 0 _
  refine mp_a (a_iconst (v := 0) dX7_sumOfNew_0 rfl) (mpp 1 rfl ?_)
  refine mp_a (a_istore_n (L' := [(2, .int 0), (0, .ref 301), (1, .int t1)]) dX7_sumOfNew_1 (by decide) rfl) (mpp 2 rfl ?_)
  refine mp_a (a_iconst (v := 0) dX7_sumOfNew_2 rfl) (mpp 3 rfl ?_)
  refine mp_a (a_istore_n (L' := [(3, .int 0), (2, .int 0), (0, .ref 301), (1, .int t1)]) dX7_sumOfNew_3 (by decide) rfl) (mpp 4 rfl ?_)
  refine MEvP.less (L := [(0, .ref 301), (1, .int t1), (2, .int 0), (3, .int 0)]) rfl rfl ⟨rfl, rfl, rfl, rfl, trivial⟩ ?_
  have i1 : 0 ≤ (0 : Int) := by omega
  exact c_M_sumOfNew_l4 hT hp0 _ _ _ i1 rfl

set_option maxHeartbeats 4000000 in
theorem c_M_areSizes {Po : mP} {t1 : Int32} {t2 : Int32} (hT : Typ Po)  (hp0 : t2.toInt ≤ 8)  : EvP 2 130 [.ref 301, .int t1, .int t2] Po (fun r P' => (∃ x : Int32, r = some (.int x) ∧ (0 ≤ x.toInt ∧ x.toInt ≤ 1 ∧ (x.toInt = 0 ∨ t1.toInt ≠ 0 ∨ t2.toInt ≤ 7))) ∧ P' = Po) := by
  refine EvP.of qm_130 (Nat.le_of_ble_eq_true rfl) rfl ?_
  show MEvP _ none q_130 0 [(0, .ref 301), (1, .int t1), (2, .int t2)] [] _ 0 0 _
  refine mp_a (a_iload_n dX7_areSizes_0 rfl) (mpp 1 rfl ?_)
  refine mp_Tb (t := 14) (j_if_ne dX7_areSizes_1) (by decide) (fun c1 => ?_) (fun c1 => mpp 4 rfl ?_)
  · have c1 : t1.toInt ≠ 0 := ti_ne c1
    refine mp_a (a_iload_n dX7_areSizes_14 rfl) (mpp 15 rfl ?_)
    refine mp_a (a_iconst (v := 4) dX7_areSizes_15 rfl) (mpp 16 rfl ?_)
    refine mp_Tb (t := 31) (j_icmp_eq dX7_areSizes_16) (by decide) (fun c2 => ?_) (fun c2 => mpp 19 rfl ?_)
    · have c2 : t2.toInt = 4 := ti_eq c2
      refine mp_a (a_aload_n dX7_areSizes_31 rfl) (mpp 32 rfl ?_)
      refine mp_a (a_iload_n dX7_areSizes_32 rfl) (mpp 33 rfl ?_)
      have p3 : t2.toInt ≤ 8 := by omega
      refine mt_callv (i := 98) (q' := q_131) (As := [.int t2]) (rest := []) hT dX7_areSizes_33 rfl qm_131 (by decide) rfl rl_301 (by decide) rfl (Nat.le_of_ble_eq_true rfl) rfl ⟨rfl, rfl⟩ ⟨Nat.le_of_ble_eq_true rfl, Nat.le_of_ble_eq_true rfl⟩ (EvP.mono (by decide) (c_M_sumOfNew hT p3 )) (fun r4 P5 g6 => mpp 36 rfl ?_)
      obtain ⟨⟨x7, rfl, g8⟩, e9⟩ := g6
      have e9 := e9.symm
      subst e9
      have wx7 := ti_full x7
      show MEvP _ none q_130 36 [(0, .ref 301), (1, .int t1), (2, .int t2)] [.int x7] _ _ _ _
      refine mp_a (a_bipush (v := 24) dX7_areSizes_36 rfl) (mpp 38 rfl ?_)
      refine mp_Tb (t := 45) (j_icmp_ne dX7_areSizes_38) (by decide) (fun c10 => ?_) (fun c10 => mpp 41 rfl ?_)
      · have c10 : x7.toInt ≠ 24 := ti_ne c10
        refine mp_a (a_iconst (v := 0) dX7_areSizes_45 rfl) (mpp 46 rfl ?_)
        have u11 : 0 ≤ (0 : Int) ∧ (0 : Int) ≤ 1 ∧ ((0 : Int) = 0 ∨ t1.toInt ≠ 0 ∨ t2.toInt ≤ 7) := by omega
        exact mp_iret ⟨⟨_, rfl, u11⟩, rfl⟩ dX7_areSizes_46 (Or.inr ⟨rfl, by decide⟩)
      · have c10 : x7.toInt = 24 := ti_ne_n c10
        refine mp_a (a_iconst (v := 1) dX7_areSizes_41 rfl) (mpp 42 rfl ?_)
        refine mp_a (a_goto (t := 46) dX7_areSizes_42 (by decide)) ?_
        have u12 : 0 ≤ (1 : Int) ∧ (1 : Int) ≤ 1 ∧ ((1 : Int) = 0 ∨ t1.toInt ≠ 0 ∨ t2.toInt ≤ 7) := by omega
        exact mp_iret ⟨⟨_, rfl, u12⟩, rfl⟩ dX7_areSizes_46 (Or.inr ⟨rfl, by decide⟩)
    · have c2 : t2.toInt ≠ 4 := ti_eq_n c2
      refine mp_a (a_iload_n dX7_areSizes_19 rfl) (mpp 20 rfl ?_)
      refine mp_a (a_bipush (v := 6) dX7_areSizes_20 rfl) (mpp 22 rfl ?_)
      refine mp_Tb (t := 31) (j_icmp_eq dX7_areSizes_22) (by decide) (fun c13 => ?_) (fun c13 => mpp 25 rfl ?_)
      · have c13 : t2.toInt = 6 := ti_eq c13
        refine mp_a (a_aload_n dX7_areSizes_31 rfl) (mpp 32 rfl ?_)
        refine mp_a (a_iload_n dX7_areSizes_32 rfl) (mpp 33 rfl ?_)
        have p14 : t2.toInt ≤ 8 := by omega
        refine mt_callv (i := 98) (q' := q_131) (As := [.int t2]) (rest := []) hT dX7_areSizes_33 rfl qm_131 (by decide) rfl rl_301 (by decide) rfl (Nat.le_of_ble_eq_true rfl) rfl ⟨rfl, rfl⟩ ⟨Nat.le_of_ble_eq_true rfl, Nat.le_of_ble_eq_true rfl⟩ (EvP.mono (by decide) (c_M_sumOfNew hT p14 )) (fun r15 P16 g17 => mpp 36 rfl ?_)
        obtain ⟨⟨x18, rfl, g19⟩, e20⟩ := g17
        have e20 := e20.symm
        subst e20
        have wx18 := ti_full x18
        show MEvP _ none q_130 36 [(0, .ref 301), (1, .int t1), (2, .int t2)] [.int x18] _ _ _ _
        refine mp_a (a_bipush (v := 24) dX7_areSizes_36 rfl) (mpp 38 rfl ?_)
        refine mp_Tb (t := 45) (j_icmp_ne dX7_areSizes_38) (by decide) (fun c21 => ?_) (fun c21 => mpp 41 rfl ?_)
        · have c21 : x18.toInt ≠ 24 := ti_ne c21
          refine mp_a (a_iconst (v := 0) dX7_areSizes_45 rfl) (mpp 46 rfl ?_)
          have u22 : 0 ≤ (0 : Int) ∧ (0 : Int) ≤ 1 ∧ ((0 : Int) = 0 ∨ t1.toInt ≠ 0 ∨ t2.toInt ≤ 7) := by omega
          exact mp_iret ⟨⟨_, rfl, u22⟩, rfl⟩ dX7_areSizes_46 (Or.inr ⟨rfl, by decide⟩)
        · have c21 : x18.toInt = 24 := ti_ne_n c21
          refine mp_a (a_iconst (v := 1) dX7_areSizes_41 rfl) (mpp 42 rfl ?_)
          refine mp_a (a_goto (t := 46) dX7_areSizes_42 (by decide)) ?_
          have u23 : 0 ≤ (1 : Int) ∧ (1 : Int) ≤ 1 ∧ ((1 : Int) = 0 ∨ t1.toInt ≠ 0 ∨ t2.toInt ≤ 7) := by omega
          exact mp_iret ⟨⟨_, rfl, u23⟩, rfl⟩ dX7_areSizes_46 (Or.inr ⟨rfl, by decide⟩)
      · have c13 : t2.toInt ≠ 6 := ti_eq_n c13
        refine mp_a (a_iload_n dX7_areSizes_25 rfl) (mpp 26 rfl ?_)
        refine mp_a (a_bipush (v := 8) dX7_areSizes_26 rfl) (mpp 28 rfl ?_)
        refine mp_Tb (t := 45) (j_icmp_ne dX7_areSizes_28) (by decide) (fun c24 => ?_) (fun c24 => mpp 31 rfl ?_)
        · have c24 : t2.toInt ≠ 8 := ti_ne c24
          refine mp_a (a_iconst (v := 0) dX7_areSizes_45 rfl) (mpp 46 rfl ?_)
          have u25 : 0 ≤ (0 : Int) ∧ (0 : Int) ≤ 1 ∧ ((0 : Int) = 0 ∨ t1.toInt ≠ 0 ∨ t2.toInt ≤ 7) := by omega
          exact mp_iret ⟨⟨_, rfl, u25⟩, rfl⟩ dX7_areSizes_46 (Or.inr ⟨rfl, by decide⟩)
        · have c24 : t2.toInt = 8 := ti_ne_n c24
          refine mp_a (a_aload_n dX7_areSizes_31 rfl) (mpp 32 rfl ?_)
          refine mp_a (a_iload_n dX7_areSizes_32 rfl) (mpp 33 rfl ?_)
          have p26 : t2.toInt ≤ 8 := by omega
          refine mt_callv (i := 98) (q' := q_131) (As := [.int t2]) (rest := []) hT dX7_areSizes_33 rfl qm_131 (by decide) rfl rl_301 (by decide) rfl (Nat.le_of_ble_eq_true rfl) rfl ⟨rfl, rfl⟩ ⟨Nat.le_of_ble_eq_true rfl, Nat.le_of_ble_eq_true rfl⟩ (EvP.mono (by decide) (c_M_sumOfNew hT p26 )) (fun r27 P28 g29 => mpp 36 rfl ?_)
          obtain ⟨⟨x30, rfl, g31⟩, e32⟩ := g29
          have e32 := e32.symm
          subst e32
          have wx30 := ti_full x30
          show MEvP _ none q_130 36 [(0, .ref 301), (1, .int t1), (2, .int t2)] [.int x30] _ _ _ _
          refine mp_a (a_bipush (v := 24) dX7_areSizes_36 rfl) (mpp 38 rfl ?_)
          refine mp_Tb (t := 45) (j_icmp_ne dX7_areSizes_38) (by decide) (fun c33 => ?_) (fun c33 => mpp 41 rfl ?_)
          · have c33 : x30.toInt ≠ 24 := ti_ne c33
            refine mp_a (a_iconst (v := 0) dX7_areSizes_45 rfl) (mpp 46 rfl ?_)
            have u34 : 0 ≤ (0 : Int) ∧ (0 : Int) ≤ 1 ∧ ((0 : Int) = 0 ∨ t1.toInt ≠ 0 ∨ t2.toInt ≤ 7) := by omega
            exact mp_iret ⟨⟨_, rfl, u34⟩, rfl⟩ dX7_areSizes_46 (Or.inr ⟨rfl, by decide⟩)
          · have c33 : x30.toInt = 24 := ti_ne_n c33
            refine mp_a (a_iconst (v := 1) dX7_areSizes_41 rfl) (mpp 42 rfl ?_)
            refine mp_a (a_goto (t := 46) dX7_areSizes_42 (by decide)) ?_
            have u35 : 0 ≤ (1 : Int) ∧ (1 : Int) ≤ 1 ∧ ((1 : Int) = 0 ∨ t1.toInt ≠ 0 ∨ t2.toInt ≤ 7) := by omega
            exact mp_iret ⟨⟨_, rfl, u35⟩, rfl⟩ dX7_areSizes_46 (Or.inr ⟨rfl, by decide⟩)
  · have c1 : t1.toInt = 0 := ti_ne_n c1
    refine mp_a (a_iload_n dX7_areSizes_4 rfl) (mpp 5 rfl ?_)
    refine mp_a (a_iconst (v := 2) dX7_areSizes_5 rfl) (mpp 6 rfl ?_)
    refine mp_a (a_bipush (v := 7) dX7_areSizes_6 rfl) (mpp 8 rfl ?_)
    refine mp_calls (i := 61) (q' := q_127) (As := [.int t2, .int 2, .int 7]) (rest := []) dX7_areSizes_8 rfl qm_127 (by decide) rfl (Nat.le_of_ble_eq_true rfl) rfl ⟨rfl, rfl⟩ ⟨Nat.le_of_ble_eq_true rfl, Nat.le_of_ble_eq_true rfl⟩ (EvP.mono (by decide) (c_M_isIn hT )) (fun r36 P37 g38 => mpp 11 rfl ?_)
    obtain ⟨⟨x39, rfl, g40⟩, e41⟩ := g38
    have e41 := e41.symm
    subst e41
    have wx39 := ti_full x39
    have g40 : 0 ≤ x39.toInt ∧ x39.toInt ≤ 1 ∧ ((x39.toInt = 1 ∧ (2 : Int) ≤ t2.toInt ∧ t2.toInt ≤ (7 : Int)) ∨ (x39.toInt = 0 ∧ (t2.toInt < (2 : Int) ∨ (7 : Int) < t2.toInt))) := g40
    show MEvP _ none q_130 11 [(0, .ref 301), (1, .int t1), (2, .int t2)] [.int x39] _ _ _ _
    refine mp_a (a_goto (t := 46) dX7_areSizes_11 (by decide)) ?_
    have u42 : 0 ≤ x39.toInt ∧ x39.toInt ≤ 1 ∧ (x39.toInt = 0 ∨ t1.toInt ≠ 0 ∨ t2.toInt ≤ 7) := by omega
    exact mp_iret ⟨⟨_, rfl, u42⟩, rfl⟩ dX7_areSizes_46 (Or.inr ⟨rfl, ti_01 (by omega)⟩)

set_option maxHeartbeats 4000000 in
theorem c_M_laysCreases_l24 {Po : mP} {t1 : Int32} {t2 : Int32} (hp0 : 0 ≤ t2.toInt) (hp1 : t2.toInt ≤ 8)  : ∀ (n : Nat) (v3 : Int32) (v4 : Int32) (v5 : Int32), ∀ (P : mP), Typ P → KW [1472] Po P → (v5.toInt ≤ 7) → (0 ≤ v4.toInt) → (v4.toInt ≤ 1) → (v5.toInt + 1).toNat = n → MEvP 1 none q_132 24 [(0, .ref 301), (1, .int t1), (2, .int t2), (3, .int v3), (4, .int v4), (5, .int v5)] [] P 0 0 (fun r P' => (∃ x : Int32, r = some (.int x) ∧ (0 ≤ x.toInt ∧ x.toInt ≤ 1)) ∧ Typ P' ∧ KW [1472] Po P' ∧ True) := by
  intro n
  induction n using Nat.strongRecOn with | _ n ih => ?_
  intro v3 v4 v5 P hT hK i_0 i_1 i_2 hm
  have w_v3 := ti_full v3
  have w_v4 := ti_full v4
  have w_v5 := ti_full v5
  refine mp_a (a_iload dX7_laysCreases_24 rfl) (mpp 26 rfl ?_)
  refine mp_Tb (t := 74) (j_if_lt dX7_laysCreases_26) (by decide) (fun c1 => ?_) (fun c1 => mpp 29 rfl ?_)
  · have c1 : v5.toInt < 0 := ti_lt c1
    refine mp_a (a_iload dX7_laysCreases_74 rfl) (mpp 76 rfl ?_)
    have u2 : 0 ≤ v4.toInt ∧ v4.toInt ≤ 1 := by omega
    exact mp_iret ⟨⟨_, rfl, u2⟩, hT, hK, trivial⟩ dX7_laysCreases_76 (Or.inr ⟨rfl, ti_01 (by omega)⟩)
  · have c1 : v5.toInt ≥ 0 := ti_lt_n c1
    refine mp_a (a_aload_n dX7_laysCreases_29 rfl) (mpp 30 rfl ?_)
    refine mt_getU (i := 25) (k := 10) (A := 307) hT dX7_laysCreases_30 rfl rl_301 (by decide) rfl (by decide) rfl un_23 (mpp 33 rfl ?_)
    refine mp_a (a_iload dX7_laysCreases_33 rfl) (mpp 35 rfl ?_)
    refine mp_a (a_iload_n dX7_laysCreases_35 rfl) (mpp 36 rfl ?_)
    refine mp_a (a_bipush (v := 10) dX7_laysCreases_36 rfl) (mpp 38 rfl ?_)
    obtain ⟨z3, h4⟩ := ti_ex (v3 - v3 / 10 * 10 : Int32)
    have wz3 := ti_full z3
    try have e5 : 0 ≤ z3.toInt ∧ z3.toInt < 10 := ti_rem h4 (show (0 : Int) ≤ v3.toInt by omega) (show (0 : Int) < 10 by omega)
    refine mp_t (s_irem (v := z3) dX7_laysCreases_38 (by decide) h4) (mpp 39 rfl ?_)
    refine mt_ias (n := 8) hT dX7_laysCreases_39 rl_307 (by decide) rfl rfl (by omega) (by omega) rfl (ti_full z3) (fun P6 hT7 f8 f9 => mpp 40 rfl ?_)
    have k10 : KW [1472] Po P6 := KW.step hK rl_307 rfl f9
    refine mp_a (a_iload_n dX7_laysCreases_40 rfl) (mpp 41 rfl ?_)
    refine mp_a (a_bipush (v := 10) dX7_laysCreases_41 rfl) (mpp 43 rfl ?_)
    obtain ⟨z11, h12⟩ := ti_ex (v3 / 10 : Int32)
    have wz11 := ti_full z11
    try have e13 : z11.toInt = v3.toInt / 10 := ti_div h12 (show (0 : Int) ≤ v3.toInt by omega) (show (0 : Int) < 10 by omega)
    refine mp_t (s_idiv (v := z11) dX7_laysCreases_43 (by decide) h12) (mpp 44 rfl ?_)
    refine mp_a (a_istore_n (L' := [(3, .int z11), (0, .ref 301), (1, .int t1), (2, .int t2), (4, .int v4), (5, .int v5)]) dX7_laysCreases_44 (by decide) rfl) (mpp 45 rfl ?_)
    refine mp_a (a_iload dX7_laysCreases_45 rfl) (mpp 47 rfl ?_)
    refine mp_Tb (t := 65) (j_if_eq dX7_laysCreases_47) (by decide) (fun c14 => ?_) (fun c14 => mpp 50 rfl ?_)
    · have c14 : v4.toInt = 0 := ti_eq c14
      refine mp_a (a_iconst (v := 0) dX7_laysCreases_65 rfl) (mpp 66 rfl ?_)
      refine mp_a (a_istore (L' := [(4, .int 0), (3, .int z11), (0, .ref 301), (1, .int t1), (2, .int t2), (5, .int v5)]) dX7_laysCreases_66 (by decide) rfl) (mpp 68 rfl ?_)
      obtain ⟨z15, h16⟩ := ti_ex (v5 + (-1) : Int32)
      have wz15 := ti_full z15
      refine mp_a (a_iinc (v := z15) (L' := [(5, .int z15), (4, .int 0), (3, .int z11), (0, .ref 301), (1, .int t1), (2, .int t2)]) dX7_laysCreases_68 (by decide) rfl h16 rfl) (mpp 71 rfl ?_)
      try have e17 : z15.toInt = v5.toInt + (-1) := ti_addz h16 rfl rfl (by omega) (by omega)
      refine mp_a (a_goto (t := 24) dX7_laysCreases_71 (by decide)) ?_
      refine MEvP.less (L := [(0, .ref 301), (1, .int t1), (2, .int t2), (3, .int z11), (4, .int 0), (5, .int z15)]) rfl rfl ⟨rfl, rfl, rfl, rfl, rfl, rfl, trivial⟩ ?_
      have i18 : z15.toInt ≤ 7 := by omega
      have i19 : 0 ≤ (0 : Int) := by omega
      have i20 : (0 : Int) ≤ 1 := by omega
      exact ih _ (by omega) _ _ _ P6 hT7 k10 i18 i19 i20 rfl
    · have c14 : v4.toInt ≠ 0 := ti_eq_n c14
      refine mp_a (a_aload_n dX7_laysCreases_50 rfl) (mpp 51 rfl ?_)
      refine mt_getU (i := 25) (k := 10) (A := 307) hT7 dX7_laysCreases_51 rfl rl_301 (by decide) rfl (by decide) rfl un_23 (mpp 54 rfl ?_)
      refine mp_a (a_iload dX7_laysCreases_54 rfl) (mpp 56 rfl ?_)
      refine mt_ial (n := 8) hT7 dX7_laysCreases_56 rl_307 (by decide) rfl rfl (by omega) (by omega) rfl (fun g21 g22 => mpp 57 rfl ?_)
      refine mp_a (a_iconst (v := 2) dX7_laysCreases_57 rfl) (mpp 58 rfl ?_)
      refine mp_Tb (t := 65) (j_icmp_gt dX7_laysCreases_58) (by decide) (fun c23 => ?_) (fun c23 => mpp 61 rfl ?_)
      · have c23 : (fv P6 307 v5.toInt.toNat).toInt > 2 := ti_gt c23
        refine mp_a (a_iconst (v := 0) dX7_laysCreases_65 rfl) (mpp 66 rfl ?_)
        refine mp_a (a_istore (L' := [(4, .int 0), (3, .int z11), (0, .ref 301), (1, .int t1), (2, .int t2), (5, .int v5)]) dX7_laysCreases_66 (by decide) rfl) (mpp 68 rfl ?_)
        obtain ⟨z24, h25⟩ := ti_ex (v5 + (-1) : Int32)
        have wz24 := ti_full z24
        refine mp_a (a_iinc (v := z24) (L' := [(5, .int z24), (4, .int 0), (3, .int z11), (0, .ref 301), (1, .int t1), (2, .int t2)]) dX7_laysCreases_68 (by decide) rfl h25 rfl) (mpp 71 rfl ?_)
        try have e26 : z24.toInt = v5.toInt + (-1) := ti_addz h25 rfl rfl (by omega) (by omega)
        refine mp_a (a_goto (t := 24) dX7_laysCreases_71 (by decide)) ?_
        refine MEvP.less (L := [(0, .ref 301), (1, .int t1), (2, .int t2), (3, .int z11), (4, .int 0), (5, .int z24)]) rfl rfl ⟨rfl, rfl, rfl, rfl, rfl, rfl, trivial⟩ ?_
        have i27 : z24.toInt ≤ 7 := by omega
        have i28 : 0 ≤ (0 : Int) := by omega
        have i29 : (0 : Int) ≤ 1 := by omega
        exact ih _ (by omega) _ _ _ P6 hT7 k10 i27 i28 i29 rfl
      · have c23 : (fv P6 307 v5.toInt.toNat).toInt ≤ 2 := ti_gt_n c23
        refine mp_a (a_iconst (v := 1) dX7_laysCreases_61 rfl) (mpp 62 rfl ?_)
        refine mp_a (a_goto (t := 66) dX7_laysCreases_62 (by decide)) ?_
        refine mp_a (a_istore (L' := [(4, .int 1), (3, .int z11), (0, .ref 301), (1, .int t1), (2, .int t2), (5, .int v5)]) dX7_laysCreases_66 (by decide) rfl) (mpp 68 rfl ?_)
        obtain ⟨z30, h31⟩ := ti_ex (v5 + (-1) : Int32)
        have wz30 := ti_full z30
        refine mp_a (a_iinc (v := z30) (L' := [(5, .int z30), (4, .int 1), (3, .int z11), (0, .ref 301), (1, .int t1), (2, .int t2)]) dX7_laysCreases_68 (by decide) rfl h31 rfl) (mpp 71 rfl ?_)
        try have e32 : z30.toInt = v5.toInt + (-1) := ti_addz h31 rfl rfl (by omega) (by omega)
        refine mp_a (a_goto (t := 24) dX7_laysCreases_71 (by decide)) ?_
        refine MEvP.less (L := [(0, .ref 301), (1, .int t1), (2, .int t2), (3, .int z11), (4, .int 1), (5, .int z30)]) rfl rfl ⟨rfl, rfl, rfl, rfl, rfl, rfl, trivial⟩ ?_
        have i33 : z30.toInt ≤ 7 := by omega
        have i34 : 0 ≤ (1 : Int) := by omega
        have i35 : (1 : Int) ≤ 1 := by omega
        exact ih _ (by omega) _ _ _ P6 hT7 k10 i33 i34 i35 rfl

set_option maxHeartbeats 4000000 in
theorem c_M_laysCreases {Po : mP} {t1 : Int32} {t2 : Int32} (hT : Typ Po)  (hp0 : 0 ≤ t2.toInt) (hp1 : t2.toInt ≤ 8)  : EvP 2 132 [.ref 301, .int t1, .int t2] Po (fun r P' => (∃ x : Int32, r = some (.int x) ∧ (0 ≤ x.toInt ∧ x.toInt ≤ 1)) ∧ Typ P' ∧ KW [1472] Po P' ∧ True) := by
  refine EvP.of qm_132 (Nat.le_of_ble_eq_true rfl) rfl ?_
  show MEvP _ none q_132 0 [(0, .ref 301), (1, .int t1), (2, .int t2)] [] _ 0 0 _
  refine mp_a (a_iload_n dX7_laysCreases_0 rfl) (mpp 1 rfl ?_)
  refine mp_Tb (t := 12) (j_if_lt dX7_laysCreases_1) (by decide) (fun c1 => ?_) (fun c1 => mpp 4 rfl ?_)
  · have c1 : t1.toInt < 0 := ti_lt c1
    refine mp_a (a_iconst (v := 0) dX7_laysCreases_12 rfl) (mpp 13 rfl ?_)
    have u2 : 0 ≤ (0 : Int) ∧ (0 : Int) ≤ 1 := by omega
    exact mp_iret ⟨⟨_, rfl, u2⟩, hT, KW.refl, trivial⟩ dX7_laysCreases_13 (Or.inr ⟨rfl, by decide⟩)
  · have c1 : t1.toInt ≥ 0 := ti_lt_n c1
    refine mp_a (a_iload_n dX7_laysCreases_4 rfl) (mpp 5 rfl ?_)
    refine mp_calls (i := 95) (q' := q_129) (As := [.int t1]) (rest := []) dX7_laysCreases_5 rfl qm_129 (by decide) rfl (Nat.le_of_ble_eq_true rfl) rfl ⟨rfl, rfl⟩ ⟨Nat.le_of_ble_eq_true rfl, Nat.le_of_ble_eq_true rfl⟩ (EvP.mono (by decide) (c_M_digits hT )) (fun r3 P4 g5 => mpp 8 rfl ?_)
    obtain ⟨⟨x6, rfl, g7⟩, e8⟩ := g5
    have e8 := e8.symm
    subst e8
    have wx6 := ti_full x6
    show MEvP _ none q_132 8 [(0, .ref 301), (1, .int t1), (2, .int t2)] [.int x6] _ _ _ _
    refine mp_a (a_iload_n dX7_laysCreases_8 rfl) (mpp 9 rfl ?_)
    refine mp_Tb (t := 14) (j_icmp_le dX7_laysCreases_9) (by decide) (fun c9 => ?_) (fun c9 => mpp 12 rfl ?_)
    · have c9 : x6.toInt ≤ t2.toInt := ti_le c9
      refine mp_a (a_iload_n dX7_laysCreases_14 rfl) (mpp 15 rfl ?_)
      refine mp_a (a_istore_n (L' := [(3, .int t1), (0, .ref 301), (1, .int t1), (2, .int t2)]) dX7_laysCreases_15 (by decide) rfl) (mpp 16 rfl ?_)
      refine mp_a (a_iconst (v := 1) dX7_laysCreases_16 rfl) (mpp 17 rfl ?_)
      refine mp_a (a_istore (L' := [(4, .int 1), (3, .int t1), (0, .ref 301), (1, .int t1), (2, .int t2)]) dX7_laysCreases_17 (by decide) rfl) (mpp 19 rfl ?_)
      refine mp_a (a_iload_n dX7_laysCreases_19 rfl) (mpp 20 rfl ?_)
      refine mp_a (a_iconst (v := 1) dX7_laysCreases_20 rfl) (mpp 21 rfl ?_)
      obtain ⟨z10, h11⟩ := ti_ex (t2 - 1 : Int32)
      have wz10 := ti_full z10
      refine mp_t (s_isub (v := z10) dX7_laysCreases_21 h11) (mpp 22 rfl ?_)
      try have e12 : z10.toInt = t2.toInt - 1 := ti_subz h11 rfl rfl (by omega) (by omega)
      refine mp_a (a_istore (L' := [(5, .int z10), (4, .int 1), (3, .int t1), (0, .ref 301), (1, .int t1), (2, .int t2)]) dX7_laysCreases_22 (by decide) rfl) (mpp 24 rfl ?_)
      refine MEvP.less (L := [(0, .ref 301), (1, .int t1), (2, .int t2), (3, .int t1), (4, .int 1), (5, .int z10)]) rfl rfl ⟨rfl, rfl, rfl, rfl, rfl, rfl, trivial⟩ ?_
      have i13 : z10.toInt ≤ 7 := by omega
      have i14 : 0 ≤ (1 : Int) := by omega
      have i15 : (1 : Int) ≤ 1 := by omega
      exact c_M_laysCreases_l24  hp0 hp1 _ _ _ _ Po hT KW.refl i13 i14 i15 rfl
    · have c9 : x6.toInt > t2.toInt := ti_le_n c9
      refine mp_a (a_iconst (v := 0) dX7_laysCreases_12 rfl) (mpp 13 rfl ?_)
      have u16 : 0 ≤ (0 : Int) ∧ (0 : Int) ≤ 1 := by omega
      exact mp_iret ⟨⟨_, rfl, u16⟩, hT, KW.refl, trivial⟩ dX7_laysCreases_13 (Or.inr ⟨rfl, by decide⟩)

set_option maxHeartbeats 4000000 in
theorem c_M_creases {Po : mP} {t1 : Int32} (hT : Typ Po)  (hp0 : 0 ≤ t1.toInt) (hp1 : t1.toInt ≤ 7)  : EvP 4 136 [.ref 301, .int t1] Po (fun r P' => (∃ x : Int32, r = some (.int x) ∧ (-1 ≤ x.toInt ∧ x.toInt ≤ 8 ∧ x.toInt ≤ (fv Po 302 (4 + 19 * t1.toInt.toNat)).toInt)) ∧ P' = Po) := by
  refine EvP.of qm_136 (Nat.le_of_ble_eq_true rfl) rfl ?_
  show MEvP _ none q_136 0 [(0, .ref 301), (1, .int t1)] [] _ 0 0 _
  have g1 := ti_full (fv Po 302 (4 + 19 * t1.toInt.toNat))
  refine mp_a (a_aload_n dX7_creases_0 rfl) (mpp 1 rfl ?_)
  refine mp_a (a_iload_n dX7_creases_1 rfl) (mpp 2 rfl ?_)
  refine mp_a (a_iconst (v := 1) dX7_creases_2 rfl) (mpp 3 rfl ?_)
  have p2 : 0 ≤ t1.toInt := by omega
  have p3 : t1.toInt ≤ 7 := by omega
  have p4 : 0 ≤ (1 : Int) := by omega
  have p5 : (1 : Int) ≤ 18 := by omega
  refine mt_callv (i := 78) (q' := q_137) (As := [.int t1, .int 1]) (rest := []) hT dX7_creases_3 rfl qm_137 (by decide) rfl rl_301 (by decide) rfl (Nat.le_of_ble_eq_true rfl) rfl ⟨rfl, rfl⟩ ⟨Nat.le_of_ble_eq_true rfl, Nat.le_of_ble_eq_true rfl⟩ (EvP.mono (by decide) (c_M_of_c1 hT p2 p3 p4 p5 )) (fun r6 P7 g8 => mpp 6 rfl ?_)
  obtain ⟨⟨x9, rfl, g10⟩, e11⟩ := g8
  have e11 := e11.symm
  subst e11
  have wx9 := ti_full x9
  have g10 : x9.toInt = (fv Po 302 (4 + 19 * t1.toInt.toNat)).toInt ∧ 0 ≤ x9.toInt ∧ x9.toInt ≤ 8 := g10
  show MEvP _ none q_136 6 [(0, .ref 301), (1, .int t1)] [.int x9] _ _ _ _
  refine mp_a (a_aload_n dX7_creases_6 rfl) (mpp 7 rfl ?_)
  refine mp_a (a_iload_n dX7_creases_7 rfl) (mpp 8 rfl ?_)
  have p12 : 0 ≤ t1.toInt := by omega
  have p13 : t1.toInt ≤ 7 := by omega
  refine mt_callv (i := 81) (q' := q_138) (As := [.int t1]) (rest := [.int x9]) hT dX7_creases_8 rfl qm_138 (by decide) rfl rl_301 (by decide) rfl (Nat.le_of_ble_eq_true rfl) rfl ⟨rfl, rfl⟩ ⟨Nat.le_of_ble_eq_true rfl, Nat.le_of_ble_eq_true rfl⟩ (EvP.mono (by decide) (c_M_isCorner hT p12 p13 )) (fun r14 P15 g16 => mpp 11 rfl ?_)
  obtain ⟨⟨x17, rfl, g18⟩, e19⟩ := g16
  have e19 := e19.symm
  subst e19
  have wx17 := ti_full x17
  have g18 : 0 ≤ x17.toInt ∧ x17.toInt ≤ 1 ∧ ((x17.toInt = 1 ∧ (fv Po 302 (3 + 19 * t1.toInt.toNat)).toInt = 1) ∨ (x17.toInt = 0 ∧ (fv Po 302 (3 + 19 * t1.toInt.toNat)).toInt = 0)) := g18
  have g20 := ti_full (fv Po 302 (3 + 19 * t1.toInt.toNat))
  show MEvP _ none q_136 11 [(0, .ref 301), (1, .int t1)] [.int x17, .int x9] _ _ _ _
  refine mp_Tb (t := 18) (j_if_eq dX7_creases_11) (by decide) (fun c21 => ?_) (fun c21 => mpp 14 rfl ?_)
  · have c21 : x17.toInt = 0 := ti_eq c21
    refine mp_a (a_iconst (v := 1) dX7_creases_18 rfl) (mpp 19 rfl ?_)
    obtain ⟨z22, h23⟩ := ti_ex (x9 - 1 : Int32)
    have wz22 := ti_full z22
    refine mp_t (s_isub (v := z22) dX7_creases_19 h23) (mpp 20 rfl ?_)
    try have e24 : z22.toInt = x9.toInt - 1 := ti_subz h23 rfl rfl (by omega) (by omega)
    have u25 : -1 ≤ z22.toInt ∧ z22.toInt ≤ 8 ∧ z22.toInt ≤ (fv Po 302 (4 + 19 * t1.toInt.toNat)).toInt := by omega
    exact mp_iret ⟨⟨_, rfl, u25⟩, rfl⟩ dX7_creases_20 (Or.inl rfl)
  · have c21 : x17.toInt ≠ 0 := ti_eq_n c21
    refine mp_a (a_iconst (v := 0) dX7_creases_14 rfl) (mpp 15 rfl ?_)
    refine mp_a (a_goto (t := 19) dX7_creases_15 (by decide)) ?_
    obtain ⟨z26, h27⟩ := ti_ex (x9 - 0 : Int32)
    have wz26 := ti_full z26
    refine mp_t (s_isub (v := z26) dX7_creases_19 h27) (mpp 20 rfl ?_)
    try have e28 : z26.toInt = x9.toInt - 0 := ti_subz h27 rfl rfl (by omega) (by omega)
    have u29 : -1 ≤ z26.toInt ∧ z26.toInt ≤ 8 ∧ z26.toInt ≤ (fv Po 302 (4 + 19 * t1.toInt.toNat)).toInt := by omega
    exact mp_iret ⟨⟨_, rfl, u29⟩, rfl⟩ dX7_creases_20 (Or.inl rfl)

set_option maxHeartbeats 4000000 in
theorem c_M_adds_l72 {Po : mP} {t1 : Int32} {t2 : Int32} (hp0 : 0 ≤ t1.toInt) (hp1 : t1.toInt ≤ 1) (hp2 : 0 ≤ t2.toInt) (hp3 : t2.toInt ≤ 8) (hp4 : t1.toInt ≠ 0 ∨ t2.toInt ≤ 7)  : ∀ (n : Nat) (v3 : Int32) (v4 : Int32), ∀ (P : mP), Typ P → KW [1093, 1094, 1152] Po P → Rel P → (0 ≤ v3.toInt) → (v3.toInt ≤ 7) → (0 ≤ v4.toInt) → (2147483647 - v4.toInt).toNat = n → MEvP 4 none q_133 72 [(0, .ref 301), (1, .int t1), (2, .int t2), (3, .int v3), (4, .int v4)] [] P 0 0 (fun r P' => (∃ x : Int32, r = some (.int x) ∧ (True)) ∧ Typ P' ∧ KW [1093, 1094, 1152] Po P' ∧ Rel P') := by
  intro n
  induction n using Nat.strongRecOn with | _ n ih => ?_
  intro v3 v4 P hT hK hR i_0 i_1 i_2 hm
  have w_v3 := ti_full v3
  have w_v4 := ti_full v4
  refine mp_a (a_iload dX7_adds_72 rfl) (mpp 74 rfl ?_)
  refine mp_a (a_bipush (v := 8) dX7_adds_74 rfl) (mpp 76 rfl ?_)
  refine mp_Tb (t := 150) (j_icmp_ge dX7_adds_76) (by decide) (fun c1 => ?_) (fun c1 => mpp 79 rfl ?_)
  · have c1 : v4.toInt ≥ 8 := ti_ge c1
    refine mp_a (a_iload_n dX7_adds_150 rfl) (mpp 151 rfl ?_)
    exact mp_iret ⟨⟨_, rfl, trivial⟩, hT, hK, hR⟩ dX7_adds_151 (Or.inl rfl)
  · have c1 : v4.toInt < 8 := ti_ge_n c1
    refine mp_a (a_aload_n dX7_adds_79 rfl) (mpp 80 rfl ?_)
    refine mt_getU (i := 9) (k := 0) (A := 302) hT dX7_adds_80 rfl rl_301 (by decide) rfl (by decide) rfl un_18 (mpp 83 rfl ?_)
    refine mp_a (a_iload_n dX7_adds_83 rfl) (mpp 84 rfl ?_)
    refine mp_a (a_iconst (v := 3) dX7_adds_84 rfl) (mpp 85 rfl ?_)
    refine mp_a (a_iload dX7_adds_85 rfl) (mpp 87 rfl ?_)
    obtain ⟨z2, h3⟩ := ti_ex (3 + v4 : Int32)
    have wz2 := ti_full z2
    refine mp_t (s_iadd (v := z2) dX7_adds_87 h3) (mpp 88 rfl ?_)
    try have e4 : z2.toInt = 3 + v4.toInt := ti_addz h3 rfl rfl (by omega) (by omega)
    have p5 : 0 ≤ v3.toInt := by omega
    have p6 : v3.toInt ≤ 8 := by omega
    have p7 : 0 ≤ z2.toInt := by omega
    have p8 : z2.toInt ≤ 20 := by omega
    refine mp_calls (i := 74) (q' := q_135) (As := [.int v3, .int z2]) (rest := [.ref 302]) dX7_adds_88 rfl qm_135 (by decide) rfl (Nat.le_of_ble_eq_true rfl) rfl ⟨rfl, rfl⟩ ⟨Nat.le_of_ble_eq_true rfl, Nat.le_of_ble_eq_true rfl⟩ (EvP.mono (by decide) (c_M_at hT p5 p6 p7 p8 )) (fun r9 P10 g11 => mpp 91 rfl ?_)
    obtain ⟨⟨x12, rfl, g13⟩, e14⟩ := g11
    have e14 := e14.symm
    subst e14
    have wx12 := ti_full x12
    have g13 : x12.toInt = 3 + 19 * v3.toInt + z2.toInt := g13
    show MEvP _ none q_133 91 [(0, .ref 301), (1, .int t1), (2, .int t2), (3, .int v3), (4, .int v4)] [.int x12, .ref 302] _ _ _ _
    refine mp_a (a_iload dX7_adds_91 rfl) (mpp 93 rfl ?_)
    refine mp_a (a_iload_n dX7_adds_93 rfl) (mpp 94 rfl ?_)
    refine mp_Tb (t := 107) (j_icmp_ge dX7_adds_94) (by decide) (fun c15 => ?_) (fun c15 => mpp 97 rfl ?_)
    · have c15 : v4.toInt ≥ t2.toInt := ti_ge c15
      refine mp_a (a_iconst (v := 0) dX7_adds_107 rfl) (mpp 108 rfl ?_)
      refine mt_iasX (n := 155) hT dX7_adds_108 rl_302 (by decide) rfl rfl (by omega) (by omega) (okS_mk (by omega) (fun _ => ⟨by omega, by omega⟩) (fun _ => ⟨by omega, by omega⟩)) (fun P16 hT17 f18 f19 => mpp 109 rfl ?_)
      have k20 : KW [1093, 1094, 1152] Po P16 := KW.step hK rl_302 rfl f19
      have R21 := Rel.oth hR f19 (by omega)
      refine mp_a (a_aload_n dX7_adds_109 rfl) (mpp 110 rfl ?_)
      refine mt_getU (i := 9) (k := 0) (A := 302) hT17 dX7_adds_110 rfl rl_301 (by decide) rfl (by decide) rfl un_18 (mpp 113 rfl ?_)
      refine mp_a (a_iload_n dX7_adds_113 rfl) (mpp 114 rfl ?_)
      refine mp_a (a_bipush (v := 11) dX7_adds_114 rfl) (mpp 116 rfl ?_)
      refine mp_a (a_iload dX7_adds_116 rfl) (mpp 118 rfl ?_)
      obtain ⟨z22, h23⟩ := ti_ex (11 + v4 : Int32)
      have wz22 := ti_full z22
      refine mp_t (s_iadd (v := z22) dX7_adds_118 h23) (mpp 119 rfl ?_)
      try have e24 : z22.toInt = 11 + v4.toInt := ti_addz h23 rfl rfl (by omega) (by omega)
      have p25 : 0 ≤ v3.toInt := by omega
      have p26 : v3.toInt ≤ 8 := by omega
      have p27 : 0 ≤ z22.toInt := by omega
      have p28 : z22.toInt ≤ 20 := by omega
      refine mp_calls (i := 74) (q' := q_135) (As := [.int v3, .int z22]) (rest := [.ref 302]) dX7_adds_119 rfl qm_135 (by decide) rfl (Nat.le_of_ble_eq_true rfl) rfl ⟨rfl, rfl⟩ ⟨Nat.le_of_ble_eq_true rfl, Nat.le_of_ble_eq_true rfl⟩ (EvP.mono (by decide) (c_M_at hT17 p25 p26 p27 p28 )) (fun r29 P30 g31 => mpp 122 rfl ?_)
      obtain ⟨⟨x32, rfl, g33⟩, e34⟩ := g31
      have e34 := e34.symm
      subst e34
      have wx32 := ti_full x32
      have g33 : x32.toInt = 3 + 19 * v3.toInt + z22.toInt := g33
      show MEvP _ none q_133 122 [(0, .ref 301), (1, .int t1), (2, .int t2), (3, .int v3), (4, .int v4)] [.int x32, .ref 302] _ _ _ _
      refine mp_a (a_iload dX7_adds_122 rfl) (mpp 124 rfl ?_)
      refine mp_a (a_aload_n dX7_adds_124 rfl) (mpp 125 rfl ?_)
      refine mp_a (a_iload_n dX7_adds_125 rfl) (mpp 126 rfl ?_)
      have p35 : 0 ≤ v3.toInt := by omega
      have p36 : v3.toInt ≤ 7 := by omega
      refine mt_callv (i := 88) (q' := q_136) (As := [.int v3]) (rest := [.int v4, .int x32, .ref 302]) hT17 dX7_adds_126 rfl qm_136 (by decide) rfl rl_301 (by decide) rfl (Nat.le_of_ble_eq_true rfl) rfl ⟨rfl, rfl⟩ ⟨Nat.le_of_ble_eq_true rfl, Nat.le_of_ble_eq_true rfl⟩ (EvP.mono (by decide) (c_M_creases hT17 p35 p36 )) (fun r37 P38 g39 => mpp 129 rfl ?_)
      obtain ⟨⟨x40, rfl, g41⟩, e42⟩ := g39
      have e42 := e42.symm
      subst e42
      have wx40 := ti_full x40
      have g41 : -1 ≤ x40.toInt ∧ x40.toInt ≤ 8 ∧ x40.toInt ≤ (fv P16 302 (4 + 19 * v3.toInt.toNat)).toInt := g41
      have g43 := ti_full (fv P16 302 (4 + 19 * v3.toInt.toNat))
      show MEvP _ none q_133 129 [(0, .ref 301), (1, .int t1), (2, .int t2), (3, .int v3), (4, .int v4)] [.int x40, .int v4, .int x32, .ref 302] _ _ _ _
      refine mp_Tb (t := 142) (j_icmp_ge dX7_adds_129) (by decide) (fun c44 => ?_) (fun c44 => mpp 132 rfl ?_)
      · have c44 : v4.toInt ≥ x40.toInt := ti_ge c44
        refine mp_a (a_iconst (v := 0) dX7_adds_142 rfl) (mpp 143 rfl ?_)
        refine mt_iasX (n := 155) hT17 dX7_adds_143 rl_302 (by decide) rfl rfl (by omega) (by omega) (okS_mk (by omega) (fun _ => ⟨by omega, by omega⟩) (fun _ => ⟨by omega, by omega⟩)) (fun P45 hT46 f47 f48 => mpp 144 rfl ?_)
        have k49 : KW [1093, 1094, 1152] Po P45 := KW.step k20 rl_302 rfl f48
        have R50 := Rel.oth R21 f48 (by omega)
        obtain ⟨z51, h52⟩ := ti_ex (v4 + 1 : Int32)
        have wz51 := ti_full z51
        refine mp_a (a_iinc (v := z51) (L' := [(4, .int z51), (0, .ref 301), (1, .int t1), (2, .int t2), (3, .int v3)]) dX7_adds_144 (by decide) rfl h52 rfl) (mpp 147 rfl ?_)
        try have e53 : z51.toInt = v4.toInt + 1 := ti_addz h52 rfl rfl (by omega) (by omega)
        refine mp_a (a_goto (t := 72) dX7_adds_147 (by decide)) ?_
        refine MEvP.less (L := [(0, .ref 301), (1, .int t1), (2, .int t2), (3, .int v3), (4, .int z51)]) rfl rfl ⟨rfl, rfl, rfl, rfl, rfl, trivial⟩ ?_
        have i54 : 0 ≤ v3.toInt := by omega
        have i55 : v3.toInt ≤ 7 := by omega
        have i56 : 0 ≤ z51.toInt := by omega
        exact ih _ (by omega) _ _ P45 hT46 k49 R50 i54 i55 i56 rfl
      · have c44 : v4.toInt < x40.toInt := ti_ge_n c44
        refine mp_a (a_aload_n dX7_adds_132 rfl) (mpp 133 rfl ?_)
        refine mt_getU (i := 25) (k := 10) (A := 307) hT17 dX7_adds_133 rfl rl_301 (by decide) rfl (by decide) rfl un_23 (mpp 136 rfl ?_)
        refine mp_a (a_iload dX7_adds_136 rfl) (mpp 138 rfl ?_)
        refine mt_ial (n := 8) hT17 dX7_adds_138 rl_307 (by decide) rfl rfl (by omega) (by omega) rfl (fun g57 g58 => mpp 139 rfl ?_)
        refine mp_a (a_goto (t := 143) dX7_adds_139 (by decide)) ?_
        refine mt_iasX (n := 155) hT17 dX7_adds_143 rl_302 (by decide) rfl rfl (by omega) (by omega) (okS_mk (by omega) (fun _ => ⟨by omega, by omega⟩) (fun _ => ⟨by omega, by omega⟩)) (fun P59 hT60 f61 f62 => mpp 144 rfl ?_)
        have k63 : KW [1093, 1094, 1152] Po P59 := KW.step k20 rl_302 rfl f62
        have R64 := Rel.oth R21 f62 (by omega)
        obtain ⟨z65, h66⟩ := ti_ex (v4 + 1 : Int32)
        have wz65 := ti_full z65
        refine mp_a (a_iinc (v := z65) (L' := [(4, .int z65), (0, .ref 301), (1, .int t1), (2, .int t2), (3, .int v3)]) dX7_adds_144 (by decide) rfl h66 rfl) (mpp 147 rfl ?_)
        try have e67 : z65.toInt = v4.toInt + 1 := ti_addz h66 rfl rfl (by omega) (by omega)
        refine mp_a (a_goto (t := 72) dX7_adds_147 (by decide)) ?_
        refine MEvP.less (L := [(0, .ref 301), (1, .int t1), (2, .int t2), (3, .int v3), (4, .int z65)]) rfl rfl ⟨rfl, rfl, rfl, rfl, rfl, trivial⟩ ?_
        have i68 : 0 ≤ v3.toInt := by omega
        have i69 : v3.toInt ≤ 7 := by omega
        have i70 : 0 ≤ z65.toInt := by omega
        exact ih _ (by omega) _ _ P59 hT60 k63 R64 i68 i69 i70 rfl
    · have c15 : v4.toInt < t2.toInt := ti_ge_n c15
      refine mp_a (a_aload_n dX7_adds_97 rfl) (mpp 98 rfl ?_)
      refine mt_getU (i := 22) (k := 9) (A := 306) hT dX7_adds_98 rfl rl_301 (by decide) rfl (by decide) rfl un_22 (mpp 101 rfl ?_)
      refine mp_a (a_iload dX7_adds_101 rfl) (mpp 103 rfl ?_)
      refine mt_ial (n := 8) hT dX7_adds_103 rl_306 (by decide) rfl rfl (by omega) (by omega) rfl (fun g71 g72 => mpp 104 rfl ?_)
      refine mp_a (a_goto (t := 108) dX7_adds_104 (by decide)) ?_
      refine mt_iasX (n := 155) hT dX7_adds_108 rl_302 (by decide) rfl rfl (by omega) (by omega) (okS_mk (by omega) (fun _ => ⟨by omega, by omega⟩) (fun _ => ⟨by omega, by omega⟩)) (fun P73 hT74 f75 f76 => mpp 109 rfl ?_)
      have k77 : KW [1093, 1094, 1152] Po P73 := KW.step hK rl_302 rfl f76
      have R78 := Rel.oth hR f76 (by omega)
      refine mp_a (a_aload_n dX7_adds_109 rfl) (mpp 110 rfl ?_)
      refine mt_getU (i := 9) (k := 0) (A := 302) hT74 dX7_adds_110 rfl rl_301 (by decide) rfl (by decide) rfl un_18 (mpp 113 rfl ?_)
      refine mp_a (a_iload_n dX7_adds_113 rfl) (mpp 114 rfl ?_)
      refine mp_a (a_bipush (v := 11) dX7_adds_114 rfl) (mpp 116 rfl ?_)
      refine mp_a (a_iload dX7_adds_116 rfl) (mpp 118 rfl ?_)
      obtain ⟨z79, h80⟩ := ti_ex (11 + v4 : Int32)
      have wz79 := ti_full z79
      refine mp_t (s_iadd (v := z79) dX7_adds_118 h80) (mpp 119 rfl ?_)
      try have e81 : z79.toInt = 11 + v4.toInt := ti_addz h80 rfl rfl (by omega) (by omega)
      have p82 : 0 ≤ v3.toInt := by omega
      have p83 : v3.toInt ≤ 8 := by omega
      have p84 : 0 ≤ z79.toInt := by omega
      have p85 : z79.toInt ≤ 20 := by omega
      refine mp_calls (i := 74) (q' := q_135) (As := [.int v3, .int z79]) (rest := [.ref 302]) dX7_adds_119 rfl qm_135 (by decide) rfl (Nat.le_of_ble_eq_true rfl) rfl ⟨rfl, rfl⟩ ⟨Nat.le_of_ble_eq_true rfl, Nat.le_of_ble_eq_true rfl⟩ (EvP.mono (by decide) (c_M_at hT74 p82 p83 p84 p85 )) (fun r86 P87 g88 => mpp 122 rfl ?_)
      obtain ⟨⟨x89, rfl, g90⟩, e91⟩ := g88
      have e91 := e91.symm
      subst e91
      have wx89 := ti_full x89
      have g90 : x89.toInt = 3 + 19 * v3.toInt + z79.toInt := g90
      show MEvP _ none q_133 122 [(0, .ref 301), (1, .int t1), (2, .int t2), (3, .int v3), (4, .int v4)] [.int x89, .ref 302] _ _ _ _
      refine mp_a (a_iload dX7_adds_122 rfl) (mpp 124 rfl ?_)
      refine mp_a (a_aload_n dX7_adds_124 rfl) (mpp 125 rfl ?_)
      refine mp_a (a_iload_n dX7_adds_125 rfl) (mpp 126 rfl ?_)
      have p92 : 0 ≤ v3.toInt := by omega
      have p93 : v3.toInt ≤ 7 := by omega
      refine mt_callv (i := 88) (q' := q_136) (As := [.int v3]) (rest := [.int v4, .int x89, .ref 302]) hT74 dX7_adds_126 rfl qm_136 (by decide) rfl rl_301 (by decide) rfl (Nat.le_of_ble_eq_true rfl) rfl ⟨rfl, rfl⟩ ⟨Nat.le_of_ble_eq_true rfl, Nat.le_of_ble_eq_true rfl⟩ (EvP.mono (by decide) (c_M_creases hT74 p92 p93 )) (fun r94 P95 g96 => mpp 129 rfl ?_)
      obtain ⟨⟨x97, rfl, g98⟩, e99⟩ := g96
      have e99 := e99.symm
      subst e99
      have wx97 := ti_full x97
      have g98 : -1 ≤ x97.toInt ∧ x97.toInt ≤ 8 ∧ x97.toInt ≤ (fv P73 302 (4 + 19 * v3.toInt.toNat)).toInt := g98
      have g100 := ti_full (fv P73 302 (4 + 19 * v3.toInt.toNat))
      show MEvP _ none q_133 129 [(0, .ref 301), (1, .int t1), (2, .int t2), (3, .int v3), (4, .int v4)] [.int x97, .int v4, .int x89, .ref 302] _ _ _ _
      refine mp_Tb (t := 142) (j_icmp_ge dX7_adds_129) (by decide) (fun c101 => ?_) (fun c101 => mpp 132 rfl ?_)
      · have c101 : v4.toInt ≥ x97.toInt := ti_ge c101
        refine mp_a (a_iconst (v := 0) dX7_adds_142 rfl) (mpp 143 rfl ?_)
        refine mt_iasX (n := 155) hT74 dX7_adds_143 rl_302 (by decide) rfl rfl (by omega) (by omega) (okS_mk (by omega) (fun _ => ⟨by omega, by omega⟩) (fun _ => ⟨by omega, by omega⟩)) (fun P102 hT103 f104 f105 => mpp 144 rfl ?_)
        have k106 : KW [1093, 1094, 1152] Po P102 := KW.step k77 rl_302 rfl f105
        have R107 := Rel.oth R78 f105 (by omega)
        obtain ⟨z108, h109⟩ := ti_ex (v4 + 1 : Int32)
        have wz108 := ti_full z108
        refine mp_a (a_iinc (v := z108) (L' := [(4, .int z108), (0, .ref 301), (1, .int t1), (2, .int t2), (3, .int v3)]) dX7_adds_144 (by decide) rfl h109 rfl) (mpp 147 rfl ?_)
        try have e110 : z108.toInt = v4.toInt + 1 := ti_addz h109 rfl rfl (by omega) (by omega)
        refine mp_a (a_goto (t := 72) dX7_adds_147 (by decide)) ?_
        refine MEvP.less (L := [(0, .ref 301), (1, .int t1), (2, .int t2), (3, .int v3), (4, .int z108)]) rfl rfl ⟨rfl, rfl, rfl, rfl, rfl, trivial⟩ ?_
        have i111 : 0 ≤ v3.toInt := by omega
        have i112 : v3.toInt ≤ 7 := by omega
        have i113 : 0 ≤ z108.toInt := by omega
        exact ih _ (by omega) _ _ P102 hT103 k106 R107 i111 i112 i113 rfl
      · have c101 : v4.toInt < x97.toInt := ti_ge_n c101
        refine mp_a (a_aload_n dX7_adds_132 rfl) (mpp 133 rfl ?_)
        refine mt_getU (i := 25) (k := 10) (A := 307) hT74 dX7_adds_133 rfl rl_301 (by decide) rfl (by decide) rfl un_23 (mpp 136 rfl ?_)
        refine mp_a (a_iload dX7_adds_136 rfl) (mpp 138 rfl ?_)
        refine mt_ial (n := 8) hT74 dX7_adds_138 rl_307 (by decide) rfl rfl (by omega) (by omega) rfl (fun g114 g115 => mpp 139 rfl ?_)
        refine mp_a (a_goto (t := 143) dX7_adds_139 (by decide)) ?_
        refine mt_iasX (n := 155) hT74 dX7_adds_143 rl_302 (by decide) rfl rfl (by omega) (by omega) (okS_mk (by omega) (fun _ => ⟨by omega, by omega⟩) (fun _ => ⟨by omega, by omega⟩)) (fun P116 hT117 f118 f119 => mpp 144 rfl ?_)
        have k120 : KW [1093, 1094, 1152] Po P116 := KW.step k77 rl_302 rfl f119
        have R121 := Rel.oth R78 f119 (by omega)
        obtain ⟨z122, h123⟩ := ti_ex (v4 + 1 : Int32)
        have wz122 := ti_full z122
        refine mp_a (a_iinc (v := z122) (L' := [(4, .int z122), (0, .ref 301), (1, .int t1), (2, .int t2), (3, .int v3)]) dX7_adds_144 (by decide) rfl h123 rfl) (mpp 147 rfl ?_)
        try have e124 : z122.toInt = v4.toInt + 1 := ti_addz h123 rfl rfl (by omega) (by omega)
        refine mp_a (a_goto (t := 72) dX7_adds_147 (by decide)) ?_
        refine MEvP.less (L := [(0, .ref 301), (1, .int t1), (2, .int t2), (3, .int v3), (4, .int z122)]) rfl rfl ⟨rfl, rfl, rfl, rfl, rfl, trivial⟩ ?_
        have i125 : 0 ≤ v3.toInt := by omega
        have i126 : v3.toInt ≤ 7 := by omega
        have i127 : 0 ≤ z122.toInt := by omega
        exact ih _ (by omega) _ _ P116 hT117 k120 R121 i125 i126 i127 rfl

set_option maxHeartbeats 4000000 in
theorem c_M_adds {Po : mP} {t1 : Int32} {t2 : Int32} (hT : Typ Po) (hR : Rel Po) (hp0 : 0 ≤ t1.toInt) (hp1 : t1.toInt ≤ 1) (hp2 : 0 ≤ t2.toInt) (hp3 : t2.toInt ≤ 8) (hp4 : t1.toInt ≠ 0 ∨ t2.toInt ≤ 7)  : EvP 5 133 [.ref 301, .int t1, .int t2] Po (fun r P' => (∃ x : Int32, r = some (.int x) ∧ (True)) ∧ Typ P' ∧ KW [1093, 1094, 1152] Po P' ∧ Rel P') := by
  refine EvP.of qm_133 (Nat.le_of_ble_eq_true rfl) rfl ?_
  show MEvP _ none q_133 0 [(0, .ref 301), (1, .int t1), (2, .int t2)] [] _ 0 0 _
  refine mp_a (a_aload_n dX7_adds_0 rfl) (mpp 1 rfl ?_)
  refine mt_getU (i := 9) (k := 0) (A := 302) hT dX7_adds_1 rfl rl_301 (by decide) rfl (by decide) rfl un_18 (mpp 4 rfl ?_)
  refine mp_a (a_iconst (v := 0) dX7_adds_4 rfl) (mpp 5 rfl ?_)
  have g3 : (0 : Int) ≤ (fv Po 302 0).toInt ∧ (fv Po 302 0).toInt ≤ 8 := Typ.rng hT rl_302 (by decide) (by decide) rfl
  refine mt_ialX (n := 155) hT dX7_adds_5 rl_302 (by decide) rfl rfl (by decide) (by decide) ssp_0 (fun g1 => mpp 6 rfl ?_)
  have we4 := ti_full (fv Po 302 0)
  refine mp_a (a_bipush (v := 8) dX7_adds_6 rfl) (mpp 8 rfl ?_)
  refine mp_Tb (t := 19) (j_icmp_ne dX7_adds_8) (by decide) (fun c5 => ?_) (fun c5 => mpp 11 rfl ?_)
  · have c5 : (fv Po 302 0).toInt ≠ 8 := ti_ne c5
    refine mp_a (a_aload_n dX7_adds_19 rfl) (mpp 20 rfl ?_)
    refine mt_getU (i := 9) (k := 0) (A := 302) hT dX7_adds_20 rfl rl_301 (by decide) rfl (by decide) rfl un_18 (mpp 23 rfl ?_)
    refine mp_a (a_iconst (v := 0) dX7_adds_23 rfl) (mpp 24 rfl ?_)
    refine mt_ialX (n := 155) hT dX7_adds_24 rl_302 (by decide) rfl rfl (by decide) (by decide) ssp_0 (fun g6 => mpp 25 rfl ?_)
    have we8 := ti_full (fv Po 302 0)
    refine mp_a (a_istore_n (L' := [(3, .int (fv Po 302 0)), (0, .ref 301), (1, .int t1), (2, .int t2)]) dX7_adds_25 (by decide) rfl) (mpp 26 rfl ?_)
    refine mp_a (a_aload_n dX7_adds_26 rfl) (mpp 27 rfl ?_)
    refine mt_getU (i := 9) (k := 0) (A := 302) hT dX7_adds_27 rfl rl_301 (by decide) rfl (by decide) rfl un_18 (mpp 30 rfl ?_)
    refine mp_a (a_iconst (v := 0) dX7_adds_30 rfl) (mpp 31 rfl ?_)
    refine mp_t (s_dup2 dX7_adds_31 ⟨rfl, rfl⟩) (mpp 32 rfl ?_)
    refine mt_ialX (n := 155) hT dX7_adds_32 rl_302 (by decide) rfl rfl (by decide) (by decide) ssp_0 (fun g9 => mpp 33 rfl ?_)
    have we11 := ti_full (fv Po 302 0)
    refine mp_a (a_iconst (v := 1) dX7_adds_33 rfl) (mpp 34 rfl ?_)
    obtain ⟨z12, h13⟩ := ti_ex ((fv Po 302 0) + 1 : Int32)
    have wz12 := ti_full z12
    refine mp_t (s_iadd (v := z12) dX7_adds_34 h13) (mpp 35 rfl ?_)
    try have e14 : z12.toInt = (fv Po 302 0).toInt + 1 := ti_addz h13 rfl rfl (by omega) (by omega)
    refine mt_iasX (n := 155) hT dX7_adds_35 rl_302 (by decide) rfl rfl (by decide) (by decide) (okS_c0 ⟨by omega, by omega⟩) (fun P15 hT16 f17 f18 => mpp 36 rfl ?_)
    have f17 : fv P15 302 0 = _ := f17
    have f18 : ∀ b j : Nat, ¬ (b = 302 ∧ j = 0) → fv P15 b j = fv Po b j := f18
    have k19 : KW [1093, 1094, 1152] Po P15 := KW.step KW.refl rl_302 rfl f18
    have R20 := Rel.oth hR f18 (by decide)
    have e21 : (fv P15 302 0).toInt = z12.toInt := congrArg Int32.toInt f17
    refine mp_a (a_aload_n dX7_adds_36 rfl) (mpp 37 rfl ?_)
    refine mt_getU (i := 9) (k := 0) (A := 302) hT16 dX7_adds_37 rfl rl_301 (by decide) rfl (by decide) rfl un_18 (mpp 40 rfl ?_)
    refine mp_a (a_iload_n dX7_adds_40 rfl) (mpp 41 rfl ?_)
    refine mp_a (a_iconst (v := 0) dX7_adds_41 rfl) (mpp 42 rfl ?_)
    have p22 : 0 ≤ (fv Po 302 0).toInt := by omega
    have p23 : (fv Po 302 0).toInt ≤ 8 := by omega
    have p24 : 0 ≤ (0 : Int) := by omega
    have p25 : (0 : Int) ≤ 20 := by omega
    refine mp_calls (i := 74) (q' := q_135) (As := [.int (fv Po 302 0), .int 0]) (rest := [.ref 302]) dX7_adds_42 rfl qm_135 (by decide) rfl (Nat.le_of_ble_eq_true rfl) rfl ⟨rfl, rfl⟩ ⟨Nat.le_of_ble_eq_true rfl, Nat.le_of_ble_eq_true rfl⟩ (EvP.mono (by decide) (c_M_at hT16 p22 p23 p24 p25 )) (fun r26 P27 g28 => mpp 45 rfl ?_)
    obtain ⟨⟨x29, rfl, g30⟩, e31⟩ := g28
    have e31 := e31.symm
    subst e31
    have wx29 := ti_full x29
    have g30 : x29.toInt = 3 + 19 * (fv Po 302 0).toInt + (0 : Int) := g30
    show MEvP _ none q_133 45 [(3, .int (fv Po 302 0)), (0, .ref 301), (1, .int t1), (2, .int t2)] [.int x29, .ref 302] _ _ _ _
    refine mp_a (a_iload_n dX7_adds_45 rfl) (mpp 46 rfl ?_)
    refine mt_iasX (n := 155) hT16 dX7_adds_46 rl_302 (by decide) rfl rfl (by omega) (by omega) (okS_mk (by omega) (fun _ => ⟨by omega, by omega⟩) (fun _ => ⟨by omega, by omega⟩)) (fun P32 hT33 f34 f35 => mpp 47 rfl ?_)
    have k36 : KW [1093, 1094, 1152] Po P32 := KW.step k19 rl_302 rfl f35
    refine mp_a (a_aload_n dX7_adds_47 rfl) (mpp 48 rfl ?_)
    refine mt_getU (i := 9) (k := 0) (A := 302) hT33 dX7_adds_48 rfl rl_301 (by decide) rfl (by decide) rfl un_18 (mpp 51 rfl ?_)
    refine mp_a (a_iload_n dX7_adds_51 rfl) (mpp 52 rfl ?_)
    refine mp_a (a_iconst (v := 1) dX7_adds_52 rfl) (mpp 53 rfl ?_)
    have p38 : 0 ≤ (fv Po 302 0).toInt := by omega
    have p39 : (fv Po 302 0).toInt ≤ 8 := by omega
    have p40 : 0 ≤ (1 : Int) := by omega
    have p41 : (1 : Int) ≤ 20 := by omega
    refine mp_calls (i := 74) (q' := q_135) (As := [.int (fv Po 302 0), .int 1]) (rest := [.ref 302]) dX7_adds_53 rfl qm_135 (by decide) rfl (Nat.le_of_ble_eq_true rfl) rfl ⟨rfl, rfl⟩ ⟨Nat.le_of_ble_eq_true rfl, Nat.le_of_ble_eq_true rfl⟩ (EvP.mono (by decide) (c_M_at hT33 p38 p39 p40 p41 )) (fun r42 P43 g44 => mpp 56 rfl ?_)
    obtain ⟨⟨x45, rfl, g46⟩, e47⟩ := g44
    have e47 := e47.symm
    subst e47
    have wx45 := ti_full x45
    have g46 : x45.toInt = 3 + 19 * (fv Po 302 0).toInt + (1 : Int) := g46
    show MEvP _ none q_133 56 [(3, .int (fv Po 302 0)), (0, .ref 301), (1, .int t1), (2, .int t2)] [.int x45, .ref 302] _ _ _ _
    refine mp_a (a_iload_n dX7_adds_56 rfl) (mpp 57 rfl ?_)
    refine mt_iasX (n := 155) hT33 dX7_adds_57 rl_302 (by decide) rfl rfl (by omega) (by omega) (okS_mk (by omega) (fun _ => ⟨by omega, by omega⟩) (fun _ => ⟨by omega, by omega⟩)) (fun P48 hT49 f50 f51 => mpp 58 rfl ?_)
    have k52 : KW [1093, 1094, 1152] Po P48 := KW.step k36 rl_302 rfl f51
    have R53 := Rel.rec R20 (p := (fv Po 302 0).toInt.toNat) f35 f34 f51 f50 (by omega) (by omega) (by omega) (by omega)
    refine mp_a (a_aload_n dX7_adds_58 rfl) (mpp 59 rfl ?_)
    refine mt_getU (i := 9) (k := 0) (A := 302) hT49 dX7_adds_59 rfl rl_301 (by decide) rfl (by decide) rfl un_18 (mpp 62 rfl ?_)
    refine mp_a (a_iload_n dX7_adds_62 rfl) (mpp 63 rfl ?_)
    refine mp_a (a_iconst (v := 2) dX7_adds_63 rfl) (mpp 64 rfl ?_)
    have p54 : 0 ≤ (fv Po 302 0).toInt := by omega
    have p55 : (fv Po 302 0).toInt ≤ 8 := by omega
    have p56 : 0 ≤ (2 : Int) := by omega
    have p57 : (2 : Int) ≤ 20 := by omega
    refine mp_calls (i := 74) (q' := q_135) (As := [.int (fv Po 302 0), .int 2]) (rest := [.ref 302]) dX7_adds_64 rfl qm_135 (by decide) rfl (Nat.le_of_ble_eq_true rfl) rfl ⟨rfl, rfl⟩ ⟨Nat.le_of_ble_eq_true rfl, Nat.le_of_ble_eq_true rfl⟩ (EvP.mono (by decide) (c_M_at hT49 p54 p55 p56 p57 )) (fun r58 P59 g60 => mpp 67 rfl ?_)
    obtain ⟨⟨x61, rfl, g62⟩, e63⟩ := g60
    have e63 := e63.symm
    subst e63
    have wx61 := ti_full x61
    have g62 : x61.toInt = 3 + 19 * (fv Po 302 0).toInt + (2 : Int) := g62
    show MEvP _ none q_133 67 [(3, .int (fv Po 302 0)), (0, .ref 301), (1, .int t1), (2, .int t2)] [.int x61, .ref 302] _ _ _ _
    refine mp_a (a_iconst (v := 0) dX7_adds_67 rfl) (mpp 68 rfl ?_)
    refine mt_iasX (n := 155) hT49 dX7_adds_68 rl_302 (by decide) rfl rfl (by omega) (by omega) (okS_mk (by omega) (fun _ => ⟨by omega, by omega⟩) (fun _ => ⟨by omega, by omega⟩)) (fun P64 hT65 f66 f67 => mpp 69 rfl ?_)
    have k68 : KW [1093, 1094, 1152] Po P64 := KW.step k52 rl_302 rfl f67
    have R69 := Rel.oth R53 f67 (by omega)
    refine mp_a (a_iconst (v := 0) dX7_adds_69 rfl) (mpp 70 rfl ?_)
    refine mp_a (a_istore (L' := [(4, .int 0), (3, .int (fv Po 302 0)), (0, .ref 301), (1, .int t1), (2, .int t2)]) dX7_adds_70 (by decide) rfl) (mpp 72 rfl ?_)
    refine MEvP.less (L := [(0, .ref 301), (1, .int t1), (2, .int t2), (3, .int (fv Po 302 0)), (4, .int 0)]) rfl rfl ⟨rfl, rfl, rfl, rfl, rfl, trivial⟩ ?_
    have i70 : 0 ≤ (fv Po 302 0).toInt := by omega
    have i71 : (fv Po 302 0).toInt ≤ 7 := by omega
    have i72 : 0 ≤ (0 : Int) := by omega
    exact c_M_adds_l72  hp0 hp1 hp2 hp3 hp4 _ _ _ P64 hT65 k68 R69 i70 i71 i72 rfl
  · have c5 : (fv Po 302 0).toInt = 8 := ti_ne_n c5
    refine mp_a (a_aload_n dX7_adds_11 rfl) (mpp 12 rfl ?_)
    refine mp_a (a_iconst (v := 1) dX7_adds_12 rfl) (mpp 13 rfl ?_)
    refine mp_a (a_bipush (v := 8) dX7_adds_13 rfl) (mpp 15 rfl ?_)
    refine mt_callv (i := 101) (q' := q_134) (As := [.int 1, .int 8]) (rest := []) hT dX7_adds_15 rfl qm_134 (by decide) rfl rl_301 (by decide) rfl (Nat.le_of_ble_eq_true rfl) rfl ⟨rfl, rfl⟩ ⟨Nat.le_of_ble_eq_true rfl, Nat.le_of_ble_eq_true rfl⟩ (EvP.mono (by decide) (c_M_refuses hT )) (fun r73 P74 g75 => mpp 18 rfl ?_)
    obtain ⟨⟨x76, rfl, g77⟩, hT78, k79, R80⟩ := g75
    have k81 : KW [1093, 1094, 1152] Po P74 := KW.trans KW.refl k79 rfl
    have R82 := Rel.kw hR k79 rfl
    have wx76 := ti_full x76
    show MEvP _ none q_133 18 [(0, .ref 301), (1, .int t1), (2, .int t2)] [.int x76] _ _ _ _
    exact mp_iret ⟨⟨_, rfl, trivial⟩, hT78, k81, R82⟩ dX7_adds_18 (Or.inl rfl)

