/-! methods on typed pools, 20 (written by a program) -/
set_option maxHeartbeats 4000000 in
theorem c_M_areSizes {Po : mP} {t1 : Int32} {t2 : Int32} (hT : Typ Po)  (hp0 : t2.toInt ≤ 8)  : EvP 2 130 [.ref 301, .int t1, .int t2] Po (fun r P' => (∃ x : Int32, r = some (.int x) ∧ (0 ≤ x.toInt ∧ x.toInt ≤ 1 ∧ (x.toInt = 0 ∨ (2 ≤ t2.toInt ∧ (t1.toInt ≠ 0 ∨ t2.toInt ≤ 7))))) ∧ P' = Po) := by
  refine EvP.of qm_130 (Nat.le_of_ble_eq_true rfl) rfl ?_
  show MEvP _ none q_130 0 [(0, .ref 301), (1, .int t1), (2, .int t2)] [] _ 0 0 _
  refine mp_a (a_iload_n dX7_areSizes_0 rfl) (mpp 1 rfl ?_)
  refine mp_Tb (t := 14) (j_if_ne dX7_areSizes_1) (by decide) (fun c1 => ?_) (fun c1 => mpp 4 rfl ?_)
  · have c1 : t1.toInt ≠ 0 := ti_ne c1
    refine mp_a (a_iload_n dX7_areSizes_14 rfl) (mpp 15 rfl ?_)
    refine mp_a (a_iconst (v := 4) dX7_areSizes_15 rfl) (mpp 16 rfl ?_)
    refine mp_Tb (t := 31) (j_icmp_eq dX7_areSizes_16) (by decide) (fun c2 => ?_) (fun c2 => mpp 19 rfl ?_)
    · have c2 : t2.toInt = 4 := ti_eq c2
      refine mp_a (a_aload_n dX7_areSizes_31 rfl) (mpp 32 rfl ?_)
      refine mp_a (a_iload_n dX7_areSizes_32 rfl) (mpp 33 rfl ?_)
      have p3 : t2.toInt ≤ 8 := by omega
      refine mt_callv (i := 98) (q' := q_131) (As := [.int t2]) (rest := []) hT dX7_areSizes_33 rfl qm_131 (by decide) rfl rl_301 (by decide) rfl (Nat.le_of_ble_eq_true rfl) rfl ⟨rfl, rfl⟩ ⟨Nat.le_of_ble_eq_true rfl, Nat.le_of_ble_eq_true rfl⟩ (EvP.mono (by decide) (c_M_sumOfNew hT p3 )) (fun r4 P5 g6 => mpp 36 rfl ?_)
      obtain ⟨⟨x7, rfl, g8⟩, e9⟩ := g6
      have e9 := e9.symm
      subst e9
      have wx7 := ti_full x7
      show MEvP _ none q_130 36 [(0, .ref 301), (1, .int t1), (2, .int t2)] [.int x7] _ _ _ _
      refine mp_a (a_bipush (v := 24) dX7_areSizes_36 rfl) (mpp 38 rfl ?_)
      refine mp_Tb (t := 45) (j_icmp_ne dX7_areSizes_38) (by decide) (fun c10 => ?_) (fun c10 => mpp 41 rfl ?_)
      · have c10 : x7.toInt ≠ 24 := ti_ne c10
        refine mp_a (a_iconst (v := 0) dX7_areSizes_45 rfl) (mpp 46 rfl ?_)
        have u11 : 0 ≤ (0 : Int) ∧ (0 : Int) ≤ 1 ∧ ((0 : Int) = 0 ∨ (2 ≤ t2.toInt ∧ (t1.toInt ≠ 0 ∨ t2.toInt ≤ 7))) := by omega
        exact mp_iret ⟨⟨_, rfl, u11⟩, rfl⟩ dX7_areSizes_46 (Or.inr ⟨rfl, by decide⟩)
      · have c10 : x7.toInt = 24 := ti_ne_n c10
        refine mp_a (a_iconst (v := 1) dX7_areSizes_41 rfl) (mpp 42 rfl ?_)
        refine mp_a (a_goto (t := 46) dX7_areSizes_42 (by decide)) ?_
        have u12 : 0 ≤ (1 : Int) ∧ (1 : Int) ≤ 1 ∧ ((1 : Int) = 0 ∨ (2 ≤ t2.toInt ∧ (t1.toInt ≠ 0 ∨ t2.toInt ≤ 7))) := by omega
        exact mp_iret ⟨⟨_, rfl, u12⟩, rfl⟩ dX7_areSizes_46 (Or.inr ⟨rfl, by decide⟩)
    · have c2 : t2.toInt ≠ 4 := ti_eq_n c2
      refine mp_a (a_iload_n dX7_areSizes_19 rfl) (mpp 20 rfl ?_)
      refine mp_a (a_bipush (v := 6) dX7_areSizes_20 rfl) (mpp 22 rfl ?_)
      refine mp_Tb (t := 31) (j_icmp_eq dX7_areSizes_22) (by decide) (fun c13 => ?_) (fun c13 => mpp 25 rfl ?_)
      · have c13 : t2.toInt = 6 := ti_eq c13
        refine mp_a (a_aload_n dX7_areSizes_31 rfl) (mpp 32 rfl ?_)
        refine mp_a (a_iload_n dX7_areSizes_32 rfl) (mpp 33 rfl ?_)
        have p14 : t2.toInt ≤ 8 := by omega
        refine mt_callv (i := 98) (q' := q_131) (As := [.int t2]) (rest := []) hT dX7_areSizes_33 rfl qm_131 (by decide) rfl rl_301 (by decide) rfl (Nat.le_of_ble_eq_true rfl) rfl ⟨rfl, rfl⟩ ⟨Nat.le_of_ble_eq_true rfl, Nat.le_of_ble_eq_true rfl⟩ (EvP.mono (by decide) (c_M_sumOfNew hT p14 )) (fun r15 P16 g17 => mpp 36 rfl ?_)
        obtain ⟨⟨x18, rfl, g19⟩, e20⟩ := g17
        have e20 := e20.symm
        subst e20
        have wx18 := ti_full x18
        show MEvP _ none q_130 36 [(0, .ref 301), (1, .int t1), (2, .int t2)] [.int x18] _ _ _ _
        refine mp_a (a_bipush (v := 24) dX7_areSizes_36 rfl) (mpp 38 rfl ?_)
        refine mp_Tb (t := 45) (j_icmp_ne dX7_areSizes_38) (by decide) (fun c21 => ?_) (fun c21 => mpp 41 rfl ?_)
        · have c21 : x18.toInt ≠ 24 := ti_ne c21
          refine mp_a (a_iconst (v := 0) dX7_areSizes_45 rfl) (mpp 46 rfl ?_)
          have u22 : 0 ≤ (0 : Int) ∧ (0 : Int) ≤ 1 ∧ ((0 : Int) = 0 ∨ (2 ≤ t2.toInt ∧ (t1.toInt ≠ 0 ∨ t2.toInt ≤ 7))) := by omega
          exact mp_iret ⟨⟨_, rfl, u22⟩, rfl⟩ dX7_areSizes_46 (Or.inr ⟨rfl, by decide⟩)
        · have c21 : x18.toInt = 24 := ti_ne_n c21
          refine mp_a (a_iconst (v := 1) dX7_areSizes_41 rfl) (mpp 42 rfl ?_)
          refine mp_a (a_goto (t := 46) dX7_areSizes_42 (by decide)) ?_
          have u23 : 0 ≤ (1 : Int) ∧ (1 : Int) ≤ 1 ∧ ((1 : Int) = 0 ∨ (2 ≤ t2.toInt ∧ (t1.toInt ≠ 0 ∨ t2.toInt ≤ 7))) := by omega
          exact mp_iret ⟨⟨_, rfl, u23⟩, rfl⟩ dX7_areSizes_46 (Or.inr ⟨rfl, by decide⟩)
      · have c13 : t2.toInt ≠ 6 := ti_eq_n c13
        refine mp_a (a_iload_n dX7_areSizes_25 rfl) (mpp 26 rfl ?_)
        refine mp_a (a_bipush (v := 8) dX7_areSizes_26 rfl) (mpp 28 rfl ?_)
        refine mp_Tb (t := 45) (j_icmp_ne dX7_areSizes_28) (by decide) (fun c24 => ?_) (fun c24 => mpp 31 rfl ?_)
        · have c24 : t2.toInt ≠ 8 := ti_ne c24
          refine mp_a (a_iconst (v := 0) dX7_areSizes_45 rfl) (mpp 46 rfl ?_)
          have u25 : 0 ≤ (0 : Int) ∧ (0 : Int) ≤ 1 ∧ ((0 : Int) = 0 ∨ (2 ≤ t2.toInt ∧ (t1.toInt ≠ 0 ∨ t2.toInt ≤ 7))) := by omega
          exact mp_iret ⟨⟨_, rfl, u25⟩, rfl⟩ dX7_areSizes_46 (Or.inr ⟨rfl, by decide⟩)
        · have c24 : t2.toInt = 8 := ti_ne_n c24
          refine mp_a (a_aload_n dX7_areSizes_31 rfl) (mpp 32 rfl ?_)
          refine mp_a (a_iload_n dX7_areSizes_32 rfl) (mpp 33 rfl ?_)
          have p26 : t2.toInt ≤ 8 := by omega
          refine mt_callv (i := 98) (q' := q_131) (As := [.int t2]) (rest := []) hT dX7_areSizes_33 rfl qm_131 (by decide) rfl rl_301 (by decide) rfl (Nat.le_of_ble_eq_true rfl) rfl ⟨rfl, rfl⟩ ⟨Nat.le_of_ble_eq_true rfl, Nat.le_of_ble_eq_true rfl⟩ (EvP.mono (by decide) (c_M_sumOfNew hT p26 )) (fun r27 P28 g29 => mpp 36 rfl ?_)
          obtain ⟨⟨x30, rfl, g31⟩, e32⟩ := g29
          have e32 := e32.symm
          subst e32
          have wx30 := ti_full x30
          show MEvP _ none q_130 36 [(0, .ref 301), (1, .int t1), (2, .int t2)] [.int x30] _ _ _ _
          refine mp_a (a_bipush (v := 24) dX7_areSizes_36 rfl) (mpp 38 rfl ?_)
          refine mp_Tb (t := 45) (j_icmp_ne dX7_areSizes_38) (by decide) (fun c33 => ?_) (fun c33 => mpp 41 rfl ?_)
          · have c33 : x30.toInt ≠ 24 := ti_ne c33
            refine mp_a (a_iconst (v := 0) dX7_areSizes_45 rfl) (mpp 46 rfl ?_)
            have u34 : 0 ≤ (0 : Int) ∧ (0 : Int) ≤ 1 ∧ ((0 : Int) = 0 ∨ (2 ≤ t2.toInt ∧ (t1.toInt ≠ 0 ∨ t2.toInt ≤ 7))) := by omega
            exact mp_iret ⟨⟨_, rfl, u34⟩, rfl⟩ dX7_areSizes_46 (Or.inr ⟨rfl, by decide⟩)
          · have c33 : x30.toInt = 24 := ti_ne_n c33
            refine mp_a (a_iconst (v := 1) dX7_areSizes_41 rfl) (mpp 42 rfl ?_)
            refine mp_a (a_goto (t := 46) dX7_areSizes_42 (by decide)) ?_
            have u35 : 0 ≤ (1 : Int) ∧ (1 : Int) ≤ 1 ∧ ((1 : Int) = 0 ∨ (2 ≤ t2.toInt ∧ (t1.toInt ≠ 0 ∨ t2.toInt ≤ 7))) := by omega
            exact mp_iret ⟨⟨_, rfl, u35⟩, rfl⟩ dX7_areSizes_46 (Or.inr ⟨rfl, by decide⟩)
  · have c1 : t1.toInt = 0 := ti_ne_n c1
    refine mp_a (a_iload_n dX7_areSizes_4 rfl) (mpp 5 rfl ?_)
    refine mp_a (a_iconst (v := 2) dX7_areSizes_5 rfl) (mpp 6 rfl ?_)
    refine mp_a (a_bipush (v := 7) dX7_areSizes_6 rfl) (mpp 8 rfl ?_)
    refine mp_calls (i := 61) (q' := q_127) (As := [.int t2, .int 2, .int 7]) (rest := []) dX7_areSizes_8 rfl qm_127 (by decide) rfl (Nat.le_of_ble_eq_true rfl) rfl ⟨rfl, rfl⟩ ⟨Nat.le_of_ble_eq_true rfl, Nat.le_of_ble_eq_true rfl⟩ (EvP.mono (by decide) (c_M_isIn hT )) (fun r36 P37 g38 => mpp 11 rfl ?_)
    obtain ⟨⟨x39, rfl, g40⟩, e41⟩ := g38
    have e41 := e41.symm
    subst e41
    have wx39 := ti_full x39
    have g40 : 0 ≤ x39.toInt ∧ x39.toInt ≤ 1 ∧ ((x39.toInt = 1 ∧ (2 : Int) ≤ t2.toInt ∧ t2.toInt ≤ (7 : Int)) ∨ (x39.toInt = 0 ∧ (t2.toInt < (2 : Int) ∨ (7 : Int) < t2.toInt))) := g40
    show MEvP _ none q_130 11 [(0, .ref 301), (1, .int t1), (2, .int t2)] [.int x39] _ _ _ _
    refine mp_a (a_goto (t := 46) dX7_areSizes_11 (by decide)) ?_
    have u42 : 0 ≤ x39.toInt ∧ x39.toInt ≤ 1 ∧ (x39.toInt = 0 ∨ (2 ≤ t2.toInt ∧ (t1.toInt ≠ 0 ∨ t2.toInt ≤ 7))) := by omega
    exact mp_iret ⟨⟨_, rfl, u42⟩, rfl⟩ dX7_areSizes_46 (Or.inr ⟨rfl, ti_01 (by omega)⟩)

set_option maxHeartbeats 4000000 in
theorem c_M_laysCreases_l24 {Po : mP} {t1 : Int32} {t2 : Int32} (hp0 : 0 ≤ t2.toInt) (hp1 : t2.toInt ≤ 8)  : ∀ (n : Nat) (v3 : Int32) (v4 : Int32) (v5 : Int32), ∀ (P : mP), Typ P → KW [1472] Po P → (v5.toInt ≤ 7) → (0 ≤ v4.toInt) → (v4.toInt ≤ 1) → (v5.toInt + 1).toNat = n → MEvP 1 none q_132 24 [(0, .ref 301), (1, .int t1), (2, .int t2), (3, .int v3), (4, .int v4), (5, .int v5)] [] P 0 0 (fun r P' => (∃ x : Int32, r = some (.int x) ∧ (0 ≤ x.toInt ∧ x.toInt ≤ 1)) ∧ Typ P' ∧ KW [1472] Po P' ∧ True) := by
  intro n
  induction n using Nat.strongRecOn with | _ n ih => ?_
  intro v3 v4 v5 P hT hK i_0 i_1 i_2 hm
  have w_t1 := ti_full t1
  have w_t2 := ti_full t2
  have w_v3 := ti_full v3
  have w_v4 := ti_full v4
  have w_v5 := ti_full v5
  refine mp_a (a_iload dX7_laysCreases_24 rfl) (mpp 26 rfl ?_)
  refine mp_Tb (t := 74) (j_if_lt dX7_laysCreases_26) (by decide) (fun c1 => ?_) (fun c1 => mpp 29 rfl ?_)
  · have c1 : v5.toInt < 0 := ti_lt c1
    refine mp_a (a_iload dX7_laysCreases_74 rfl) (mpp 76 rfl ?_)
    have u2 : 0 ≤ v4.toInt ∧ v4.toInt ≤ 1 := by omega
    exact mp_iret ⟨⟨_, rfl, u2⟩, hT, hK, trivial⟩ dX7_laysCreases_76 (Or.inr ⟨rfl, ti_01 (by omega)⟩)
  · have c1 : v5.toInt ≥ 0 := ti_lt_n c1
    refine mp_a (a_aload_n dX7_laysCreases_29 rfl) (mpp 30 rfl ?_)
    refine mt_getU (i := 25) (k := 10) (A := 307) hT dX7_laysCreases_30 rfl rl_301 (by decide) rfl (by decide) rfl un_23 (mpp 33 rfl ?_)
    refine mp_a (a_iload dX7_laysCreases_33 rfl) (mpp 35 rfl ?_)
    refine mp_a (a_iload_n dX7_laysCreases_35 rfl) (mpp 36 rfl ?_)
    refine mp_a (a_bipush (v := 10) dX7_laysCreases_36 rfl) (mpp 38 rfl ?_)
    obtain ⟨z3, h4⟩ := ti_ex (v3 - v3 / 10 * 10 : Int32)
    have wz3 := ti_full z3
    try have e5 : 0 ≤ z3.toInt ∧ z3.toInt < 10 := ti_rem h4 (show (0 : Int) ≤ v3.toInt by omega) (show (0 : Int) < 10 by omega)
    refine mp_t (s_irem (v := z3) dX7_laysCreases_38 (by decide) h4) (mpp 39 rfl ?_)
    refine mt_ias (n := 8) hT dX7_laysCreases_39 rl_307 (by decide) rfl rfl (by omega) (by omega) rfl (ti_full z3) (fun P6 hT7 f8 f9 f10 => mpp 40 rfl ?_)
    have k11 : KW [1472] Po P6 := KW.step hK rl_307 rfl f9 f10
    refine mp_a (a_iload_n dX7_laysCreases_40 rfl) (mpp 41 rfl ?_)
    refine mp_a (a_bipush (v := 10) dX7_laysCreases_41 rfl) (mpp 43 rfl ?_)
    obtain ⟨z12, h13⟩ := ti_ex (v3 / 10 : Int32)
    have wz12 := ti_full z12
    try have e14 : z12.toInt = v3.toInt / 10 := ti_div h13 (show (0 : Int) ≤ v3.toInt by omega) (show (0 : Int) < 10 by omega)
    refine mp_t (s_idiv (v := z12) dX7_laysCreases_43 (by decide) h13) (mpp 44 rfl ?_)
    refine mp_a (a_istore_n (L' := [(3, .int z12), (0, .ref 301), (1, .int t1), (2, .int t2), (4, .int v4), (5, .int v5)]) dX7_laysCreases_44 (by decide) rfl) (mpp 45 rfl ?_)
    refine mp_a (a_iload dX7_laysCreases_45 rfl) (mpp 47 rfl ?_)
    refine mp_Tb (t := 65) (j_if_eq dX7_laysCreases_47) (by decide) (fun c15 => ?_) (fun c15 => mpp 50 rfl ?_)
    · have c15 : v4.toInt = 0 := ti_eq c15
      refine mp_a (a_iconst (v := 0) dX7_laysCreases_65 rfl) (mpp 66 rfl ?_)
      refine mp_a (a_istore (L' := [(4, .int 0), (3, .int z12), (0, .ref 301), (1, .int t1), (2, .int t2), (5, .int v5)]) dX7_laysCreases_66 (by decide) rfl) (mpp 68 rfl ?_)
      obtain ⟨z16, h17⟩ := ti_ex (v5 + (-1) : Int32)
      have wz16 := ti_full z16
      refine mp_a (a_iinc (v := z16) (L' := [(5, .int z16), (4, .int 0), (3, .int z12), (0, .ref 301), (1, .int t1), (2, .int t2)]) dX7_laysCreases_68 (by decide) rfl h17 rfl) (mpp 71 rfl ?_)
      try have e18 : z16.toInt = v5.toInt + (-1) := ti_addz h17 rfl rfl (by omega) (by omega)
      refine mp_a (a_goto (t := 24) dX7_laysCreases_71 (by decide)) ?_
      refine MEvP.less (L := [(0, .ref 301), (1, .int t1), (2, .int t2), (3, .int z12), (4, .int 0), (5, .int z16)]) rfl rfl ⟨rfl, rfl, rfl, rfl, rfl, rfl, trivial⟩ ?_
      have i19 : z16.toInt ≤ 7 := by omega
      have i20 : 0 ≤ (0 : Int) := by omega
      have i21 : (0 : Int) ≤ 1 := by omega
      exact ih _ (by omega) _ _ _ P6 hT7 k11 i19 i20 i21 rfl
    · have c15 : v4.toInt ≠ 0 := ti_eq_n c15
      refine mp_a (a_aload_n dX7_laysCreases_50 rfl) (mpp 51 rfl ?_)
      refine mt_getU (i := 25) (k := 10) (A := 307) hT7 dX7_laysCreases_51 rfl rl_301 (by decide) rfl (by decide) rfl un_23 (mpp 54 rfl ?_)
      refine mp_a (a_iload dX7_laysCreases_54 rfl) (mpp 56 rfl ?_)
      refine mt_ial (n := 8) hT7 dX7_laysCreases_56 rl_307 (by decide) rfl rfl (by omega) (by omega) rfl (fun g22 g23 => mpp 57 rfl ?_)
      refine mp_a (a_iconst (v := 2) dX7_laysCreases_57 rfl) (mpp 58 rfl ?_)
      refine mp_Tb (t := 65) (j_icmp_gt dX7_laysCreases_58) (by decide) (fun c24 => ?_) (fun c24 => mpp 61 rfl ?_)
      · have c24 : (fv P6 307 v5.toInt.toNat).toInt > 2 := ti_gt c24
        refine mp_a (a_iconst (v := 0) dX7_laysCreases_65 rfl) (mpp 66 rfl ?_)
        refine mp_a (a_istore (L' := [(4, .int 0), (3, .int z12), (0, .ref 301), (1, .int t1), (2, .int t2), (5, .int v5)]) dX7_laysCreases_66 (by decide) rfl) (mpp 68 rfl ?_)
        obtain ⟨z25, h26⟩ := ti_ex (v5 + (-1) : Int32)
        have wz25 := ti_full z25
        refine mp_a (a_iinc (v := z25) (L' := [(5, .int z25), (4, .int 0), (3, .int z12), (0, .ref 301), (1, .int t1), (2, .int t2)]) dX7_laysCreases_68 (by decide) rfl h26 rfl) (mpp 71 rfl ?_)
        try have e27 : z25.toInt = v5.toInt + (-1) := ti_addz h26 rfl rfl (by omega) (by omega)
        refine mp_a (a_goto (t := 24) dX7_laysCreases_71 (by decide)) ?_
        refine MEvP.less (L := [(0, .ref 301), (1, .int t1), (2, .int t2), (3, .int z12), (4, .int 0), (5, .int z25)]) rfl rfl ⟨rfl, rfl, rfl, rfl, rfl, rfl, trivial⟩ ?_
        have i28 : z25.toInt ≤ 7 := by omega
        have i29 : 0 ≤ (0 : Int) := by omega
        have i30 : (0 : Int) ≤ 1 := by omega
        exact ih _ (by omega) _ _ _ P6 hT7 k11 i28 i29 i30 rfl
      · have c24 : (fv P6 307 v5.toInt.toNat).toInt ≤ 2 := ti_gt_n c24
        refine mp_a (a_iconst (v := 1) dX7_laysCreases_61 rfl) (mpp 62 rfl ?_)
        refine mp_a (a_goto (t := 66) dX7_laysCreases_62 (by decide)) ?_
        refine mp_a (a_istore (L' := [(4, .int 1), (3, .int z12), (0, .ref 301), (1, .int t1), (2, .int t2), (5, .int v5)]) dX7_laysCreases_66 (by decide) rfl) (mpp 68 rfl ?_)
        obtain ⟨z31, h32⟩ := ti_ex (v5 + (-1) : Int32)
        have wz31 := ti_full z31
        refine mp_a (a_iinc (v := z31) (L' := [(5, .int z31), (4, .int 1), (3, .int z12), (0, .ref 301), (1, .int t1), (2, .int t2)]) dX7_laysCreases_68 (by decide) rfl h32 rfl) (mpp 71 rfl ?_)
        try have e33 : z31.toInt = v5.toInt + (-1) := ti_addz h32 rfl rfl (by omega) (by omega)
        refine mp_a (a_goto (t := 24) dX7_laysCreases_71 (by decide)) ?_
        refine MEvP.less (L := [(0, .ref 301), (1, .int t1), (2, .int t2), (3, .int z12), (4, .int 1), (5, .int z31)]) rfl rfl ⟨rfl, rfl, rfl, rfl, rfl, rfl, trivial⟩ ?_
        have i34 : z31.toInt ≤ 7 := by omega
        have i35 : 0 ≤ (1 : Int) := by omega
        have i36 : (1 : Int) ≤ 1 := by omega
        exact ih _ (by omega) _ _ _ P6 hT7 k11 i34 i35 i36 rfl

set_option maxHeartbeats 4000000 in
theorem c_M_laysCreases {Po : mP} {t1 : Int32} {t2 : Int32} (hT : Typ Po)  (hp0 : 0 ≤ t2.toInt) (hp1 : t2.toInt ≤ 8)  : EvP 2 132 [.ref 301, .int t1, .int t2] Po (fun r P' => (∃ x : Int32, r = some (.int x) ∧ (0 ≤ x.toInt ∧ x.toInt ≤ 1)) ∧ Typ P' ∧ KW [1472] Po P' ∧ True) := by
  refine EvP.of qm_132 (Nat.le_of_ble_eq_true rfl) rfl ?_
  show MEvP _ none q_132 0 [(0, .ref 301), (1, .int t1), (2, .int t2)] [] _ 0 0 _
  refine mp_a (a_iload_n dX7_laysCreases_0 rfl) (mpp 1 rfl ?_)
  refine mp_Tb (t := 12) (j_if_lt dX7_laysCreases_1) (by decide) (fun c1 => ?_) (fun c1 => mpp 4 rfl ?_)
  · have c1 : t1.toInt < 0 := ti_lt c1
    refine mp_a (a_iconst (v := 0) dX7_laysCreases_12 rfl) (mpp 13 rfl ?_)
    have u2 : 0 ≤ (0 : Int) ∧ (0 : Int) ≤ 1 := by omega
    exact mp_iret ⟨⟨_, rfl, u2⟩, hT, KW.refl, trivial⟩ dX7_laysCreases_13 (Or.inr ⟨rfl, by decide⟩)
  · have c1 : t1.toInt ≥ 0 := ti_lt_n c1
    refine mp_a (a_iload_n dX7_laysCreases_4 rfl) (mpp 5 rfl ?_)
    refine mp_calls (i := 95) (q' := q_129) (As := [.int t1]) (rest := []) dX7_laysCreases_5 rfl qm_129 (by decide) rfl (Nat.le_of_ble_eq_true rfl) rfl ⟨rfl, rfl⟩ ⟨Nat.le_of_ble_eq_true rfl, Nat.le_of_ble_eq_true rfl⟩ (EvP.mono (by decide) (c_M_digits hT )) (fun r3 P4 g5 => mpp 8 rfl ?_)
    obtain ⟨⟨x6, rfl, g7⟩, e8⟩ := g5
    have e8 := e8.symm
    subst e8
    have wx6 := ti_full x6
    show MEvP _ none q_132 8 [(0, .ref 301), (1, .int t1), (2, .int t2)] [.int x6] _ _ _ _
    refine mp_a (a_iload_n dX7_laysCreases_8 rfl) (mpp 9 rfl ?_)
    refine mp_Tb (t := 14) (j_icmp_le dX7_laysCreases_9) (by decide) (fun c9 => ?_) (fun c9 => mpp 12 rfl ?_)
    · have c9 : x6.toInt ≤ t2.toInt := ti_le c9
      refine mp_a (a_iload_n dX7_laysCreases_14 rfl) (mpp 15 rfl ?_)
      refine mp_a (a_istore_n (L' := [(3, .int t1), (0, .ref 301), (1, .int t1), (2, .int t2)]) dX7_laysCreases_15 (by decide) rfl) (mpp 16 rfl ?_)
      refine mp_a (a_iconst (v := 1) dX7_laysCreases_16 rfl) (mpp 17 rfl ?_)
      refine mp_a (a_istore (L' := [(4, .int 1), (3, .int t1), (0, .ref 301), (1, .int t1), (2, .int t2)]) dX7_laysCreases_17 (by decide) rfl) (mpp 19 rfl ?_)
      refine mp_a (a_iload_n dX7_laysCreases_19 rfl) (mpp 20 rfl ?_)
      refine mp_a (a_iconst (v := 1) dX7_laysCreases_20 rfl) (mpp 21 rfl ?_)
      obtain ⟨z10, h11⟩ := ti_ex (t2 - 1 : Int32)
      have wz10 := ti_full z10
      refine mp_t (s_isub (v := z10) dX7_laysCreases_21 h11) (mpp 22 rfl ?_)
      try have e12 : z10.toInt = t2.toInt - 1 := ti_subz h11 rfl rfl (by omega) (by omega)
      refine mp_a (a_istore (L' := [(5, .int z10), (4, .int 1), (3, .int t1), (0, .ref 301), (1, .int t1), (2, .int t2)]) dX7_laysCreases_22 (by decide) rfl) (mpp 24 rfl ?_)
      refine MEvP.less (L := [(0, .ref 301), (1, .int t1), (2, .int t2), (3, .int t1), (4, .int 1), (5, .int z10)]) rfl rfl ⟨rfl, rfl, rfl, rfl, rfl, rfl, trivial⟩ ?_
      have i13 : z10.toInt ≤ 7 := by omega
      have i14 : 0 ≤ (1 : Int) := by omega
      have i15 : (1 : Int) ≤ 1 := by omega
      exact c_M_laysCreases_l24   hp0 hp1 _ _ _ _ Po hT KW.refl i13 i14 i15 rfl
    · have c9 : x6.toInt > t2.toInt := ti_le_n c9
      refine mp_a (a_iconst (v := 0) dX7_laysCreases_12 rfl) (mpp 13 rfl ?_)
      have u16 : 0 ≤ (0 : Int) ∧ (0 : Int) ≤ 1 := by omega
      exact mp_iret ⟨⟨_, rfl, u16⟩, hT, KW.refl, trivial⟩ dX7_laysCreases_13 (Or.inr ⟨rfl, by decide⟩)

set_option maxHeartbeats 4000000 in
theorem c_M_creases {Po : mP} {t1 : Int32} (hT : Typ Po)  (hp0 : 0 ≤ t1.toInt) (hp1 : t1.toInt ≤ 7)  : EvP 4 136 [.ref 301, .int t1] Po (fun r P' => (∃ x : Int32, r = some (.int x) ∧ (-1 ≤ x.toInt ∧ x.toInt ≤ 8 ∧ (((fv Po 302 (3 + 19 * t1.toInt.toNat)).toInt = 1 ∧ x.toInt = (fv Po 302 (4 + 19 * t1.toInt.toNat)).toInt) ∨ ((fv Po 302 (3 + 19 * t1.toInt.toNat)).toInt = 0 ∧ x.toInt = (fv Po 302 (4 + 19 * t1.toInt.toNat)).toInt - 1)))) ∧ P' = Po) := by
  refine EvP.of qm_136 (Nat.le_of_ble_eq_true rfl) rfl ?_
  show MEvP _ none q_136 0 [(0, .ref 301), (1, .int t1)] [] _ 0 0 _
  have g1 := ti_full (fv Po 302 (3 + 19 * t1.toInt.toNat))
  have g2 := ti_full (fv Po 302 (4 + 19 * t1.toInt.toNat))
  refine mp_a (a_aload_n dX7_creases_0 rfl) (mpp 1 rfl ?_)
  refine mp_a (a_iload_n dX7_creases_1 rfl) (mpp 2 rfl ?_)
  refine mp_a (a_iconst (v := 1) dX7_creases_2 rfl) (mpp 3 rfl ?_)
  have p3 : 0 ≤ t1.toInt := by omega
  have p4 : t1.toInt ≤ 7 := by omega
  have p5 : 0 ≤ (1 : Int) := by omega
  have p6 : (1 : Int) ≤ 18 := by omega
  refine mt_callv (i := 78) (q' := q_137) (As := [.int t1, .int 1]) (rest := []) hT dX7_creases_3 rfl qm_137 (by decide) rfl rl_301 (by decide) rfl (Nat.le_of_ble_eq_true rfl) rfl ⟨rfl, rfl⟩ ⟨Nat.le_of_ble_eq_true rfl, Nat.le_of_ble_eq_true rfl⟩ (EvP.mono (by decide) (c_M_of_c1 hT p3 p4 p5 p6 )) (fun r7 P8 g9 => mpp 6 rfl ?_)
  obtain ⟨⟨x10, rfl, g11⟩, e12⟩ := g9
  have e12 := e12.symm
  subst e12
  have wx10 := ti_full x10
  have g11 : x10.toInt = (fv Po 302 (4 + 19 * t1.toInt.toNat)).toInt ∧ 0 ≤ x10.toInt ∧ x10.toInt ≤ 8 := g11
  show MEvP _ none q_136 6 [(0, .ref 301), (1, .int t1)] [.int x10] _ _ _ _
  refine mp_a (a_aload_n dX7_creases_6 rfl) (mpp 7 rfl ?_)
  refine mp_a (a_iload_n dX7_creases_7 rfl) (mpp 8 rfl ?_)
  have p13 : 0 ≤ t1.toInt := by omega
  have p14 : t1.toInt ≤ 7 := by omega
  refine mt_callv (i := 81) (q' := q_138) (As := [.int t1]) (rest := [.int x10]) hT dX7_creases_8 rfl qm_138 (by decide) rfl rl_301 (by decide) rfl (Nat.le_of_ble_eq_true rfl) rfl ⟨rfl, rfl⟩ ⟨Nat.le_of_ble_eq_true rfl, Nat.le_of_ble_eq_true rfl⟩ (EvP.mono (by decide) (c_M_isCorner hT p13 p14 )) (fun r15 P16 g17 => mpp 11 rfl ?_)
  obtain ⟨⟨x18, rfl, g19⟩, e20⟩ := g17
  have e20 := e20.symm
  subst e20
  have wx18 := ti_full x18
  have g19 : 0 ≤ x18.toInt ∧ x18.toInt ≤ 1 ∧ ((x18.toInt = 1 ∧ (fv Po 302 (3 + 19 * t1.toInt.toNat)).toInt = 1) ∨ (x18.toInt = 0 ∧ (fv Po 302 (3 + 19 * t1.toInt.toNat)).toInt = 0)) := g19
  show MEvP _ none q_136 11 [(0, .ref 301), (1, .int t1)] [.int x18, .int x10] _ _ _ _
  refine mp_Tb (t := 18) (j_if_eq dX7_creases_11) (by decide) (fun c21 => ?_) (fun c21 => mpp 14 rfl ?_)
  · have c21 : x18.toInt = 0 := ti_eq c21
    refine mp_a (a_iconst (v := 1) dX7_creases_18 rfl) (mpp 19 rfl ?_)
    obtain ⟨z22, h23⟩ := ti_ex (x10 - 1 : Int32)
    have wz22 := ti_full z22
    refine mp_t (s_isub (v := z22) dX7_creases_19 h23) (mpp 20 rfl ?_)
    try have e24 : z22.toInt = x10.toInt - 1 := ti_subz h23 rfl rfl (by omega) (by omega)
    have u25 : -1 ≤ z22.toInt ∧ z22.toInt ≤ 8 ∧ (((fv Po 302 (3 + 19 * t1.toInt.toNat)).toInt = 1 ∧ z22.toInt = (fv Po 302 (4 + 19 * t1.toInt.toNat)).toInt) ∨ ((fv Po 302 (3 + 19 * t1.toInt.toNat)).toInt = 0 ∧ z22.toInt = (fv Po 302 (4 + 19 * t1.toInt.toNat)).toInt - 1)) := by omega
    exact mp_iret ⟨⟨_, rfl, u25⟩, rfl⟩ dX7_creases_20 (Or.inl rfl)
  · have c21 : x18.toInt ≠ 0 := ti_eq_n c21
    refine mp_a (a_iconst (v := 0) dX7_creases_14 rfl) (mpp 15 rfl ?_)
    refine mp_a (a_goto (t := 19) dX7_creases_15 (by decide)) ?_
    obtain ⟨z26, h27⟩ := ti_ex (x10 - 0 : Int32)
    have wz26 := ti_full z26
    refine mp_t (s_isub (v := z26) dX7_creases_19 h27) (mpp 20 rfl ?_)
    try have e28 : z26.toInt = x10.toInt - 0 := ti_subz h27 rfl rfl (by omega) (by omega)
    have u29 : -1 ≤ z26.toInt ∧ z26.toInt ≤ 8 ∧ (((fv Po 302 (3 + 19 * t1.toInt.toNat)).toInt = 1 ∧ z26.toInt = (fv Po 302 (4 + 19 * t1.toInt.toNat)).toInt) ∨ ((fv Po 302 (3 + 19 * t1.toInt.toNat)).toInt = 0 ∧ z26.toInt = (fv Po 302 (4 + 19 * t1.toInt.toNat)).toInt - 1)) := by omega
    exact mp_iret ⟨⟨_, rfl, u29⟩, rfl⟩ dX7_creases_20 (Or.inl rfl)

set_option maxHeartbeats 4000000 in
theorem c_M_adds_l72 {Po : mP} {t1 : Int32} {t2 : Int32} (hp0 : 0 ≤ t1.toInt) (hp1 : t1.toInt ≤ 1) (hp2 : 2 ≤ t2.toInt) (hp3 : t2.toInt ≤ 8) (hp4 : t1.toInt ≠ 0 ∨ t2.toInt ≤ 7)  : ∀ (n : Nat) (v3 : Int32) (v4 : Int32), ∀ (P : mP), Typ P → KW [1093, 1094, 1152] Po P → Rel P → (0 ≤ v3.toInt) → (v3.toInt ≤ 7) → (0 ≤ v4.toInt) → (2147483647 - v4.toInt).toNat = n → MEvP 4 none q_133 72 [(0, .ref 301), (1, .int t1), (2, .int t2), (3, .int v3), (4, .int v4)] [] P 0 0 (fun r P' => (∃ x : Int32, r = some (.int x) ∧ (True)) ∧ Typ P' ∧ KW [1093, 1094, 1152] Po P' ∧ Rel P') := by
  intro n
  induction n using Nat.strongRecOn with | _ n ih => ?_
  intro v3 v4 P hT hK hR i_0 i_1 i_2 hm
  have w_t1 := ti_full t1
  have w_t2 := ti_full t2
  have w_v3 := ti_full v3
  have w_v4 := ti_full v4
  refine mp_a (a_iload dX7_adds_72 rfl) (mpp 74 rfl ?_)
  refine mp_a (a_bipush (v := 8) dX7_adds_74 rfl) (mpp 76 rfl ?_)
  refine mp_Tb (t := 150) (j_icmp_ge dX7_adds_76) (by decide) (fun c1 => ?_) (fun c1 => mpp 79 rfl ?_)
  · have c1 : v4.toInt ≥ 8 := ti_ge c1
    refine mp_a (a_iload_n dX7_adds_150 rfl) (mpp 151 rfl ?_)
    exact mp_iret ⟨⟨_, rfl, trivial⟩, hT, hK, hR⟩ dX7_adds_151 (Or.inl rfl)
  · have c1 : v4.toInt < 8 := ti_ge_n c1
    refine mp_a (a_aload_n dX7_adds_79 rfl) (mpp 80 rfl ?_)
    refine mt_getU (i := 9) (k := 0) (A := 302) hT dX7_adds_80 rfl rl_301 (by decide) rfl (by decide) rfl un_18 (mpp 83 rfl ?_)
    refine mp_a (a_iload_n dX7_adds_83 rfl) (mpp 84 rfl ?_)
    refine mp_a (a_iconst (v := 3) dX7_adds_84 rfl) (mpp 85 rfl ?_)
    refine mp_a (a_iload dX7_adds_85 rfl) (mpp 87 rfl ?_)
    obtain ⟨z2, h3⟩ := ti_ex (3 + v4 : Int32)
    have wz2 := ti_full z2
    refine mp_t (s_iadd (v := z2) dX7_adds_87 h3) (mpp 88 rfl ?_)
    try have e4 : z2.toInt = 3 + v4.toInt := ti_addz h3 rfl rfl (by omega) (by omega)
    have p5 : 0 ≤ v3.toInt := by omega
    have p6 : v3.toInt ≤ 8 := by omega
    have p7 : 0 ≤ z2.toInt := by omega
    have p8 : z2.toInt ≤ 20 := by omega
    refine mp_calls (i := 74) (q' := q_135) (As := [.int v3, .int z2]) (rest := [.ref 302]) dX7_adds_88 rfl qm_135 (by decide) rfl (Nat.le_of_ble_eq_true rfl) rfl ⟨rfl, rfl⟩ ⟨Nat.le_of_ble_eq_true rfl, Nat.le_of_ble_eq_true rfl⟩ (EvP.mono (by decide) (c_M_at hT p5 p6 p7 p8 )) (fun r9 P10 g11 => mpp 91 rfl ?_)
    obtain ⟨⟨x12, rfl, g13⟩, e14⟩ := g11
    have e14 := e14.symm
    subst e14
    have wx12 := ti_full x12
    have g13 : x12.toInt = 3 + 19 * v3.toInt + z2.toInt := g13
    show MEvP _ none q_133 91 [(0, .ref 301), (1, .int t1), (2, .int t2), (3, .int v3), (4, .int v4)] [.int x12, .ref 302] _ _ _ _
    refine mp_a (a_iload dX7_adds_91 rfl) (mpp 93 rfl ?_)
    refine mp_a (a_iload_n dX7_adds_93 rfl) (mpp 94 rfl ?_)
    refine mp_Tb (t := 107) (j_icmp_ge dX7_adds_94) (by decide) (fun c15 => ?_) (fun c15 => mpp 97 rfl ?_)
    · have c15 : v4.toInt ≥ t2.toInt := ti_ge c15
      refine mp_a (a_iconst (v := 0) dX7_adds_107 rfl) (mpp 108 rfl ?_)
      refine mt_iasX (n := 155) hT dX7_adds_108 rl_302 (by decide) rfl rfl (by omega) (by omega) ssp_0 (okS_mk (by omega) (fun _ => ⟨by omega, by omega⟩) (fun _ => ⟨by omega, by omega⟩)) (fun P16 hT17 f18 f19 f20 => mpp 109 rfl ?_)
      have k21 : KW [1093, 1094, 1152] Po P16 := KW.step hK rl_302 rfl f19 f20
      have R22 := Rel.oth hR f19 (by omega)
      refine mp_a (a_aload_n dX7_adds_109 rfl) (mpp 110 rfl ?_)
      refine mt_getU (i := 9) (k := 0) (A := 302) hT17 dX7_adds_110 rfl rl_301 (by decide) rfl (by decide) rfl un_18 (mpp 113 rfl ?_)
      refine mp_a (a_iload_n dX7_adds_113 rfl) (mpp 114 rfl ?_)
      refine mp_a (a_bipush (v := 11) dX7_adds_114 rfl) (mpp 116 rfl ?_)
      refine mp_a (a_iload dX7_adds_116 rfl) (mpp 118 rfl ?_)
      obtain ⟨z23, h24⟩ := ti_ex (11 + v4 : Int32)
      have wz23 := ti_full z23
      refine mp_t (s_iadd (v := z23) dX7_adds_118 h24) (mpp 119 rfl ?_)
      try have e25 : z23.toInt = 11 + v4.toInt := ti_addz h24 rfl rfl (by omega) (by omega)
      have p26 : 0 ≤ v3.toInt := by omega
      have p27 : v3.toInt ≤ 8 := by omega
      have p28 : 0 ≤ z23.toInt := by omega
      have p29 : z23.toInt ≤ 20 := by omega
      refine mp_calls (i := 74) (q' := q_135) (As := [.int v3, .int z23]) (rest := [.ref 302]) dX7_adds_119 rfl qm_135 (by decide) rfl (Nat.le_of_ble_eq_true rfl) rfl ⟨rfl, rfl⟩ ⟨Nat.le_of_ble_eq_true rfl, Nat.le_of_ble_eq_true rfl⟩ (EvP.mono (by decide) (c_M_at hT17 p26 p27 p28 p29 )) (fun r30 P31 g32 => mpp 122 rfl ?_)
      obtain ⟨⟨x33, rfl, g34⟩, e35⟩ := g32
      have e35 := e35.symm
      subst e35
      have wx33 := ti_full x33
      have g34 : x33.toInt = 3 + 19 * v3.toInt + z23.toInt := g34
      show MEvP _ none q_133 122 [(0, .ref 301), (1, .int t1), (2, .int t2), (3, .int v3), (4, .int v4)] [.int x33, .ref 302] _ _ _ _
      refine mp_a (a_iload dX7_adds_122 rfl) (mpp 124 rfl ?_)
      refine mp_a (a_aload_n dX7_adds_124 rfl) (mpp 125 rfl ?_)
      refine mp_a (a_iload_n dX7_adds_125 rfl) (mpp 126 rfl ?_)
      have p36 : 0 ≤ v3.toInt := by omega
      have p37 : v3.toInt ≤ 7 := by omega
      refine mt_callv (i := 88) (q' := q_136) (As := [.int v3]) (rest := [.int v4, .int x33, .ref 302]) hT17 dX7_adds_126 rfl qm_136 (by decide) rfl rl_301 (by decide) rfl (Nat.le_of_ble_eq_true rfl) rfl ⟨rfl, rfl⟩ ⟨Nat.le_of_ble_eq_true rfl, Nat.le_of_ble_eq_true rfl⟩ (EvP.mono (by decide) (c_M_creases hT17 p36 p37 )) (fun r38 P39 g40 => mpp 129 rfl ?_)
      obtain ⟨⟨x41, rfl, g42⟩, e43⟩ := g40
      have e43 := e43.symm
      subst e43
      have wx41 := ti_full x41
      have g42 : -1 ≤ x41.toInt ∧ x41.toInt ≤ 8 ∧ (((fv P16 302 (3 + 19 * v3.toInt.toNat)).toInt = 1 ∧ x41.toInt = (fv P16 302 (4 + 19 * v3.toInt.toNat)).toInt) ∨ ((fv P16 302 (3 + 19 * v3.toInt.toNat)).toInt = 0 ∧ x41.toInt = (fv P16 302 (4 + 19 * v3.toInt.toNat)).toInt - 1)) := g42
      have g44 := ti_full (fv P16 302 (3 + 19 * v3.toInt.toNat))
      have g45 := ti_full (fv P16 302 (4 + 19 * v3.toInt.toNat))
      show MEvP _ none q_133 129 [(0, .ref 301), (1, .int t1), (2, .int t2), (3, .int v3), (4, .int v4)] [.int x41, .int v4, .int x33, .ref 302] _ _ _ _
      refine mp_Tb (t := 142) (j_icmp_ge dX7_adds_129) (by decide) (fun c46 => ?_) (fun c46 => mpp 132 rfl ?_)
      · have c46 : v4.toInt ≥ x41.toInt := ti_ge c46
        refine mp_a (a_iconst (v := 0) dX7_adds_142 rfl) (mpp 143 rfl ?_)
        refine mt_iasX (n := 155) hT17 dX7_adds_143 rl_302 (by decide) rfl rfl (by omega) (by omega) ssp_0 (okS_mk (by omega) (fun _ => ⟨by omega, by omega⟩) (fun _ => ⟨by omega, by omega⟩)) (fun P47 hT48 f49 f50 f51 => mpp 144 rfl ?_)
        have k52 : KW [1093, 1094, 1152] Po P47 := KW.step k21 rl_302 rfl f50 f51
        have R53 := Rel.oth R22 f50 (by omega)
        obtain ⟨z54, h55⟩ := ti_ex (v4 + 1 : Int32)
        have wz54 := ti_full z54
        refine mp_a (a_iinc (v := z54) (L' := [(4, .int z54), (0, .ref 301), (1, .int t1), (2, .int t2), (3, .int v3)]) dX7_adds_144 (by decide) rfl h55 rfl) (mpp 147 rfl ?_)
        try have e56 : z54.toInt = v4.toInt + 1 := ti_addz h55 rfl rfl (by omega) (by omega)
        refine mp_a (a_goto (t := 72) dX7_adds_147 (by decide)) ?_
        refine MEvP.less (L := [(0, .ref 301), (1, .int t1), (2, .int t2), (3, .int v3), (4, .int z54)]) rfl rfl ⟨rfl, rfl, rfl, rfl, rfl, trivial⟩ ?_
        have i57 : 0 ≤ v3.toInt := by omega
        have i58 : v3.toInt ≤ 7 := by omega
        have i59 : 0 ≤ z54.toInt := by omega
        exact ih _ (by omega) _ _ P47 hT48 k52 R53 i57 i58 i59 rfl
      · have c46 : v4.toInt < x41.toInt := ti_ge_n c46
        refine mp_a (a_aload_n dX7_adds_132 rfl) (mpp 133 rfl ?_)
        refine mt_getU (i := 25) (k := 10) (A := 307) hT17 dX7_adds_133 rfl rl_301 (by decide) rfl (by decide) rfl un_23 (mpp 136 rfl ?_)
        refine mp_a (a_iload dX7_adds_136 rfl) (mpp 138 rfl ?_)
        refine mt_ial (n := 8) hT17 dX7_adds_138 rl_307 (by decide) rfl rfl (by omega) (by omega) rfl (fun g60 g61 => mpp 139 rfl ?_)
        refine mp_a (a_goto (t := 143) dX7_adds_139 (by decide)) ?_
        refine mt_iasX (n := 155) hT17 dX7_adds_143 rl_302 (by decide) rfl rfl (by omega) (by omega) ssp_0 (okS_mk (by omega) (fun _ => ⟨by omega, by omega⟩) (fun _ => ⟨by omega, by omega⟩)) (fun P62 hT63 f64 f65 f66 => mpp 144 rfl ?_)
        have k67 : KW [1093, 1094, 1152] Po P62 := KW.step k21 rl_302 rfl f65 f66
        have R68 := Rel.oth R22 f65 (by omega)
        obtain ⟨z69, h70⟩ := ti_ex (v4 + 1 : Int32)
        have wz69 := ti_full z69
        refine mp_a (a_iinc (v := z69) (L' := [(4, .int z69), (0, .ref 301), (1, .int t1), (2, .int t2), (3, .int v3)]) dX7_adds_144 (by decide) rfl h70 rfl) (mpp 147 rfl ?_)
        try have e71 : z69.toInt = v4.toInt + 1 := ti_addz h70 rfl rfl (by omega) (by omega)
        refine mp_a (a_goto (t := 72) dX7_adds_147 (by decide)) ?_
        refine MEvP.less (L := [(0, .ref 301), (1, .int t1), (2, .int t2), (3, .int v3), (4, .int z69)]) rfl rfl ⟨rfl, rfl, rfl, rfl, rfl, trivial⟩ ?_
        have i72 : 0 ≤ v3.toInt := by omega
        have i73 : v3.toInt ≤ 7 := by omega
        have i74 : 0 ≤ z69.toInt := by omega
        exact ih _ (by omega) _ _ P62 hT63 k67 R68 i72 i73 i74 rfl
    · have c15 : v4.toInt < t2.toInt := ti_ge_n c15
      refine mp_a (a_aload_n dX7_adds_97 rfl) (mpp 98 rfl ?_)
      refine mt_getU (i := 22) (k := 9) (A := 306) hT dX7_adds_98 rfl rl_301 (by decide) rfl (by decide) rfl un_22 (mpp 101 rfl ?_)
      refine mp_a (a_iload dX7_adds_101 rfl) (mpp 103 rfl ?_)
      refine mt_ial (n := 8) hT dX7_adds_103 rl_306 (by decide) rfl rfl (by omega) (by omega) rfl (fun g75 g76 => mpp 104 rfl ?_)
      refine mp_a (a_goto (t := 108) dX7_adds_104 (by decide)) ?_
      refine mt_iasX (n := 155) hT dX7_adds_108 rl_302 (by decide) rfl rfl (by omega) (by omega) ssp_0 (okS_mk (by omega) (fun _ => ⟨by omega, by omega⟩) (fun _ => ⟨by omega, by omega⟩)) (fun P77 hT78 f79 f80 f81 => mpp 109 rfl ?_)
      have k82 : KW [1093, 1094, 1152] Po P77 := KW.step hK rl_302 rfl f80 f81
      have R83 := Rel.oth hR f80 (by omega)
      refine mp_a (a_aload_n dX7_adds_109 rfl) (mpp 110 rfl ?_)
      refine mt_getU (i := 9) (k := 0) (A := 302) hT78 dX7_adds_110 rfl rl_301 (by decide) rfl (by decide) rfl un_18 (mpp 113 rfl ?_)
      refine mp_a (a_iload_n dX7_adds_113 rfl) (mpp 114 rfl ?_)
      refine mp_a (a_bipush (v := 11) dX7_adds_114 rfl) (mpp 116 rfl ?_)
      refine mp_a (a_iload dX7_adds_116 rfl) (mpp 118 rfl ?_)
      obtain ⟨z84, h85⟩ := ti_ex (11 + v4 : Int32)
      have wz84 := ti_full z84
      refine mp_t (s_iadd (v := z84) dX7_adds_118 h85) (mpp 119 rfl ?_)
      try have e86 : z84.toInt = 11 + v4.toInt := ti_addz h85 rfl rfl (by omega) (by omega)
      have p87 : 0 ≤ v3.toInt := by omega
      have p88 : v3.toInt ≤ 8 := by omega
      have p89 : 0 ≤ z84.toInt := by omega
      have p90 : z84.toInt ≤ 20 := by omega
      refine mp_calls (i := 74) (q' := q_135) (As := [.int v3, .int z84]) (rest := [.ref 302]) dX7_adds_119 rfl qm_135 (by decide) rfl (Nat.le_of_ble_eq_true rfl) rfl ⟨rfl, rfl⟩ ⟨Nat.le_of_ble_eq_true rfl, Nat.le_of_ble_eq_true rfl⟩ (EvP.mono (by decide) (c_M_at hT78 p87 p88 p89 p90 )) (fun r91 P92 g93 => mpp 122 rfl ?_)
      obtain ⟨⟨x94, rfl, g95⟩, e96⟩ := g93
      have e96 := e96.symm
      subst e96
      have wx94 := ti_full x94
      have g95 : x94.toInt = 3 + 19 * v3.toInt + z84.toInt := g95
      show MEvP _ none q_133 122 [(0, .ref 301), (1, .int t1), (2, .int t2), (3, .int v3), (4, .int v4)] [.int x94, .ref 302] _ _ _ _
      refine mp_a (a_iload dX7_adds_122 rfl) (mpp 124 rfl ?_)
      refine mp_a (a_aload_n dX7_adds_124 rfl) (mpp 125 rfl ?_)
      refine mp_a (a_iload_n dX7_adds_125 rfl) (mpp 126 rfl ?_)
      have p97 : 0 ≤ v3.toInt := by omega
      have p98 : v3.toInt ≤ 7 := by omega
      refine mt_callv (i := 88) (q' := q_136) (As := [.int v3]) (rest := [.int v4, .int x94, .ref 302]) hT78 dX7_adds_126 rfl qm_136 (by decide) rfl rl_301 (by decide) rfl (Nat.le_of_ble_eq_true rfl) rfl ⟨rfl, rfl⟩ ⟨Nat.le_of_ble_eq_true rfl, Nat.le_of_ble_eq_true rfl⟩ (EvP.mono (by decide) (c_M_creases hT78 p97 p98 )) (fun r99 P100 g101 => mpp 129 rfl ?_)
      obtain ⟨⟨x102, rfl, g103⟩, e104⟩ := g101
      have e104 := e104.symm
      subst e104
      have wx102 := ti_full x102
      have g103 : -1 ≤ x102.toInt ∧ x102.toInt ≤ 8 ∧ (((fv P77 302 (3 + 19 * v3.toInt.toNat)).toInt = 1 ∧ x102.toInt = (fv P77 302 (4 + 19 * v3.toInt.toNat)).toInt) ∨ ((fv P77 302 (3 + 19 * v3.toInt.toNat)).toInt = 0 ∧ x102.toInt = (fv P77 302 (4 + 19 * v3.toInt.toNat)).toInt - 1)) := g103
      have g105 := ti_full (fv P77 302 (3 + 19 * v3.toInt.toNat))
      have g106 := ti_full (fv P77 302 (4 + 19 * v3.toInt.toNat))
      show MEvP _ none q_133 129 [(0, .ref 301), (1, .int t1), (2, .int t2), (3, .int v3), (4, .int v4)] [.int x102, .int v4, .int x94, .ref 302] _ _ _ _
      refine mp_Tb (t := 142) (j_icmp_ge dX7_adds_129) (by decide) (fun c107 => ?_) (fun c107 => mpp 132 rfl ?_)
      · have c107 : v4.toInt ≥ x102.toInt := ti_ge c107
        refine mp_a (a_iconst (v := 0) dX7_adds_142 rfl) (mpp 143 rfl ?_)
        refine mt_iasX (n := 155) hT78 dX7_adds_143 rl_302 (by decide) rfl rfl (by omega) (by omega) ssp_0 (okS_mk (by omega) (fun _ => ⟨by omega, by omega⟩) (fun _ => ⟨by omega, by omega⟩)) (fun P108 hT109 f110 f111 f112 => mpp 144 rfl ?_)
        have k113 : KW [1093, 1094, 1152] Po P108 := KW.step k82 rl_302 rfl f111 f112
        have R114 := Rel.oth R83 f111 (by omega)
        obtain ⟨z115, h116⟩ := ti_ex (v4 + 1 : Int32)
        have wz115 := ti_full z115
        refine mp_a (a_iinc (v := z115) (L' := [(4, .int z115), (0, .ref 301), (1, .int t1), (2, .int t2), (3, .int v3)]) dX7_adds_144 (by decide) rfl h116 rfl) (mpp 147 rfl ?_)
        try have e117 : z115.toInt = v4.toInt + 1 := ti_addz h116 rfl rfl (by omega) (by omega)
        refine mp_a (a_goto (t := 72) dX7_adds_147 (by decide)) ?_
        refine MEvP.less (L := [(0, .ref 301), (1, .int t1), (2, .int t2), (3, .int v3), (4, .int z115)]) rfl rfl ⟨rfl, rfl, rfl, rfl, rfl, trivial⟩ ?_
        have i118 : 0 ≤ v3.toInt := by omega
        have i119 : v3.toInt ≤ 7 := by omega
        have i120 : 0 ≤ z115.toInt := by omega
        exact ih _ (by omega) _ _ P108 hT109 k113 R114 i118 i119 i120 rfl
      · have c107 : v4.toInt < x102.toInt := ti_ge_n c107
        refine mp_a (a_aload_n dX7_adds_132 rfl) (mpp 133 rfl ?_)
        refine mt_getU (i := 25) (k := 10) (A := 307) hT78 dX7_adds_133 rfl rl_301 (by decide) rfl (by decide) rfl un_23 (mpp 136 rfl ?_)
        refine mp_a (a_iload dX7_adds_136 rfl) (mpp 138 rfl ?_)
        refine mt_ial (n := 8) hT78 dX7_adds_138 rl_307 (by decide) rfl rfl (by omega) (by omega) rfl (fun g121 g122 => mpp 139 rfl ?_)
        refine mp_a (a_goto (t := 143) dX7_adds_139 (by decide)) ?_
        refine mt_iasX (n := 155) hT78 dX7_adds_143 rl_302 (by decide) rfl rfl (by omega) (by omega) ssp_0 (okS_mk (by omega) (fun _ => ⟨by omega, by omega⟩) (fun _ => ⟨by omega, by omega⟩)) (fun P123 hT124 f125 f126 f127 => mpp 144 rfl ?_)
        have k128 : KW [1093, 1094, 1152] Po P123 := KW.step k82 rl_302 rfl f126 f127
        have R129 := Rel.oth R83 f126 (by omega)
        obtain ⟨z130, h131⟩ := ti_ex (v4 + 1 : Int32)
        have wz130 := ti_full z130
        refine mp_a (a_iinc (v := z130) (L' := [(4, .int z130), (0, .ref 301), (1, .int t1), (2, .int t2), (3, .int v3)]) dX7_adds_144 (by decide) rfl h131 rfl) (mpp 147 rfl ?_)
        try have e132 : z130.toInt = v4.toInt + 1 := ti_addz h131 rfl rfl (by omega) (by omega)
        refine mp_a (a_goto (t := 72) dX7_adds_147 (by decide)) ?_
        refine MEvP.less (L := [(0, .ref 301), (1, .int t1), (2, .int t2), (3, .int v3), (4, .int z130)]) rfl rfl ⟨rfl, rfl, rfl, rfl, rfl, trivial⟩ ?_
        have i133 : 0 ≤ v3.toInt := by omega
        have i134 : v3.toInt ≤ 7 := by omega
        have i135 : 0 ≤ z130.toInt := by omega
        exact ih _ (by omega) _ _ P123 hT124 k128 R129 i133 i134 i135 rfl

set_option maxHeartbeats 4000000 in
theorem c_M_adds {Po : mP} {t1 : Int32} {t2 : Int32} (hT : Typ Po) (hR : Rel Po) (hp0 : 0 ≤ t1.toInt) (hp1 : t1.toInt ≤ 1) (hp2 : 2 ≤ t2.toInt) (hp3 : t2.toInt ≤ 8) (hp4 : t1.toInt ≠ 0 ∨ t2.toInt ≤ 7)  : EvP 5 133 [.ref 301, .int t1, .int t2] Po (fun r P' => (∃ x : Int32, r = some (.int x) ∧ (True)) ∧ Typ P' ∧ KW [1093, 1094, 1152] Po P' ∧ Rel P') := by
  refine EvP.of qm_133 (Nat.le_of_ble_eq_true rfl) rfl ?_
  show MEvP _ none q_133 0 [(0, .ref 301), (1, .int t1), (2, .int t2)] [] _ 0 0 _
  refine mp_a (a_aload_n dX7_adds_0 rfl) (mpp 1 rfl ?_)
  refine mt_getU (i := 9) (k := 0) (A := 302) hT dX7_adds_1 rfl rl_301 (by decide) rfl (by decide) rfl un_18 (mpp 4 rfl ?_)
  refine mp_a (a_iconst (v := 0) dX7_adds_4 rfl) (mpp 5 rfl ?_)
  have g3 : (0 : Int) ≤ (fv Po 302 0).toInt ∧ (fv Po 302 0).toInt ≤ 8 := Typ.rng hT rl_302 (by decide) (by decide) rfl
  refine mt_ialX (n := 155) hT dX7_adds_5 rl_302 (by decide) rfl rfl (by decide) (by decide) ssp_0 (fun g1 => mpp 6 rfl ?_)
  have we4 := ti_full (fv Po 302 0)
  refine mp_a (a_bipush (v := 8) dX7_adds_6 rfl) (mpp 8 rfl ?_)
  refine mp_Tb (t := 19) (j_icmp_ne dX7_adds_8) (by decide) (fun c5 => ?_) (fun c5 => mpp 11 rfl ?_)
  · have c5 : (fv Po 302 0).toInt ≠ 8 := ti_ne c5
    refine mp_a (a_aload_n dX7_adds_19 rfl) (mpp 20 rfl ?_)
    refine mt_getU (i := 9) (k := 0) (A := 302) hT dX7_adds_20 rfl rl_301 (by decide) rfl (by decide) rfl un_18 (mpp 23 rfl ?_)
    refine mp_a (a_iconst (v := 0) dX7_adds_23 rfl) (mpp 24 rfl ?_)
    refine mt_ialX (n := 155) hT dX7_adds_24 rl_302 (by decide) rfl rfl (by decide) (by decide) ssp_0 (fun g6 => mpp 25 rfl ?_)
    have we8 := ti_full (fv Po 302 0)
    refine mp_a (a_istore_n (L' := [(3, .int (fv Po 302 0)), (0, .ref 301), (1, .int t1), (2, .int t2)]) dX7_adds_25 (by decide) rfl) (mpp 26 rfl ?_)
    refine mp_a (a_aload_n dX7_adds_26 rfl) (mpp 27 rfl ?_)
    refine mt_getU (i := 9) (k := 0) (A := 302) hT dX7_adds_27 rfl rl_301 (by decide) rfl (by decide) rfl un_18 (mpp 30 rfl ?_)
    refine mp_a (a_iconst (v := 0) dX7_adds_30 rfl) (mpp 31 rfl ?_)
    refine mp_t (s_dup2 dX7_adds_31 ⟨rfl, rfl⟩) (mpp 32 rfl ?_)
    refine mt_ialX (n := 155) hT dX7_adds_32 rl_302 (by decide) rfl rfl (by decide) (by decide) ssp_0 (fun g9 => mpp 33 rfl ?_)
    have we11 := ti_full (fv Po 302 0)
    refine mp_a (a_iconst (v := 1) dX7_adds_33 rfl) (mpp 34 rfl ?_)
    obtain ⟨z12, h13⟩ := ti_ex ((fv Po 302 0) + 1 : Int32)
    have wz12 := ti_full z12
    refine mp_t (s_iadd (v := z12) dX7_adds_34 h13) (mpp 35 rfl ?_)
    try have e14 : z12.toInt = (fv Po 302 0).toInt + 1 := ti_addz h13 rfl rfl (by omega) (by omega)
    refine mt_iasX (n := 155) hT dX7_adds_35 rl_302 (by decide) rfl rfl (by decide) (by decide) ssp_0 (okS_c0 ⟨by omega, by omega⟩) (fun P15 hT16 f17 f18 f19 => mpp 36 rfl ?_)
    have f17 : fv P15 302 0 = _ := f17
    have f18 : ∀ b j : Nat, ¬ (b = 302 ∧ j = 0) → fv P15 b j = fv Po b j := f18
    have k20 : KW [1093, 1094, 1152] Po P15 := KW.step KW.refl rl_302 rfl f18 f19
    have e22 : (fv P15 302 0).toInt = z12.toInt := congrArg Int32.toInt f17
    refine mp_a (a_aload_n dX7_adds_36 rfl) (mpp 37 rfl ?_)
    refine mt_getU (i := 9) (k := 0) (A := 302) hT16 dX7_adds_37 rfl rl_301 (by decide) rfl (by decide) rfl un_18 (mpp 40 rfl ?_)
    refine mp_a (a_iload_n dX7_adds_40 rfl) (mpp 41 rfl ?_)
    refine mp_a (a_iconst (v := 0) dX7_adds_41 rfl) (mpp 42 rfl ?_)
    have p23 : 0 ≤ (fv Po 302 0).toInt := by omega
    have p24 : (fv Po 302 0).toInt ≤ 8 := by omega
    have p25 : 0 ≤ (0 : Int) := by omega
    have p26 : (0 : Int) ≤ 20 := by omega
    refine mp_calls (i := 74) (q' := q_135) (As := [.int (fv Po 302 0), .int 0]) (rest := [.ref 302]) dX7_adds_42 rfl qm_135 (by decide) rfl (Nat.le_of_ble_eq_true rfl) rfl ⟨rfl, rfl⟩ ⟨Nat.le_of_ble_eq_true rfl, Nat.le_of_ble_eq_true rfl⟩ (EvP.mono (by decide) (c_M_at hT16 p23 p24 p25 p26 )) (fun r27 P28 g29 => mpp 45 rfl ?_)
    obtain ⟨⟨x30, rfl, g31⟩, e32⟩ := g29
    have e32 := e32.symm
    subst e32
    have wx30 := ti_full x30
    have g31 : x30.toInt = 3 + 19 * (fv Po 302 0).toInt + (0 : Int) := g31
    show MEvP _ none q_133 45 [(3, .int (fv Po 302 0)), (0, .ref 301), (1, .int t1), (2, .int t2)] [.int x30, .ref 302] _ _ _ _
    refine mp_a (a_iload_n dX7_adds_45 rfl) (mpp 46 rfl ?_)
    refine mt_iasX (n := 155) hT16 dX7_adds_46 rl_302 (by decide) rfl rfl (by omega) (by omega) ssp_0 (okS_mk (by omega) (fun _ => ⟨by omega, by omega⟩) (fun _ => ⟨by omega, by omega⟩)) (fun P33 hT34 f35 f36 f37 => mpp 47 rfl ?_)
    have k38 : KW [1093, 1094, 1152] Po P33 := KW.step k20 rl_302 rfl f36 f37
    refine mp_a (a_aload_n dX7_adds_47 rfl) (mpp 48 rfl ?_)
    refine mt_getU (i := 9) (k := 0) (A := 302) hT34 dX7_adds_48 rfl rl_301 (by decide) rfl (by decide) rfl un_18 (mpp 51 rfl ?_)
    refine mp_a (a_iload_n dX7_adds_51 rfl) (mpp 52 rfl ?_)
    refine mp_a (a_iconst (v := 1) dX7_adds_52 rfl) (mpp 53 rfl ?_)
    have p40 : 0 ≤ (fv Po 302 0).toInt := by omega
    have p41 : (fv Po 302 0).toInt ≤ 8 := by omega
    have p42 : 0 ≤ (1 : Int) := by omega
    have p43 : (1 : Int) ≤ 20 := by omega
    refine mp_calls (i := 74) (q' := q_135) (As := [.int (fv Po 302 0), .int 1]) (rest := [.ref 302]) dX7_adds_53 rfl qm_135 (by decide) rfl (Nat.le_of_ble_eq_true rfl) rfl ⟨rfl, rfl⟩ ⟨Nat.le_of_ble_eq_true rfl, Nat.le_of_ble_eq_true rfl⟩ (EvP.mono (by decide) (c_M_at hT34 p40 p41 p42 p43 )) (fun r44 P45 g46 => mpp 56 rfl ?_)
    obtain ⟨⟨x47, rfl, g48⟩, e49⟩ := g46
    have e49 := e49.symm
    subst e49
    have wx47 := ti_full x47
    have g48 : x47.toInt = 3 + 19 * (fv Po 302 0).toInt + (1 : Int) := g48
    show MEvP _ none q_133 56 [(3, .int (fv Po 302 0)), (0, .ref 301), (1, .int t1), (2, .int t2)] [.int x47, .ref 302] _ _ _ _
    refine mp_a (a_iload_n dX7_adds_56 rfl) (mpp 57 rfl ?_)
    refine mt_iasX (n := 155) hT34 dX7_adds_57 rl_302 (by decide) rfl rfl (by omega) (by omega) ssp_0 (okS_mk (by omega) (fun _ => ⟨by omega, by omega⟩) (fun _ => ⟨by omega, by omega⟩)) (fun P50 hT51 f52 f53 f54 => mpp 58 rfl ?_)
    have k55 : KW [1093, 1094, 1152] Po P50 := KW.step k38 rl_302 rfl f53 f54
    have R56 := Rel.rec hR (p := (fv Po 302 0).toInt.toNat) f18 f17 f36 f35 f53 f52 (by omega) (by omega) (by omega) (by omega) (by omega) (by omega)
    refine mp_a (a_aload_n dX7_adds_58 rfl) (mpp 59 rfl ?_)
    refine mt_getU (i := 9) (k := 0) (A := 302) hT51 dX7_adds_59 rfl rl_301 (by decide) rfl (by decide) rfl un_18 (mpp 62 rfl ?_)
    refine mp_a (a_iload_n dX7_adds_62 rfl) (mpp 63 rfl ?_)
    refine mp_a (a_iconst (v := 2) dX7_adds_63 rfl) (mpp 64 rfl ?_)
    have p57 : 0 ≤ (fv Po 302 0).toInt := by omega
    have p58 : (fv Po 302 0).toInt ≤ 8 := by omega
    have p59 : 0 ≤ (2 : Int) := by omega
    have p60 : (2 : Int) ≤ 20 := by omega
    refine mp_calls (i := 74) (q' := q_135) (As := [.int (fv Po 302 0), .int 2]) (rest := [.ref 302]) dX7_adds_64 rfl qm_135 (by decide) rfl (Nat.le_of_ble_eq_true rfl) rfl ⟨rfl, rfl⟩ ⟨Nat.le_of_ble_eq_true rfl, Nat.le_of_ble_eq_true rfl⟩ (EvP.mono (by decide) (c_M_at hT51 p57 p58 p59 p60 )) (fun r61 P62 g63 => mpp 67 rfl ?_)
    obtain ⟨⟨x64, rfl, g65⟩, e66⟩ := g63
    have e66 := e66.symm
    subst e66
    have wx64 := ti_full x64
    have g65 : x64.toInt = 3 + 19 * (fv Po 302 0).toInt + (2 : Int) := g65
    show MEvP _ none q_133 67 [(3, .int (fv Po 302 0)), (0, .ref 301), (1, .int t1), (2, .int t2)] [.int x64, .ref 302] _ _ _ _
    refine mp_a (a_iconst (v := 0) dX7_adds_67 rfl) (mpp 68 rfl ?_)
    refine mt_iasX (n := 155) hT51 dX7_adds_68 rl_302 (by decide) rfl rfl (by omega) (by omega) ssp_0 (okS_mk (by omega) (fun _ => ⟨by omega, by omega⟩) (fun _ => ⟨by omega, by omega⟩)) (fun P67 hT68 f69 f70 f71 => mpp 69 rfl ?_)
    have k72 : KW [1093, 1094, 1152] Po P67 := KW.step k55 rl_302 rfl f70 f71
    have R73 := Rel.oth R56 f70 (by omega)
    refine mp_a (a_iconst (v := 0) dX7_adds_69 rfl) (mpp 70 rfl ?_)
    refine mp_a (a_istore (L' := [(4, .int 0), (3, .int (fv Po 302 0)), (0, .ref 301), (1, .int t1), (2, .int t2)]) dX7_adds_70 (by decide) rfl) (mpp 72 rfl ?_)
    refine MEvP.less (L := [(0, .ref 301), (1, .int t1), (2, .int t2), (3, .int (fv Po 302 0)), (4, .int 0)]) rfl rfl ⟨rfl, rfl, rfl, rfl, rfl, trivial⟩ ?_
    have i74 : 0 ≤ (fv Po 302 0).toInt := by omega
    have i75 : (fv Po 302 0).toInt ≤ 7 := by omega
    have i76 : 0 ≤ (0 : Int) := by omega
    exact c_M_adds_l72   hp0 hp1 hp2 hp3 hp4 _ _ _ P67 hT68 k72 R73 i74 i75 i76 rfl
  · have c5 : (fv Po 302 0).toInt = 8 := ti_ne_n c5
    refine mp_a (a_aload_n dX7_adds_11 rfl) (mpp 12 rfl ?_)
    refine mp_a (a_iconst (v := 1) dX7_adds_12 rfl) (mpp 13 rfl ?_)
    refine mp_a (a_bipush (v := 8) dX7_adds_13 rfl) (mpp 15 rfl ?_)
    refine mt_callv (i := 101) (q' := q_134) (As := [.int 1, .int 8]) (rest := []) hT dX7_adds_15 rfl qm_134 (by decide) rfl rl_301 (by decide) rfl (Nat.le_of_ble_eq_true rfl) rfl ⟨rfl, rfl⟩ ⟨Nat.le_of_ble_eq_true rfl, Nat.le_of_ble_eq_true rfl⟩ (EvP.mono (by decide) (c_M_refuses hT )) (fun r77 P78 g79 => mpp 18 rfl ?_)
    obtain ⟨⟨x80, rfl, g81⟩, hT82, k83, R84⟩ := g79
    have k85 : KW [1093, 1094, 1152] Po P78 := KW.trans KW.refl k83 rfl
    have R87 := Rel.kw hR k83 rfl
    have wx80 := ti_full x80
    have g81 : x80.toInt = -1003 := g81
    show MEvP _ none q_133 18 [(0, .ref 301), (1, .int t1), (2, .int t2)] [.int x80] _ _ _ _
    exact mp_iret ⟨⟨_, rfl, trivial⟩, hT82, k85, R87⟩ dX7_adds_18 (Or.inl rfl)

set_option maxHeartbeats 4000000 in
theorem c_M_addsTold {Po : mP} {t1 : Int32} {t2 : Int32} {t3 : Int32} (hT : Typ Po) (hR : Rel Po)  : EvP 6 126 [.ref 301, .int t1, .int t2, .int t3] Po (fun r P' => (∃ x : Int32, r = some (.int x) ∧ (True)) ∧ Typ P' ∧ KW [1093, 1094, 1152, 1408, 1472] Po P' ∧ Rel P') := by
  refine EvP.of qm_126 (Nat.le_of_ble_eq_true rfl) rfl ?_
  show MEvP _ none q_126 0 [(0, .ref 301), (1, .int t1), (2, .int t2), (3, .int t3)] [] _ 0 0 _
  refine mp_a (a_iload_n dX7_addsTold_0 rfl) (mpp 1 rfl ?_)
  refine mp_a (a_iconst (v := 0) dX7_addsTold_1 rfl) (mpp 2 rfl ?_)
  refine mp_a (a_iconst (v := 1) dX7_addsTold_2 rfl) (mpp 3 rfl ?_)
  refine mp_calls (i := 61) (q' := q_127) (As := [.int t1, .int 0, .int 1]) (rest := []) dX7_addsTold_3 rfl qm_127 (by decide) rfl (Nat.le_of_ble_eq_true rfl) rfl ⟨rfl, rfl⟩ ⟨Nat.le_of_ble_eq_true rfl, Nat.le_of_ble_eq_true rfl⟩ (EvP.mono (by decide) (c_M_isIn hT )) (fun r1 P2 g3 => mpp 6 rfl ?_)
  obtain ⟨⟨x4, rfl, g5⟩, e6⟩ := g3
  have e6 := e6.symm
  subst e6
  have wx4 := ti_full x4
  have g5 : 0 ≤ x4.toInt ∧ x4.toInt ≤ 1 ∧ ((x4.toInt = 1 ∧ (0 : Int) ≤ t1.toInt ∧ t1.toInt ≤ (1 : Int)) ∨ (x4.toInt = 0 ∧ (t1.toInt < (0 : Int) ∨ (1 : Int) < t1.toInt))) := g5
  show MEvP _ none q_126 6 [(0, .ref 301), (1, .int t1), (2, .int t2), (3, .int t3)] [.int x4] _ _ _ _
  refine mp_Tb (t := 17) (j_if_eq dX7_addsTold_6) (by decide) (fun c7 => ?_) (fun c7 => mpp 9 rfl ?_)
  · have c7 : x4.toInt = 0 := ti_eq c7
    refine mp_a (a_iconst (v := 0) dX7_addsTold_17 rfl) (mpp 18 rfl ?_)
    refine mp_a (a_istore (L' := [(4, .int 0), (0, .ref 301), (1, .int t1), (2, .int t2), (3, .int t3)]) dX7_addsTold_18 (by decide) rfl) (mpp 20 rfl ?_)
    refine mp_a (a_iload dX7_addsTold_20 rfl) (mpp 22 rfl ?_)
    refine mp_Tt (t := 56) (j_if_eq dX7_addsTold_22) (by decide) (by decide) ?_
    refine mp_a (a_sipush (v := -1002) dX7_addsTold_56 rfl) (mpp 59 rfl ?_)
    exact mp_iret ⟨⟨_, rfl, trivial⟩, hT, KW.refl, hR⟩ dX7_addsTold_59 (Or.inl rfl)
  · have c7 : x4.toInt ≠ 0 := ti_eq_n c7
    refine mp_a (a_aload_n dX7_addsTold_9 rfl) (mpp 10 rfl ?_)
    refine mp_a (a_iload_n dX7_addsTold_10 rfl) (mpp 11 rfl ?_)
    refine mt_callv (i := 104) (q' := q_128) (As := [.int t2]) (rest := []) hT dX7_addsTold_11 rfl qm_128 (by decide) rfl rl_301 (by decide) rfl (Nat.le_of_ble_eq_true rfl) rfl ⟨rfl, rfl⟩ ⟨Nat.le_of_ble_eq_true rfl, Nat.le_of_ble_eq_true rfl⟩ (EvP.mono (by decide) (c_M_laysSizes hT )) (fun r8 P9 g10 => mpp 14 rfl ?_)
    obtain ⟨⟨x11, rfl, g12⟩, hT13, k14, R15⟩ := g10
    have k16 : KW [1093, 1094, 1152, 1408, 1472] Po P9 := KW.trans KW.refl k14 rfl
    have R18 := Rel.kw hR k14 rfl
    have wx11 := ti_full x11
    have g12 : 0 ≤ x11.toInt ∧ x11.toInt ≤ 8 := g12
    show MEvP _ none q_126 14 [(0, .ref 301), (1, .int t1), (2, .int t2), (3, .int t3)] [.int x11] _ _ _ _
    refine mp_a (a_goto (t := 18) dX7_addsTold_14 (by decide)) ?_
    refine mp_a (a_istore (L' := [(4, .int x11), (0, .ref 301), (1, .int t1), (2, .int t2), (3, .int t3)]) dX7_addsTold_18 (by decide) rfl) (mpp 20 rfl ?_)
    refine mp_a (a_iload dX7_addsTold_20 rfl) (mpp 22 rfl ?_)
    refine mp_Tb (t := 56) (j_if_eq dX7_addsTold_22) (by decide) (fun c19 => ?_) (fun c19 => mpp 25 rfl ?_)
    · have c19 : x11.toInt = 0 := ti_eq c19
      refine mp_a (a_sipush (v := -1002) dX7_addsTold_56 rfl) (mpp 59 rfl ?_)
      exact mp_iret ⟨⟨_, rfl, trivial⟩, hT13, k16, R18⟩ dX7_addsTold_59 (Or.inl rfl)
    · have c19 : x11.toInt ≠ 0 := ti_eq_n c19
      refine mp_a (a_aload_n dX7_addsTold_25 rfl) (mpp 26 rfl ?_)
      refine mp_a (a_iload_n dX7_addsTold_26 rfl) (mpp 27 rfl ?_)
      refine mp_a (a_iload dX7_addsTold_27 rfl) (mpp 29 rfl ?_)
      have p20 : x11.toInt ≤ 8 := by omega
      refine mt_callv (i := 107) (q' := q_130) (As := [.int t1, .int x11]) (rest := []) hT13 dX7_addsTold_29 rfl qm_130 (by decide) rfl rl_301 (by decide) rfl (Nat.le_of_ble_eq_true rfl) rfl ⟨rfl, rfl⟩ ⟨Nat.le_of_ble_eq_true rfl, Nat.le_of_ble_eq_true rfl⟩ (EvP.mono (by decide) (c_M_areSizes hT13 p20 )) (fun r21 P22 g23 => mpp 32 rfl ?_)
      obtain ⟨⟨x24, rfl, g25⟩, e26⟩ := g23
      have e26 := e26.symm
      subst e26
      have wx24 := ti_full x24
      have g25 : 0 ≤ x24.toInt ∧ x24.toInt ≤ 1 ∧ (x24.toInt = 0 ∨ (2 ≤ x11.toInt ∧ (t1.toInt ≠ 0 ∨ x11.toInt ≤ 7))) := g25
      show MEvP _ none q_126 32 [(4, .int x11), (0, .ref 301), (1, .int t1), (2, .int t2), (3, .int t3)] [.int x24] _ _ _ _
      refine mp_Tb (t := 56) (j_if_eq dX7_addsTold_32) (by decide) (fun c27 => ?_) (fun c27 => mpp 35 rfl ?_)
      · have c27 : x24.toInt = 0 := ti_eq c27
        refine mp_a (a_sipush (v := -1002) dX7_addsTold_56 rfl) (mpp 59 rfl ?_)
        exact mp_iret ⟨⟨_, rfl, trivial⟩, hT13, k16, R18⟩ dX7_addsTold_59 (Or.inl rfl)
      · have c27 : x24.toInt ≠ 0 := ti_eq_n c27
        refine mp_a (a_aload_n dX7_addsTold_35 rfl) (mpp 36 rfl ?_)
        refine mp_a (a_iload_n dX7_addsTold_36 rfl) (mpp 37 rfl ?_)
        refine mp_a (a_iload_n dX7_addsTold_37 rfl) (mpp 38 rfl ?_)
        refine mp_Tb (t := 48) (j_if_ne dX7_addsTold_38) (by decide) (fun c28 => ?_) (fun c28 => mpp 41 rfl ?_)
        · have c28 : t1.toInt ≠ 0 := ti_ne c28
          refine mp_a (a_iload dX7_addsTold_48 rfl) (mpp 50 rfl ?_)
          have p29 : 0 ≤ x11.toInt := by omega
          have p30 : x11.toInt ≤ 8 := by omega
          refine mt_callv (i := 111) (q' := q_132) (As := [.int t3, .int x11]) (rest := []) hT13 dX7_addsTold_50 rfl qm_132 (by decide) rfl rl_301 (by decide) rfl (Nat.le_of_ble_eq_true rfl) rfl ⟨rfl, rfl⟩ ⟨Nat.le_of_ble_eq_true rfl, Nat.le_of_ble_eq_true rfl⟩ (EvP.mono (by decide) (c_M_laysCreases hT13 p29 p30 )) (fun r31 P32 g33 => mpp 53 rfl ?_)
          obtain ⟨⟨x34, rfl, g35⟩, hT36, k37, R38⟩ := g33
          have k39 : KW [1093, 1094, 1152, 1408, 1472] Po P32 := KW.trans k16 k37 rfl
          have R41 := Rel.kw R18 k37 rfl
          have wx34 := ti_full x34
          have g35 : 0 ≤ x34.toInt ∧ x34.toInt ≤ 1 := g35
          show MEvP _ none q_126 53 [(4, .int x11), (0, .ref 301), (1, .int t1), (2, .int t2), (3, .int t3)] [.int x34] _ _ _ _
          refine mp_Tb (t := 60) (j_if_ne dX7_addsTold_53) (by decide) (fun c42 => ?_) (fun c42 => mpp 56 rfl ?_)
          · have c42 : x34.toInt ≠ 0 := ti_ne c42
            refine mp_a (a_aload_n dX7_addsTold_60 rfl) (mpp 61 rfl ?_)
            refine mp_a (a_iload_n dX7_addsTold_61 rfl) (mpp 62 rfl ?_)
            refine mp_a (a_iload dX7_addsTold_62 rfl) (mpp 64 rfl ?_)
            have p43 : 0 ≤ t1.toInt := by omega
            have p44 : t1.toInt ≤ 1 := by omega
            have p45 : 2 ≤ x11.toInt := by omega
            have p46 : x11.toInt ≤ 8 := by omega
            have p47 : t1.toInt ≠ 0 ∨ x11.toInt ≤ 7 := by omega
            refine mt_callv (i := 114) (q' := q_133) (As := [.int t1, .int x11]) (rest := []) hT36 dX7_addsTold_64 rfl qm_133 (by decide) rfl rl_301 (by decide) rfl (Nat.le_of_ble_eq_true rfl) rfl ⟨rfl, rfl⟩ ⟨Nat.le_of_ble_eq_true rfl, Nat.le_of_ble_eq_true rfl⟩ (EvP.mono (by decide) (c_M_adds hT36 R41 p43 p44 p45 p46 p47 )) (fun r48 P49 g50 => mpp 67 rfl ?_)
            obtain ⟨⟨x51, rfl, g52⟩, hT53, k54, R55⟩ := g50
            have k56 : KW [1093, 1094, 1152, 1408, 1472] Po P49 := KW.trans k39 k54 rfl
            have wx51 := ti_full x51
            show MEvP _ none q_126 67 [(4, .int x11), (0, .ref 301), (1, .int t1), (2, .int t2), (3, .int t3)] [.int x51] _ _ _ _
            exact mp_iret ⟨⟨_, rfl, trivial⟩, hT53, k56, R55⟩ dX7_addsTold_67 (Or.inl rfl)
          · have c42 : x34.toInt = 0 := ti_ne_n c42
            refine mp_a (a_sipush (v := -1002) dX7_addsTold_56 rfl) (mpp 59 rfl ?_)
            exact mp_iret ⟨⟨_, rfl, trivial⟩, hT36, k39, R41⟩ dX7_addsTold_59 (Or.inl rfl)
        · have c28 : t1.toInt = 0 := ti_ne_n c28
          refine mp_a (a_iload dX7_addsTold_41 rfl) (mpp 43 rfl ?_)
          refine mp_a (a_iconst (v := 1) dX7_addsTold_43 rfl) (mpp 44 rfl ?_)
          obtain ⟨z58, h59⟩ := ti_ex (x11 - 1 : Int32)
          have wz58 := ti_full z58
          refine mp_t (s_isub (v := z58) dX7_addsTold_44 h59) (mpp 45 rfl ?_)
          try have e60 : z58.toInt = x11.toInt - 1 := ti_subz h59 rfl rfl (by omega) (by omega)
          refine mp_a (a_goto (t := 50) dX7_addsTold_45 (by decide)) ?_
          have p61 : 0 ≤ z58.toInt := by omega
          have p62 : z58.toInt ≤ 8 := by omega
          refine mt_callv (i := 111) (q' := q_132) (As := [.int t3, .int z58]) (rest := []) hT13 dX7_addsTold_50 rfl qm_132 (by decide) rfl rl_301 (by decide) rfl (Nat.le_of_ble_eq_true rfl) rfl ⟨rfl, rfl⟩ ⟨Nat.le_of_ble_eq_true rfl, Nat.le_of_ble_eq_true rfl⟩ (EvP.mono (by decide) (c_M_laysCreases hT13 p61 p62 )) (fun r63 P64 g65 => mpp 53 rfl ?_)
          obtain ⟨⟨x66, rfl, g67⟩, hT68, k69, R70⟩ := g65
          have k71 : KW [1093, 1094, 1152, 1408, 1472] Po P64 := KW.trans k16 k69 rfl
          have R73 := Rel.kw R18 k69 rfl
          have wx66 := ti_full x66
          have g67 : 0 ≤ x66.toInt ∧ x66.toInt ≤ 1 := g67
          show MEvP _ none q_126 53 [(4, .int x11), (0, .ref 301), (1, .int t1), (2, .int t2), (3, .int t3)] [.int x66] _ _ _ _
          refine mp_Tb (t := 60) (j_if_ne dX7_addsTold_53) (by decide) (fun c74 => ?_) (fun c74 => mpp 56 rfl ?_)
          · have c74 : x66.toInt ≠ 0 := ti_ne c74
            refine mp_a (a_aload_n dX7_addsTold_60 rfl) (mpp 61 rfl ?_)
            refine mp_a (a_iload_n dX7_addsTold_61 rfl) (mpp 62 rfl ?_)
            refine mp_a (a_iload dX7_addsTold_62 rfl) (mpp 64 rfl ?_)
            have p75 : 0 ≤ t1.toInt := by omega
            have p76 : t1.toInt ≤ 1 := by omega
            have p77 : 2 ≤ x11.toInt := by omega
            have p78 : x11.toInt ≤ 8 := by omega
            have p79 : t1.toInt ≠ 0 ∨ x11.toInt ≤ 7 := by omega
            refine mt_callv (i := 114) (q' := q_133) (As := [.int t1, .int x11]) (rest := []) hT68 dX7_addsTold_64 rfl qm_133 (by decide) rfl rl_301 (by decide) rfl (Nat.le_of_ble_eq_true rfl) rfl ⟨rfl, rfl⟩ ⟨Nat.le_of_ble_eq_true rfl, Nat.le_of_ble_eq_true rfl⟩ (EvP.mono (by decide) (c_M_adds hT68 R73 p75 p76 p77 p78 p79 )) (fun r80 P81 g82 => mpp 67 rfl ?_)
            obtain ⟨⟨x83, rfl, g84⟩, hT85, k86, R87⟩ := g82
            have k88 : KW [1093, 1094, 1152, 1408, 1472] Po P81 := KW.trans k71 k86 rfl
            have wx83 := ti_full x83
            show MEvP _ none q_126 67 [(4, .int x11), (0, .ref 301), (1, .int t1), (2, .int t2), (3, .int t3)] [.int x83] _ _ _ _
            exact mp_iret ⟨⟨_, rfl, trivial⟩, hT85, k88, R87⟩ dX7_addsTold_67 (Or.inl rfl)
          · have c74 : x66.toInt = 0 := ti_ne_n c74
            refine mp_a (a_sipush (v := -1002) dX7_addsTold_56 rfl) (mpp 59 rfl ?_)
            exact mp_iret ⟨⟨_, rfl, trivial⟩, hT68, k71, R73⟩ dX7_addsTold_59 (Or.inl rfl)

