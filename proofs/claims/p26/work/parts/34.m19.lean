/-! methods on typed pools, 19 (written by a program) -/
set_option maxHeartbeats 4000000 in
theorem c_M_laysCreases_l24 {Po : mP} {t1 : Int32} {t2 : Int32} (hp0 : 0 ≤ t2.toInt) (hp1 : t2.toInt ≤ 8)  : ∀ (n : Nat) (v3 : Int32) (v4 : Int32) (v5 : Int32), ∀ (P : mP), Typ P → KW [1472] Po P → (v5.toInt ≤ 7) → (0 ≤ v4.toInt) → (v4.toInt ≤ 1) → (v5.toInt + 1).toNat = n → MEvP 1 none q_132 24 [(0, .ref 301), (1, .int t1), (2, .int t2), (3, .int v3), (4, .int v4), (5, .int v5)] [] P 0 0 (fun r P' => (∃ x : Int32, r = some (.int x) ∧ (0 ≤ x.toInt ∧ x.toInt ≤ 1)) ∧ Typ P' ∧ KW [1472] Po P' ∧ True) := by
  intro n
  induction n using Nat.strongRecOn with | _ n ih => ?_
  intro v3 v4 v5 P hT hK i_0 i_1 i_2 hm
  have w_t1 := ti_full t1
  have w_t2 := ti_full t2
  have w_v3 := ti_full v3
  have w_v4 := ti_full v4
  have w_v5 := ti_full v5
  refine mp_a (a_iload dX7_laysCreases_24 rfl) (mpp 26 rfl ?_)
  refine mp_Tb (t := 74) (j_if_lt dX7_laysCreases_26) (by decide) (fun c1 => ?_) (fun c1 => mpp 29 rfl ?_)
  · have c1 : v5.toInt < 0 := ti_lt c1
    refine mp_a (a_iload dX7_laysCreases_74 rfl) (mpp 76 rfl ?_)
    have u2 : 0 ≤ v4.toInt ∧ v4.toInt ≤ 1 := by omega
    exact mp_iret ⟨⟨_, rfl, u2⟩, hT, hK, trivial⟩ dX7_laysCreases_76 (Or.inr ⟨rfl, ti_01 (by omega)⟩)
  · have c1 : v5.toInt ≥ 0 := ti_lt_n c1
    refine mp_a (a_aload_n dX7_laysCreases_29 rfl) (mpp 30 rfl ?_)
    refine mt_getU (i := 25) (k := 10) (A := 307) hT dX7_laysCreases_30 rfl rl_301 (by decide) rfl (by decide) rfl un_23 (mpp 33 rfl ?_)
    refine mp_a (a_iload dX7_laysCreases_33 rfl) (mpp 35 rfl ?_)
    refine mp_a (a_iload_n dX7_laysCreases_35 rfl) (mpp 36 rfl ?_)
    refine mp_a (a_bipush (v := 10) dX7_laysCreases_36 rfl) (mpp 38 rfl ?_)
    obtain ⟨z3, h4⟩ := ti_ex (v3 - v3 / 10 * 10 : Int32)
    have wz3 := ti_full z3
    try have e5 : 0 ≤ z3.toInt ∧ z3.toInt < 10 := ti_rem h4 (show (0 : Int) ≤ v3.toInt by omega) (show (0 : Int) < 10 by omega)
    refine mp_t (s_irem (v := z3) dX7_laysCreases_38 (by decide) h4) (mpp 39 rfl ?_)
    refine mt_ias (n := 8) hT dX7_laysCreases_39 rl_307 (by decide) rfl rfl (by omega) (by omega) rfl (ti_full z3) (fun P6 hT7 f8 f9 => mpp 40 rfl ?_)
    have k10 : KW [1472] Po P6 := KW.step hK rl_307 rfl f9
    refine mp_a (a_iload_n dX7_laysCreases_40 rfl) (mpp 41 rfl ?_)
    refine mp_a (a_bipush (v := 10) dX7_laysCreases_41 rfl) (mpp 43 rfl ?_)
    obtain ⟨z11, h12⟩ := ti_ex (v3 / 10 : Int32)
    have wz11 := ti_full z11
    try have e13 : z11.toInt = v3.toInt / 10 := ti_div h12 (show (0 : Int) ≤ v3.toInt by omega) (show (0 : Int) < 10 by omega)
    refine mp_t (s_idiv (v := z11) dX7_laysCreases_43 (by decide) h12) (mpp 44 rfl ?_)
    refine mp_a (a_istore_n (L' := [(3, .int z11), (0, .ref 301), (1, .int t1), (2, .int t2), (4, .int v4), (5, .int v5)]) dX7_laysCreases_44 (by decide) rfl) (mpp 45 rfl ?_)
    refine mp_a (a_iload dX7_laysCreases_45 rfl) (mpp 47 rfl ?_)
    refine mp_Tb (t := 65) (j_if_eq dX7_laysCreases_47) (by decide) (fun c14 => ?_) (fun c14 => mpp 50 rfl ?_)
    · have c14 : v4.toInt = 0 := ti_eq c14
      refine mp_a (a_iconst (v := 0) dX7_laysCreases_65 rfl) (mpp 66 rfl ?_)
      refine mp_a (a_istore (L' := [(4, .int 0), (3, .int z11), (0, .ref 301), (1, .int t1), (2, .int t2), (5, .int v5)]) dX7_laysCreases_66 (by decide) rfl) (mpp 68 rfl ?_)
      obtain ⟨z15, h16⟩ := ti_ex (v5 + (-1) : Int32)
      have wz15 := ti_full z15
      refine mp_a (a_iinc (v := z15) (L' := [(5, .int z15), (4, .int 0), (3, .int z11), (0, .ref 301), (1, .int t1), (2, .int t2)]) dX7_laysCreases_68 (by decide) rfl h16 rfl) (mpp 71 rfl ?_)
      try have e17 : z15.toInt = v5.toInt + (-1) := ti_addz h16 rfl rfl (by omega) (by omega)
      refine mp_a (a_goto (t := 24) dX7_laysCreases_71 (by decide)) ?_
      refine MEvP.less (L := [(0, .ref 301), (1, .int t1), (2, .int t2), (3, .int z11), (4, .int 0), (5, .int z15)]) rfl rfl ⟨rfl, rfl, rfl, rfl, rfl, rfl, trivial⟩ ?_
      have i18 : z15.toInt ≤ 7 := by omega
      have i19 : 0 ≤ (0 : Int) := by omega
      have i20 : (0 : Int) ≤ 1 := by omega
      exact ih _ (by omega) _ _ _ P6 hT7 k10 i18 i19 i20 rfl
    · have c14 : v4.toInt ≠ 0 := ti_eq_n c14
      refine mp_a (a_aload_n dX7_laysCreases_50 rfl) (mpp 51 rfl ?_)
      refine mt_getU (i := 25) (k := 10) (A := 307) hT7 dX7_laysCreases_51 rfl rl_301 (by decide) rfl (by decide) rfl un_23 (mpp 54 rfl ?_)
      refine mp_a (a_iload dX7_laysCreases_54 rfl) (mpp 56 rfl ?_)
      refine mt_ial (n := 8) hT7 dX7_laysCreases_56 rl_307 (by decide) rfl rfl (by omega) (by omega) rfl (fun g21 g22 => mpp 57 rfl ?_)
      refine mp_a (a_iconst (v := 2) dX7_laysCreases_57 rfl) (mpp 58 rfl ?_)
      refine mp_Tb (t := 65) (j_icmp_gt dX7_laysCreases_58) (by decide) (fun c23 => ?_) (fun c23 => mpp 61 rfl ?_)
      · have c23 : (fv P6 307 v5.toInt.toNat).toInt > 2 := ti_gt c23
        refine mp_a (a_iconst (v := 0) dX7_laysCreases_65 rfl) (mpp 66 rfl ?_)
        refine mp_a (a_istore (L' := [(4, .int 0), (3, .int z11), (0, .ref 301), (1, .int t1), (2, .int t2), (5, .int v5)]) dX7_laysCreases_66 (by decide) rfl) (mpp 68 rfl ?_)
        obtain ⟨z24, h25⟩ := ti_ex (v5 + (-1) : Int32)
        have wz24 := ti_full z24
        refine mp_a (a_iinc (v := z24) (L' := [(5, .int z24), (4, .int 0), (3, .int z11), (0, .ref 301), (1, .int t1), (2, .int t2)]) dX7_laysCreases_68 (by decide) rfl h25 rfl) (mpp 71 rfl ?_)
        try have e26 : z24.toInt = v5.toInt + (-1) := ti_addz h25 rfl rfl (by omega) (by omega)
        refine mp_a (a_goto (t := 24) dX7_laysCreases_71 (by decide)) ?_
        refine MEvP.less (L := [(0, .ref 301), (1, .int t1), (2, .int t2), (3, .int z11), (4, .int 0), (5, .int z24)]) rfl rfl ⟨rfl, rfl, rfl, rfl, rfl, rfl, trivial⟩ ?_
        have i27 : z24.toInt ≤ 7 := by omega
        have i28 : 0 ≤ (0 : Int) := by omega
        have i29 : (0 : Int) ≤ 1 := by omega
        exact ih _ (by omega) _ _ _ P6 hT7 k10 i27 i28 i29 rfl
      · have c23 : (fv P6 307 v5.toInt.toNat).toInt ≤ 2 := ti_gt_n c23
        refine mp_a (a_iconst (v := 1) dX7_laysCreases_61 rfl) (mpp 62 rfl ?_)
        refine mp_a (a_goto (t := 66) dX7_laysCreases_62 (by decide)) ?_
        refine mp_a (a_istore (L' := [(4, .int 1), (3, .int z11), (0, .ref 301), (1, .int t1), (2, .int t2), (5, .int v5)]) dX7_laysCreases_66 (by decide) rfl) (mpp 68 rfl ?_)
        obtain ⟨z30, h31⟩ := ti_ex (v5 + (-1) : Int32)
        have wz30 := ti_full z30
        refine mp_a (a_iinc (v := z30) (L' := [(5, .int z30), (4, .int 1), (3, .int z11), (0, .ref 301), (1, .int t1), (2, .int t2)]) dX7_laysCreases_68 (by decide) rfl h31 rfl) (mpp 71 rfl ?_)
        try have e32 : z30.toInt = v5.toInt + (-1) := ti_addz h31 rfl rfl (by omega) (by omega)
        refine mp_a (a_goto (t := 24) dX7_laysCreases_71 (by decide)) ?_
        refine MEvP.less (L := [(0, .ref 301), (1, .int t1), (2, .int t2), (3, .int z11), (4, .int 1), (5, .int z30)]) rfl rfl ⟨rfl, rfl, rfl, rfl, rfl, rfl, trivial⟩ ?_
        have i33 : z30.toInt ≤ 7 := by omega
        have i34 : 0 ≤ (1 : Int) := by omega
        have i35 : (1 : Int) ≤ 1 := by omega
        exact ih _ (by omega) _ _ _ P6 hT7 k10 i33 i34 i35 rfl

set_option maxHeartbeats 4000000 in
theorem c_M_laysCreases {Po : mP} {t1 : Int32} {t2 : Int32} (hT : Typ Po)  (hp0 : 0 ≤ t2.toInt) (hp1 : t2.toInt ≤ 8)  : EvP 2 132 [.ref 301, .int t1, .int t2] Po (fun r P' => (∃ x : Int32, r = some (.int x) ∧ (0 ≤ x.toInt ∧ x.toInt ≤ 1)) ∧ Typ P' ∧ KW [1472] Po P' ∧ True) := by
  refine EvP.of qm_132 (Nat.le_of_ble_eq_true rfl) rfl ?_
  show MEvP _ none q_132 0 [(0, .ref 301), (1, .int t1), (2, .int t2)] [] _ 0 0 _
  refine mp_a (a_iload_n dX7_laysCreases_0 rfl) (mpp 1 rfl ?_)
  refine mp_Tb (t := 12) (j_if_lt dX7_laysCreases_1) (by decide) (fun c1 => ?_) (fun c1 => mpp 4 rfl ?_)
  · have c1 : t1.toInt < 0 := ti_lt c1
    refine mp_a (a_iconst (v := 0) dX7_laysCreases_12 rfl) (mpp 13 rfl ?_)
    have u2 : 0 ≤ (0 : Int) ∧ (0 : Int) ≤ 1 := by omega
    exact mp_iret ⟨⟨_, rfl, u2⟩, hT, KW.refl, trivial⟩ dX7_laysCreases_13 (Or.inr ⟨rfl, by decide⟩)
  · have c1 : t1.toInt ≥ 0 := ti_lt_n c1
    refine mp_a (a_iload_n dX7_laysCreases_4 rfl) (mpp 5 rfl ?_)
    refine mp_calls (i := 95) (q' := q_129) (As := [.int t1]) (rest := []) dX7_laysCreases_5 rfl qm_129 (by decide) rfl (Nat.le_of_ble_eq_true rfl) rfl ⟨rfl, rfl⟩ ⟨Nat.le_of_ble_eq_true rfl, Nat.le_of_ble_eq_true rfl⟩ (EvP.mono (by decide) (c_M_digits hT )) (fun r3 P4 g5 => mpp 8 rfl ?_)
    obtain ⟨⟨x6, rfl, g7⟩, e8⟩ := g5
    have e8 := e8.symm
    subst e8
    have wx6 := ti_full x6
    show MEvP _ none q_132 8 [(0, .ref 301), (1, .int t1), (2, .int t2)] [.int x6] _ _ _ _
    refine mp_a (a_iload_n dX7_laysCreases_8 rfl) (mpp 9 rfl ?_)
    refine mp_Tb (t := 14) (j_icmp_le dX7_laysCreases_9) (by decide) (fun c9 => ?_) (fun c9 => mpp 12 rfl ?_)
    · have c9 : x6.toInt ≤ t2.toInt := ti_le c9
      refine mp_a (a_iload_n dX7_laysCreases_14 rfl) (mpp 15 rfl ?_)
      refine mp_a (a_istore_n (L' := [(3, .int t1), (0, .ref 301), (1, .int t1), (2, .int t2)]) dX7_laysCreases_15 (by decide) rfl) (mpp 16 rfl ?_)
      refine mp_a (a_iconst (v := 1) dX7_laysCreases_16 rfl) (mpp 17 rfl ?_)
      refine mp_a (a_istore (L' := [(4, .int 1), (3, .int t1), (0, .ref 301), (1, .int t1), (2, .int t2)]) dX7_laysCreases_17 (by decide) rfl) (mpp 19 rfl ?_)
      refine mp_a (a_iload_n dX7_laysCreases_19 rfl) (mpp 20 rfl ?_)
      refine mp_a (a_iconst (v := 1) dX7_laysCreases_20 rfl) (mpp 21 rfl ?_)
      obtain ⟨z10, h11⟩ := ti_ex (t2 - 1 : Int32)
      have wz10 := ti_full z10
      refine mp_t (s_isub (v := z10) dX7_laysCreases_21 h11) (mpp 22 rfl ?_)
      try have e12 : z10.toInt = t2.toInt - 1 := ti_subz h11 rfl rfl (by omega) (by omega)
      refine mp_a (a_istore (L' := [(5, .int z10), (4, .int 1), (3, .int t1), (0, .ref 301), (1, .int t1), (2, .int t2)]) dX7_laysCreases_22 (by decide) rfl) (mpp 24 rfl ?_)
      refine MEvP.less (L := [(0, .ref 301), (1, .int t1), (2, .int t2), (3, .int t1), (4, .int 1), (5, .int z10)]) rfl rfl ⟨rfl, rfl, rfl, rfl, rfl, rfl, trivial⟩ ?_
      have i13 : z10.toInt ≤ 7 := by omega
      have i14 : 0 ≤ (1 : Int) := by omega
      have i15 : (1 : Int) ≤ 1 := by omega
      exact c_M_laysCreases_l24  hp0 hp1 _ _ _ _ Po hT KW.refl i13 i14 i15 rfl
    · have c9 : x6.toInt > t2.toInt := ti_le_n c9
      refine mp_a (a_iconst (v := 0) dX7_laysCreases_12 rfl) (mpp 13 rfl ?_)
      have u16 : 0 ≤ (0 : Int) ∧ (0 : Int) ≤ 1 := by omega
      exact mp_iret ⟨⟨_, rfl, u16⟩, hT, KW.refl, trivial⟩ dX7_laysCreases_13 (Or.inr ⟨rfl, by decide⟩)

set_option maxHeartbeats 4000000 in
theorem c_M_creases {Po : mP} {t1 : Int32} (hT : Typ Po)  (hp0 : 0 ≤ t1.toInt) (hp1 : t1.toInt ≤ 7)  : EvP 4 136 [.ref 301, .int t1] Po (fun r P' => (∃ x : Int32, r = some (.int x) ∧ (-1 ≤ x.toInt ∧ x.toInt ≤ 8 ∧ x.toInt ≤ (fv Po 302 (4 + 19 * t1.toInt.toNat)).toInt ∧ (fv Po 302 (4 + 19 * t1.toInt.toNat)).toInt - 1 ≤ x.toInt)) ∧ P' = Po) := by
  refine EvP.of qm_136 (Nat.le_of_ble_eq_true rfl) rfl ?_
  show MEvP _ none q_136 0 [(0, .ref 301), (1, .int t1)] [] _ 0 0 _
  have g1 := ti_full (fv Po 302 (4 + 19 * t1.toInt.toNat))
  refine mp_a (a_aload_n dX7_creases_0 rfl) (mpp 1 rfl ?_)
  refine mp_a (a_iload_n dX7_creases_1 rfl) (mpp 2 rfl ?_)
  refine mp_a (a_iconst (v := 1) dX7_creases_2 rfl) (mpp 3 rfl ?_)
  have p2 : 0 ≤ t1.toInt := by omega
  have p3 : t1.toInt ≤ 7 := by omega
  have p4 : 0 ≤ (1 : Int) := by omega
  have p5 : (1 : Int) ≤ 18 := by omega
  refine mt_callv (i := 78) (q' := q_137) (As := [.int t1, .int 1]) (rest := []) hT dX7_creases_3 rfl qm_137 (by decide) rfl rl_301 (by decide) rfl (Nat.le_of_ble_eq_true rfl) rfl ⟨rfl, rfl⟩ ⟨Nat.le_of_ble_eq_true rfl, Nat.le_of_ble_eq_true rfl⟩ (EvP.mono (by decide) (c_M_of_c1 hT p2 p3 p4 p5 )) (fun r6 P7 g8 => mpp 6 rfl ?_)
  obtain ⟨⟨x9, rfl, g10⟩, e11⟩ := g8
  have e11 := e11.symm
  subst e11
  have wx9 := ti_full x9
  have g10 : x9.toInt = (fv Po 302 (4 + 19 * t1.toInt.toNat)).toInt ∧ 0 ≤ x9.toInt ∧ x9.toInt ≤ 8 := g10
  show MEvP _ none q_136 6 [(0, .ref 301), (1, .int t1)] [.int x9] _ _ _ _
  refine mp_a (a_aload_n dX7_creases_6 rfl) (mpp 7 rfl ?_)
  refine mp_a (a_iload_n dX7_creases_7 rfl) (mpp 8 rfl ?_)
  have p12 : 0 ≤ t1.toInt := by omega
  have p13 : t1.toInt ≤ 7 := by omega
  refine mt_callv (i := 81) (q' := q_138) (As := [.int t1]) (rest := [.int x9]) hT dX7_creases_8 rfl qm_138 (by decide) rfl rl_301 (by decide) rfl (Nat.le_of_ble_eq_true rfl) rfl ⟨rfl, rfl⟩ ⟨Nat.le_of_ble_eq_true rfl, Nat.le_of_ble_eq_true rfl⟩ (EvP.mono (by decide) (c_M_isCorner hT p12 p13 )) (fun r14 P15 g16 => mpp 11 rfl ?_)
  obtain ⟨⟨x17, rfl, g18⟩, e19⟩ := g16
  have e19 := e19.symm
  subst e19
  have wx17 := ti_full x17
  have g18 : 0 ≤ x17.toInt ∧ x17.toInt ≤ 1 ∧ ((x17.toInt = 1 ∧ (fv Po 302 (3 + 19 * t1.toInt.toNat)).toInt = 1) ∨ (x17.toInt = 0 ∧ (fv Po 302 (3 + 19 * t1.toInt.toNat)).toInt = 0)) := g18
  have g20 := ti_full (fv Po 302 (3 + 19 * t1.toInt.toNat))
  show MEvP _ none q_136 11 [(0, .ref 301), (1, .int t1)] [.int x17, .int x9] _ _ _ _
  refine mp_Tb (t := 18) (j_if_eq dX7_creases_11) (by decide) (fun c21 => ?_) (fun c21 => mpp 14 rfl ?_)
  · have c21 : x17.toInt = 0 := ti_eq c21
    refine mp_a (a_iconst (v := 1) dX7_creases_18 rfl) (mpp 19 rfl ?_)
    obtain ⟨z22, h23⟩ := ti_ex (x9 - 1 : Int32)
    have wz22 := ti_full z22
    refine mp_t (s_isub (v := z22) dX7_creases_19 h23) (mpp 20 rfl ?_)
    try have e24 : z22.toInt = x9.toInt - 1 := ti_subz h23 rfl rfl (by omega) (by omega)
    have u25 : -1 ≤ z22.toInt ∧ z22.toInt ≤ 8 ∧ z22.toInt ≤ (fv Po 302 (4 + 19 * t1.toInt.toNat)).toInt ∧ (fv Po 302 (4 + 19 * t1.toInt.toNat)).toInt - 1 ≤ z22.toInt := by omega
    exact mp_iret ⟨⟨_, rfl, u25⟩, rfl⟩ dX7_creases_20 (Or.inl rfl)
  · have c21 : x17.toInt ≠ 0 := ti_eq_n c21
    refine mp_a (a_iconst (v := 0) dX7_creases_14 rfl) (mpp 15 rfl ?_)
    refine mp_a (a_goto (t := 19) dX7_creases_15 (by decide)) ?_
    obtain ⟨z26, h27⟩ := ti_ex (x9 - 0 : Int32)
    have wz26 := ti_full z26
    refine mp_t (s_isub (v := z26) dX7_creases_19 h27) (mpp 20 rfl ?_)
    try have e28 : z26.toInt = x9.toInt - 0 := ti_subz h27 rfl rfl (by omega) (by omega)
    have u29 : -1 ≤ z26.toInt ∧ z26.toInt ≤ 8 ∧ z26.toInt ≤ (fv Po 302 (4 + 19 * t1.toInt.toNat)).toInt ∧ (fv Po 302 (4 + 19 * t1.toInt.toNat)).toInt - 1 ≤ z26.toInt := by omega
    exact mp_iret ⟨⟨_, rfl, u29⟩, rfl⟩ dX7_creases_20 (Or.inl rfl)

set_option maxHeartbeats 4000000 in
theorem c_M_adds_l72 {Po : mP} {t1 : Int32} {t2 : Int32} (hp0 : 0 ≤ t1.toInt) (hp1 : t1.toInt ≤ 1) (hp2 : 2 ≤ t2.toInt) (hp3 : t2.toInt ≤ 8) (hp4 : t1.toInt ≠ 0 ∨ t2.toInt ≤ 7)  : ∀ (n : Nat) (v3 : Int32) (v4 : Int32), ∀ (P : mP), Typ P → KW [1093, 1094, 1152] Po P → Rel P → (0 ≤ v3.toInt) → (v3.toInt ≤ 7) → (0 ≤ v4.toInt) → (2147483647 - v4.toInt).toNat = n → MEvP 4 none q_133 72 [(0, .ref 301), (1, .int t1), (2, .int t2), (3, .int v3), (4, .int v4)] [] P 0 0 (fun r P' => (∃ x : Int32, r = some (.int x) ∧ (True)) ∧ Typ P' ∧ KW [1093, 1094, 1152] Po P' ∧ Rel P') := by
  intro n
  induction n using Nat.strongRecOn with | _ n ih => ?_
  intro v3 v4 P hT hK hR i_0 i_1 i_2 hm
  have w_t1 := ti_full t1
  have w_t2 := ti_full t2
  have w_v3 := ti_full v3
  have w_v4 := ti_full v4
  refine mp_a (a_iload dX7_adds_72 rfl) (mpp 74 rfl ?_)
  refine mp_a (a_bipush (v := 8) dX7_adds_74 rfl) (mpp 76 rfl ?_)
  refine mp_Tb (t := 150) (j_icmp_ge dX7_adds_76) (by decide) (fun c1 => ?_) (fun c1 => mpp 79 rfl ?_)
  · have c1 : v4.toInt ≥ 8 := ti_ge c1
    refine mp_a (a_iload_n dX7_adds_150 rfl) (mpp 151 rfl ?_)
    exact mp_iret ⟨⟨_, rfl, trivial⟩, hT, hK, hR⟩ dX7_adds_151 (Or.inl rfl)
  · have c1 : v4.toInt < 8 := ti_ge_n c1
    refine mp_a (a_aload_n dX7_adds_79 rfl) (mpp 80 rfl ?_)
    refine mt_getU (i := 9) (k := 0) (A := 302) hT dX7_adds_80 rfl rl_301 (by decide) rfl (by decide) rfl un_18 (mpp 83 rfl ?_)
    refine mp_a (a_iload_n dX7_adds_83 rfl) (mpp 84 rfl ?_)
    refine mp_a (a_iconst (v := 3) dX7_adds_84 rfl) (mpp 85 rfl ?_)
    refine mp_a (a_iload dX7_adds_85 rfl) (mpp 87 rfl ?_)
    obtain ⟨z2, h3⟩ := ti_ex (3 + v4 : Int32)
    have wz2 := ti_full z2
    refine mp_t (s_iadd (v := z2) dX7_adds_87 h3) (mpp 88 rfl ?_)
    try have e4 : z2.toInt = 3 + v4.toInt := ti_addz h3 rfl rfl (by omega) (by omega)
    have p5 : 0 ≤ v3.toInt := by omega
    have p6 : v3.toInt ≤ 8 := by omega
    have p7 : 0 ≤ z2.toInt := by omega
    have p8 : z2.toInt ≤ 20 := by omega
    refine mp_calls (i := 74) (q' := q_135) (As := [.int v3, .int z2]) (rest := [.ref 302]) dX7_adds_88 rfl qm_135 (by decide) rfl (Nat.le_of_ble_eq_true rfl) rfl ⟨rfl, rfl⟩ ⟨Nat.le_of_ble_eq_true rfl, Nat.le_of_ble_eq_true rfl⟩ (EvP.mono (by decide) (c_M_at hT p5 p6 p7 p8 )) (fun r9 P10 g11 => mpp 91 rfl ?_)
    obtain ⟨⟨x12, rfl, g13⟩, e14⟩ := g11
    have e14 := e14.symm
    subst e14
    have wx12 := ti_full x12
    have g13 : x12.toInt = 3 + 19 * v3.toInt + z2.toInt := g13
    show MEvP _ none q_133 91 [(0, .ref 301), (1, .int t1), (2, .int t2), (3, .int v3), (4, .int v4)] [.int x12, .ref 302] _ _ _ _
    refine mp_a (a_iload dX7_adds_91 rfl) (mpp 93 rfl ?_)
    refine mp_a (a_iload_n dX7_adds_93 rfl) (mpp 94 rfl ?_)
    refine mp_Tb (t := 107) (j_icmp_ge dX7_adds_94) (by decide) (fun c15 => ?_) (fun c15 => mpp 97 rfl ?_)
    · have c15 : v4.toInt ≥ t2.toInt := ti_ge c15
      refine mp_a (a_iconst (v := 0) dX7_adds_107 rfl) (mpp 108 rfl ?_)
      refine mt_iasX (n := 155) hT dX7_adds_108 rl_302 (by decide) rfl rfl (by omega) (by omega) (okS_mk (by omega) (fun _ => ⟨by omega, by omega⟩) (fun _ => ⟨by omega, by omega⟩)) (fun P16 hT17 f18 f19 => mpp 109 rfl ?_)
      have k20 : KW [1093, 1094, 1152] Po P16 := KW.step hK rl_302 rfl f19
      have R21 := Rel.oth hR f19 (by omega)
      refine mp_a (a_aload_n dX7_adds_109 rfl) (mpp 110 rfl ?_)
      refine mt_getU (i := 9) (k := 0) (A := 302) hT17 dX7_adds_110 rfl rl_301 (by decide) rfl (by decide) rfl un_18 (mpp 113 rfl ?_)
      refine mp_a (a_iload_n dX7_adds_113 rfl) (mpp 114 rfl ?_)
      refine mp_a (a_bipush (v := 11) dX7_adds_114 rfl) (mpp 116 rfl ?_)
      refine mp_a (a_iload dX7_adds_116 rfl) (mpp 118 rfl ?_)
      obtain ⟨z22, h23⟩ := ti_ex (11 + v4 : Int32)
      have wz22 := ti_full z22
      refine mp_t (s_iadd (v := z22) dX7_adds_118 h23) (mpp 119 rfl ?_)
      try have e24 : z22.toInt = 11 + v4.toInt := ti_addz h23 rfl rfl (by omega) (by omega)
      have p25 : 0 ≤ v3.toInt := by omega
      have p26 : v3.toInt ≤ 8 := by omega
      have p27 : 0 ≤ z22.toInt := by omega
      have p28 : z22.toInt ≤ 20 := by omega
      refine mp_calls (i := 74) (q' := q_135) (As := [.int v3, .int z22]) (rest := [.ref 302]) dX7_adds_119 rfl qm_135 (by decide) rfl (Nat.le_of_ble_eq_true rfl) rfl ⟨rfl, rfl⟩ ⟨Nat.le_of_ble_eq_true rfl, Nat.le_of_ble_eq_true rfl⟩ (EvP.mono (by decide) (c_M_at hT17 p25 p26 p27 p28 )) (fun r29 P30 g31 => mpp 122 rfl ?_)
      obtain ⟨⟨x32, rfl, g33⟩, e34⟩ := g31
      have e34 := e34.symm
      subst e34
      have wx32 := ti_full x32
      have g33 : x32.toInt = 3 + 19 * v3.toInt + z22.toInt := g33
      show MEvP _ none q_133 122 [(0, .ref 301), (1, .int t1), (2, .int t2), (3, .int v3), (4, .int v4)] [.int x32, .ref 302] _ _ _ _
      refine mp_a (a_iload dX7_adds_122 rfl) (mpp 124 rfl ?_)
      refine mp_a (a_aload_n dX7_adds_124 rfl) (mpp 125 rfl ?_)
      refine mp_a (a_iload_n dX7_adds_125 rfl) (mpp 126 rfl ?_)
      have p35 : 0 ≤ v3.toInt := by omega
      have p36 : v3.toInt ≤ 7 := by omega
      refine mt_callv (i := 88) (q' := q_136) (As := [.int v3]) (rest := [.int v4, .int x32, .ref 302]) hT17 dX7_adds_126 rfl qm_136 (by decide) rfl rl_301 (by decide) rfl (Nat.le_of_ble_eq_true rfl) rfl ⟨rfl, rfl⟩ ⟨Nat.le_of_ble_eq_true rfl, Nat.le_of_ble_eq_true rfl⟩ (EvP.mono (by decide) (c_M_creases hT17 p35 p36 )) (fun r37 P38 g39 => mpp 129 rfl ?_)
      obtain ⟨⟨x40, rfl, g41⟩, e42⟩ := g39
      have e42 := e42.symm
      subst e42
      have wx40 := ti_full x40
      have g41 : -1 ≤ x40.toInt ∧ x40.toInt ≤ 8 ∧ x40.toInt ≤ (fv P16 302 (4 + 19 * v3.toInt.toNat)).toInt ∧ (fv P16 302 (4 + 19 * v3.toInt.toNat)).toInt - 1 ≤ x40.toInt := g41
      have g43 := ti_full (fv P16 302 (4 + 19 * v3.toInt.toNat))
      show MEvP _ none q_133 129 [(0, .ref 301), (1, .int t1), (2, .int t2), (3, .int v3), (4, .int v4)] [.int x40, .int v4, .int x32, .ref 302] _ _ _ _
      refine mp_Tb (t := 142) (j_icmp_ge dX7_adds_129) (by decide) (fun c44 => ?_) (fun c44 => mpp 132 rfl ?_)
      · have c44 : v4.toInt ≥ x40.toInt := ti_ge c44
        refine mp_a (a_iconst (v := 0) dX7_adds_142 rfl) (mpp 143 rfl ?_)
        refine mt_iasX (n := 155) hT17 dX7_adds_143 rl_302 (by decide) rfl rfl (by omega) (by omega) (okS_mk (by omega) (fun _ => ⟨by omega, by omega⟩) (fun _ => ⟨by omega, by omega⟩)) (fun P45 hT46 f47 f48 => mpp 144 rfl ?_)
        have k49 : KW [1093, 1094, 1152] Po P45 := KW.step k20 rl_302 rfl f48
        have R50 := Rel.oth R21 f48 (by omega)
        obtain ⟨z51, h52⟩ := ti_ex (v4 + 1 : Int32)
        have wz51 := ti_full z51
        refine mp_a (a_iinc (v := z51) (L' := [(4, .int z51), (0, .ref 301), (1, .int t1), (2, .int t2), (3, .int v3)]) dX7_adds_144 (by decide) rfl h52 rfl) (mpp 147 rfl ?_)
        try have e53 : z51.toInt = v4.toInt + 1 := ti_addz h52 rfl rfl (by omega) (by omega)
        refine mp_a (a_goto (t := 72) dX7_adds_147 (by decide)) ?_
        refine MEvP.less (L := [(0, .ref 301), (1, .int t1), (2, .int t2), (3, .int v3), (4, .int z51)]) rfl rfl ⟨rfl, rfl, rfl, rfl, rfl, trivial⟩ ?_
        have i54 : 0 ≤ v3.toInt := by omega
        have i55 : v3.toInt ≤ 7 := by omega
        have i56 : 0 ≤ z51.toInt := by omega
        exact ih _ (by omega) _ _ P45 hT46 k49 R50 i54 i55 i56 rfl
      · have c44 : v4.toInt < x40.toInt := ti_ge_n c44
        refine mp_a (a_aload_n dX7_adds_132 rfl) (mpp 133 rfl ?_)
        refine mt_getU (i := 25) (k := 10) (A := 307) hT17 dX7_adds_133 rfl rl_301 (by decide) rfl (by decide) rfl un_23 (mpp 136 rfl ?_)
        refine mp_a (a_iload dX7_adds_136 rfl) (mpp 138 rfl ?_)
        refine mt_ial (n := 8) hT17 dX7_adds_138 rl_307 (by decide) rfl rfl (by omega) (by omega) rfl (fun g57 g58 => mpp 139 rfl ?_)
        refine mp_a (a_goto (t := 143) dX7_adds_139 (by decide)) ?_
        refine mt_iasX (n := 155) hT17 dX7_adds_143 rl_302 (by decide) rfl rfl (by omega) (by omega) (okS_mk (by omega) (fun _ => ⟨by omega, by omega⟩) (fun _ => ⟨by omega, by omega⟩)) (fun P59 hT60 f61 f62 => mpp 144 rfl ?_)
        have k63 : KW [1093, 1094, 1152] Po P59 := KW.step k20 rl_302 rfl f62
        have R64 := Rel.oth R21 f62 (by omega)
        obtain ⟨z65, h66⟩ := ti_ex (v4 + 1 : Int32)
        have wz65 := ti_full z65
        refine mp_a (a_iinc (v := z65) (L' := [(4, .int z65), (0, .ref 301), (1, .int t1), (2, .int t2), (3, .int v3)]) dX7_adds_144 (by decide) rfl h66 rfl) (mpp 147 rfl ?_)
        try have e67 : z65.toInt = v4.toInt + 1 := ti_addz h66 rfl rfl (by omega) (by omega)
        refine mp_a (a_goto (t := 72) dX7_adds_147 (by decide)) ?_
        refine MEvP.less (L := [(0, .ref 301), (1, .int t1), (2, .int t2), (3, .int v3), (4, .int z65)]) rfl rfl ⟨rfl, rfl, rfl, rfl, rfl, trivial⟩ ?_
        have i68 : 0 ≤ v3.toInt := by omega
        have i69 : v3.toInt ≤ 7 := by omega
        have i70 : 0 ≤ z65.toInt := by omega
        exact ih _ (by omega) _ _ P59 hT60 k63 R64 i68 i69 i70 rfl
    · have c15 : v4.toInt < t2.toInt := ti_ge_n c15
      refine mp_a (a_aload_n dX7_adds_97 rfl) (mpp 98 rfl ?_)
      refine mt_getU (i := 22) (k := 9) (A := 306) hT dX7_adds_98 rfl rl_301 (by decide) rfl (by decide) rfl un_22 (mpp 101 rfl ?_)
      refine mp_a (a_iload dX7_adds_101 rfl) (mpp 103 rfl ?_)
      refine mt_ial (n := 8) hT dX7_adds_103 rl_306 (by decide) rfl rfl (by omega) (by omega) rfl (fun g71 g72 => mpp 104 rfl ?_)
      refine mp_a (a_goto (t := 108) dX7_adds_104 (by decide)) ?_
      refine mt_iasX (n := 155) hT dX7_adds_108 rl_302 (by decide) rfl rfl (by omega) (by omega) (okS_mk (by omega) (fun _ => ⟨by omega, by omega⟩) (fun _ => ⟨by omega, by omega⟩)) (fun P73 hT74 f75 f76 => mpp 109 rfl ?_)
      have k77 : KW [1093, 1094, 1152] Po P73 := KW.step hK rl_302 rfl f76
      have R78 := Rel.oth hR f76 (by omega)
      refine mp_a (a_aload_n dX7_adds_109 rfl) (mpp 110 rfl ?_)
      refine mt_getU (i := 9) (k := 0) (A := 302) hT74 dX7_adds_110 rfl rl_301 (by decide) rfl (by decide) rfl un_18 (mpp 113 rfl ?_)
      refine mp_a (a_iload_n dX7_adds_113 rfl) (mpp 114 rfl ?_)
      refine mp_a (a_bipush (v := 11) dX7_adds_114 rfl) (mpp 116 rfl ?_)
      refine mp_a (a_iload dX7_adds_116 rfl) (mpp 118 rfl ?_)
      obtain ⟨z79, h80⟩ := ti_ex (11 + v4 : Int32)
      have wz79 := ti_full z79
      refine mp_t (s_iadd (v := z79) dX7_adds_118 h80) (mpp 119 rfl ?_)
      try have e81 : z79.toInt = 11 + v4.toInt := ti_addz h80 rfl rfl (by omega) (by omega)
      have p82 : 0 ≤ v3.toInt := by omega
      have p83 : v3.toInt ≤ 8 := by omega
      have p84 : 0 ≤ z79.toInt := by omega
      have p85 : z79.toInt ≤ 20 := by omega
      refine mp_calls (i := 74) (q' := q_135) (As := [.int v3, .int z79]) (rest := [.ref 302]) dX7_adds_119 rfl qm_135 (by decide) rfl (Nat.le_of_ble_eq_true rfl) rfl ⟨rfl, rfl⟩ ⟨Nat.le_of_ble_eq_true rfl, Nat.le_of_ble_eq_true rfl⟩ (EvP.mono (by decide) (c_M_at hT74 p82 p83 p84 p85 )) (fun r86 P87 g88 => mpp 122 rfl ?_)
      obtain ⟨⟨x89, rfl, g90⟩, e91⟩ := g88
      have e91 := e91.symm
      subst e91
      have wx89 := ti_full x89
      have g90 : x89.toInt = 3 + 19 * v3.toInt + z79.toInt := g90
      show MEvP _ none q_133 122 [(0, .ref 301), (1, .int t1), (2, .int t2), (3, .int v3), (4, .int v4)] [.int x89, .ref 302] _ _ _ _
      refine mp_a (a_iload dX7_adds_122 rfl) (mpp 124 rfl ?_)
      refine mp_a (a_aload_n dX7_adds_124 rfl) (mpp 125 rfl ?_)
      refine mp_a (a_iload_n dX7_adds_125 rfl) (mpp 126 rfl ?_)
      have p92 : 0 ≤ v3.toInt := by omega
      have p93 : v3.toInt ≤ 7 := by omega
      refine mt_callv (i := 88) (q' := q_136) (As := [.int v3]) (rest := [.int v4, .int x89, .ref 302]) hT74 dX7_adds_126 rfl qm_136 (by decide) rfl rl_301 (by decide) rfl (Nat.le_of_ble_eq_true rfl) rfl ⟨rfl, rfl⟩ ⟨Nat.le_of_ble_eq_true rfl, Nat.le_of_ble_eq_true rfl⟩ (EvP.mono (by decide) (c_M_creases hT74 p92 p93 )) (fun r94 P95 g96 => mpp 129 rfl ?_)
      obtain ⟨⟨x97, rfl, g98⟩, e99⟩ := g96
      have e99 := e99.symm
      subst e99
      have wx97 := ti_full x97
      have g98 : -1 ≤ x97.toInt ∧ x97.toInt ≤ 8 ∧ x97.toInt ≤ (fv P73 302 (4 + 19 * v3.toInt.toNat)).toInt ∧ (fv P73 302 (4 + 19 * v3.toInt.toNat)).toInt - 1 ≤ x97.toInt := g98
      have g100 := ti_full (fv P73 302 (4 + 19 * v3.toInt.toNat))
      show MEvP _ none q_133 129 [(0, .ref 301), (1, .int t1), (2, .int t2), (3, .int v3), (4, .int v4)] [.int x97, .int v4, .int x89, .ref 302] _ _ _ _
      refine mp_Tb (t := 142) (j_icmp_ge dX7_adds_129) (by decide) (fun c101 => ?_) (fun c101 => mpp 132 rfl ?_)
      · have c101 : v4.toInt ≥ x97.toInt := ti_ge c101
        refine mp_a (a_iconst (v := 0) dX7_adds_142 rfl) (mpp 143 rfl ?_)
        refine mt_iasX (n := 155) hT74 dX7_adds_143 rl_302 (by decide) rfl rfl (by omega) (by omega) (okS_mk (by omega) (fun _ => ⟨by omega, by omega⟩) (fun _ => ⟨by omega, by omega⟩)) (fun P102 hT103 f104 f105 => mpp 144 rfl ?_)
        have k106 : KW [1093, 1094, 1152] Po P102 := KW.step k77 rl_302 rfl f105
        have R107 := Rel.oth R78 f105 (by omega)
        obtain ⟨z108, h109⟩ := ti_ex (v4 + 1 : Int32)
        have wz108 := ti_full z108
        refine mp_a (a_iinc (v := z108) (L' := [(4, .int z108), (0, .ref 301), (1, .int t1), (2, .int t2), (3, .int v3)]) dX7_adds_144 (by decide) rfl h109 rfl) (mpp 147 rfl ?_)
        try have e110 : z108.toInt = v4.toInt + 1 := ti_addz h109 rfl rfl (by omega) (by omega)
        refine mp_a (a_goto (t := 72) dX7_adds_147 (by decide)) ?_
        refine MEvP.less (L := [(0, .ref 301), (1, .int t1), (2, .int t2), (3, .int v3), (4, .int z108)]) rfl rfl ⟨rfl, rfl, rfl, rfl, rfl, trivial⟩ ?_
        have i111 : 0 ≤ v3.toInt := by omega
        have i112 : v3.toInt ≤ 7 := by omega
        have i113 : 0 ≤ z108.toInt := by omega
        exact ih _ (by omega) _ _ P102 hT103 k106 R107 i111 i112 i113 rfl
      · have c101 : v4.toInt < x97.toInt := ti_ge_n c101
        refine mp_a (a_aload_n dX7_adds_132 rfl) (mpp 133 rfl ?_)
        refine mt_getU (i := 25) (k := 10) (A := 307) hT74 dX7_adds_133 rfl rl_301 (by decide) rfl (by decide) rfl un_23 (mpp 136 rfl ?_)
        refine mp_a (a_iload dX7_adds_136 rfl) (mpp 138 rfl ?_)
        refine mt_ial (n := 8) hT74 dX7_adds_138 rl_307 (by decide) rfl rfl (by omega) (by omega) rfl (fun g114 g115 => mpp 139 rfl ?_)
        refine mp_a (a_goto (t := 143) dX7_adds_139 (by decide)) ?_
        refine mt_iasX (n := 155) hT74 dX7_adds_143 rl_302 (by decide) rfl rfl (by omega) (by omega) (okS_mk (by omega) (fun _ => ⟨by omega, by omega⟩) (fun _ => ⟨by omega, by omega⟩)) (fun P116 hT117 f118 f119 => mpp 144 rfl ?_)
        have k120 : KW [1093, 1094, 1152] Po P116 := KW.step k77 rl_302 rfl f119
        have R121 := Rel.oth R78 f119 (by omega)
        obtain ⟨z122, h123⟩ := ti_ex (v4 + 1 : Int32)
        have wz122 := ti_full z122
        refine mp_a (a_iinc (v := z122) (L' := [(4, .int z122), (0, .ref 301), (1, .int t1), (2, .int t2), (3, .int v3)]) dX7_adds_144 (by decide) rfl h123 rfl) (mpp 147 rfl ?_)
        try have e124 : z122.toInt = v4.toInt + 1 := ti_addz h123 rfl rfl (by omega) (by omega)
        refine mp_a (a_goto (t := 72) dX7_adds_147 (by decide)) ?_
        refine MEvP.less (L := [(0, .ref 301), (1, .int t1), (2, .int t2), (3, .int v3), (4, .int z122)]) rfl rfl ⟨rfl, rfl, rfl, rfl, rfl, trivial⟩ ?_
        have i125 : 0 ≤ v3.toInt := by omega
        have i126 : v3.toInt ≤ 7 := by omega
        have i127 : 0 ≤ z122.toInt := by omega
        exact ih _ (by omega) _ _ P116 hT117 k120 R121 i125 i126 i127 rfl

set_option maxHeartbeats 4000000 in
theorem c_M_adds {Po : mP} {t1 : Int32} {t2 : Int32} (hT : Typ Po) (hR : Rel Po) (hp0 : 0 ≤ t1.toInt) (hp1 : t1.toInt ≤ 1) (hp2 : 2 ≤ t2.toInt) (hp3 : t2.toInt ≤ 8) (hp4 : t1.toInt ≠ 0 ∨ t2.toInt ≤ 7)  : EvP 5 133 [.ref 301, .int t1, .int t2] Po (fun r P' => (∃ x : Int32, r = some (.int x) ∧ (True)) ∧ Typ P' ∧ KW [1093, 1094, 1152] Po P' ∧ Rel P') := by
  refine EvP.of qm_133 (Nat.le_of_ble_eq_true rfl) rfl ?_
  show MEvP _ none q_133 0 [(0, .ref 301), (1, .int t1), (2, .int t2)] [] _ 0 0 _
  refine mp_a (a_aload_n dX7_adds_0 rfl) (mpp 1 rfl ?_)
  refine mt_getU (i := 9) (k := 0) (A := 302) hT dX7_adds_1 rfl rl_301 (by decide) rfl (by decide) rfl un_18 (mpp 4 rfl ?_)
  refine mp_a (a_iconst (v := 0) dX7_adds_4 rfl) (mpp 5 rfl ?_)
  have g3 : (0 : Int) ≤ (fv Po 302 0).toInt ∧ (fv Po 302 0).toInt ≤ 8 := Typ.rng hT rl_302 (by decide) (by decide) rfl
  refine mt_ialX (n := 155) hT dX7_adds_5 rl_302 (by decide) rfl rfl (by decide) (by decide) ssp_0 (fun g1 => mpp 6 rfl ?_)
  have we4 := ti_full (fv Po 302 0)
  refine mp_a (a_bipush (v := 8) dX7_adds_6 rfl) (mpp 8 rfl ?_)
  refine mp_Tb (t := 19) (j_icmp_ne dX7_adds_8) (by decide) (fun c5 => ?_) (fun c5 => mpp 11 rfl ?_)
  · have c5 : (fv Po 302 0).toInt ≠ 8 := ti_ne c5
    refine mp_a (a_aload_n dX7_adds_19 rfl) (mpp 20 rfl ?_)
    refine mt_getU (i := 9) (k := 0) (A := 302) hT dX7_adds_20 rfl rl_301 (by decide) rfl (by decide) rfl un_18 (mpp 23 rfl ?_)
    refine mp_a (a_iconst (v := 0) dX7_adds_23 rfl) (mpp 24 rfl ?_)
    refine mt_ialX (n := 155) hT dX7_adds_24 rl_302 (by decide) rfl rfl (by decide) (by decide) ssp_0 (fun g6 => mpp 25 rfl ?_)
    have we8 := ti_full (fv Po 302 0)
    refine mp_a (a_istore_n (L' := [(3, .int (fv Po 302 0)), (0, .ref 301), (1, .int t1), (2, .int t2)]) dX7_adds_25 (by decide) rfl) (mpp 26 rfl ?_)
    refine mp_a (a_aload_n dX7_adds_26 rfl) (mpp 27 rfl ?_)
    refine mt_getU (i := 9) (k := 0) (A := 302) hT dX7_adds_27 rfl rl_301 (by decide) rfl (by decide) rfl un_18 (mpp 30 rfl ?_)
    refine mp_a (a_iconst (v := 0) dX7_adds_30 rfl) (mpp 31 rfl ?_)
    refine mp_t (s_dup2 dX7_adds_31 ⟨rfl, rfl⟩) (mpp 32 rfl ?_)
    refine mt_ialX (n := 155) hT dX7_adds_32 rl_302 (by decide) rfl rfl (by decide) (by decide) ssp_0 (fun g9 => mpp 33 rfl ?_)
    have we11 := ti_full (fv Po 302 0)
    refine mp_a (a_iconst (v := 1) dX7_adds_33 rfl) (mpp 34 rfl ?_)
    obtain ⟨z12, h13⟩ := ti_ex ((fv Po 302 0) + 1 : Int32)
    have wz12 := ti_full z12
    refine mp_t (s_iadd (v := z12) dX7_adds_34 h13) (mpp 35 rfl ?_)
    try have e14 : z12.toInt = (fv Po 302 0).toInt + 1 := ti_addz h13 rfl rfl (by omega) (by omega)
    refine mt_iasX (n := 155) hT dX7_adds_35 rl_302 (by decide) rfl rfl (by decide) (by decide) (okS_c0 ⟨by omega, by omega⟩) (fun P15 hT16 f17 f18 => mpp 36 rfl ?_)
    have f17 : fv P15 302 0 = _ := f17
    have f18 : ∀ b j : Nat, ¬ (b = 302 ∧ j = 0) → fv P15 b j = fv Po b j := f18
    have k19 : KW [1093, 1094, 1152] Po P15 := KW.step KW.refl rl_302 rfl f18
    have e21 : (fv P15 302 0).toInt = z12.toInt := congrArg Int32.toInt f17
    refine mp_a (a_aload_n dX7_adds_36 rfl) (mpp 37 rfl ?_)
    refine mt_getU (i := 9) (k := 0) (A := 302) hT16 dX7_adds_37 rfl rl_301 (by decide) rfl (by decide) rfl un_18 (mpp 40 rfl ?_)
    refine mp_a (a_iload_n dX7_adds_40 rfl) (mpp 41 rfl ?_)
    refine mp_a (a_iconst (v := 0) dX7_adds_41 rfl) (mpp 42 rfl ?_)
    have p22 : 0 ≤ (fv Po 302 0).toInt := by omega
    have p23 : (fv Po 302 0).toInt ≤ 8 := by omega
    have p24 : 0 ≤ (0 : Int) := by omega
    have p25 : (0 : Int) ≤ 20 := by omega
    refine mp_calls (i := 74) (q' := q_135) (As := [.int (fv Po 302 0), .int 0]) (rest := [.ref 302]) dX7_adds_42 rfl qm_135 (by decide) rfl (Nat.le_of_ble_eq_true rfl) rfl ⟨rfl, rfl⟩ ⟨Nat.le_of_ble_eq_true rfl, Nat.le_of_ble_eq_true rfl⟩ (EvP.mono (by decide) (c_M_at hT16 p22 p23 p24 p25 )) (fun r26 P27 g28 => mpp 45 rfl ?_)
    obtain ⟨⟨x29, rfl, g30⟩, e31⟩ := g28
    have e31 := e31.symm
    subst e31
    have wx29 := ti_full x29
    have g30 : x29.toInt = 3 + 19 * (fv Po 302 0).toInt + (0 : Int) := g30
    show MEvP _ none q_133 45 [(3, .int (fv Po 302 0)), (0, .ref 301), (1, .int t1), (2, .int t2)] [.int x29, .ref 302] _ _ _ _
    refine mp_a (a_iload_n dX7_adds_45 rfl) (mpp 46 rfl ?_)
    refine mt_iasX (n := 155) hT16 dX7_adds_46 rl_302 (by decide) rfl rfl (by omega) (by omega) (okS_mk (by omega) (fun _ => ⟨by omega, by omega⟩) (fun _ => ⟨by omega, by omega⟩)) (fun P32 hT33 f34 f35 => mpp 47 rfl ?_)
    have k36 : KW [1093, 1094, 1152] Po P32 := KW.step k19 rl_302 rfl f35
    refine mp_a (a_aload_n dX7_adds_47 rfl) (mpp 48 rfl ?_)
    refine mt_getU (i := 9) (k := 0) (A := 302) hT33 dX7_adds_48 rfl rl_301 (by decide) rfl (by decide) rfl un_18 (mpp 51 rfl ?_)
    refine mp_a (a_iload_n dX7_adds_51 rfl) (mpp 52 rfl ?_)
    refine mp_a (a_iconst (v := 1) dX7_adds_52 rfl) (mpp 53 rfl ?_)
    have p38 : 0 ≤ (fv Po 302 0).toInt := by omega
    have p39 : (fv Po 302 0).toInt ≤ 8 := by omega
    have p40 : 0 ≤ (1 : Int) := by omega
    have p41 : (1 : Int) ≤ 20 := by omega
    refine mp_calls (i := 74) (q' := q_135) (As := [.int (fv Po 302 0), .int 1]) (rest := [.ref 302]) dX7_adds_53 rfl qm_135 (by decide) rfl (Nat.le_of_ble_eq_true rfl) rfl ⟨rfl, rfl⟩ ⟨Nat.le_of_ble_eq_true rfl, Nat.le_of_ble_eq_true rfl⟩ (EvP.mono (by decide) (c_M_at hT33 p38 p39 p40 p41 )) (fun r42 P43 g44 => mpp 56 rfl ?_)
    obtain ⟨⟨x45, rfl, g46⟩, e47⟩ := g44
    have e47 := e47.symm
    subst e47
    have wx45 := ti_full x45
    have g46 : x45.toInt = 3 + 19 * (fv Po 302 0).toInt + (1 : Int) := g46
    show MEvP _ none q_133 56 [(3, .int (fv Po 302 0)), (0, .ref 301), (1, .int t1), (2, .int t2)] [.int x45, .ref 302] _ _ _ _
    refine mp_a (a_iload_n dX7_adds_56 rfl) (mpp 57 rfl ?_)
    refine mt_iasX (n := 155) hT33 dX7_adds_57 rl_302 (by decide) rfl rfl (by omega) (by omega) (okS_mk (by omega) (fun _ => ⟨by omega, by omega⟩) (fun _ => ⟨by omega, by omega⟩)) (fun P48 hT49 f50 f51 => mpp 58 rfl ?_)
    have k52 : KW [1093, 1094, 1152] Po P48 := KW.step k36 rl_302 rfl f51
    have R53 := Rel.rec hR (p := (fv Po 302 0).toInt.toNat) f18 f17 f35 f34 f51 f50 (by omega) (by omega) (by omega) (by omega) (by omega) (by omega)
    refine mp_a (a_aload_n dX7_adds_58 rfl) (mpp 59 rfl ?_)
    refine mt_getU (i := 9) (k := 0) (A := 302) hT49 dX7_adds_59 rfl rl_301 (by decide) rfl (by decide) rfl un_18 (mpp 62 rfl ?_)
    refine mp_a (a_iload_n dX7_adds_62 rfl) (mpp 63 rfl ?_)
    refine mp_a (a_iconst (v := 2) dX7_adds_63 rfl) (mpp 64 rfl ?_)
    have p54 : 0 ≤ (fv Po 302 0).toInt := by omega
    have p55 : (fv Po 302 0).toInt ≤ 8 := by omega
    have p56 : 0 ≤ (2 : Int) := by omega
    have p57 : (2 : Int) ≤ 20 := by omega
    refine mp_calls (i := 74) (q' := q_135) (As := [.int (fv Po 302 0), .int 2]) (rest := [.ref 302]) dX7_adds_64 rfl qm_135 (by decide) rfl (Nat.le_of_ble_eq_true rfl) rfl ⟨rfl, rfl⟩ ⟨Nat.le_of_ble_eq_true rfl, Nat.le_of_ble_eq_true rfl⟩ (EvP.mono (by decide) (c_M_at hT49 p54 p55 p56 p57 )) (fun r58 P59 g60 => mpp 67 rfl ?_)
    obtain ⟨⟨x61, rfl, g62⟩, e63⟩ := g60
    have e63 := e63.symm
    subst e63
    have wx61 := ti_full x61
    have g62 : x61.toInt = 3 + 19 * (fv Po 302 0).toInt + (2 : Int) := g62
    show MEvP _ none q_133 67 [(3, .int (fv Po 302 0)), (0, .ref 301), (1, .int t1), (2, .int t2)] [.int x61, .ref 302] _ _ _ _
    refine mp_a (a_iconst (v := 0) dX7_adds_67 rfl) (mpp 68 rfl ?_)
    refine mt_iasX (n := 155) hT49 dX7_adds_68 rl_302 (by decide) rfl rfl (by omega) (by omega) (okS_mk (by omega) (fun _ => ⟨by omega, by omega⟩) (fun _ => ⟨by omega, by omega⟩)) (fun P64 hT65 f66 f67 => mpp 69 rfl ?_)
    have k68 : KW [1093, 1094, 1152] Po P64 := KW.step k52 rl_302 rfl f67
    have R69 := Rel.oth R53 f67 (by omega)
    refine mp_a (a_iconst (v := 0) dX7_adds_69 rfl) (mpp 70 rfl ?_)
    refine mp_a (a_istore (L' := [(4, .int 0), (3, .int (fv Po 302 0)), (0, .ref 301), (1, .int t1), (2, .int t2)]) dX7_adds_70 (by decide) rfl) (mpp 72 rfl ?_)
    refine MEvP.less (L := [(0, .ref 301), (1, .int t1), (2, .int t2), (3, .int (fv Po 302 0)), (4, .int 0)]) rfl rfl ⟨rfl, rfl, rfl, rfl, rfl, trivial⟩ ?_
    have i70 : 0 ≤ (fv Po 302 0).toInt := by omega
    have i71 : (fv Po 302 0).toInt ≤ 7 := by omega
    have i72 : 0 ≤ (0 : Int) := by omega
    exact c_M_adds_l72  hp0 hp1 hp2 hp3 hp4 _ _ _ P64 hT65 k68 R69 i70 i71 i72 rfl
  · have c5 : (fv Po 302 0).toInt = 8 := ti_ne_n c5
    refine mp_a (a_aload_n dX7_adds_11 rfl) (mpp 12 rfl ?_)
    refine mp_a (a_iconst (v := 1) dX7_adds_12 rfl) (mpp 13 rfl ?_)
    refine mp_a (a_bipush (v := 8) dX7_adds_13 rfl) (mpp 15 rfl ?_)
    refine mt_callv (i := 101) (q' := q_134) (As := [.int 1, .int 8]) (rest := []) hT dX7_adds_15 rfl qm_134 (by decide) rfl rl_301 (by decide) rfl (Nat.le_of_ble_eq_true rfl) rfl ⟨rfl, rfl⟩ ⟨Nat.le_of_ble_eq_true rfl, Nat.le_of_ble_eq_true rfl⟩ (EvP.mono (by decide) (c_M_refuses hT )) (fun r73 P74 g75 => mpp 18 rfl ?_)
    obtain ⟨⟨x76, rfl, g77⟩, hT78, k79, R80⟩ := g75
    have k81 : KW [1093, 1094, 1152] Po P74 := KW.trans KW.refl k79 rfl
    have R82 := Rel.kw hR k79 rfl
    have wx76 := ti_full x76
    show MEvP _ none q_133 18 [(0, .ref 301), (1, .int t1), (2, .int t2)] [.int x76] _ _ _ _
    exact mp_iret ⟨⟨_, rfl, trivial⟩, hT78, k81, R82⟩ dX7_adds_18 (Or.inl rfl)

set_option maxHeartbeats 4000000 in
theorem c_M_addsTold {Po : mP} {t1 : Int32} {t2 : Int32} {t3 : Int32} (hT : Typ Po) (hR : Rel Po)  : EvP 6 126 [.ref 301, .int t1, .int t2, .int t3] Po (fun r P' => (∃ x : Int32, r = some (.int x) ∧ (True)) ∧ Typ P' ∧ KW [1093, 1094, 1152, 1408, 1472] Po P' ∧ Rel P') := by
  refine EvP.of qm_126 (Nat.le_of_ble_eq_true rfl) rfl ?_
  show MEvP _ none q_126 0 [(0, .ref 301), (1, .int t1), (2, .int t2), (3, .int t3)] [] _ 0 0 _
  refine mp_a (a_iload_n dX7_addsTold_0 rfl) (mpp 1 rfl ?_)
  refine mp_a (a_iconst (v := 0) dX7_addsTold_1 rfl) (mpp 2 rfl ?_)
  refine mp_a (a_iconst (v := 1) dX7_addsTold_2 rfl) (mpp 3 rfl ?_)
  refine mp_calls (i := 61) (q' := q_127) (As := [.int t1, .int 0, .int 1]) (rest := []) dX7_addsTold_3 rfl qm_127 (by decide) rfl (Nat.le_of_ble_eq_true rfl) rfl ⟨rfl, rfl⟩ ⟨Nat.le_of_ble_eq_true rfl, Nat.le_of_ble_eq_true rfl⟩ (EvP.mono (by decide) (c_M_isIn hT )) (fun r1 P2 g3 => mpp 6 rfl ?_)
  obtain ⟨⟨x4, rfl, g5⟩, e6⟩ := g3
  have e6 := e6.symm
  subst e6
  have wx4 := ti_full x4
  have g5 : 0 ≤ x4.toInt ∧ x4.toInt ≤ 1 ∧ ((x4.toInt = 1 ∧ (0 : Int) ≤ t1.toInt ∧ t1.toInt ≤ (1 : Int)) ∨ (x4.toInt = 0 ∧ (t1.toInt < (0 : Int) ∨ (1 : Int) < t1.toInt))) := g5
  show MEvP _ none q_126 6 [(0, .ref 301), (1, .int t1), (2, .int t2), (3, .int t3)] [.int x4] _ _ _ _
  refine mp_Tb (t := 17) (j_if_eq dX7_addsTold_6) (by decide) (fun c7 => ?_) (fun c7 => mpp 9 rfl ?_)
  · have c7 : x4.toInt = 0 := ti_eq c7
    refine mp_a (a_iconst (v := 0) dX7_addsTold_17 rfl) (mpp 18 rfl ?_)
    refine mp_a (a_istore (L' := [(4, .int 0), (0, .ref 301), (1, .int t1), (2, .int t2), (3, .int t3)]) dX7_addsTold_18 (by decide) rfl) (mpp 20 rfl ?_)
    refine mp_a (a_iload dX7_addsTold_20 rfl) (mpp 22 rfl ?_)
    refine mp_Tt (t := 56) (j_if_eq dX7_addsTold_22) (by decide) (by decide) ?_
    refine mp_a (a_sipush (v := -1002) dX7_addsTold_56 rfl) (mpp 59 rfl ?_)
    exact mp_iret ⟨⟨_, rfl, trivial⟩, hT, KW.refl, hR⟩ dX7_addsTold_59 (Or.inl rfl)
  · have c7 : x4.toInt ≠ 0 := ti_eq_n c7
    refine mp_a (a_aload_n dX7_addsTold_9 rfl) (mpp 10 rfl ?_)
    refine mp_a (a_iload_n dX7_addsTold_10 rfl) (mpp 11 rfl ?_)
    refine mt_callv (i := 104) (q' := q_128) (As := [.int t2]) (rest := []) hT dX7_addsTold_11 rfl qm_128 (by decide) rfl rl_301 (by decide) rfl (Nat.le_of_ble_eq_true rfl) rfl ⟨rfl, rfl⟩ ⟨Nat.le_of_ble_eq_true rfl, Nat.le_of_ble_eq_true rfl⟩ (EvP.mono (by decide) (c_M_laysSizes hT )) (fun r8 P9 g10 => mpp 14 rfl ?_)
    obtain ⟨⟨x11, rfl, g12⟩, hT13, k14, R15⟩ := g10
    have k16 : KW [1093, 1094, 1152, 1408, 1472] Po P9 := KW.trans KW.refl k14 rfl
    have R17 := Rel.kw hR k14 rfl
    have wx11 := ti_full x11
    have g12 : 0 ≤ x11.toInt ∧ x11.toInt ≤ 8 := g12
    show MEvP _ none q_126 14 [(0, .ref 301), (1, .int t1), (2, .int t2), (3, .int t3)] [.int x11] _ _ _ _
    refine mp_a (a_goto (t := 18) dX7_addsTold_14 (by decide)) ?_
    refine mp_a (a_istore (L' := [(4, .int x11), (0, .ref 301), (1, .int t1), (2, .int t2), (3, .int t3)]) dX7_addsTold_18 (by decide) rfl) (mpp 20 rfl ?_)
    refine mp_a (a_iload dX7_addsTold_20 rfl) (mpp 22 rfl ?_)
    refine mp_Tb (t := 56) (j_if_eq dX7_addsTold_22) (by decide) (fun c18 => ?_) (fun c18 => mpp 25 rfl ?_)
    · have c18 : x11.toInt = 0 := ti_eq c18
      refine mp_a (a_sipush (v := -1002) dX7_addsTold_56 rfl) (mpp 59 rfl ?_)
      exact mp_iret ⟨⟨_, rfl, trivial⟩, hT13, k16, R17⟩ dX7_addsTold_59 (Or.inl rfl)
    · have c18 : x11.toInt ≠ 0 := ti_eq_n c18
      refine mp_a (a_aload_n dX7_addsTold_25 rfl) (mpp 26 rfl ?_)
      refine mp_a (a_iload_n dX7_addsTold_26 rfl) (mpp 27 rfl ?_)
      refine mp_a (a_iload dX7_addsTold_27 rfl) (mpp 29 rfl ?_)
      have p19 : x11.toInt ≤ 8 := by omega
      refine mt_callv (i := 107) (q' := q_130) (As := [.int t1, .int x11]) (rest := []) hT13 dX7_addsTold_29 rfl qm_130 (by decide) rfl rl_301 (by decide) rfl (Nat.le_of_ble_eq_true rfl) rfl ⟨rfl, rfl⟩ ⟨Nat.le_of_ble_eq_true rfl, Nat.le_of_ble_eq_true rfl⟩ (EvP.mono (by decide) (c_M_areSizes hT13 p19 )) (fun r20 P21 g22 => mpp 32 rfl ?_)
      obtain ⟨⟨x23, rfl, g24⟩, e25⟩ := g22
      have e25 := e25.symm
      subst e25
      have wx23 := ti_full x23
      have g24 : 0 ≤ x23.toInt ∧ x23.toInt ≤ 1 ∧ (x23.toInt = 0 ∨ (2 ≤ x11.toInt ∧ (t1.toInt ≠ 0 ∨ x11.toInt ≤ 7))) := g24
      show MEvP _ none q_126 32 [(4, .int x11), (0, .ref 301), (1, .int t1), (2, .int t2), (3, .int t3)] [.int x23] _ _ _ _
      refine mp_Tb (t := 56) (j_if_eq dX7_addsTold_32) (by decide) (fun c26 => ?_) (fun c26 => mpp 35 rfl ?_)
      · have c26 : x23.toInt = 0 := ti_eq c26
        refine mp_a (a_sipush (v := -1002) dX7_addsTold_56 rfl) (mpp 59 rfl ?_)
        exact mp_iret ⟨⟨_, rfl, trivial⟩, hT13, k16, R17⟩ dX7_addsTold_59 (Or.inl rfl)
      · have c26 : x23.toInt ≠ 0 := ti_eq_n c26
        refine mp_a (a_aload_n dX7_addsTold_35 rfl) (mpp 36 rfl ?_)
        refine mp_a (a_iload_n dX7_addsTold_36 rfl) (mpp 37 rfl ?_)
        refine mp_a (a_iload_n dX7_addsTold_37 rfl) (mpp 38 rfl ?_)
        refine mp_Tb (t := 48) (j_if_ne dX7_addsTold_38) (by decide) (fun c27 => ?_) (fun c27 => mpp 41 rfl ?_)
        · have c27 : t1.toInt ≠ 0 := ti_ne c27
          refine mp_a (a_iload dX7_addsTold_48 rfl) (mpp 50 rfl ?_)
          have p28 : 0 ≤ x11.toInt := by omega
          have p29 : x11.toInt ≤ 8 := by omega
          refine mt_callv (i := 111) (q' := q_132) (As := [.int t3, .int x11]) (rest := []) hT13 dX7_addsTold_50 rfl qm_132 (by decide) rfl rl_301 (by decide) rfl (Nat.le_of_ble_eq_true rfl) rfl ⟨rfl, rfl⟩ ⟨Nat.le_of_ble_eq_true rfl, Nat.le_of_ble_eq_true rfl⟩ (EvP.mono (by decide) (c_M_laysCreases hT13 p28 p29 )) (fun r30 P31 g32 => mpp 53 rfl ?_)
          obtain ⟨⟨x33, rfl, g34⟩, hT35, k36, R37⟩ := g32
          have k38 : KW [1093, 1094, 1152, 1408, 1472] Po P31 := KW.trans k16 k36 rfl
          have R39 := Rel.kw R17 k36 rfl
          have wx33 := ti_full x33
          have g34 : 0 ≤ x33.toInt ∧ x33.toInt ≤ 1 := g34
          show MEvP _ none q_126 53 [(4, .int x11), (0, .ref 301), (1, .int t1), (2, .int t2), (3, .int t3)] [.int x33] _ _ _ _
          refine mp_Tb (t := 60) (j_if_ne dX7_addsTold_53) (by decide) (fun c40 => ?_) (fun c40 => mpp 56 rfl ?_)
          · have c40 : x33.toInt ≠ 0 := ti_ne c40
            refine mp_a (a_aload_n dX7_addsTold_60 rfl) (mpp 61 rfl ?_)
            refine mp_a (a_iload_n dX7_addsTold_61 rfl) (mpp 62 rfl ?_)
            refine mp_a (a_iload dX7_addsTold_62 rfl) (mpp 64 rfl ?_)
            have p41 : 0 ≤ t1.toInt := by omega
            have p42 : t1.toInt ≤ 1 := by omega
            have p43 : 2 ≤ x11.toInt := by omega
            have p44 : x11.toInt ≤ 8 := by omega
            have p45 : t1.toInt ≠ 0 ∨ x11.toInt ≤ 7 := by omega
            refine mt_callv (i := 114) (q' := q_133) (As := [.int t1, .int x11]) (rest := []) hT35 dX7_addsTold_64 rfl qm_133 (by decide) rfl rl_301 (by decide) rfl (Nat.le_of_ble_eq_true rfl) rfl ⟨rfl, rfl⟩ ⟨Nat.le_of_ble_eq_true rfl, Nat.le_of_ble_eq_true rfl⟩ (EvP.mono (by decide) (c_M_adds hT35 R39 p41 p42 p43 p44 p45 )) (fun r46 P47 g48 => mpp 67 rfl ?_)
            obtain ⟨⟨x49, rfl, g50⟩, hT51, k52, R53⟩ := g48
            have k54 : KW [1093, 1094, 1152, 1408, 1472] Po P47 := KW.trans k38 k52 rfl
            have wx49 := ti_full x49
            show MEvP _ none q_126 67 [(4, .int x11), (0, .ref 301), (1, .int t1), (2, .int t2), (3, .int t3)] [.int x49] _ _ _ _
            exact mp_iret ⟨⟨_, rfl, trivial⟩, hT51, k54, R53⟩ dX7_addsTold_67 (Or.inl rfl)
          · have c40 : x33.toInt = 0 := ti_ne_n c40
            refine mp_a (a_sipush (v := -1002) dX7_addsTold_56 rfl) (mpp 59 rfl ?_)
            exact mp_iret ⟨⟨_, rfl, trivial⟩, hT35, k38, R39⟩ dX7_addsTold_59 (Or.inl rfl)
        · have c27 : t1.toInt = 0 := ti_ne_n c27
          refine mp_a (a_iload dX7_addsTold_41 rfl) (mpp 43 rfl ?_)
          refine mp_a (a_iconst (v := 1) dX7_addsTold_43 rfl) (mpp 44 rfl ?_)
          obtain ⟨z55, h56⟩ := ti_ex (x11 - 1 : Int32)
          have wz55 := ti_full z55
          refine mp_t (s_isub (v := z55) dX7_addsTold_44 h56) (mpp 45 rfl ?_)
          try have e57 : z55.toInt = x11.toInt - 1 := ti_subz h56 rfl rfl (by omega) (by omega)
          refine mp_a (a_goto (t := 50) dX7_addsTold_45 (by decide)) ?_
          have p58 : 0 ≤ z55.toInt := by omega
          have p59 : z55.toInt ≤ 8 := by omega
          refine mt_callv (i := 111) (q' := q_132) (As := [.int t3, .int z55]) (rest := []) hT13 dX7_addsTold_50 rfl qm_132 (by decide) rfl rl_301 (by decide) rfl (Nat.le_of_ble_eq_true rfl) rfl ⟨rfl, rfl⟩ ⟨Nat.le_of_ble_eq_true rfl, Nat.le_of_ble_eq_true rfl⟩ (EvP.mono (by decide) (c_M_laysCreases hT13 p58 p59 )) (fun r60 P61 g62 => mpp 53 rfl ?_)
          obtain ⟨⟨x63, rfl, g64⟩, hT65, k66, R67⟩ := g62
          have k68 : KW [1093, 1094, 1152, 1408, 1472] Po P61 := KW.trans k16 k66 rfl
          have R69 := Rel.kw R17 k66 rfl
          have wx63 := ti_full x63
          have g64 : 0 ≤ x63.toInt ∧ x63.toInt ≤ 1 := g64
          show MEvP _ none q_126 53 [(4, .int x11), (0, .ref 301), (1, .int t1), (2, .int t2), (3, .int t3)] [.int x63] _ _ _ _
          refine mp_Tb (t := 60) (j_if_ne dX7_addsTold_53) (by decide) (fun c70 => ?_) (fun c70 => mpp 56 rfl ?_)
          · have c70 : x63.toInt ≠ 0 := ti_ne c70
            refine mp_a (a_aload_n dX7_addsTold_60 rfl) (mpp 61 rfl ?_)
            refine mp_a (a_iload_n dX7_addsTold_61 rfl) (mpp 62 rfl ?_)
            refine mp_a (a_iload dX7_addsTold_62 rfl) (mpp 64 rfl ?_)
            have p71 : 0 ≤ t1.toInt := by omega
            have p72 : t1.toInt ≤ 1 := by omega
            have p73 : 2 ≤ x11.toInt := by omega
            have p74 : x11.toInt ≤ 8 := by omega
            have p75 : t1.toInt ≠ 0 ∨ x11.toInt ≤ 7 := by omega
            refine mt_callv (i := 114) (q' := q_133) (As := [.int t1, .int x11]) (rest := []) hT65 dX7_addsTold_64 rfl qm_133 (by decide) rfl rl_301 (by decide) rfl (Nat.le_of_ble_eq_true rfl) rfl ⟨rfl, rfl⟩ ⟨Nat.le_of_ble_eq_true rfl, Nat.le_of_ble_eq_true rfl⟩ (EvP.mono (by decide) (c_M_adds hT65 R69 p71 p72 p73 p74 p75 )) (fun r76 P77 g78 => mpp 67 rfl ?_)
            obtain ⟨⟨x79, rfl, g80⟩, hT81, k82, R83⟩ := g78
            have k84 : KW [1093, 1094, 1152, 1408, 1472] Po P77 := KW.trans k68 k82 rfl
            have wx79 := ti_full x79
            show MEvP _ none q_126 67 [(4, .int x11), (0, .ref 301), (1, .int t1), (2, .int t2), (3, .int t3)] [.int x79] _ _ _ _
            exact mp_iret ⟨⟨_, rfl, trivial⟩, hT81, k84, R83⟩ dX7_addsTold_67 (Or.inl rfl)
          · have c70 : x63.toInt = 0 := ti_ne_n c70
            refine mp_a (a_sipush (v := -1002) dX7_addsTold_56 rfl) (mpp 59 rfl ?_)
            exact mp_iret ⟨⟨_, rfl, trivial⟩, hT65, k68, R69⟩ dX7_addsTold_59 (Or.inl rfl)

set_option maxHeartbeats 4000000 in
theorem c_M_add {Po : mP} {t1 : Int32} {t2 : Int32} {t3 : Int32} (hT : Typ Po) (hR : Rel Po)  : EvP 7 123 [.ref 301, .int t1, .int t2, .int t3] Po (fun r P' => (∃ x : Int32, r = some (.int x) ∧ (True)) ∧ Typ P' ∧ KW [1092, 1093, 1094, 1095, 1152, 1216, 1344, 1408, 1472] Po P' ∧ Rel P') := by
  refine EvP.of qm_123 (Nat.le_of_ble_eq_true rfl) rfl ?_
  show MEvP _ none q_123 0 [(0, .ref 301), (1, .int t1), (2, .int t2), (3, .int t3)] [] _ 0 0 _
  refine mp_a (a_aload_n dX7_add_0 rfl) (mpp 1 rfl ?_)
  refine mt_callv (i := 117) (q' := q_124) (As := []) (rest := []) hT dX7_add_1 rfl qm_124 (by decide) rfl rl_301 (by decide) rfl (Nat.le_of_ble_eq_true rfl) rfl ⟨rfl, rfl⟩ ⟨Nat.le_of_ble_eq_true rfl, Nat.le_of_ble_eq_true rfl⟩ (EvP.mono (by decide) (c_M_keeps hT hR )) (fun r1 P2 g3 => mpp 4 rfl ?_)
  obtain ⟨⟨rfl, g5⟩, hT6, k7, R8⟩ := g3
  have k9 : KW [1092, 1093, 1094, 1095, 1152, 1216, 1344, 1408, 1472] Po P2 := KW.trans KW.refl k7 rfl
  show MEvP _ none q_123 4 [(0, .ref 301), (1, .int t1), (2, .int t2), (3, .int t3)] [] _ _ _ _
  refine mp_a (a_aload_n dX7_add_4 rfl) (mpp 5 rfl ?_)
  refine mp_a (a_aload_n dX7_add_5 rfl) (mpp 6 rfl ?_)
  refine mp_a (a_iload_n dX7_add_6 rfl) (mpp 7 rfl ?_)
  refine mp_a (a_iload_n dX7_add_7 rfl) (mpp 8 rfl ?_)
  refine mp_a (a_iload_n dX7_add_8 rfl) (mpp 9 rfl ?_)
  refine mt_callv (i := 120) (q' := q_126) (As := [.int t1, .int t2, .int t3]) (rest := [.ref 301]) hT6 dX7_add_9 rfl qm_126 (by decide) rfl rl_301 (by decide) rfl (Nat.le_of_ble_eq_true rfl) rfl ⟨rfl, rfl⟩ ⟨Nat.le_of_ble_eq_true rfl, Nat.le_of_ble_eq_true rfl⟩ (EvP.mono (by decide) (c_M_addsTold hT6 R8 )) (fun r10 P11 g12 => mpp 12 rfl ?_)
  obtain ⟨⟨x13, rfl, g14⟩, hT15, k16, R17⟩ := g12
  have k18 : KW [1092, 1093, 1094, 1095, 1152, 1216, 1344, 1408, 1472] Po P11 := KW.trans k9 k16 rfl
  have wx13 := ti_full x13
  show MEvP _ none q_123 12 [(0, .ref 301), (1, .int t1), (2, .int t2), (3, .int t3)] [.int x13, .ref 301] _ _ _ _
  refine mt_callv (i := 124) (q' := q_139) (As := [.int x13]) (rest := []) hT15 dX7_add_12 rfl qm_139 (by decide) rfl rl_301 (by decide) rfl (Nat.le_of_ble_eq_true rfl) rfl ⟨rfl, rfl⟩ ⟨Nat.le_of_ble_eq_true rfl, Nat.le_of_ble_eq_true rfl⟩ (EvP.mono (by decide) (c_M_ends hT15 R17 )) (fun r19 P20 g21 => mpp 15 rfl ?_)
  obtain ⟨⟨x22, rfl, g23⟩, hT24, k25, R26⟩ := g21
  have k27 : KW [1092, 1093, 1094, 1095, 1152, 1216, 1344, 1408, 1472] Po P20 := KW.trans k18 k25 rfl
  have wx22 := ti_full x22
  show MEvP _ none q_123 15 [(0, .ref 301), (1, .int t1), (2, .int t2), (3, .int t3)] [.int x22] _ _ _ _
  exact mp_iret ⟨⟨_, rfl, trivial⟩, hT24, k27, R26⟩ dX7_add_15 (Or.inl rfl)

set_option maxHeartbeats 4000000 in
theorem c_M_isPiece {Po : mP} {t1 : Int32} (hT : Typ Po)   : EvP 2 144 [.ref 301, .int t1] Po (fun r P' => (∃ x : Int32, r = some (.int x) ∧ (0 ≤ x.toInt ∧ x.toInt ≤ 1 ∧ ((x.toInt = 1 ∧ 0 ≤ t1.toInt ∧ t1.toInt + 1 ≤ (fv Po 302 0).toInt ∧ t1.toInt ≤ 7) ∨ (x.toInt = 0 ∧ (t1.toInt < 0 ∨ (fv Po 302 0).toInt ≤ t1.toInt))))) ∧ P' = Po) := by
  refine EvP.of qm_144 (Nat.le_of_ble_eq_true rfl) rfl ?_
  show MEvP _ none q_144 0 [(0, .ref 301), (1, .int t1)] [] _ 0 0 _
  have g1 : (0 : Int) ≤ (fv Po 302 0).toInt ∧ (fv Po 302 0).toInt ≤ 8 := Typ.rng hT rl_302 (by decide) (by decide) rfl
  refine mp_a (a_iload_n dX7_isPiece_0 rfl) (mpp 1 rfl ?_)
  refine mp_a (a_iconst (v := 0) dX7_isPiece_1 rfl) (mpp 2 rfl ?_)
  refine mp_a (a_aload_n dX7_isPiece_2 rfl) (mpp 3 rfl ?_)
  refine mt_getU (i := 9) (k := 0) (A := 302) hT dX7_isPiece_3 rfl rl_301 (by decide) rfl (by decide) rfl un_18 (mpp 6 rfl ?_)
  refine mp_a (a_iconst (v := 0) dX7_isPiece_6 rfl) (mpp 7 rfl ?_)
  refine mt_ialX (n := 155) hT dX7_isPiece_7 rl_302 (by decide) rfl rfl (by decide) (by decide) ssp_0 (fun g2 => mpp 8 rfl ?_)
  have we4 := ti_full (fv Po 302 0)
  refine mp_a (a_iconst (v := 1) dX7_isPiece_8 rfl) (mpp 9 rfl ?_)
  obtain ⟨z5, h6⟩ := ti_ex ((fv Po 302 0) - 1 : Int32)
  have wz5 := ti_full z5
  refine mp_t (s_isub (v := z5) dX7_isPiece_9 h6) (mpp 10 rfl ?_)
  try have e7 : z5.toInt = (fv Po 302 0).toInt - 1 := ti_subz h6 rfl rfl (by omega) (by omega)
  refine mp_calls (i := 61) (q' := q_127) (As := [.int t1, .int 0, .int z5]) (rest := []) dX7_isPiece_10 rfl qm_127 (by decide) rfl (Nat.le_of_ble_eq_true rfl) rfl ⟨rfl, rfl⟩ ⟨Nat.le_of_ble_eq_true rfl, Nat.le_of_ble_eq_true rfl⟩ (EvP.mono (by decide) (c_M_isIn hT )) (fun r8 P9 g10 => mpp 13 rfl ?_)
  obtain ⟨⟨x11, rfl, g12⟩, e13⟩ := g10
  have e13 := e13.symm
  subst e13
  have wx11 := ti_full x11
  have g12 : 0 ≤ x11.toInt ∧ x11.toInt ≤ 1 ∧ ((x11.toInt = 1 ∧ (0 : Int) ≤ t1.toInt ∧ t1.toInt ≤ z5.toInt) ∨ (x11.toInt = 0 ∧ (t1.toInt < (0 : Int) ∨ z5.toInt < t1.toInt))) := g12
  show MEvP _ none q_144 13 [(0, .ref 301), (1, .int t1)] [.int x11] _ _ _ _
  have u14 : 0 ≤ x11.toInt ∧ x11.toInt ≤ 1 ∧ ((x11.toInt = 1 ∧ 0 ≤ t1.toInt ∧ t1.toInt + 1 ≤ (fv Po 302 0).toInt ∧ t1.toInt ≤ 7) ∨ (x11.toInt = 0 ∧ (t1.toInt < 0 ∨ (fv Po 302 0).toInt ≤ t1.toInt))) := by omega
  exact mp_iret ⟨⟨_, rfl, u14⟩, rfl⟩ dX7_isPiece_13 (Or.inr ⟨rfl, ti_01 (by omega)⟩)

