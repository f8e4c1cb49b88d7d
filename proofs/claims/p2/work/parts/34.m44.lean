/-! methods on typed pools, 44 (written by a program) -/
set_option maxHeartbeats 4000000 in
theorem c_M_allOf_c7_l4 {Po : mP}  (hT : Typ Po) (hR : Rel Po)  : ∀ (n : Nat) (v2 : Int32) (v3 : Int32), (0 ≤ v3.toInt) → (2147483647 - v3.toInt).toNat = n → MEvP 3 none q_230 4 [(0, .ref 301), (1, .int 7), (2, .int v2), (3, .int v3)] [] Po 0 0 (fun r P' => (∃ x : Int32, r = some (.int x) ∧ (True)) ∧ P' = Po) := by
  intro n
  induction n using Nat.strongRecOn with | _ n ih => ?_
  intro v2 v3 i_0 hm
  have w_v2 := ti_full v2
  have w_v3 := ti_full v3
  refine mp_a (a_iload_n dX7_allOf_4 rfl) (mpp 5 rfl ?_)
  refine mp_a (a_aload_n dX7_allOf_5 rfl) (mpp 6 rfl ?_)
  refine mt_getU (i := 9) (k := 0) (A := 302) hT dX7_allOf_6 rfl rl_301 (by decide) rfl (by decide) rfl un_18 (mpp 9 rfl ?_)
  refine mp_a (a_iconst (v := 0) dX7_allOf_9 rfl) (mpp 10 rfl ?_)
  have g3 : (0 : Int) ≤ (fv Po 302 0).toInt ∧ (fv Po 302 0).toInt ≤ 8 := Typ.rng hT rl_302 (by decide) (by decide) rfl
  refine mt_ialX (n := 155) hT dX7_allOf_10 rl_302 (by decide) rfl rfl (by decide) (by decide) ssp_0 (fun g1 => mpp 11 rfl ?_)
  have we4 := ti_full (fv Po 302 0)
  refine mp_Tb (t := 29) (j_icmp_ge dX7_allOf_11) (by decide) (fun c5 => ?_) (fun c5 => mpp 14 rfl ?_)
  · have c5 : v3.toInt ≥ (fv Po 302 0).toInt := ti_ge c5
    refine mp_a (a_iload_n dX7_allOf_29 rfl) (mpp 30 rfl ?_)
    exact mp_iret ⟨⟨_, rfl, trivial⟩, rfl⟩ dX7_allOf_30 (Or.inl rfl)
  · have c5 : v3.toInt < (fv Po 302 0).toInt := ti_ge_n c5
    refine mp_a (a_iload_n dX7_allOf_14 rfl) (mpp 15 rfl ?_)
    refine mp_a (a_aload_n dX7_allOf_15 rfl) (mpp 16 rfl ?_)
    refine mp_a (a_iload_n dX7_allOf_16 rfl) (mpp 17 rfl ?_)
    refine mp_a (a_iload_n dX7_allOf_17 rfl) (mpp 18 rfl ?_)
    refine mt_callv (i := 348) (q' := q_194) (As := [.int v3, .int 7]) (rest := [.int v2]) hT dX7_allOf_18 rfl qm_194 (by decide) rfl rl_301 (by decide) rfl (Nat.le_of_ble_eq_true rfl) rfl ⟨rfl, rfl⟩ ⟨Nat.le_of_ble_eq_true rfl, Nat.le_of_ble_eq_true rfl⟩ (EvP.mono (by decide) (c_M_piece_c7 hT )) (fun r6 P7 g8 => mpp 21 rfl ?_)
    obtain ⟨⟨x9, rfl, g10⟩, e11⟩ := g8
    have e11 := e11.symm
    subst e11
    have wx9 := ti_full x9
    show MEvP _ none q_230 21 [(0, .ref 301), (1, .int 7), (2, .int v2), (3, .int v3)] [.int x9, .int v2] _ _ _ _
    obtain ⟨z12, h13⟩ := ti_ex (v2 + x9 : Int32)
    have wz12 := ti_full z12
    refine mp_t (s_iadd (v := z12) dX7_allOf_21 h13) (mpp 22 rfl ?_)
    try have e14 : z12.toInt = v2.toInt + x9.toInt := ti_addz h13 rfl rfl (by omega) (by omega)
    refine mp_a (a_istore_n (L' := [(2, .int z12), (0, .ref 301), (1, .int 7), (3, .int v3)]) dX7_allOf_22 (by decide) rfl) (mpp 23 rfl ?_)
    obtain ⟨z15, h16⟩ := ti_ex (v3 + 1 : Int32)
    have wz15 := ti_full z15
    refine mp_a (a_iinc (v := z15) (L' := [(3, .int z15), (2, .int z12), (0, .ref 301), (1, .int 7)]) dX7_allOf_23 (by decide) rfl h16 rfl) (mpp 26 rfl ?_)
    try have e17 : z15.toInt = v3.toInt + 1 := ti_addz h16 rfl rfl (by omega) (by omega)
    refine mp_a (a_goto (t := 4) dX7_allOf_26 (by decide)) ?_
    refine MEvP.less (L := [(0, .ref 301), (1, .int 7), (2, .int z12), (3, .int z15)]) rfl rfl ⟨rfl, rfl, rfl, rfl, trivial⟩ ?_
    have i18 : 0 ≤ z15.toInt := by omega
    exact ih _ (by omega) _ _ i18 rfl

set_option maxHeartbeats 4000000 in
theorem c_M_allOf_c7 {Po : mP}  (hT : Typ Po) (hR : Rel Po)  : EvP 4 230 [.ref 301, .int 7] Po (fun r P' => (∃ x : Int32, r = some (.int x) ∧ (True)) ∧ P' = Po) := by
  refine EvP.of qm_230 (Nat.le_of_ble_eq_true rfl) rfl ?_
  show MEvP _ none q_230 0 [(0, .ref 301), (1, .int 7)] [] _ 0 0 _
  refine mp_a (a_iconst (v := 0) dX7_allOf_0 rfl) (mpp 1 rfl ?_)
  refine mp_a (a_istore_n (L' := [(2, .int 0), (0, .ref 301), (1, .int 7)]) dX7_allOf_1 (by decide) rfl) (mpp 2 rfl ?_)
  refine mp_a (a_iconst (v := 0) dX7_allOf_2 rfl) (mpp 3 rfl ?_)
  refine mp_a (a_istore_n (L' := [(3, .int 0), (2, .int 0), (0, .ref 301), (1, .int 7)]) dX7_allOf_3 (by decide) rfl) (mpp 4 rfl ?_)
  refine MEvP.less (L := [(0, .ref 301), (1, .int 7), (2, .int 0), (3, .int 0)]) rfl rfl ⟨rfl, rfl, rfl, rfl, trivial⟩ ?_
  have i1 : 0 ≤ (0 : Int) := by omega
  exact c_M_allOf_c7_l4 hT hR  _ _ _ i1 rfl

set_option maxHeartbeats 4000000 in
theorem c_M_panelsOfAll_l4 {Po : mP}  (hT : Typ Po)   : ∀ (n : Nat) (v1 : Int32) (v2 : Int32), (0 ≤ v2.toInt) → (2147483647 - v2.toInt).toNat = n → MEvP 3 none q_231 4 [(0, .ref 301), (1, .int v1), (2, .int v2)] [] Po 0 0 (fun r P' => (∃ x : Int32, r = some (.int x) ∧ (True)) ∧ P' = Po) := by
  intro n
  induction n using Nat.strongRecOn with | _ n ih => ?_
  intro v1 v2 i_0 hm
  have w_v1 := ti_full v1
  have w_v2 := ti_full v2
  refine mp_a (a_iload_n dX7_panelsOfAll_4 rfl) (mpp 5 rfl ?_)
  refine mp_a (a_aload_n dX7_panelsOfAll_5 rfl) (mpp 6 rfl ?_)
  refine mt_getU (i := 9) (k := 0) (A := 302) hT dX7_panelsOfAll_6 rfl rl_301 (by decide) rfl (by decide) rfl un_18 (mpp 9 rfl ?_)
  refine mp_a (a_iconst (v := 0) dX7_panelsOfAll_9 rfl) (mpp 10 rfl ?_)
  have g3 : (0 : Int) ≤ (fv Po 302 0).toInt ∧ (fv Po 302 0).toInt ≤ 8 := Typ.rng hT rl_302 (by decide) (by decide) rfl
  refine mt_ialX (n := 155) hT dX7_panelsOfAll_10 rl_302 (by decide) rfl rfl (by decide) (by decide) ssp_0 (fun g1 => mpp 11 rfl ?_)
  have we4 := ti_full (fv Po 302 0)
  refine mp_Tb (t := 41) (j_icmp_ge dX7_panelsOfAll_11) (by decide) (fun c5 => ?_) (fun c5 => mpp 14 rfl ?_)
  · have c5 : v2.toInt ≥ (fv Po 302 0).toInt := ti_ge c5
    refine mp_a (a_iload_n dX7_panelsOfAll_41 rfl) (mpp 42 rfl ?_)
    exact mp_iret ⟨⟨_, rfl, trivial⟩, rfl⟩ dX7_panelsOfAll_42 (Or.inl rfl)
  · have c5 : v2.toInt < (fv Po 302 0).toInt := ti_ge_n c5
    refine mp_a (a_iload_n dX7_panelsOfAll_14 rfl) (mpp 15 rfl ?_)
    refine mp_a (a_aload_n dX7_panelsOfAll_15 rfl) (mpp 16 rfl ?_)
    refine mp_a (a_iload_n dX7_panelsOfAll_16 rfl) (mpp 17 rfl ?_)
    have p6 : 0 ≤ v2.toInt := by omega
    have p7 : v2.toInt ≤ 7 := by omega
    refine mt_callv (i := 81) (q' := q_138) (As := [.int v2]) (rest := [.int v1]) hT dX7_panelsOfAll_17 rfl qm_138 (by decide) rfl rl_301 (by decide) rfl (Nat.le_of_ble_eq_true rfl) rfl ⟨rfl, rfl⟩ ⟨Nat.le_of_ble_eq_true rfl, Nat.le_of_ble_eq_true rfl⟩ (EvP.mono (by decide) (c_M_isCorner hT p6 p7 )) (fun r8 P9 g10 => mpp 20 rfl ?_)
    obtain ⟨⟨x11, rfl, g12⟩, e13⟩ := g10
    have e13 := e13.symm
    subst e13
    have wx11 := ti_full x11
    replace g12 : 0 ≤ x11.toInt ∧ x11.toInt ≤ 1 ∧ ((x11.toInt = 1 ∧ (fv Po 302 (3 + 19 * v2.toInt.toNat)).toInt = 1) ∨ (x11.toInt = 0 ∧ (fv Po 302 (3 + 19 * v2.toInt.toNat)).toInt = 0)) := g12
    try have g14 : (0 : Int) ≤ (fv Po 302 (3 + 19 * v2.toInt.toNat)).toInt ∧ (fv Po 302 (3 + 19 * v2.toInt.toNat)).toInt ≤ 1 := s3_rng hT (by omega)
    show MEvP _ none q_231 20 [(0, .ref 301), (1, .int v1), (2, .int v2)] [.int x11, .int v1] _ _ _ _
    refine mp_Tb (t := 27) (j_if_eq dX7_panelsOfAll_20) (by decide) (fun c15 => ?_) (fun c15 => mpp 23 rfl ?_)
    · have c15 : x11.toInt = 0 := ti_eq c15
      refine mp_a (a_aload_n dX7_panelsOfAll_27 rfl) (mpp 28 rfl ?_)
      refine mp_a (a_iload_n dX7_panelsOfAll_28 rfl) (mpp 29 rfl ?_)
      refine mp_a (a_iconst (v := 1) dX7_panelsOfAll_29 rfl) (mpp 30 rfl ?_)
      have p16 : 0 ≤ v2.toInt := by omega
      have p17 : v2.toInt ≤ 7 := by omega
      have p18 : 0 ≤ (1 : Int) := by omega
      have p19 : (1 : Int) ≤ 18 := by omega
      refine mt_callv (i := 78) (q' := q_137) (As := [.int v2, .int 1]) (rest := [.int v1]) hT dX7_panelsOfAll_30 rfl qm_137 (by decide) rfl rl_301 (by decide) rfl (Nat.le_of_ble_eq_true rfl) rfl ⟨rfl, rfl⟩ ⟨Nat.le_of_ble_eq_true rfl, Nat.le_of_ble_eq_true rfl⟩ (EvP.mono (by decide) (c_M_of_c1 hT p16 p17 p18 p19 )) (fun r20 P21 g22 => mpp 33 rfl ?_)
      obtain ⟨⟨x23, rfl, g24⟩, e25⟩ := g22
      have e25 := e25.symm
      subst e25
      have wx23 := ti_full x23
      replace g24 : x23.toInt = (fv Po 302 (4 + 19 * v2.toInt.toNat)).toInt ∧ 0 ≤ x23.toInt ∧ x23.toInt ≤ 8 := g24
      try have g26 : (0 : Int) ≤ (fv Po 302 (4 + 19 * v2.toInt.toNat)).toInt ∧ (fv Po 302 (4 + 19 * v2.toInt.toNat)).toInt ≤ 8 := s4_rng hT (by omega)
      show MEvP _ none q_231 33 [(0, .ref 301), (1, .int v1), (2, .int v2)] [.int x23, .int v1] _ _ _ _
      obtain ⟨z27, h28⟩ := ti_ex (v1 + x23 : Int32)
      have wz27 := ti_full z27
      refine mp_t (s_iadd (v := z27) dX7_panelsOfAll_33 h28) (mpp 34 rfl ?_)
      try have e29 : z27.toInt = v1.toInt + x23.toInt := ti_addz h28 rfl rfl (by omega) (by omega)
      refine mp_a (a_istore_n (L' := [(1, .int z27), (0, .ref 301), (2, .int v2)]) dX7_panelsOfAll_34 (by decide) rfl) (mpp 35 rfl ?_)
      obtain ⟨z30, h31⟩ := ti_ex (v2 + 1 : Int32)
      have wz30 := ti_full z30
      refine mp_a (a_iinc (v := z30) (L' := [(2, .int z30), (1, .int z27), (0, .ref 301)]) dX7_panelsOfAll_35 (by decide) rfl h31 rfl) (mpp 38 rfl ?_)
      try have e32 : z30.toInt = v2.toInt + 1 := ti_addz h31 rfl rfl (by omega) (by omega)
      refine mp_a (a_goto (t := 4) dX7_panelsOfAll_38 (by decide)) ?_
      refine MEvP.less (L := [(0, .ref 301), (1, .int z27), (2, .int z30)]) rfl rfl ⟨rfl, rfl, rfl, trivial⟩ ?_
      have i33 : 0 ≤ z30.toInt := by omega
      exact ih _ (by omega) _ _ i33 rfl
    · have c15 : x11.toInt ≠ 0 := ti_eq_n c15
      refine mp_a (a_iconst (v := 0) dX7_panelsOfAll_23 rfl) (mpp 24 rfl ?_)
      refine mp_a (a_goto (t := 33) dX7_panelsOfAll_24 (by decide)) ?_
      obtain ⟨z34, h35⟩ := ti_ex (v1 + 0 : Int32)
      have wz34 := ti_full z34
      refine mp_t (s_iadd (v := z34) dX7_panelsOfAll_33 h35) (mpp 34 rfl ?_)
      try have e36 : z34.toInt = v1.toInt + 0 := ti_addz h35 rfl rfl (by omega) (by omega)
      refine mp_a (a_istore_n (L' := [(1, .int z34), (0, .ref 301), (2, .int v2)]) dX7_panelsOfAll_34 (by decide) rfl) (mpp 35 rfl ?_)
      obtain ⟨z37, h38⟩ := ti_ex (v2 + 1 : Int32)
      have wz37 := ti_full z37
      refine mp_a (a_iinc (v := z37) (L' := [(2, .int z37), (1, .int z34), (0, .ref 301)]) dX7_panelsOfAll_35 (by decide) rfl h38 rfl) (mpp 38 rfl ?_)
      try have e39 : z37.toInt = v2.toInt + 1 := ti_addz h38 rfl rfl (by omega) (by omega)
      refine mp_a (a_goto (t := 4) dX7_panelsOfAll_38 (by decide)) ?_
      refine MEvP.less (L := [(0, .ref 301), (1, .int z34), (2, .int z37)]) rfl rfl ⟨rfl, rfl, rfl, trivial⟩ ?_
      have i40 : 0 ≤ z37.toInt := by omega
      exact ih _ (by omega) _ _ i40 rfl

set_option maxHeartbeats 4000000 in
theorem c_M_panelsOfAll {Po : mP}  (hT : Typ Po)   : EvP 4 231 [.ref 301] Po (fun r P' => (∃ x : Int32, r = some (.int x) ∧ (True)) ∧ P' = Po) := by
  refine EvP.of qm_231 (Nat.le_of_ble_eq_true rfl) rfl ?_
  show MEvP _ none q_231 0 [(0, .ref 301)] [] _ 0 0 _
  refine mp_a (a_iconst (v := 0) dX7_panelsOfAll_0 rfl) (mpp 1 rfl ?_)
  refine mp_a (a_istore_n (L' := [(1, .int 0), (0, .ref 301)]) dX7_panelsOfAll_1 (by decide) rfl) (mpp 2 rfl ?_)
  refine mp_a (a_iconst (v := 0) dX7_panelsOfAll_2 rfl) (mpp 3 rfl ?_)
  refine mp_a (a_istore_n (L' := [(2, .int 0), (1, .int 0), (0, .ref 301)]) dX7_panelsOfAll_3 (by decide) rfl) (mpp 4 rfl ?_)
  refine MEvP.less (L := [(0, .ref 301), (1, .int 0), (2, .int 0)]) rfl rfl ⟨rfl, rfl, rfl, trivial⟩ ?_
  have i1 : 0 ≤ (0 : Int) := by omega
  exact c_M_panelsOfAll_l4 hT   _ _ _ i1 rfl

set_option maxHeartbeats 4000000 in
theorem c_M_piece_c3 {Po : mP} {t1 : Int32} (hT : Typ Po)   : EvP 6 194 [.ref 301, .int t1, .int 3] Po (fun r P' => (∃ x : Int32, r = some (.int x) ∧ (t1.toInt < 0 ∨ (fv Po 302 0).toInt ≤ t1.toInt ∨ (0 ≤ x.toInt ∧ x.toInt ≤ 8))) ∧ P' = Po) := by
  refine EvP.of qm_194 (Nat.le_of_ble_eq_true rfl) rfl ?_
  show MEvP _ none q_194 0 [(0, .ref 301), (1, .int t1), (2, .int 3)] [] _ 0 0 _
  have w_t1 := ti_full t1
  have g1 : (0 : Int) ≤ (fv Po 302 0).toInt ∧ (fv Po 302 0).toInt ≤ 8 := Typ.rng hT rl_302 (by decide) (by decide) rfl
  refine mp_a (a_aload_n dX7_piece_0 rfl) (mpp 1 rfl ?_)
  refine mp_a (a_iload_n dX7_piece_1 rfl) (mpp 2 rfl ?_)
  refine mt_callv (i := 85) (q' := q_144) (As := [.int t1]) (rest := []) hT dX7_piece_2 rfl qm_144 (by decide) rfl rl_301 (by decide) rfl (Nat.le_of_ble_eq_true rfl) rfl ⟨rfl, rfl⟩ ⟨Nat.le_of_ble_eq_true rfl, Nat.le_of_ble_eq_true rfl⟩ (EvP.mono (by decide) (c_M_isPiece hT )) (fun r2 P3 g4 => mpp 5 rfl ?_)
  obtain ⟨⟨x5, rfl, g6⟩, e7⟩ := g4
  have e7 := e7.symm
  subst e7
  have wx5 := ti_full x5
  replace g6 : 0 ≤ x5.toInt ∧ x5.toInt ≤ 1 ∧ ((x5.toInt = 1 ∧ 0 ≤ t1.toInt ∧ t1.toInt + 1 ≤ (fv Po 302 0).toInt ∧ t1.toInt ≤ 7) ∨ (x5.toInt = 0 ∧ (t1.toInt < 0 ∨ (fv Po 302 0).toInt ≤ t1.toInt))) := g6
  show MEvP _ none q_194 5 [(0, .ref 301), (1, .int t1), (2, .int 3)] [.int x5] _ _ _ _
  refine mp_Tb (t := 12) (j_if_ne dX7_piece_5) (by decide) (fun c8 => ?_) (fun c8 => mpp 8 rfl ?_)
  · have c8 : x5.toInt ≠ 0 := ti_ne c8
    refine mp_a (a_iload_n dX7_piece_12 rfl) (mpp 13 rfl ?_)
    refine mp_t (s_tabIn (t := 84) dX7_piece_13 (by decide) rfl (by decide)) ?_
    refine mp_a (a_aload_n dX7_piece_84 rfl) (mpp 85 rfl ?_)
    refine mp_a (a_iload_n dX7_piece_85 rfl) (mpp 86 rfl ?_)
    refine mp_a (a_iconst (v := 1) dX7_piece_86 rfl) (mpp 87 rfl ?_)
    have p9 : 0 ≤ t1.toInt := by omega
    have p10 : t1.toInt ≤ 7 := by omega
    refine mt_callv (i := 136) (q' := q_149) (As := [.int t1, .int 1]) (rest := []) hT dX7_piece_87 rfl qm_149 (by decide) rfl rl_301 (by decide) rfl (Nat.le_of_ble_eq_true rfl) rfl ⟨rfl, rfl⟩ ⟨Nat.le_of_ble_eq_true rfl, Nat.le_of_ble_eq_true rfl⟩ (EvP.mono (by decide) (c_M_countOf hT p9 p10 )) (fun r11 P12 g13 => mpp 90 rfl ?_)
    obtain ⟨⟨x14, rfl, g15⟩, e16⟩ := g13
    have e16 := e16.symm
    subst e16
    have wx14 := ti_full x14
    replace g15 : (x14.toInt ≤ 0 ∨ UD Po t1.toInt.toNat (1 : Int)) ∧ 0 ≤ x14.toInt ∧ x14.toInt ≤ 8 ∧ x14.toInt = cntF (fun j : Nat => fv Po 302 (14 + 19 * t1.toInt.toNat + j)) (1 : Int) (nC (fv Po 302 (3 + 19 * t1.toInt.toNat)).toInt (fv Po 302 (4 + 19 * t1.toInt.toNat)).toInt) := g15
    try have g17 : (0 : Int) ≤ (fv Po 302 (3 + 19 * t1.toInt.toNat)).toInt ∧ (fv Po 302 (3 + 19 * t1.toInt.toNat)).toInt ≤ 1 := s3_rng hT (by omega)
    try have g18 : (0 : Int) ≤ (fv Po 302 (4 + 19 * t1.toInt.toNat)).toInt ∧ (fv Po 302 (4 + 19 * t1.toInt.toNat)).toInt ≤ 8 := s4_rng hT (by omega)
    show MEvP _ none q_194 90 [(0, .ref 301), (1, .int t1), (2, .int 3)] [.int x14] _ _ _ _
    have u19 : t1.toInt < 0 ∨ (fv Po 302 0).toInt ≤ t1.toInt ∨ (0 ≤ x14.toInt ∧ x14.toInt ≤ 8) := by omega
    exact mp_iret ⟨⟨_, rfl, u19⟩, rfl⟩ dX7_piece_90 (Or.inl rfl)
  · have c8 : x5.toInt = 0 := ti_ne_n c8
    refine mp_a (a_sipush (v := -1001) dX7_piece_8 rfl) (mpp 11 rfl ?_)
    have u20 : t1.toInt < 0 ∨ (fv Po 302 0).toInt ≤ t1.toInt ∨ (0 ≤ (-1001 : Int) ∧ (-1001 : Int) ≤ 8) := by omega
    exact mp_iret ⟨⟨_, rfl, u20⟩, rfl⟩ dX7_piece_11 (Or.inl rfl)

set_option maxHeartbeats 4000000 in
theorem c_M_allOf_c3_l4 {Po : mP}  (hT : Typ Po) (hR : Rel Po)  : ∀ (n : Nat) (v2 : Int32) (v3 : Int32), (0 ≤ v2.toInt) → (v2.toInt ≤ 8 * v3.toInt) → (v3.toInt ≤ (fv Po 302 0).toInt) → (0 ≤ v3.toInt) → (2147483647 - v3.toInt).toNat = n → MEvP 6 none q_230 4 [(0, .ref 301), (1, .int 3), (2, .int v2), (3, .int v3)] [] Po 0 0 (fun r P' => (∃ x : Int32, r = some (.int x) ∧ (0 ≤ x.toInt ∧ x.toInt ≤ 64)) ∧ P' = Po) := by
  intro n
  induction n using Nat.strongRecOn with | _ n ih => ?_
  intro v2 v3 i_0 i_1 i_2 i_3 hm
  have w_v2 := ti_full v2
  have w_v3 := ti_full v3
  have g1 : (0 : Int) ≤ (fv Po 302 0).toInt ∧ (fv Po 302 0).toInt ≤ 8 := Typ.rng hT rl_302 (by decide) (by decide) rfl
  refine mp_a (a_iload_n dX7_allOf_4 rfl) (mpp 5 rfl ?_)
  refine mp_a (a_aload_n dX7_allOf_5 rfl) (mpp 6 rfl ?_)
  refine mt_getU (i := 9) (k := 0) (A := 302) hT dX7_allOf_6 rfl rl_301 (by decide) rfl (by decide) rfl un_18 (mpp 9 rfl ?_)
  refine mp_a (a_iconst (v := 0) dX7_allOf_9 rfl) (mpp 10 rfl ?_)
  refine mt_ialX (n := 155) hT dX7_allOf_10 rl_302 (by decide) rfl rfl (by decide) (by decide) ssp_0 (fun g2 => mpp 11 rfl ?_)
  have we4 := ti_full (fv Po 302 0)
  refine mp_Tb (t := 29) (j_icmp_ge dX7_allOf_11) (by decide) (fun c5 => ?_) (fun c5 => mpp 14 rfl ?_)
  · have c5 : v3.toInt ≥ (fv Po 302 0).toInt := ti_ge c5
    refine mp_a (a_iload_n dX7_allOf_29 rfl) (mpp 30 rfl ?_)
    have u6 : 0 ≤ v2.toInt ∧ v2.toInt ≤ 64 := by omega
    exact mp_iret ⟨⟨_, rfl, u6⟩, rfl⟩ dX7_allOf_30 (Or.inl rfl)
  · have c5 : v3.toInt < (fv Po 302 0).toInt := ti_ge_n c5
    refine mp_a (a_iload_n dX7_allOf_14 rfl) (mpp 15 rfl ?_)
    refine mp_a (a_aload_n dX7_allOf_15 rfl) (mpp 16 rfl ?_)
    refine mp_a (a_iload_n dX7_allOf_16 rfl) (mpp 17 rfl ?_)
    refine mp_a (a_iload_n dX7_allOf_17 rfl) (mpp 18 rfl ?_)
    refine mt_callv (i := 348) (q' := q_194) (As := [.int v3, .int 3]) (rest := [.int v2]) hT dX7_allOf_18 rfl qm_194 (by decide) rfl rl_301 (by decide) rfl (Nat.le_of_ble_eq_true rfl) rfl ⟨rfl, rfl⟩ ⟨Nat.le_of_ble_eq_true rfl, Nat.le_of_ble_eq_true rfl⟩ (EvP.mono (by decide) (c_M_piece_c3 hT )) (fun r7 P8 g9 => mpp 21 rfl ?_)
    obtain ⟨⟨x10, rfl, g11⟩, e12⟩ := g9
    have e12 := e12.symm
    subst e12
    have wx10 := ti_full x10
    replace g11 : v3.toInt < 0 ∨ (fv Po 302 0).toInt ≤ v3.toInt ∨ (0 ≤ x10.toInt ∧ x10.toInt ≤ 8) := g11
    show MEvP _ none q_230 21 [(0, .ref 301), (1, .int 3), (2, .int v2), (3, .int v3)] [.int x10, .int v2] _ _ _ _
    obtain ⟨z13, h14⟩ := ti_ex (v2 + x10 : Int32)
    have wz13 := ti_full z13
    refine mp_t (s_iadd (v := z13) dX7_allOf_21 h14) (mpp 22 rfl ?_)
    try have e15 : z13.toInt = v2.toInt + x10.toInt := ti_addz h14 rfl rfl (by omega) (by omega)
    refine mp_a (a_istore_n (L' := [(2, .int z13), (0, .ref 301), (1, .int 3), (3, .int v3)]) dX7_allOf_22 (by decide) rfl) (mpp 23 rfl ?_)
    obtain ⟨z16, h17⟩ := ti_ex (v3 + 1 : Int32)
    have wz16 := ti_full z16
    refine mp_a (a_iinc (v := z16) (L' := [(3, .int z16), (2, .int z13), (0, .ref 301), (1, .int 3)]) dX7_allOf_23 (by decide) rfl h17 rfl) (mpp 26 rfl ?_)
    try have e18 : z16.toInt = v3.toInt + 1 := ti_addz h17 rfl rfl (by omega) (by omega)
    refine mp_a (a_goto (t := 4) dX7_allOf_26 (by decide)) ?_
    refine MEvP.less (L := [(0, .ref 301), (1, .int 3), (2, .int z13), (3, .int z16)]) rfl rfl ⟨rfl, rfl, rfl, rfl, trivial⟩ ?_
    have i19 : 0 ≤ z13.toInt := by omega
    have i20 : z13.toInt ≤ 8 * z16.toInt := by omega
    have i21 : z16.toInt ≤ (fv Po 302 0).toInt := by omega
    have i22 : 0 ≤ z16.toInt := by omega
    exact ih _ (by omega) _ _ i19 i20 i21 i22 rfl

set_option maxHeartbeats 4000000 in
theorem c_M_allOf_c3 {Po : mP}  (hT : Typ Po) (hR : Rel Po)  : EvP 7 230 [.ref 301, .int 3] Po (fun r P' => (∃ x : Int32, r = some (.int x) ∧ (0 ≤ x.toInt ∧ x.toInt ≤ 64)) ∧ P' = Po) := by
  refine EvP.of qm_230 (Nat.le_of_ble_eq_true rfl) rfl ?_
  show MEvP _ none q_230 0 [(0, .ref 301), (1, .int 3)] [] _ 0 0 _
  refine mp_a (a_iconst (v := 0) dX7_allOf_0 rfl) (mpp 1 rfl ?_)
  refine mp_a (a_istore_n (L' := [(2, .int 0), (0, .ref 301), (1, .int 3)]) dX7_allOf_1 (by decide) rfl) (mpp 2 rfl ?_)
  refine mp_a (a_iconst (v := 0) dX7_allOf_2 rfl) (mpp 3 rfl ?_)
  refine mp_a (a_istore_n (L' := [(3, .int 0), (2, .int 0), (0, .ref 301), (1, .int 3)]) dX7_allOf_3 (by decide) rfl) (mpp 4 rfl ?_)
  refine MEvP.less (L := [(0, .ref 301), (1, .int 3), (2, .int 0), (3, .int 0)]) rfl rfl ⟨rfl, rfl, rfl, rfl, trivial⟩ ?_
  have i1 : 0 ≤ (0 : Int) := by omega
  have i2 : (0 : Int) ≤ 8 * (0 : Int) := by omega
  have g3 : (0 : Int) ≤ (fv Po 302 0).toInt ∧ (fv Po 302 0).toInt ≤ 8 := Typ.rng hT rl_302 (by decide) (by decide) rfl
  have i4 : (0 : Int) ≤ (fv Po 302 0).toInt := by omega
  have i5 : 0 ≤ (0 : Int) := by omega
  exact c_M_allOf_c3_l4 hT hR  _ _ _ i1 i2 i4 i5 rfl

set_option maxHeartbeats 4000000 in
theorem c_M_piece_c4 {Po : mP} {t1 : Int32} (hT : Typ Po)   : EvP 6 194 [.ref 301, .int t1, .int 4] Po (fun r P' => (∃ x : Int32, r = some (.int x) ∧ (t1.toInt < 0 ∨ (fv Po 302 0).toInt ≤ t1.toInt ∨ (0 ≤ x.toInt ∧ x.toInt ≤ 8))) ∧ P' = Po) := by
  refine EvP.of qm_194 (Nat.le_of_ble_eq_true rfl) rfl ?_
  show MEvP _ none q_194 0 [(0, .ref 301), (1, .int t1), (2, .int 4)] [] _ 0 0 _
  have w_t1 := ti_full t1
  have g1 : (0 : Int) ≤ (fv Po 302 0).toInt ∧ (fv Po 302 0).toInt ≤ 8 := Typ.rng hT rl_302 (by decide) (by decide) rfl
  refine mp_a (a_aload_n dX7_piece_0 rfl) (mpp 1 rfl ?_)
  refine mp_a (a_iload_n dX7_piece_1 rfl) (mpp 2 rfl ?_)
  refine mt_callv (i := 85) (q' := q_144) (As := [.int t1]) (rest := []) hT dX7_piece_2 rfl qm_144 (by decide) rfl rl_301 (by decide) rfl (Nat.le_of_ble_eq_true rfl) rfl ⟨rfl, rfl⟩ ⟨Nat.le_of_ble_eq_true rfl, Nat.le_of_ble_eq_true rfl⟩ (EvP.mono (by decide) (c_M_isPiece hT )) (fun r2 P3 g4 => mpp 5 rfl ?_)
  obtain ⟨⟨x5, rfl, g6⟩, e7⟩ := g4
  have e7 := e7.symm
  subst e7
  have wx5 := ti_full x5
  replace g6 : 0 ≤ x5.toInt ∧ x5.toInt ≤ 1 ∧ ((x5.toInt = 1 ∧ 0 ≤ t1.toInt ∧ t1.toInt + 1 ≤ (fv Po 302 0).toInt ∧ t1.toInt ≤ 7) ∨ (x5.toInt = 0 ∧ (t1.toInt < 0 ∨ (fv Po 302 0).toInt ≤ t1.toInt))) := g6
  show MEvP _ none q_194 5 [(0, .ref 301), (1, .int t1), (2, .int 4)] [.int x5] _ _ _ _
  refine mp_Tb (t := 12) (j_if_ne dX7_piece_5) (by decide) (fun c8 => ?_) (fun c8 => mpp 8 rfl ?_)
  · have c8 : x5.toInt ≠ 0 := ti_ne c8
    refine mp_a (a_iload_n dX7_piece_12 rfl) (mpp 13 rfl ?_)
    refine mp_t (s_tabIn (t := 91) dX7_piece_13 (by decide) rfl (by decide)) ?_
    refine mp_a (a_aload_n dX7_piece_91 rfl) (mpp 92 rfl ?_)
    refine mp_a (a_iload_n dX7_piece_92 rfl) (mpp 93 rfl ?_)
    refine mp_a (a_iconst (v := 2) dX7_piece_93 rfl) (mpp 94 rfl ?_)
    have p9 : 0 ≤ t1.toInt := by omega
    have p10 : t1.toInt ≤ 7 := by omega
    refine mt_callv (i := 136) (q' := q_149) (As := [.int t1, .int 2]) (rest := []) hT dX7_piece_94 rfl qm_149 (by decide) rfl rl_301 (by decide) rfl (Nat.le_of_ble_eq_true rfl) rfl ⟨rfl, rfl⟩ ⟨Nat.le_of_ble_eq_true rfl, Nat.le_of_ble_eq_true rfl⟩ (EvP.mono (by decide) (c_M_countOf hT p9 p10 )) (fun r11 P12 g13 => mpp 97 rfl ?_)
    obtain ⟨⟨x14, rfl, g15⟩, e16⟩ := g13
    have e16 := e16.symm
    subst e16
    have wx14 := ti_full x14
    replace g15 : (x14.toInt ≤ 0 ∨ UD Po t1.toInt.toNat (2 : Int)) ∧ 0 ≤ x14.toInt ∧ x14.toInt ≤ 8 ∧ x14.toInt = cntF (fun j : Nat => fv Po 302 (14 + 19 * t1.toInt.toNat + j)) (2 : Int) (nC (fv Po 302 (3 + 19 * t1.toInt.toNat)).toInt (fv Po 302 (4 + 19 * t1.toInt.toNat)).toInt) := g15
    try have g17 : (0 : Int) ≤ (fv Po 302 (3 + 19 * t1.toInt.toNat)).toInt ∧ (fv Po 302 (3 + 19 * t1.toInt.toNat)).toInt ≤ 1 := s3_rng hT (by omega)
    try have g18 : (0 : Int) ≤ (fv Po 302 (4 + 19 * t1.toInt.toNat)).toInt ∧ (fv Po 302 (4 + 19 * t1.toInt.toNat)).toInt ≤ 8 := s4_rng hT (by omega)
    show MEvP _ none q_194 97 [(0, .ref 301), (1, .int t1), (2, .int 4)] [.int x14] _ _ _ _
    have u19 : t1.toInt < 0 ∨ (fv Po 302 0).toInt ≤ t1.toInt ∨ (0 ≤ x14.toInt ∧ x14.toInt ≤ 8) := by omega
    exact mp_iret ⟨⟨_, rfl, u19⟩, rfl⟩ dX7_piece_97 (Or.inl rfl)
  · have c8 : x5.toInt = 0 := ti_ne_n c8
    refine mp_a (a_sipush (v := -1001) dX7_piece_8 rfl) (mpp 11 rfl ?_)
    have u20 : t1.toInt < 0 ∨ (fv Po 302 0).toInt ≤ t1.toInt ∨ (0 ≤ (-1001 : Int) ∧ (-1001 : Int) ≤ 8) := by omega
    exact mp_iret ⟨⟨_, rfl, u20⟩, rfl⟩ dX7_piece_11 (Or.inl rfl)

set_option maxHeartbeats 4000000 in
theorem c_M_allOf_c4_l4 {Po : mP}  (hT : Typ Po) (hR : Rel Po)  : ∀ (n : Nat) (v2 : Int32) (v3 : Int32), (0 ≤ v2.toInt) → (v2.toInt ≤ 8 * v3.toInt) → (v3.toInt ≤ (fv Po 302 0).toInt) → (0 ≤ v3.toInt) → (2147483647 - v3.toInt).toNat = n → MEvP 6 none q_230 4 [(0, .ref 301), (1, .int 4), (2, .int v2), (3, .int v3)] [] Po 0 0 (fun r P' => (∃ x : Int32, r = some (.int x) ∧ (0 ≤ x.toInt ∧ x.toInt ≤ 64)) ∧ P' = Po) := by
  intro n
  induction n using Nat.strongRecOn with | _ n ih => ?_
  intro v2 v3 i_0 i_1 i_2 i_3 hm
  have w_v2 := ti_full v2
  have w_v3 := ti_full v3
  have g1 : (0 : Int) ≤ (fv Po 302 0).toInt ∧ (fv Po 302 0).toInt ≤ 8 := Typ.rng hT rl_302 (by decide) (by decide) rfl
  refine mp_a (a_iload_n dX7_allOf_4 rfl) (mpp 5 rfl ?_)
  refine mp_a (a_aload_n dX7_allOf_5 rfl) (mpp 6 rfl ?_)
  refine mt_getU (i := 9) (k := 0) (A := 302) hT dX7_allOf_6 rfl rl_301 (by decide) rfl (by decide) rfl un_18 (mpp 9 rfl ?_)
  refine mp_a (a_iconst (v := 0) dX7_allOf_9 rfl) (mpp 10 rfl ?_)
  refine mt_ialX (n := 155) hT dX7_allOf_10 rl_302 (by decide) rfl rfl (by decide) (by decide) ssp_0 (fun g2 => mpp 11 rfl ?_)
  have we4 := ti_full (fv Po 302 0)
  refine mp_Tb (t := 29) (j_icmp_ge dX7_allOf_11) (by decide) (fun c5 => ?_) (fun c5 => mpp 14 rfl ?_)
  · have c5 : v3.toInt ≥ (fv Po 302 0).toInt := ti_ge c5
    refine mp_a (a_iload_n dX7_allOf_29 rfl) (mpp 30 rfl ?_)
    have u6 : 0 ≤ v2.toInt ∧ v2.toInt ≤ 64 := by omega
    exact mp_iret ⟨⟨_, rfl, u6⟩, rfl⟩ dX7_allOf_30 (Or.inl rfl)
  · have c5 : v3.toInt < (fv Po 302 0).toInt := ti_ge_n c5
    refine mp_a (a_iload_n dX7_allOf_14 rfl) (mpp 15 rfl ?_)
    refine mp_a (a_aload_n dX7_allOf_15 rfl) (mpp 16 rfl ?_)
    refine mp_a (a_iload_n dX7_allOf_16 rfl) (mpp 17 rfl ?_)
    refine mp_a (a_iload_n dX7_allOf_17 rfl) (mpp 18 rfl ?_)
    refine mt_callv (i := 348) (q' := q_194) (As := [.int v3, .int 4]) (rest := [.int v2]) hT dX7_allOf_18 rfl qm_194 (by decide) rfl rl_301 (by decide) rfl (Nat.le_of_ble_eq_true rfl) rfl ⟨rfl, rfl⟩ ⟨Nat.le_of_ble_eq_true rfl, Nat.le_of_ble_eq_true rfl⟩ (EvP.mono (by decide) (c_M_piece_c4 hT )) (fun r7 P8 g9 => mpp 21 rfl ?_)
    obtain ⟨⟨x10, rfl, g11⟩, e12⟩ := g9
    have e12 := e12.symm
    subst e12
    have wx10 := ti_full x10
    replace g11 : v3.toInt < 0 ∨ (fv Po 302 0).toInt ≤ v3.toInt ∨ (0 ≤ x10.toInt ∧ x10.toInt ≤ 8) := g11
    show MEvP _ none q_230 21 [(0, .ref 301), (1, .int 4), (2, .int v2), (3, .int v3)] [.int x10, .int v2] _ _ _ _
    obtain ⟨z13, h14⟩ := ti_ex (v2 + x10 : Int32)
    have wz13 := ti_full z13
    refine mp_t (s_iadd (v := z13) dX7_allOf_21 h14) (mpp 22 rfl ?_)
    try have e15 : z13.toInt = v2.toInt + x10.toInt := ti_addz h14 rfl rfl (by omega) (by omega)
    refine mp_a (a_istore_n (L' := [(2, .int z13), (0, .ref 301), (1, .int 4), (3, .int v3)]) dX7_allOf_22 (by decide) rfl) (mpp 23 rfl ?_)
    obtain ⟨z16, h17⟩ := ti_ex (v3 + 1 : Int32)
    have wz16 := ti_full z16
    refine mp_a (a_iinc (v := z16) (L' := [(3, .int z16), (2, .int z13), (0, .ref 301), (1, .int 4)]) dX7_allOf_23 (by decide) rfl h17 rfl) (mpp 26 rfl ?_)
    try have e18 : z16.toInt = v3.toInt + 1 := ti_addz h17 rfl rfl (by omega) (by omega)
    refine mp_a (a_goto (t := 4) dX7_allOf_26 (by decide)) ?_
    refine MEvP.less (L := [(0, .ref 301), (1, .int 4), (2, .int z13), (3, .int z16)]) rfl rfl ⟨rfl, rfl, rfl, rfl, trivial⟩ ?_
    have i19 : 0 ≤ z13.toInt := by omega
    have i20 : z13.toInt ≤ 8 * z16.toInt := by omega
    have i21 : z16.toInt ≤ (fv Po 302 0).toInt := by omega
    have i22 : 0 ≤ z16.toInt := by omega
    exact ih _ (by omega) _ _ i19 i20 i21 i22 rfl

set_option maxHeartbeats 4000000 in
theorem c_M_allOf_c4 {Po : mP}  (hT : Typ Po) (hR : Rel Po)  : EvP 7 230 [.ref 301, .int 4] Po (fun r P' => (∃ x : Int32, r = some (.int x) ∧ (0 ≤ x.toInt ∧ x.toInt ≤ 64)) ∧ P' = Po) := by
  refine EvP.of qm_230 (Nat.le_of_ble_eq_true rfl) rfl ?_
  show MEvP _ none q_230 0 [(0, .ref 301), (1, .int 4)] [] _ 0 0 _
  refine mp_a (a_iconst (v := 0) dX7_allOf_0 rfl) (mpp 1 rfl ?_)
  refine mp_a (a_istore_n (L' := [(2, .int 0), (0, .ref 301), (1, .int 4)]) dX7_allOf_1 (by decide) rfl) (mpp 2 rfl ?_)
  refine mp_a (a_iconst (v := 0) dX7_allOf_2 rfl) (mpp 3 rfl ?_)
  refine mp_a (a_istore_n (L' := [(3, .int 0), (2, .int 0), (0, .ref 301), (1, .int 4)]) dX7_allOf_3 (by decide) rfl) (mpp 4 rfl ?_)
  refine MEvP.less (L := [(0, .ref 301), (1, .int 4), (2, .int 0), (3, .int 0)]) rfl rfl ⟨rfl, rfl, rfl, rfl, trivial⟩ ?_
  have i1 : 0 ≤ (0 : Int) := by omega
  have i2 : (0 : Int) ≤ 8 * (0 : Int) := by omega
  have g3 : (0 : Int) ≤ (fv Po 302 0).toInt ∧ (fv Po 302 0).toInt ≤ 8 := Typ.rng hT rl_302 (by decide) (by decide) rfl
  have i4 : (0 : Int) ≤ (fv Po 302 0).toInt := by omega
  have i5 : 0 ≤ (0 : Int) := by omega
  exact c_M_allOf_c4_l4 hT hR  _ _ _ i1 i2 i4 i5 rfl

set_option maxHeartbeats 4000000 in
theorem c_M_piece_c5 {Po : mP} {t1 : Int32} (hT : Typ Po)   : EvP 6 194 [.ref 301, .int t1, .int 5] Po (fun r P' => (∃ x : Int32, r = some (.int x) ∧ (True)) ∧ P' = Po) := by
  refine EvP.of qm_194 (Nat.le_of_ble_eq_true rfl) rfl ?_
  show MEvP _ none q_194 0 [(0, .ref 301), (1, .int t1), (2, .int 5)] [] _ 0 0 _
  have w_t1 := ti_full t1
  refine mp_a (a_aload_n dX7_piece_0 rfl) (mpp 1 rfl ?_)
  refine mp_a (a_iload_n dX7_piece_1 rfl) (mpp 2 rfl ?_)
  refine mt_callv (i := 85) (q' := q_144) (As := [.int t1]) (rest := []) hT dX7_piece_2 rfl qm_144 (by decide) rfl rl_301 (by decide) rfl (Nat.le_of_ble_eq_true rfl) rfl ⟨rfl, rfl⟩ ⟨Nat.le_of_ble_eq_true rfl, Nat.le_of_ble_eq_true rfl⟩ (EvP.mono (by decide) (c_M_isPiece hT )) (fun r1 P2 g3 => mpp 5 rfl ?_)
  obtain ⟨⟨x4, rfl, g5⟩, e6⟩ := g3
  have e6 := e6.symm
  subst e6
  have wx4 := ti_full x4
  replace g5 : 0 ≤ x4.toInt ∧ x4.toInt ≤ 1 ∧ ((x4.toInt = 1 ∧ 0 ≤ t1.toInt ∧ t1.toInt + 1 ≤ (fv Po 302 0).toInt ∧ t1.toInt ≤ 7) ∨ (x4.toInt = 0 ∧ (t1.toInt < 0 ∨ (fv Po 302 0).toInt ≤ t1.toInt))) := g5
  have g7 : (0 : Int) ≤ (fv Po 302 0).toInt ∧ (fv Po 302 0).toInt ≤ 8 := Typ.rng hT rl_302 (by decide) (by decide) rfl
  show MEvP _ none q_194 5 [(0, .ref 301), (1, .int t1), (2, .int 5)] [.int x4] _ _ _ _
  refine mp_Tb (t := 12) (j_if_ne dX7_piece_5) (by decide) (fun c8 => ?_) (fun c8 => mpp 8 rfl ?_)
  · have c8 : x4.toInt ≠ 0 := ti_ne c8
    refine mp_a (a_iload_n dX7_piece_12 rfl) (mpp 13 rfl ?_)
    refine mp_t (s_tabIn (t := 98) dX7_piece_13 (by decide) rfl (by decide)) ?_
    refine mp_a (a_aload_n dX7_piece_98 rfl) (mpp 99 rfl ?_)
    refine mp_a (a_iload_n dX7_piece_99 rfl) (mpp 100 rfl ?_)
    refine mp_a (a_iconst (v := 0) dX7_piece_100 rfl) (mpp 101 rfl ?_)
    have p9 : 0 ≤ t1.toInt := by omega
    have p10 : t1.toInt ≤ 7 := by omega
    refine mt_callv (i := 136) (q' := q_149) (As := [.int t1, .int 0]) (rest := []) hT dX7_piece_101 rfl qm_149 (by decide) rfl rl_301 (by decide) rfl (Nat.le_of_ble_eq_true rfl) rfl ⟨rfl, rfl⟩ ⟨Nat.le_of_ble_eq_true rfl, Nat.le_of_ble_eq_true rfl⟩ (EvP.mono (by decide) (c_M_countOf hT p9 p10 )) (fun r11 P12 g13 => mpp 104 rfl ?_)
    obtain ⟨⟨x14, rfl, g15⟩, e16⟩ := g13
    have e16 := e16.symm
    subst e16
    have wx14 := ti_full x14
    replace g15 : (x14.toInt ≤ 0 ∨ UD Po t1.toInt.toNat (0 : Int)) ∧ 0 ≤ x14.toInt ∧ x14.toInt ≤ 8 ∧ x14.toInt = cntF (fun j : Nat => fv Po 302 (14 + 19 * t1.toInt.toNat + j)) (0 : Int) (nC (fv Po 302 (3 + 19 * t1.toInt.toNat)).toInt (fv Po 302 (4 + 19 * t1.toInt.toNat)).toInt) := g15
    try have g17 : (0 : Int) ≤ (fv Po 302 (3 + 19 * t1.toInt.toNat)).toInt ∧ (fv Po 302 (3 + 19 * t1.toInt.toNat)).toInt ≤ 1 := s3_rng hT (by omega)
    try have g18 : (0 : Int) ≤ (fv Po 302 (4 + 19 * t1.toInt.toNat)).toInt ∧ (fv Po 302 (4 + 19 * t1.toInt.toNat)).toInt ≤ 8 := s4_rng hT (by omega)
    show MEvP _ none q_194 104 [(0, .ref 301), (1, .int t1), (2, .int 5)] [.int x14] _ _ _ _
    exact mp_iret ⟨⟨_, rfl, trivial⟩, rfl⟩ dX7_piece_104 (Or.inl rfl)
  · have c8 : x4.toInt = 0 := ti_ne_n c8
    refine mp_a (a_sipush (v := -1001) dX7_piece_8 rfl) (mpp 11 rfl ?_)
    exact mp_iret ⟨⟨_, rfl, trivial⟩, rfl⟩ dX7_piece_11 (Or.inl rfl)

set_option maxHeartbeats 4000000 in
theorem c_M_allOf_c5_l4 {Po : mP}  (hT : Typ Po) (hR : Rel Po)  : ∀ (n : Nat) (v2 : Int32) (v3 : Int32), (0 ≤ v3.toInt) → (2147483647 - v3.toInt).toNat = n → MEvP 6 none q_230 4 [(0, .ref 301), (1, .int 5), (2, .int v2), (3, .int v3)] [] Po 0 0 (fun r P' => (∃ x : Int32, r = some (.int x) ∧ (True)) ∧ P' = Po) := by
  intro n
  induction n using Nat.strongRecOn with | _ n ih => ?_
  intro v2 v3 i_0 hm
  have w_v2 := ti_full v2
  have w_v3 := ti_full v3
  refine mp_a (a_iload_n dX7_allOf_4 rfl) (mpp 5 rfl ?_)
  refine mp_a (a_aload_n dX7_allOf_5 rfl) (mpp 6 rfl ?_)
  refine mt_getU (i := 9) (k := 0) (A := 302) hT dX7_allOf_6 rfl rl_301 (by decide) rfl (by decide) rfl un_18 (mpp 9 rfl ?_)
  refine mp_a (a_iconst (v := 0) dX7_allOf_9 rfl) (mpp 10 rfl ?_)
  have g3 : (0 : Int) ≤ (fv Po 302 0).toInt ∧ (fv Po 302 0).toInt ≤ 8 := Typ.rng hT rl_302 (by decide) (by decide) rfl
  refine mt_ialX (n := 155) hT dX7_allOf_10 rl_302 (by decide) rfl rfl (by decide) (by decide) ssp_0 (fun g1 => mpp 11 rfl ?_)
  have we4 := ti_full (fv Po 302 0)
  refine mp_Tb (t := 29) (j_icmp_ge dX7_allOf_11) (by decide) (fun c5 => ?_) (fun c5 => mpp 14 rfl ?_)
  · have c5 : v3.toInt ≥ (fv Po 302 0).toInt := ti_ge c5
    refine mp_a (a_iload_n dX7_allOf_29 rfl) (mpp 30 rfl ?_)
    exact mp_iret ⟨⟨_, rfl, trivial⟩, rfl⟩ dX7_allOf_30 (Or.inl rfl)
  · have c5 : v3.toInt < (fv Po 302 0).toInt := ti_ge_n c5
    refine mp_a (a_iload_n dX7_allOf_14 rfl) (mpp 15 rfl ?_)
    refine mp_a (a_aload_n dX7_allOf_15 rfl) (mpp 16 rfl ?_)
    refine mp_a (a_iload_n dX7_allOf_16 rfl) (mpp 17 rfl ?_)
    refine mp_a (a_iload_n dX7_allOf_17 rfl) (mpp 18 rfl ?_)
    refine mt_callv (i := 348) (q' := q_194) (As := [.int v3, .int 5]) (rest := [.int v2]) hT dX7_allOf_18 rfl qm_194 (by decide) rfl rl_301 (by decide) rfl (Nat.le_of_ble_eq_true rfl) rfl ⟨rfl, rfl⟩ ⟨Nat.le_of_ble_eq_true rfl, Nat.le_of_ble_eq_true rfl⟩ (EvP.mono (by decide) (c_M_piece_c5 hT )) (fun r6 P7 g8 => mpp 21 rfl ?_)
    obtain ⟨⟨x9, rfl, g10⟩, e11⟩ := g8
    have e11 := e11.symm
    subst e11
    have wx9 := ti_full x9
    show MEvP _ none q_230 21 [(0, .ref 301), (1, .int 5), (2, .int v2), (3, .int v3)] [.int x9, .int v2] _ _ _ _
    obtain ⟨z12, h13⟩ := ti_ex (v2 + x9 : Int32)
    have wz12 := ti_full z12
    refine mp_t (s_iadd (v := z12) dX7_allOf_21 h13) (mpp 22 rfl ?_)
    try have e14 : z12.toInt = v2.toInt + x9.toInt := ti_addz h13 rfl rfl (by omega) (by omega)
    refine mp_a (a_istore_n (L' := [(2, .int z12), (0, .ref 301), (1, .int 5), (3, .int v3)]) dX7_allOf_22 (by decide) rfl) (mpp 23 rfl ?_)
    obtain ⟨z15, h16⟩ := ti_ex (v3 + 1 : Int32)
    have wz15 := ti_full z15
    refine mp_a (a_iinc (v := z15) (L' := [(3, .int z15), (2, .int z12), (0, .ref 301), (1, .int 5)]) dX7_allOf_23 (by decide) rfl h16 rfl) (mpp 26 rfl ?_)
    try have e17 : z15.toInt = v3.toInt + 1 := ti_addz h16 rfl rfl (by omega) (by omega)
    refine mp_a (a_goto (t := 4) dX7_allOf_26 (by decide)) ?_
    refine MEvP.less (L := [(0, .ref 301), (1, .int 5), (2, .int z12), (3, .int z15)]) rfl rfl ⟨rfl, rfl, rfl, rfl, trivial⟩ ?_
    have i18 : 0 ≤ z15.toInt := by omega
    exact ih _ (by omega) _ _ i18 rfl

set_option maxHeartbeats 4000000 in
theorem c_M_allOf_c5 {Po : mP}  (hT : Typ Po) (hR : Rel Po)  : EvP 7 230 [.ref 301, .int 5] Po (fun r P' => (∃ x : Int32, r = some (.int x) ∧ (True)) ∧ P' = Po) := by
  refine EvP.of qm_230 (Nat.le_of_ble_eq_true rfl) rfl ?_
  show MEvP _ none q_230 0 [(0, .ref 301), (1, .int 5)] [] _ 0 0 _
  refine mp_a (a_iconst (v := 0) dX7_allOf_0 rfl) (mpp 1 rfl ?_)
  refine mp_a (a_istore_n (L' := [(2, .int 0), (0, .ref 301), (1, .int 5)]) dX7_allOf_1 (by decide) rfl) (mpp 2 rfl ?_)
  refine mp_a (a_iconst (v := 0) dX7_allOf_2 rfl) (mpp 3 rfl ?_)
  refine mp_a (a_istore_n (L' := [(3, .int 0), (2, .int 0), (0, .ref 301), (1, .int 5)]) dX7_allOf_3 (by decide) rfl) (mpp 4 rfl ?_)
  refine MEvP.less (L := [(0, .ref 301), (1, .int 5), (2, .int 0), (3, .int 0)]) rfl rfl ⟨rfl, rfl, rfl, rfl, trivial⟩ ?_
  have i1 : 0 ≤ (0 : Int) := by omega
  exact c_M_allOf_c5_l4 hT hR  _ _ _ i1 rfl

set_option maxHeartbeats 4000000 in
theorem c_M_account {Po : mP} {t1 : Int32} (hT : Typ Po) (hR : Rel Po)  : EvP 8 229 [.ref 301, .int t1] Po (fun r P' => (∃ x : Int32, r = some (.int x) ∧ (True)) ∧ P' = Po) := by
  refine EvP.of qm_229 (Nat.le_of_ble_eq_true rfl) rfl ?_
  show MEvP _ none q_229 0 [(0, .ref 301), (1, .int t1)] [] _ 0 0 _
  have w_t1 := ti_full t1
  refine mp_a (a_iload_n dX7_account_0 rfl) (mpp 1 rfl ?_)
  have c1 : (t1.toInt < 0 ∨ 12 < t1.toInt) ∨ t1.toInt = 0 ∨ t1.toInt = 1 ∨ t1.toInt = 2 ∨ t1.toInt = 3 ∨ t1.toInt = 4 ∨ t1.toInt = 5 ∨ t1.toInt = 6 ∨ t1.toInt = 7 ∨ t1.toInt = 8 ∨ t1.toInt = 9 ∨ t1.toInt = 10 ∨ t1.toInt = 11 ∨ t1.toInt = 12 := by omega
  rcases c1 with c1 | c1 | c1 | c1 | c1 | c1 | c1 | c1 | c1 | c1 | c1 | c1 | c1 | c1
  · refine mp_t (s_tabOut (t := 160) dX7_account_1 c1 (by decide)) ?_
    refine mp_a (a_sipush (v := -1002) dX7_account_160 rfl) (mpp 163 rfl ?_)
    exact mp_iret ⟨⟨_, rfl, trivial⟩, rfl⟩ dX7_account_163 (Or.inl rfl)
  · refine mp_t (s_tabIn (t := 68) (off := 67) dX7_account_1 (by omega) (by rw [c1]; rfl) (by decide)) ?_
    refine mp_a (a_aload_n dX7_account_68 rfl) (mpp 69 rfl ?_)
    refine mt_getU (i := 9) (k := 0) (A := 302) hT dX7_account_69 rfl rl_301 (by decide) rfl (by decide) rfl un_18 (mpp 72 rfl ?_)
    refine mp_a (a_iconst (v := 0) dX7_account_72 rfl) (mpp 73 rfl ?_)
    have g4 : (0 : Int) ≤ (fv Po 302 0).toInt ∧ (fv Po 302 0).toInt ≤ 8 := Typ.rng hT rl_302 (by decide) (by decide) rfl
    refine mt_ialX (n := 155) hT dX7_account_73 rl_302 (by decide) rfl rfl (by decide) (by decide) ssp_0 (fun g2 => mpp 74 rfl ?_)
    have we5 := ti_full (fv Po 302 0)
    exact mp_iret ⟨⟨_, rfl, trivial⟩, rfl⟩ dX7_account_74 (Or.inl rfl)
  · refine mp_t (s_tabIn (t := 75) (off := 74) dX7_account_1 (by omega) (by rw [c1]; rfl) (by decide)) ?_
    refine mp_a (a_aload_n dX7_account_75 rfl) (mpp 76 rfl ?_)
    refine mt_getU (i := 9) (k := 0) (A := 302) hT dX7_account_76 rfl rl_301 (by decide) rfl (by decide) rfl un_18 (mpp 79 rfl ?_)
    refine mp_a (a_iconst (v := 0) dX7_account_79 rfl) (mpp 80 rfl ?_)
    have g8 : (0 : Int) ≤ (fv Po 302 0).toInt ∧ (fv Po 302 0).toInt ≤ 8 := Typ.rng hT rl_302 (by decide) (by decide) rfl
    refine mt_ialX (n := 155) hT dX7_account_80 rl_302 (by decide) rfl rfl (by decide) (by decide) ssp_0 (fun g6 => mpp 81 rfl ?_)
    have we9 := ti_full (fv Po 302 0)
    refine mp_a (a_aload_n dX7_account_81 rfl) (mpp 82 rfl ?_)
    refine mp_a (a_iconst (v := 0) dX7_account_82 rfl) (mpp 83 rfl ?_)
    refine mt_callv (i := 351) (q' := q_230) (As := [.int 0]) (rest := [.int (fv Po 302 0)]) hT dX7_account_83 rfl qm_230 (by decide) rfl rl_301 (by decide) rfl (Nat.le_of_ble_eq_true rfl) rfl ⟨rfl, rfl⟩ ⟨Nat.le_of_ble_eq_true rfl, Nat.le_of_ble_eq_true rfl⟩ (EvP.mono (by decide) (c_M_allOf_c0 hT hR )) (fun r10 P11 g12 => mpp 86 rfl ?_)
    obtain ⟨⟨x13, rfl, g14⟩, e15⟩ := g12
    have e15 := e15.symm
    subst e15
    have wx13 := ti_full x13
    show MEvP _ none q_229 86 [(0, .ref 301), (1, .int t1)] [.int x13, .int (fv Po 302 0)] _ _ _ _
    obtain ⟨z16, h17⟩ := ti_ex ((fv Po 302 0) - x13 : Int32)
    have wz16 := ti_full z16
    refine mp_t (s_isub (v := z16) dX7_account_86 h17) (mpp 87 rfl ?_)
    try have e18 : z16.toInt = (fv Po 302 0).toInt - x13.toInt := ti_subz h17 rfl rfl (by omega) (by omega)
    exact mp_iret ⟨⟨_, rfl, trivial⟩, rfl⟩ dX7_account_87 (Or.inl rfl)
  · refine mp_t (s_tabIn (t := 88) (off := 87) dX7_account_1 (by omega) (by rw [c1]; rfl) (by decide)) ?_
    refine mp_a (a_aload_n dX7_account_88 rfl) (mpp 89 rfl ?_)
    refine mp_a (a_iconst (v := 0) dX7_account_89 rfl) (mpp 90 rfl ?_)
    refine mt_callv (i := 351) (q' := q_230) (As := [.int 0]) (rest := []) hT dX7_account_90 rfl qm_230 (by decide) rfl rl_301 (by decide) rfl (Nat.le_of_ble_eq_true rfl) rfl ⟨rfl, rfl⟩ ⟨Nat.le_of_ble_eq_true rfl, Nat.le_of_ble_eq_true rfl⟩ (EvP.mono (by decide) (c_M_allOf_c0 hT hR )) (fun r19 P20 g21 => mpp 93 rfl ?_)
    obtain ⟨⟨x22, rfl, g23⟩, e24⟩ := g21
    have e24 := e24.symm
    subst e24
    have wx22 := ti_full x22
    show MEvP _ none q_229 93 [(0, .ref 301), (1, .int t1)] [.int x22] _ _ _ _
    exact mp_iret ⟨⟨_, rfl, trivial⟩, rfl⟩ dX7_account_93 (Or.inl rfl)
  · refine mp_t (s_tabIn (t := 94) (off := 93) dX7_account_1 (by omega) (by rw [c1]; rfl) (by decide)) ?_
    refine mp_a (a_aload_n dX7_account_94 rfl) (mpp 95 rfl ?_)
    refine mp_a (a_bipush (v := 7) dX7_account_95 rfl) (mpp 97 rfl ?_)
    refine mt_callv (i := 351) (q' := q_230) (As := [.int 7]) (rest := []) hT dX7_account_97 rfl qm_230 (by decide) rfl rl_301 (by decide) rfl (Nat.le_of_ble_eq_true rfl) rfl ⟨rfl, rfl⟩ ⟨Nat.le_of_ble_eq_true rfl, Nat.le_of_ble_eq_true rfl⟩ (EvP.mono (by decide) (c_M_allOf_c7 hT hR )) (fun r25 P26 g27 => mpp 100 rfl ?_)
    obtain ⟨⟨x28, rfl, g29⟩, e30⟩ := g27
    have e30 := e30.symm
    subst e30
    have wx28 := ti_full x28
    show MEvP _ none q_229 100 [(0, .ref 301), (1, .int t1)] [.int x28] _ _ _ _
    exact mp_iret ⟨⟨_, rfl, trivial⟩, rfl⟩ dX7_account_100 (Or.inl rfl)
  · refine mp_t (s_tabIn (t := 101) (off := 100) dX7_account_1 (by omega) (by rw [c1]; rfl) (by decide)) ?_
    refine mp_a (a_aload_n dX7_account_101 rfl) (mpp 102 rfl ?_)
    refine mt_getU (i := 9) (k := 0) (A := 302) hT dX7_account_102 rfl rl_301 (by decide) rfl (by decide) rfl un_18 (mpp 105 rfl ?_)
    refine mp_a (a_iconst (v := 1) dX7_account_105 rfl) (mpp 106 rfl ?_)
    have g33 := ti_full (fv Po 302 1)
    refine mt_ialX (n := 155) hT dX7_account_106 rl_302 (by decide) rfl rfl (by decide) (by decide) ssp_0 (fun g31 => mpp 107 rfl ?_)
    have we34 := ti_full (fv Po 302 1)
    exact mp_iret ⟨⟨_, rfl, trivial⟩, rfl⟩ dX7_account_107 (Or.inl rfl)
  · refine mp_t (s_tabIn (t := 108) (off := 107) dX7_account_1 (by omega) (by rw [c1]; rfl) (by decide)) ?_
    refine mp_a (a_aload_n dX7_account_108 rfl) (mpp 109 rfl ?_)
    refine mt_getU (i := 9) (k := 0) (A := 302) hT dX7_account_109 rfl rl_301 (by decide) rfl (by decide) rfl un_18 (mpp 112 rfl ?_)
    refine mp_a (a_iconst (v := 1) dX7_account_112 rfl) (mpp 113 rfl ?_)
    have g37 := ti_full (fv Po 302 1)
    refine mt_ialX (n := 155) hT dX7_account_113 rl_302 (by decide) rfl rfl (by decide) (by decide) ssp_0 (fun g35 => mpp 114 rfl ?_)
    have we38 := ti_full (fv Po 302 1)
    refine mp_a (a_aload_n dX7_account_114 rfl) (mpp 115 rfl ?_)
    refine mt_callv (i := 231) (q' := q_184) (As := []) (rest := [.int (fv Po 302 1)]) hT dX7_account_115 rfl qm_184 (by decide) rfl rl_301 (by decide) rfl (Nat.le_of_ble_eq_true rfl) rfl ⟨rfl, rfl⟩ ⟨Nat.le_of_ble_eq_true rfl, Nat.le_of_ble_eq_true rfl⟩ (EvP.mono (by decide) (c_M_used hT )) (fun r39 P40 g41 => mpp 118 rfl ?_)
    obtain ⟨⟨x42, rfl, g43⟩, e44⟩ := g41
    have e44 := e44.symm
    subst e44
    have wx42 := ti_full x42
    replace g43 : x42.toInt = (smF (fun k : Nat => wpM (sr Po) k) (fv Po 302 0).toInt.toNat).toInt := g43
    have g45 : (0 : Int) ≤ (fv Po 302 0).toInt ∧ (fv Po 302 0).toInt ≤ 8 := Typ.rng hT rl_302 (by decide) (by decide) rfl
    show MEvP _ none q_229 118 [(0, .ref 301), (1, .int t1)] [.int x42, .int (fv Po 302 1)] _ _ _ _
    obtain ⟨z46, h47⟩ := ti_ex ((fv Po 302 1) - x42 : Int32)
    have wz46 := ti_full z46
    refine mp_t (s_isub (v := z46) dX7_account_118 h47) (mpp 119 rfl ?_)
    try have e48 : z46.toInt = (fv Po 302 1).toInt - x42.toInt := ti_subz h47 rfl rfl (by omega) (by omega)
    exact mp_iret ⟨⟨_, rfl, trivial⟩, rfl⟩ dX7_account_119 (Or.inl rfl)
  · refine mp_t (s_tabIn (t := 120) (off := 119) dX7_account_1 (by omega) (by rw [c1]; rfl) (by decide)) ?_
    refine mp_a (a_aload_n dX7_account_120 rfl) (mpp 121 rfl ?_)
    refine mt_callv (i := 354) (q' := q_231) (As := []) (rest := []) hT dX7_account_121 rfl qm_231 (by decide) rfl rl_301 (by decide) rfl (Nat.le_of_ble_eq_true rfl) rfl ⟨rfl, rfl⟩ ⟨Nat.le_of_ble_eq_true rfl, Nat.le_of_ble_eq_true rfl⟩ (EvP.mono (by decide) (c_M_panelsOfAll hT )) (fun r49 P50 g51 => mpp 124 rfl ?_)
    obtain ⟨⟨x52, rfl, g53⟩, e54⟩ := g51
    have e54 := e54.symm
    subst e54
    have wx52 := ti_full x52
    show MEvP _ none q_229 124 [(0, .ref 301), (1, .int t1)] [.int x52] _ _ _ _
    exact mp_iret ⟨⟨_, rfl, trivial⟩, rfl⟩ dX7_account_124 (Or.inl rfl)
  · refine mp_t (s_tabIn (t := 125) (off := 124) dX7_account_1 (by omega) (by rw [c1]; rfl) (by decide)) ?_
    refine mp_a (a_aload_n dX7_account_125 rfl) (mpp 126 rfl ?_)
    refine mp_a (a_iconst (v := 3) dX7_account_126 rfl) (mpp 127 rfl ?_)
    refine mt_callv (i := 351) (q' := q_230) (As := [.int 3]) (rest := []) hT dX7_account_127 rfl qm_230 (by decide) rfl rl_301 (by decide) rfl (Nat.le_of_ble_eq_true rfl) rfl ⟨rfl, rfl⟩ ⟨Nat.le_of_ble_eq_true rfl, Nat.le_of_ble_eq_true rfl⟩ (EvP.mono (by decide) (c_M_allOf_c3 hT hR )) (fun r55 P56 g57 => mpp 130 rfl ?_)
    obtain ⟨⟨x58, rfl, g59⟩, e60⟩ := g57
    have e60 := e60.symm
    subst e60
    have wx58 := ti_full x58
    replace g59 : 0 ≤ x58.toInt ∧ x58.toInt ≤ 64 := g59
    show MEvP _ none q_229 130 [(0, .ref 301), (1, .int t1)] [.int x58] _ _ _ _
    exact mp_iret ⟨⟨_, rfl, trivial⟩, rfl⟩ dX7_account_130 (Or.inl rfl)
  · refine mp_t (s_tabIn (t := 131) (off := 130) dX7_account_1 (by omega) (by rw [c1]; rfl) (by decide)) ?_
    refine mp_a (a_aload_n dX7_account_131 rfl) (mpp 132 rfl ?_)
    refine mp_a (a_iconst (v := 4) dX7_account_132 rfl) (mpp 133 rfl ?_)
    refine mt_callv (i := 351) (q' := q_230) (As := [.int 4]) (rest := []) hT dX7_account_133 rfl qm_230 (by decide) rfl rl_301 (by decide) rfl (Nat.le_of_ble_eq_true rfl) rfl ⟨rfl, rfl⟩ ⟨Nat.le_of_ble_eq_true rfl, Nat.le_of_ble_eq_true rfl⟩ (EvP.mono (by decide) (c_M_allOf_c4 hT hR )) (fun r61 P62 g63 => mpp 136 rfl ?_)
    obtain ⟨⟨x64, rfl, g65⟩, e66⟩ := g63
    have e66 := e66.symm
    subst e66
    have wx64 := ti_full x64
    replace g65 : 0 ≤ x64.toInt ∧ x64.toInt ≤ 64 := g65
    show MEvP _ none q_229 136 [(0, .ref 301), (1, .int t1)] [.int x64] _ _ _ _
    exact mp_iret ⟨⟨_, rfl, trivial⟩, rfl⟩ dX7_account_136 (Or.inl rfl)
  · refine mp_t (s_tabIn (t := 137) (off := 136) dX7_account_1 (by omega) (by rw [c1]; rfl) (by decide)) ?_
    refine mp_a (a_aload_n dX7_account_137 rfl) (mpp 138 rfl ?_)
    refine mp_a (a_iconst (v := 5) dX7_account_138 rfl) (mpp 139 rfl ?_)
    refine mt_callv (i := 351) (q' := q_230) (As := [.int 5]) (rest := []) hT dX7_account_139 rfl qm_230 (by decide) rfl rl_301 (by decide) rfl (Nat.le_of_ble_eq_true rfl) rfl ⟨rfl, rfl⟩ ⟨Nat.le_of_ble_eq_true rfl, Nat.le_of_ble_eq_true rfl⟩ (EvP.mono (by decide) (c_M_allOf_c5 hT hR )) (fun r67 P68 g69 => mpp 142 rfl ?_)
    obtain ⟨⟨x70, rfl, g71⟩, e72⟩ := g69
    have e72 := e72.symm
    subst e72
    have wx70 := ti_full x70
    show MEvP _ none q_229 142 [(0, .ref 301), (1, .int t1)] [.int x70] _ _ _ _
    exact mp_iret ⟨⟨_, rfl, trivial⟩, rfl⟩ dX7_account_142 (Or.inl rfl)
  · refine mp_t (s_tabIn (t := 143) (off := 142) dX7_account_1 (by omega) (by rw [c1]; rfl) (by decide)) ?_
    refine mp_a (a_aload_n dX7_account_143 rfl) (mpp 144 rfl ?_)
    refine mt_getU (i := 9) (k := 0) (A := 302) hT dX7_account_144 rfl rl_301 (by decide) rfl (by decide) rfl un_18 (mpp 147 rfl ?_)
    refine mp_a (a_iconst (v := 2) dX7_account_147 rfl) (mpp 148 rfl ?_)
    have g75 := ti_full (fv Po 302 2)
    refine mt_ialX (n := 155) hT dX7_account_148 rl_302 (by decide) rfl rfl (by decide) (by decide) ssp_0 (fun g73 => mpp 149 rfl ?_)
    have we76 := ti_full (fv Po 302 2)
    exact mp_iret ⟨⟨_, rfl, trivial⟩, rfl⟩ dX7_account_149 (Or.inl rfl)
  · refine mp_t (s_tabIn (t := 150) (off := 149) dX7_account_1 (by omega) (by rw [c1]; rfl) (by decide)) ?_
    refine mp_a (a_aload_n dX7_account_150 rfl) (mpp 151 rfl ?_)
    have g77 : (0 : Int) ≤ (fv Po 301 23).toInt ∧ (fv Po 301 23).toInt ≤ 80 := Typ.rng hT rl_301 (by decide) (by decide) rfl
    refine mt_getI (i := 291) (k := 23) hT dX7_account_151 rfl rl_301 (by decide) rfl (by decide) rfl (fun g78 g79 => mpp 154 rfl ?_)
    exact mp_iret ⟨⟨_, rfl, trivial⟩, rfl⟩ dX7_account_154 (Or.inl rfl)
  · refine mp_t (s_tabIn (t := 155) (off := 154) dX7_account_1 (by omega) (by rw [c1]; rfl) (by decide)) ?_
    refine mp_a (a_aload_n dX7_account_155 rfl) (mpp 156 rfl ?_)
    have g80 : (0 : Int) ≤ (fv Po 301 4).toInt ∧ (fv Po 301 4).toInt ≤ 8 := Typ.rng hT rl_301 (by decide) (by decide) rfl
    refine mt_getI (i := 58) (k := 4) hT dX7_account_156 rfl rl_301 (by decide) rfl (by decide) rfl (fun g81 g82 => mpp 159 rfl ?_)
    exact mp_iret ⟨⟨_, rfl, trivial⟩, rfl⟩ dX7_account_159 (Or.inl rfl)

set_option maxHeartbeats 4000000 in
theorem c_M_piece_c2 {Po : mP} {t1 : Int32} (hT : Typ Po)   : EvP 5 194 [.ref 301, .int t1, .int 2] Po (fun r P' => (∃ x : Int32, r = some (.int x) ∧ (t1.toInt < 0 ∨ (fv Po 302 0).toInt ≤ t1.toInt ∨ (x.toInt ≤ 8 ∧ (fv Po 302 (4 + 19 * t1.toInt.toNat)).toInt - 1 ≤ x.toInt))) ∧ P' = Po) := by
  refine EvP.of qm_194 (Nat.le_of_ble_eq_true rfl) rfl ?_
  show MEvP _ none q_194 0 [(0, .ref 301), (1, .int t1), (2, .int 2)] [] _ 0 0 _
  have w_t1 := ti_full t1
  have g1 : (0 : Int) ≤ (fv Po 302 0).toInt ∧ (fv Po 302 0).toInt ≤ 8 := Typ.rng hT rl_302 (by decide) (by decide) rfl
  try have g2 : (0 : Int) ≤ (fv Po 302 (4 + 19 * t1.toInt.toNat)).toInt ∧ (fv Po 302 (4 + 19 * t1.toInt.toNat)).toInt ≤ 8 := s4_rng hT (by omega)
  refine mp_a (a_aload_n dX7_piece_0 rfl) (mpp 1 rfl ?_)
  refine mp_a (a_iload_n dX7_piece_1 rfl) (mpp 2 rfl ?_)
  refine mt_callv (i := 85) (q' := q_144) (As := [.int t1]) (rest := []) hT dX7_piece_2 rfl qm_144 (by decide) rfl rl_301 (by decide) rfl (Nat.le_of_ble_eq_true rfl) rfl ⟨rfl, rfl⟩ ⟨Nat.le_of_ble_eq_true rfl, Nat.le_of_ble_eq_true rfl⟩ (EvP.mono (by decide) (c_M_isPiece hT )) (fun r3 P4 g5 => mpp 5 rfl ?_)
  obtain ⟨⟨x6, rfl, g7⟩, e8⟩ := g5
  have e8 := e8.symm
  subst e8
  have wx6 := ti_full x6
  replace g7 : 0 ≤ x6.toInt ∧ x6.toInt ≤ 1 ∧ ((x6.toInt = 1 ∧ 0 ≤ t1.toInt ∧ t1.toInt + 1 ≤ (fv Po 302 0).toInt ∧ t1.toInt ≤ 7) ∨ (x6.toInt = 0 ∧ (t1.toInt < 0 ∨ (fv Po 302 0).toInt ≤ t1.toInt))) := g7
  show MEvP _ none q_194 5 [(0, .ref 301), (1, .int t1), (2, .int 2)] [.int x6] _ _ _ _
  refine mp_Tb (t := 12) (j_if_ne dX7_piece_5) (by decide) (fun c9 => ?_) (fun c9 => mpp 8 rfl ?_)
  · have c9 : x6.toInt ≠ 0 := ti_ne c9
    refine mp_a (a_iload_n dX7_piece_12 rfl) (mpp 13 rfl ?_)
    refine mp_t (s_tabIn (t := 78) dX7_piece_13 (by decide) rfl (by decide)) ?_
    refine mp_a (a_aload_n dX7_piece_78 rfl) (mpp 79 rfl ?_)
    refine mp_a (a_iload_n dX7_piece_79 rfl) (mpp 80 rfl ?_)
    have p10 : 0 ≤ t1.toInt := by omega
    have p11 : t1.toInt ≤ 7 := by omega
    refine mt_callv (i := 88) (q' := q_136) (As := [.int t1]) (rest := []) hT dX7_piece_80 rfl qm_136 (by decide) rfl rl_301 (by decide) rfl (Nat.le_of_ble_eq_true rfl) rfl ⟨rfl, rfl⟩ ⟨Nat.le_of_ble_eq_true rfl, Nat.le_of_ble_eq_true rfl⟩ (EvP.mono (by decide) (c_M_creases hT p10 p11 )) (fun r12 P13 g14 => mpp 83 rfl ?_)
    obtain ⟨⟨x15, rfl, g16⟩, e17⟩ := g14
    have e17 := e17.symm
    subst e17
    have wx15 := ti_full x15
    replace g16 : -1 ≤ x15.toInt ∧ x15.toInt ≤ 8 ∧ (((fv Po 302 (3 + 19 * t1.toInt.toNat)).toInt = 1 ∧ x15.toInt = (fv Po 302 (4 + 19 * t1.toInt.toNat)).toInt) ∨ ((fv Po 302 (3 + 19 * t1.toInt.toNat)).toInt = 0 ∧ x15.toInt = (fv Po 302 (4 + 19 * t1.toInt.toNat)).toInt - 1)) := g16
    try have g18 : (0 : Int) ≤ (fv Po 302 (3 + 19 * t1.toInt.toNat)).toInt ∧ (fv Po 302 (3 + 19 * t1.toInt.toNat)).toInt ≤ 1 := s3_rng hT (by omega)
    show MEvP _ none q_194 83 [(0, .ref 301), (1, .int t1), (2, .int 2)] [.int x15] _ _ _ _
    have u19 : t1.toInt < 0 ∨ (fv Po 302 0).toInt ≤ t1.toInt ∨ (x15.toInt ≤ 8 ∧ (fv Po 302 (4 + 19 * t1.toInt.toNat)).toInt - 1 ≤ x15.toInt) := by omega
    exact mp_iret ⟨⟨_, rfl, u19⟩, rfl⟩ dX7_piece_83 (Or.inl rfl)
  · have c9 : x6.toInt = 0 := ti_ne_n c9
    refine mp_a (a_sipush (v := -1001) dX7_piece_8 rfl) (mpp 11 rfl ?_)
    have u20 : t1.toInt < 0 ∨ (fv Po 302 0).toInt ≤ t1.toInt ∨ ((-1001 : Int) ≤ 8 ∧ (fv Po 302 (4 + 19 * t1.toInt.toNat)).toInt - 1 ≤ (-1001 : Int)) := by omega
    exact mp_iret ⟨⟨_, rfl, u20⟩, rfl⟩ dX7_piece_11 (Or.inl rfl)

set_option maxHeartbeats 4000000 in
theorem c_M_allOf_c2_l4 {Po : mP}  (hT : Typ Po) (hR : Rel Po)  : ∀ (n : Nat) (v2 : Int32) (v3 : Int32), (v3.toInt ≤ v2.toInt) → (v2.toInt ≤ 8 * v3.toInt) → (v3.toInt ≤ (fv Po 302 0).toInt) → (0 ≤ v3.toInt) → (2147483647 - v3.toInt).toNat = n → MEvP 5 none q_230 4 [(0, .ref 301), (1, .int 2), (2, .int v2), (3, .int v3)] [] Po 0 0 (fun r P' => (∃ x : Int32, r = some (.int x) ∧ ((fv Po 302 0).toInt ≤ x.toInt ∧ x.toInt ≤ 64)) ∧ P' = Po) := by
  intro n
  induction n using Nat.strongRecOn with | _ n ih => ?_
  intro v2 v3 i_0 i_1 i_2 i_3 hm
  have w_v2 := ti_full v2
  have w_v3 := ti_full v3
  have g1 : (0 : Int) ≤ (fv Po 302 0).toInt ∧ (fv Po 302 0).toInt ≤ 8 := Typ.rng hT rl_302 (by decide) (by decide) rfl
  refine mp_a (a_iload_n dX7_allOf_4 rfl) (mpp 5 rfl ?_)
  refine mp_a (a_aload_n dX7_allOf_5 rfl) (mpp 6 rfl ?_)
  refine mt_getU (i := 9) (k := 0) (A := 302) hT dX7_allOf_6 rfl rl_301 (by decide) rfl (by decide) rfl un_18 (mpp 9 rfl ?_)
  refine mp_a (a_iconst (v := 0) dX7_allOf_9 rfl) (mpp 10 rfl ?_)
  refine mt_ialX (n := 155) hT dX7_allOf_10 rl_302 (by decide) rfl rfl (by decide) (by decide) ssp_0 (fun g2 => mpp 11 rfl ?_)
  have we4 := ti_full (fv Po 302 0)
  refine mp_Tb (t := 29) (j_icmp_ge dX7_allOf_11) (by decide) (fun c5 => ?_) (fun c5 => mpp 14 rfl ?_)
  · have c5 : v3.toInt ≥ (fv Po 302 0).toInt := ti_ge c5
    refine mp_a (a_iload_n dX7_allOf_29 rfl) (mpp 30 rfl ?_)
    have u6 : (fv Po 302 0).toInt ≤ v2.toInt ∧ v2.toInt ≤ 64 := by omega
    exact mp_iret ⟨⟨_, rfl, u6⟩, rfl⟩ dX7_allOf_30 (Or.inl rfl)
  · have c5 : v3.toInt < (fv Po 302 0).toInt := ti_ge_n c5
    refine mp_a (a_iload_n dX7_allOf_14 rfl) (mpp 15 rfl ?_)
    refine mp_a (a_aload_n dX7_allOf_15 rfl) (mpp 16 rfl ?_)
    refine mp_a (a_iload_n dX7_allOf_16 rfl) (mpp 17 rfl ?_)
    refine mp_a (a_iload_n dX7_allOf_17 rfl) (mpp 18 rfl ?_)
    have q7 := Rel.two hR (p := v3.toInt.toNat) (by omega) (by omega)
    refine mt_callv (i := 348) (q' := q_194) (As := [.int v3, .int 2]) (rest := [.int v2]) hT dX7_allOf_18 rfl qm_194 (by decide) rfl rl_301 (by decide) rfl (Nat.le_of_ble_eq_true rfl) rfl ⟨rfl, rfl⟩ ⟨Nat.le_of_ble_eq_true rfl, Nat.le_of_ble_eq_true rfl⟩ (EvP.mono (by decide) (c_M_piece_c2 hT )) (fun r8 P9 g10 => mpp 21 rfl ?_)
    obtain ⟨⟨x11, rfl, g12⟩, e13⟩ := g10
    have e13 := e13.symm
    subst e13
    have wx11 := ti_full x11
    replace g12 : v3.toInt < 0 ∨ (fv Po 302 0).toInt ≤ v3.toInt ∨ (x11.toInt ≤ 8 ∧ (fv Po 302 (4 + 19 * v3.toInt.toNat)).toInt - 1 ≤ x11.toInt) := g12
    try have g14 : (0 : Int) ≤ (fv Po 302 (4 + 19 * v3.toInt.toNat)).toInt ∧ (fv Po 302 (4 + 19 * v3.toInt.toNat)).toInt ≤ 8 := s4_rng hT (by omega)
    show MEvP _ none q_230 21 [(0, .ref 301), (1, .int 2), (2, .int v2), (3, .int v3)] [.int x11, .int v2] _ _ _ _
    obtain ⟨z15, h16⟩ := ti_ex (v2 + x11 : Int32)
    have wz15 := ti_full z15
    refine mp_t (s_iadd (v := z15) dX7_allOf_21 h16) (mpp 22 rfl ?_)
    try have e17 : z15.toInt = v2.toInt + x11.toInt := ti_addz h16 rfl rfl (by omega) (by omega)
    refine mp_a (a_istore_n (L' := [(2, .int z15), (0, .ref 301), (1, .int 2), (3, .int v3)]) dX7_allOf_22 (by decide) rfl) (mpp 23 rfl ?_)
    obtain ⟨z18, h19⟩ := ti_ex (v3 + 1 : Int32)
    have wz18 := ti_full z18
    refine mp_a (a_iinc (v := z18) (L' := [(3, .int z18), (2, .int z15), (0, .ref 301), (1, .int 2)]) dX7_allOf_23 (by decide) rfl h19 rfl) (mpp 26 rfl ?_)
    try have e20 : z18.toInt = v3.toInt + 1 := ti_addz h19 rfl rfl (by omega) (by omega)
    refine mp_a (a_goto (t := 4) dX7_allOf_26 (by decide)) ?_
    refine MEvP.less (L := [(0, .ref 301), (1, .int 2), (2, .int z15), (3, .int z18)]) rfl rfl ⟨rfl, rfl, rfl, rfl, trivial⟩ ?_
    have i21 : z18.toInt ≤ z15.toInt := by omega
    have i22 : z15.toInt ≤ 8 * z18.toInt := by omega
    have i23 : z18.toInt ≤ (fv Po 302 0).toInt := by omega
    have i24 : 0 ≤ z18.toInt := by omega
    exact ih _ (by omega) _ _ i21 i22 i23 i24 rfl

set_option maxHeartbeats 4000000 in
theorem c_M_allOf_c2 {Po : mP}  (hT : Typ Po) (hR : Rel Po)  : EvP 6 230 [.ref 301, .int 2] Po (fun r P' => (∃ x : Int32, r = some (.int x) ∧ ((fv Po 302 0).toInt ≤ x.toInt ∧ x.toInt ≤ 64)) ∧ P' = Po) := by
  refine EvP.of qm_230 (Nat.le_of_ble_eq_true rfl) rfl ?_
  show MEvP _ none q_230 0 [(0, .ref 301), (1, .int 2)] [] _ 0 0 _
  have g1 : (0 : Int) ≤ (fv Po 302 0).toInt ∧ (fv Po 302 0).toInt ≤ 8 := Typ.rng hT rl_302 (by decide) (by decide) rfl
  refine mp_a (a_iconst (v := 0) dX7_allOf_0 rfl) (mpp 1 rfl ?_)
  refine mp_a (a_istore_n (L' := [(2, .int 0), (0, .ref 301), (1, .int 2)]) dX7_allOf_1 (by decide) rfl) (mpp 2 rfl ?_)
  refine mp_a (a_iconst (v := 0) dX7_allOf_2 rfl) (mpp 3 rfl ?_)
  refine mp_a (a_istore_n (L' := [(3, .int 0), (2, .int 0), (0, .ref 301), (1, .int 2)]) dX7_allOf_3 (by decide) rfl) (mpp 4 rfl ?_)
  refine MEvP.less (L := [(0, .ref 301), (1, .int 2), (2, .int 0), (3, .int 0)]) rfl rfl ⟨rfl, rfl, rfl, rfl, trivial⟩ ?_
  have i2 : (0 : Int) ≤ (0 : Int) := by omega
  have i3 : (0 : Int) ≤ 8 * (0 : Int) := by omega
  have i4 : (0 : Int) ≤ (fv Po 302 0).toInt := by omega
  have i5 : 0 ≤ (0 : Int) := by omega
  exact c_M_allOf_c2_l4 hT hR  _ _ _ i2 i3 i4 i5 rfl

