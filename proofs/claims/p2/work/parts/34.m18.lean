/-! methods on typed pools, 18 (written by a program) -/
set_option maxHeartbeats 4000000 in
theorem c_M_isFolded {Po : mP} {t1 : Int32} (hT : Typ Po)  (hp0 : 0 ≤ t1.toInt) (hp1 : t1.toInt ≤ 7)  : EvP 3 145 [.ref 301, .int t1] Po (fun r P' => (∃ x : Int32, r = some (.int x) ∧ (0 ≤ x.toInt ∧ x.toInt ≤ 1 ∧ ((x.toInt = 1 ∧ (fv Po 302 (5 + 19 * t1.toInt.toNat)).toInt = 1) ∨ (x.toInt = 0 ∧ (fv Po 302 (5 + 19 * t1.toInt.toNat)).toInt ≠ 1)))) ∧ P' = Po) := by
  refine EvP.of qm_145 (Nat.le_of_ble_eq_true rfl) rfl ?_
  show MEvP _ none q_145 0 [(0, .ref 301), (1, .int t1)] [] _ 0 0 _
  have g1 := ti_full (fv Po 302 (5 + 19 * t1.toInt.toNat))
  refine mp_a (a_aload_n dX7_isFolded_0 rfl) (mpp 1 rfl ?_)
  refine mp_a (a_iload_n dX7_isFolded_1 rfl) (mpp 2 rfl ?_)
  refine mp_a (a_iconst (v := 2) dX7_isFolded_2 rfl) (mpp 3 rfl ?_)
  have p2 : 0 ≤ t1.toInt := by omega
  have p3 : t1.toInt ≤ 7 := by omega
  have p4 : 0 ≤ (2 : Int) := by omega
  have p5 : (2 : Int) ≤ 18 := by omega
  refine mt_callv (i := 78) (q' := q_137) (As := [.int t1, .int 2]) (rest := []) hT dX7_isFolded_3 rfl qm_137 (by decide) rfl rl_301 (by decide) rfl (Nat.le_of_ble_eq_true rfl) rfl ⟨rfl, rfl⟩ ⟨Nat.le_of_ble_eq_true rfl, Nat.le_of_ble_eq_true rfl⟩ (EvP.mono (by decide) (c_M_of_c2 hT p2 p3 p4 p5 )) (fun r6 P7 g8 => mpp 6 rfl ?_)
  obtain ⟨⟨x9, rfl, g10⟩, e11⟩ := g8
  have e11 := e11.symm
  subst e11
  have wx9 := ti_full x9
  have g10 : x9.toInt = (fv Po 302 (5 + 19 * t1.toInt.toNat)).toInt := g10
  show MEvP _ none q_145 6 [(0, .ref 301), (1, .int t1)] [.int x9] _ _ _ _
  refine mp_a (a_iconst (v := 1) dX7_isFolded_6 rfl) (mpp 7 rfl ?_)
  refine mp_Tb (t := 14) (j_icmp_ne dX7_isFolded_7) (by decide) (fun c12 => ?_) (fun c12 => mpp 10 rfl ?_)
  · have c12 : x9.toInt ≠ 1 := ti_ne c12
    refine mp_a (a_iconst (v := 0) dX7_isFolded_14 rfl) (mpp 15 rfl ?_)
    have u13 : 0 ≤ (0 : Int) ∧ (0 : Int) ≤ 1 ∧ (((0 : Int) = 1 ∧ (fv Po 302 (5 + 19 * t1.toInt.toNat)).toInt = 1) ∨ ((0 : Int) = 0 ∧ (fv Po 302 (5 + 19 * t1.toInt.toNat)).toInt ≠ 1)) := by omega
    exact mp_iret ⟨⟨_, rfl, u13⟩, rfl⟩ dX7_isFolded_15 (Or.inr ⟨rfl, by decide⟩)
  · have c12 : x9.toInt = 1 := ti_ne_n c12
    refine mp_a (a_iconst (v := 1) dX7_isFolded_10 rfl) (mpp 11 rfl ?_)
    refine mp_a (a_goto (t := 15) dX7_isFolded_11 (by decide)) ?_
    have u14 : 0 ≤ (1 : Int) ∧ (1 : Int) ≤ 1 ∧ (((1 : Int) = 1 ∧ (fv Po 302 (5 + 19 * t1.toInt.toNat)).toInt = 1) ∨ ((1 : Int) = 0 ∧ (fv Po 302 (5 + 19 * t1.toInt.toNat)).toInt ≠ 1)) := by omega
    exact mp_iret ⟨⟨_, rfl, u14⟩, rfl⟩ dX7_isFolded_15 (Or.inr ⟨rfl, by decide⟩)

set_option maxHeartbeats 4000000 in
theorem c_M_of_c1 {Po : mP} {t1 : Int32} (hT : Typ Po)  (hp0 : 0 ≤ t1.toInt) (hp1 : t1.toInt ≤ 7) (hp2 : 0 ≤ (1 : Int)) (hp3 : (1 : Int) ≤ 18)  : EvP 2 137 [.ref 301, .int t1, .int 1] Po (fun r P' => (∃ x : Int32, r = some (.int x) ∧ (x.toInt = (fv Po 302 (4 + 19 * t1.toInt.toNat)).toInt ∧ 0 ≤ x.toInt ∧ x.toInt ≤ 8)) ∧ P' = Po) := by
  refine EvP.of qm_137 (Nat.le_of_ble_eq_true rfl) rfl ?_
  show MEvP _ none q_137 0 [(0, .ref 301), (1, .int t1), (2, .int 1)] [] _ 0 0 _
  have g1 := ti_full (fv Po 302 (4 + 19 * t1.toInt.toNat))
  refine mp_a (a_aload_n dX7_of_0 rfl) (mpp 1 rfl ?_)
  refine mt_getU (i := 9) (k := 0) (A := 302) hT dX7_of_1 rfl rl_301 (by decide) rfl (by decide) rfl un_18 (mpp 4 rfl ?_)
  refine mp_a (a_iload_n dX7_of_4 rfl) (mpp 5 rfl ?_)
  refine mp_a (a_iload_n dX7_of_5 rfl) (mpp 6 rfl ?_)
  have p2 : 0 ≤ t1.toInt := by omega
  have p3 : t1.toInt ≤ 8 := by omega
  have p4 : 0 ≤ (1 : Int) := by omega
  have p5 : (1 : Int) ≤ 20 := by omega
  refine mp_calls (i := 74) (q' := q_135) (As := [.int t1, .int 1]) (rest := [.ref 302]) dX7_of_6 rfl qm_135 (by decide) rfl (Nat.le_of_ble_eq_true rfl) rfl ⟨rfl, rfl⟩ ⟨Nat.le_of_ble_eq_true rfl, Nat.le_of_ble_eq_true rfl⟩ (EvP.mono (by decide) (c_M_at hT p2 p3 p4 p5 )) (fun r6 P7 g8 => mpp 9 rfl ?_)
  obtain ⟨⟨x9, rfl, g10⟩, e11⟩ := g8
  have e11 := e11.symm
  subst e11
  have wx9 := ti_full x9
  have g10 : x9.toInt = 3 + 19 * t1.toInt + (1 : Int) := g10
  show MEvP _ none q_137 9 [(0, .ref 301), (1, .int t1), (2, .int 1)] [.int x9, .ref 302] _ _ _ _
  refine mt_ialX (n := 155) hT dX7_of_9 rl_302 (by decide) rfl rfl (by omega) (by omega) ssp_0 (fun g12 => mpp 10 rfl ?_)
  have we14 := ti_full (fv Po 302 x9.toInt.toNat)
  have q15 := okS_get1 g12 (by omega) (by omega)
  have e16 : (fv Po 302 x9.toInt.toNat).toInt = (fv Po 302 (4 + 19 * t1.toInt.toNat)).toInt := congrArg (fun k => (fv Po 302 k).toInt) (show x9.toInt.toNat = (4 + 19 * t1.toInt.toNat) by omega)
  have u17 : (fv Po 302 x9.toInt.toNat).toInt = (fv Po 302 (4 + 19 * t1.toInt.toNat)).toInt ∧ 0 ≤ (fv Po 302 x9.toInt.toNat).toInt ∧ (fv Po 302 x9.toInt.toNat).toInt ≤ 8 := by omega
  exact mp_iret ⟨⟨_, rfl, u17⟩, rfl⟩ dX7_of_10 (Or.inl rfl)

set_option maxHeartbeats 4000000 in
theorem c_M_of_c0 {Po : mP} {t1 : Int32} (hT : Typ Po)  (hp0 : 0 ≤ t1.toInt) (hp1 : t1.toInt ≤ 7) (hp2 : 0 ≤ (0 : Int)) (hp3 : (0 : Int) ≤ 18)  : EvP 2 137 [.ref 301, .int t1, .int 0] Po (fun r P' => (∃ x : Int32, r = some (.int x) ∧ (x.toInt = (fv Po 302 (3 + 19 * t1.toInt.toNat)).toInt ∧ 0 ≤ x.toInt ∧ x.toInt ≤ 1)) ∧ P' = Po) := by
  refine EvP.of qm_137 (Nat.le_of_ble_eq_true rfl) rfl ?_
  show MEvP _ none q_137 0 [(0, .ref 301), (1, .int t1), (2, .int 0)] [] _ 0 0 _
  have g1 := ti_full (fv Po 302 (3 + 19 * t1.toInt.toNat))
  refine mp_a (a_aload_n dX7_of_0 rfl) (mpp 1 rfl ?_)
  refine mt_getU (i := 9) (k := 0) (A := 302) hT dX7_of_1 rfl rl_301 (by decide) rfl (by decide) rfl un_18 (mpp 4 rfl ?_)
  refine mp_a (a_iload_n dX7_of_4 rfl) (mpp 5 rfl ?_)
  refine mp_a (a_iload_n dX7_of_5 rfl) (mpp 6 rfl ?_)
  have p2 : 0 ≤ t1.toInt := by omega
  have p3 : t1.toInt ≤ 8 := by omega
  have p4 : 0 ≤ (0 : Int) := by omega
  have p5 : (0 : Int) ≤ 20 := by omega
  refine mp_calls (i := 74) (q' := q_135) (As := [.int t1, .int 0]) (rest := [.ref 302]) dX7_of_6 rfl qm_135 (by decide) rfl (Nat.le_of_ble_eq_true rfl) rfl ⟨rfl, rfl⟩ ⟨Nat.le_of_ble_eq_true rfl, Nat.le_of_ble_eq_true rfl⟩ (EvP.mono (by decide) (c_M_at hT p2 p3 p4 p5 )) (fun r6 P7 g8 => mpp 9 rfl ?_)
  obtain ⟨⟨x9, rfl, g10⟩, e11⟩ := g8
  have e11 := e11.symm
  subst e11
  have wx9 := ti_full x9
  have g10 : x9.toInt = 3 + 19 * t1.toInt + (0 : Int) := g10
  show MEvP _ none q_137 9 [(0, .ref 301), (1, .int t1), (2, .int 0)] [.int x9, .ref 302] _ _ _ _
  refine mt_ialX (n := 155) hT dX7_of_9 rl_302 (by decide) rfl rfl (by omega) (by omega) ssp_0 (fun g12 => mpp 10 rfl ?_)
  have we14 := ti_full (fv Po 302 x9.toInt.toNat)
  have q15 := okS_get0 g12 (by omega) (by omega)
  have e16 : (fv Po 302 x9.toInt.toNat).toInt = (fv Po 302 (3 + 19 * t1.toInt.toNat)).toInt := congrArg (fun k => (fv Po 302 k).toInt) (show x9.toInt.toNat = (3 + 19 * t1.toInt.toNat) by omega)
  have u17 : (fv Po 302 x9.toInt.toNat).toInt = (fv Po 302 (3 + 19 * t1.toInt.toNat)).toInt ∧ 0 ≤ (fv Po 302 x9.toInt.toNat).toInt ∧ (fv Po 302 x9.toInt.toNat).toInt ≤ 1 := by omega
  exact mp_iret ⟨⟨_, rfl, u17⟩, rfl⟩ dX7_of_10 (Or.inl rfl)

set_option maxHeartbeats 4000000 in
theorem c_M_isCorner {Po : mP} {t1 : Int32} (hT : Typ Po)  (hp0 : 0 ≤ t1.toInt) (hp1 : t1.toInt ≤ 7)  : EvP 3 138 [.ref 301, .int t1] Po (fun r P' => (∃ x : Int32, r = some (.int x) ∧ (0 ≤ x.toInt ∧ x.toInt ≤ 1 ∧ ((x.toInt = 1 ∧ (fv Po 302 (3 + 19 * t1.toInt.toNat)).toInt = 1) ∨ (x.toInt = 0 ∧ (fv Po 302 (3 + 19 * t1.toInt.toNat)).toInt = 0)))) ∧ P' = Po) := by
  refine EvP.of qm_138 (Nat.le_of_ble_eq_true rfl) rfl ?_
  show MEvP _ none q_138 0 [(0, .ref 301), (1, .int t1)] [] _ 0 0 _
  have g1 := ti_full (fv Po 302 (3 + 19 * t1.toInt.toNat))
  refine mp_a (a_aload_n dX7_isCorner_0 rfl) (mpp 1 rfl ?_)
  refine mp_a (a_iload_n dX7_isCorner_1 rfl) (mpp 2 rfl ?_)
  refine mp_a (a_iconst (v := 0) dX7_isCorner_2 rfl) (mpp 3 rfl ?_)
  have p2 : 0 ≤ t1.toInt := by omega
  have p3 : t1.toInt ≤ 7 := by omega
  have p4 : 0 ≤ (0 : Int) := by omega
  have p5 : (0 : Int) ≤ 18 := by omega
  refine mt_callv (i := 78) (q' := q_137) (As := [.int t1, .int 0]) (rest := []) hT dX7_isCorner_3 rfl qm_137 (by decide) rfl rl_301 (by decide) rfl (Nat.le_of_ble_eq_true rfl) rfl ⟨rfl, rfl⟩ ⟨Nat.le_of_ble_eq_true rfl, Nat.le_of_ble_eq_true rfl⟩ (EvP.mono (by decide) (c_M_of_c0 hT p2 p3 p4 p5 )) (fun r6 P7 g8 => mpp 6 rfl ?_)
  obtain ⟨⟨x9, rfl, g10⟩, e11⟩ := g8
  have e11 := e11.symm
  subst e11
  have wx9 := ti_full x9
  have g10 : x9.toInt = (fv Po 302 (3 + 19 * t1.toInt.toNat)).toInt ∧ 0 ≤ x9.toInt ∧ x9.toInt ≤ 1 := g10
  show MEvP _ none q_138 6 [(0, .ref 301), (1, .int t1)] [.int x9] _ _ _ _
  refine mp_a (a_iconst (v := 1) dX7_isCorner_6 rfl) (mpp 7 rfl ?_)
  refine mp_Tb (t := 14) (j_icmp_ne dX7_isCorner_7) (by decide) (fun c12 => ?_) (fun c12 => mpp 10 rfl ?_)
  · have c12 : x9.toInt ≠ 1 := ti_ne c12
    refine mp_a (a_iconst (v := 0) dX7_isCorner_14 rfl) (mpp 15 rfl ?_)
    have u13 : 0 ≤ (0 : Int) ∧ (0 : Int) ≤ 1 ∧ (((0 : Int) = 1 ∧ (fv Po 302 (3 + 19 * t1.toInt.toNat)).toInt = 1) ∨ ((0 : Int) = 0 ∧ (fv Po 302 (3 + 19 * t1.toInt.toNat)).toInt = 0)) := by omega
    exact mp_iret ⟨⟨_, rfl, u13⟩, rfl⟩ dX7_isCorner_15 (Or.inr ⟨rfl, by decide⟩)
  · have c12 : x9.toInt = 1 := ti_ne_n c12
    refine mp_a (a_iconst (v := 1) dX7_isCorner_10 rfl) (mpp 11 rfl ?_)
    refine mp_a (a_goto (t := 15) dX7_isCorner_11 (by decide)) ?_
    have u14 : 0 ≤ (1 : Int) ∧ (1 : Int) ≤ 1 ∧ (((1 : Int) = 1 ∧ (fv Po 302 (3 + 19 * t1.toInt.toNat)).toInt = 1) ∨ ((1 : Int) = 0 ∧ (fv Po 302 (3 + 19 * t1.toInt.toNat)).toInt = 0)) := by omega
    exact mp_iret ⟨⟨_, rfl, u14⟩, rfl⟩ dX7_isCorner_15 (Or.inr ⟨rfl, by decide⟩)

set_option maxHeartbeats 4000000 in
theorem c_M_of {Po : mP} {t1 : Int32} {t2 : Int32} (hT : Typ Po)  (hp0 : 0 ≤ t1.toInt) (hp1 : t1.toInt ≤ 7) (hp2 : 0 ≤ t2.toInt) (hp3 : t2.toInt ≤ 18)  : EvP 2 137 [.ref 301, .int t1, .int t2] Po (fun r P' => (∃ x : Int32, r = some (.int x) ∧ (x.toInt = (fv Po 302 (3 + 19 * t1.toInt.toNat + t2.toInt.toNat)).toInt)) ∧ P' = Po) := by
  refine EvP.of qm_137 (Nat.le_of_ble_eq_true rfl) rfl ?_
  show MEvP _ none q_137 0 [(0, .ref 301), (1, .int t1), (2, .int t2)] [] _ 0 0 _
  refine mp_a (a_aload_n dX7_of_0 rfl) (mpp 1 rfl ?_)
  refine mt_getU (i := 9) (k := 0) (A := 302) hT dX7_of_1 rfl rl_301 (by decide) rfl (by decide) rfl un_18 (mpp 4 rfl ?_)
  refine mp_a (a_iload_n dX7_of_4 rfl) (mpp 5 rfl ?_)
  refine mp_a (a_iload_n dX7_of_5 rfl) (mpp 6 rfl ?_)
  have p1 : 0 ≤ t1.toInt := by omega
  have p2 : t1.toInt ≤ 8 := by omega
  have p3 : 0 ≤ t2.toInt := by omega
  have p4 : t2.toInt ≤ 20 := by omega
  refine mp_calls (i := 74) (q' := q_135) (As := [.int t1, .int t2]) (rest := [.ref 302]) dX7_of_6 rfl qm_135 (by decide) rfl (Nat.le_of_ble_eq_true rfl) rfl ⟨rfl, rfl⟩ ⟨Nat.le_of_ble_eq_true rfl, Nat.le_of_ble_eq_true rfl⟩ (EvP.mono (by decide) (c_M_at hT p1 p2 p3 p4 )) (fun r5 P6 g7 => mpp 9 rfl ?_)
  obtain ⟨⟨x8, rfl, g9⟩, e10⟩ := g7
  have e10 := e10.symm
  subst e10
  have wx8 := ti_full x8
  have g9 : x8.toInt = 3 + 19 * t1.toInt + t2.toInt := g9
  show MEvP _ none q_137 9 [(0, .ref 301), (1, .int t1), (2, .int t2)] [.int x8, .ref 302] _ _ _ _
  refine mt_ialX (n := 155) hT dX7_of_9 rl_302 (by decide) rfl rfl (by omega) (by omega) ssp_0 (fun g11 => mpp 10 rfl ?_)
  have we13 := ti_full (fv Po 302 x8.toInt.toNat)
  have e14 : (fv Po 302 x8.toInt.toNat).toInt = (fv Po 302 (3 + 19 * t1.toInt.toNat + t2.toInt.toNat)).toInt := congrArg (fun k => (fv Po 302 k).toInt) (show x8.toInt.toNat = (3 + 19 * t1.toInt.toNat + t2.toInt.toNat) by omega)
  have u15 : (fv Po 302 x8.toInt.toNat).toInt = (fv Po 302 (3 + 19 * t1.toInt.toNat + t2.toInt.toNat)).toInt := by omega
  exact mp_iret ⟨⟨_, rfl, u15⟩, rfl⟩ dX7_of_10 (Or.inl rfl)

set_option maxHeartbeats 4000000 in
theorem c_M_sizeOf {Po : mP} {t1 : Int32} {t2 : Int32} (hT : Typ Po)  (hp0 : 0 ≤ t1.toInt) (hp1 : t1.toInt ≤ 7) (hp2 : 0 ≤ t2.toInt) (hp3 : t2.toInt ≤ 7)  : EvP 3 152 [.ref 301, .int t1, .int t2] Po (fun r P' => (∃ x : Int32, r = some (.int x) ∧ (True)) ∧ P' = Po) := by
  refine EvP.of qm_152 (Nat.le_of_ble_eq_true rfl) rfl ?_
  show MEvP _ none q_152 0 [(0, .ref 301), (1, .int t1), (2, .int t2)] [] _ 0 0 _
  refine mp_a (a_aload_n dX7_sizeOf_0 rfl) (mpp 1 rfl ?_)
  refine mp_a (a_iload_n dX7_sizeOf_1 rfl) (mpp 2 rfl ?_)
  refine mp_a (a_iconst (v := 3) dX7_sizeOf_2 rfl) (mpp 3 rfl ?_)
  refine mp_a (a_iload_n dX7_sizeOf_3 rfl) (mpp 4 rfl ?_)
  obtain ⟨z1, h2⟩ := ti_ex (3 + t2 : Int32)
  have wz1 := ti_full z1
  refine mp_t (s_iadd (v := z1) dX7_sizeOf_4 h2) (mpp 5 rfl ?_)
  try have e3 : z1.toInt = 3 + t2.toInt := ti_addz h2 rfl rfl (by omega) (by omega)
  have p4 : 0 ≤ t1.toInt := by omega
  have p5 : t1.toInt ≤ 7 := by omega
  have p6 : 0 ≤ z1.toInt := by omega
  have p7 : z1.toInt ≤ 18 := by omega
  refine mt_callv (i := 78) (q' := q_137) (As := [.int t1, .int z1]) (rest := []) hT dX7_sizeOf_5 rfl qm_137 (by decide) rfl rl_301 (by decide) rfl (Nat.le_of_ble_eq_true rfl) rfl ⟨rfl, rfl⟩ ⟨Nat.le_of_ble_eq_true rfl, Nat.le_of_ble_eq_true rfl⟩ (EvP.mono (by decide) (c_M_of hT p4 p5 p6 p7 )) (fun r8 P9 g10 => mpp 8 rfl ?_)
  obtain ⟨⟨x11, rfl, g12⟩, e13⟩ := g10
  have e13 := e13.symm
  subst e13
  have wx11 := ti_full x11
  have g12 : x11.toInt = (fv Po 302 (3 + 19 * t1.toInt.toNat + z1.toInt.toNat)).toInt := g12
  show MEvP _ none q_152 8 [(0, .ref 301), (1, .int t1), (2, .int t2)] [.int x11] _ _ _ _
  exact mp_iret ⟨⟨_, rfl, trivial⟩, rfl⟩ dX7_sizeOf_8 (Or.inl rfl)

set_option maxHeartbeats 4000000 in
theorem c_M_placeOf_l5 {Po : mP} {t1 : Int32} {t2 : Int32} (hT : Typ Po)  (hp0 : 0 ≤ t1.toInt) (hp1 : t1.toInt ≤ 7) (hp2 : t2.toInt ≤ 8)  : ∀ (n : Nat) (v3 : Int32) (v4 : Int32), (0 ≤ v4.toInt) → (2147483647 - v4.toInt).toNat = n → MEvP 3 none q_186 5 [(0, .ref 301), (1, .int t1), (2, .int t2), (3, .int v3), (4, .int v4)] [] Po 0 0 (fun r P' => (∃ x : Int32, r = some (.int x) ∧ (True)) ∧ P' = Po) := by
  intro n
  induction n using Nat.strongRecOn with | _ n ih => ?_
  intro v3 v4 i_0 hm
  have w_t1 := ti_full t1
  have w_t2 := ti_full t2
  have w_v3 := ti_full v3
  have w_v4 := ti_full v4
  refine mp_a (a_iload dX7_placeOf_5 rfl) (mpp 7 rfl ?_)
  refine mp_a (a_iload_n dX7_placeOf_7 rfl) (mpp 8 rfl ?_)
  refine mp_Tb (t := 45) (j_icmp_ge dX7_placeOf_8) (by decide) (fun c1 => ?_) (fun c1 => mpp 11 rfl ?_)
  · have c1 : v4.toInt ≥ t2.toInt := ti_ge c1
    refine mp_a (a_iload_n dX7_placeOf_45 rfl) (mpp 46 rfl ?_)
    exact mp_iret ⟨⟨_, rfl, trivial⟩, rfl⟩ dX7_placeOf_46 (Or.inl rfl)
  · have c1 : v4.toInt < t2.toInt := ti_ge_n c1
    refine mp_a (a_iload_n dX7_placeOf_11 rfl) (mpp 12 rfl ?_)
    refine mp_a (a_iload dX7_placeOf_12 rfl) (mpp 14 rfl ?_)
    refine mp_a (a_iconst (v := 2) dX7_placeOf_14 rfl) (mpp 15 rfl ?_)
    obtain ⟨z2, h3⟩ := ti_ex (v4 - v4 / 2 * 2 : Int32)
    have wz2 := ti_full z2
    try have e4 : 0 ≤ z2.toInt ∧ z2.toInt < 2 := ti_rem h3 (show (0 : Int) ≤ v4.toInt by omega) (show (0 : Int) < 2 by omega)
    refine mp_t (s_irem (v := z2) dX7_placeOf_15 (by decide) h3) (mpp 16 rfl ?_)
    refine mp_Tb (t := 29) (j_if_ne dX7_placeOf_16) (by decide) (fun c5 => ?_) (fun c5 => mpp 19 rfl ?_)
    · have c5 : z2.toInt ≠ 0 := ti_ne c5
      refine mp_a (a_aload_n dX7_placeOf_29 rfl) (mpp 30 rfl ?_)
      refine mp_a (a_iload_n dX7_placeOf_30 rfl) (mpp 31 rfl ?_)
      refine mp_a (a_iload dX7_placeOf_31 rfl) (mpp 33 rfl ?_)
      have p6 : 0 ≤ t1.toInt := by omega
      have p7 : t1.toInt ≤ 7 := by omega
      have p8 : 0 ≤ v4.toInt := by omega
      have p9 : v4.toInt ≤ 7 := by omega
      refine mt_callv (i := 142) (q' := q_152) (As := [.int t1, .int v4]) (rest := [.int v3]) hT dX7_placeOf_33 rfl qm_152 (by decide) rfl rl_301 (by decide) rfl (Nat.le_of_ble_eq_true rfl) rfl ⟨rfl, rfl⟩ ⟨Nat.le_of_ble_eq_true rfl, Nat.le_of_ble_eq_true rfl⟩ (EvP.mono (by decide) (c_M_sizeOf hT p6 p7 p8 p9 )) (fun r10 P11 g12 => mpp 36 rfl ?_)
      obtain ⟨⟨x13, rfl, g14⟩, e15⟩ := g12
      have e15 := e15.symm
      subst e15
      have wx13 := ti_full x13
      show MEvP _ none q_186 36 [(0, .ref 301), (1, .int t1), (2, .int t2), (3, .int v3), (4, .int v4)] [.int x13, .int v3] _ _ _ _
      obtain ⟨z16, h17⟩ := ti_ex (-x13 : Int32)
      have wz16 := ti_full z16
      refine mp_t (s_ineg (v := z16) dX7_placeOf_36 h17) (mpp 37 rfl ?_)
      obtain ⟨z18, h19⟩ := ti_ex (v3 + z16 : Int32)
      have wz18 := ti_full z18
      refine mp_t (s_iadd (v := z18) dX7_placeOf_37 h19) (mpp 38 rfl ?_)
      try have e20 : z18.toInt = v3.toInt + z16.toInt := ti_addz h19 rfl rfl (by omega) (by omega)
      refine mp_a (a_istore_n (L' := [(3, .int z18), (0, .ref 301), (1, .int t1), (2, .int t2), (4, .int v4)]) dX7_placeOf_38 (by decide) rfl) (mpp 39 rfl ?_)
      obtain ⟨z21, h22⟩ := ti_ex (v4 + 1 : Int32)
      have wz21 := ti_full z21
      refine mp_a (a_iinc (v := z21) (L' := [(4, .int z21), (3, .int z18), (0, .ref 301), (1, .int t1), (2, .int t2)]) dX7_placeOf_39 (by decide) rfl h22 rfl) (mpp 42 rfl ?_)
      try have e23 : z21.toInt = v4.toInt + 1 := ti_addz h22 rfl rfl (by omega) (by omega)
      refine mp_a (a_goto (t := 5) dX7_placeOf_42 (by decide)) ?_
      refine MEvP.less (L := [(0, .ref 301), (1, .int t1), (2, .int t2), (3, .int z18), (4, .int z21)]) rfl rfl ⟨rfl, rfl, rfl, rfl, rfl, trivial⟩ ?_
      have i24 : 0 ≤ z21.toInt := by omega
      exact ih _ (by omega) _ _ i24 rfl
    · have c5 : z2.toInt = 0 := ti_ne_n c5
      refine mp_a (a_aload_n dX7_placeOf_19 rfl) (mpp 20 rfl ?_)
      refine mp_a (a_iload_n dX7_placeOf_20 rfl) (mpp 21 rfl ?_)
      refine mp_a (a_iload dX7_placeOf_21 rfl) (mpp 23 rfl ?_)
      have p25 : 0 ≤ t1.toInt := by omega
      have p26 : t1.toInt ≤ 7 := by omega
      have p27 : 0 ≤ v4.toInt := by omega
      have p28 : v4.toInt ≤ 7 := by omega
      refine mt_callv (i := 142) (q' := q_152) (As := [.int t1, .int v4]) (rest := [.int v3]) hT dX7_placeOf_23 rfl qm_152 (by decide) rfl rl_301 (by decide) rfl (Nat.le_of_ble_eq_true rfl) rfl ⟨rfl, rfl⟩ ⟨Nat.le_of_ble_eq_true rfl, Nat.le_of_ble_eq_true rfl⟩ (EvP.mono (by decide) (c_M_sizeOf hT p25 p26 p27 p28 )) (fun r29 P30 g31 => mpp 26 rfl ?_)
      obtain ⟨⟨x32, rfl, g33⟩, e34⟩ := g31
      have e34 := e34.symm
      subst e34
      have wx32 := ti_full x32
      show MEvP _ none q_186 26 [(0, .ref 301), (1, .int t1), (2, .int t2), (3, .int v3), (4, .int v4)] [.int x32, .int v3] _ _ _ _
      refine mp_a (a_goto (t := 37) dX7_placeOf_26 (by decide)) ?_
      obtain ⟨z35, h36⟩ := ti_ex (v3 + x32 : Int32)
      have wz35 := ti_full z35
      refine mp_t (s_iadd (v := z35) dX7_placeOf_37 h36) (mpp 38 rfl ?_)
      try have e37 : z35.toInt = v3.toInt + x32.toInt := ti_addz h36 rfl rfl (by omega) (by omega)
      refine mp_a (a_istore_n (L' := [(3, .int z35), (0, .ref 301), (1, .int t1), (2, .int t2), (4, .int v4)]) dX7_placeOf_38 (by decide) rfl) (mpp 39 rfl ?_)
      obtain ⟨z38, h39⟩ := ti_ex (v4 + 1 : Int32)
      have wz38 := ti_full z38
      refine mp_a (a_iinc (v := z38) (L' := [(4, .int z38), (3, .int z35), (0, .ref 301), (1, .int t1), (2, .int t2)]) dX7_placeOf_39 (by decide) rfl h39 rfl) (mpp 42 rfl ?_)
      try have e40 : z38.toInt = v4.toInt + 1 := ti_addz h39 rfl rfl (by omega) (by omega)
      refine mp_a (a_goto (t := 5) dX7_placeOf_42 (by decide)) ?_
      refine MEvP.less (L := [(0, .ref 301), (1, .int t1), (2, .int t2), (3, .int z35), (4, .int z38)]) rfl rfl ⟨rfl, rfl, rfl, rfl, rfl, trivial⟩ ?_
      have i41 : 0 ≤ z38.toInt := by omega
      exact ih _ (by omega) _ _ i41 rfl

set_option maxHeartbeats 4000000 in
theorem c_M_placeOf {Po : mP} {t1 : Int32} {t2 : Int32} (hT : Typ Po)  (hp0 : 0 ≤ t1.toInt) (hp1 : t1.toInt ≤ 7) (hp2 : t2.toInt ≤ 8)  : EvP 4 186 [.ref 301, .int t1, .int t2] Po (fun r P' => (∃ x : Int32, r = some (.int x) ∧ (True)) ∧ P' = Po) := by
  refine EvP.of qm_186 (Nat.le_of_ble_eq_true rfl) rfl ?_
  show MEvP _ none q_186 0 [(0, .ref 301), (1, .int t1), (2, .int t2)] [] _ 0 0 _
  refine mp_a (a_iconst (v := 0) dX7_placeOf_0 rfl) (mpp 1 rfl ?_)
  refine mp_a (a_istore_n (L' := [(3, .int 0), (0, .ref 301), (1, .int t1), (2, .int t2)]) dX7_placeOf_1 (by decide) rfl) (mpp 2 rfl ?_)
  refine mp_a (a_iconst (v := 0) dX7_placeOf_2 rfl) (mpp 3 rfl ?_)
  refine mp_a (a_istore (L' := [(4, .int 0), (3, .int 0), (0, .ref 301), (1, .int t1), (2, .int t2)]) dX7_placeOf_3 (by decide) rfl) (mpp 5 rfl ?_)
  refine MEvP.less (L := [(0, .ref 301), (1, .int t1), (2, .int t2), (3, .int 0), (4, .int 0)]) rfl rfl ⟨rfl, rfl, rfl, rfl, rfl, trivial⟩ ?_
  have i1 : 0 ≤ (0 : Int) := by omega
  exact c_M_placeOf_l5 hT  hp0 hp1 hp2 _ _ _ i1 rfl

set_option maxHeartbeats 4000000 in
theorem c_M_lesser {Po : mP} {t0 : Int32} {t1 : Int32} (hT : Typ Po)   : EvP 1 158 [.int t0, .int t1] Po (fun r P' => (∃ x : Int32, r = some (.int x) ∧ ((x.toInt = t0.toInt ∧ t0.toInt ≤ t1.toInt) ∨ (x.toInt = t1.toInt ∧ t1.toInt ≤ t0.toInt))) ∧ P' = Po) := by
  refine EvP.of qm_158 (Nat.le_of_ble_eq_true rfl) rfl ?_
  show MEvP _ none q_158 0 [(0, .int t0), (1, .int t1)] [] _ 0 0 _
  refine mp_a (a_iload_n dX7_lesser_0 rfl) (mpp 1 rfl ?_)
  refine mp_a (a_iload_n dX7_lesser_1 rfl) (mpp 2 rfl ?_)
  refine mp_Tb (t := 9) (j_icmp_ge dX7_lesser_2) (by decide) (fun c1 => ?_) (fun c1 => mpp 5 rfl ?_)
  · have c1 : t0.toInt ≥ t1.toInt := ti_ge c1
    refine mp_a (a_iload_n dX7_lesser_9 rfl) (mpp 10 rfl ?_)
    have u2 : (t1.toInt = t0.toInt ∧ t0.toInt ≤ t1.toInt) ∨ (t1.toInt = t1.toInt ∧ t1.toInt ≤ t0.toInt) := by omega
    exact mp_iret ⟨⟨_, rfl, u2⟩, rfl⟩ dX7_lesser_10 (Or.inl rfl)
  · have c1 : t0.toInt < t1.toInt := ti_ge_n c1
    refine mp_a (a_iload_n dX7_lesser_5 rfl) (mpp 6 rfl ?_)
    refine mp_a (a_goto (t := 10) dX7_lesser_6 (by decide)) ?_
    have u3 : (t0.toInt = t0.toInt ∧ t0.toInt ≤ t1.toInt) ∨ (t0.toInt = t1.toInt ∧ t1.toInt ≤ t0.toInt) := by omega
    exact mp_iret ⟨⟨_, rfl, u3⟩, rfl⟩ dX7_lesser_10 (Or.inl rfl)

set_option maxHeartbeats 4000000 in
theorem c_M_greater {Po : mP} {t0 : Int32} {t1 : Int32} (hT : Typ Po)   : EvP 1 173 [.int t0, .int t1] Po (fun r P' => (∃ x : Int32, r = some (.int x) ∧ ((x.toInt = t0.toInt ∧ t1.toInt ≤ t0.toInt) ∨ (x.toInt = t1.toInt ∧ t0.toInt ≤ t1.toInt))) ∧ P' = Po) := by
  refine EvP.of qm_173 (Nat.le_of_ble_eq_true rfl) rfl ?_
  show MEvP _ none q_173 0 [(0, .int t0), (1, .int t1)] [] _ 0 0 _
  refine mp_a (a_iload_n dX7_greater_0 rfl) (mpp 1 rfl ?_)
  refine mp_a (a_iload_n dX7_greater_1 rfl) (mpp 2 rfl ?_)
  refine mp_Tb (t := 9) (j_icmp_le dX7_greater_2) (by decide) (fun c1 => ?_) (fun c1 => mpp 5 rfl ?_)
  · have c1 : t0.toInt ≤ t1.toInt := ti_le c1
    refine mp_a (a_iload_n dX7_greater_9 rfl) (mpp 10 rfl ?_)
    have u2 : (t1.toInt = t0.toInt ∧ t1.toInt ≤ t0.toInt) ∨ (t1.toInt = t1.toInt ∧ t0.toInt ≤ t1.toInt) := by omega
    exact mp_iret ⟨⟨_, rfl, u2⟩, rfl⟩ dX7_greater_10 (Or.inl rfl)
  · have c1 : t0.toInt > t1.toInt := ti_le_n c1
    refine mp_a (a_iload_n dX7_greater_5 rfl) (mpp 6 rfl ?_)
    refine mp_a (a_goto (t := 10) dX7_greater_6 (by decide)) ?_
    have u3 : (t0.toInt = t0.toInt ∧ t1.toInt ≤ t0.toInt) ∨ (t0.toInt = t1.toInt ∧ t0.toInt ≤ t1.toInt) := by omega
    exact mp_iret ⟨⟨_, rfl, u3⟩, rfl⟩ dX7_greater_10 (Or.inl rfl)

set_option maxHeartbeats 4000000 in
theorem c_M_widthOf_l59 {Po : mP} {t1 : Int32} (hT : Typ Po)  (hp0 : 0 ≤ t1.toInt) (hp1 : t1.toInt ≤ 7)  : ∀ (n : Nat) (v2 : Int32) (v3 : Int32) (v4 : Int32), (0 ≤ v4.toInt) → (2147483647 - v4.toInt).toNat = n → MEvP 4 none q_185 59 [(0, .ref 301), (1, .int t1), (2, .int v2), (3, .int v3), (4, .int v4)] [] Po 0 0 (fun r P' => (∃ x : Int32, r = some (.int x) ∧ (True)) ∧ P' = Po) := by
  intro n
  induction n using Nat.strongRecOn with | _ n ih => ?_
  intro v2 v3 v4 i_0 hm
  have w_t1 := ti_full t1
  have w_v2 := ti_full v2
  have w_v3 := ti_full v3
  have w_v4 := ti_full v4
  refine mp_a (a_iload dX7_widthOf_59 rfl) (mpp 61 rfl ?_)
  refine mp_a (a_aload_n dX7_widthOf_61 rfl) (mpp 62 rfl ?_)
  refine mp_a (a_iload_n dX7_widthOf_62 rfl) (mpp 63 rfl ?_)
  refine mp_a (a_iconst (v := 1) dX7_widthOf_63 rfl) (mpp 64 rfl ?_)
  have p1 : 0 ≤ t1.toInt := by omega
  have p2 : t1.toInt ≤ 7 := by omega
  have p3 : 0 ≤ (1 : Int) := by omega
  have p4 : (1 : Int) ≤ 18 := by omega
  refine mt_callv (i := 78) (q' := q_137) (As := [.int t1, .int 1]) (rest := [.int v4]) hT dX7_widthOf_64 rfl qm_137 (by decide) rfl rl_301 (by decide) rfl (Nat.le_of_ble_eq_true rfl) rfl ⟨rfl, rfl⟩ ⟨Nat.le_of_ble_eq_true rfl, Nat.le_of_ble_eq_true rfl⟩ (EvP.mono (by decide) (c_M_of_c1 hT p1 p2 p3 p4 )) (fun r5 P6 g7 => mpp 67 rfl ?_)
  obtain ⟨⟨x8, rfl, g9⟩, e10⟩ := g7
  have e10 := e10.symm
  subst e10
  have wx8 := ti_full x8
  have g9 : x8.toInt = (fv Po 302 (4 + 19 * t1.toInt.toNat)).toInt ∧ 0 ≤ x8.toInt ∧ x8.toInt ≤ 8 := g9
  have g11 := ti_full (fv Po 302 (4 + 19 * t1.toInt.toNat))
  show MEvP _ none q_185 67 [(0, .ref 301), (1, .int t1), (2, .int v2), (3, .int v3), (4, .int v4)] [.int x8, .int v4] _ _ _ _
  refine mp_Tb (t := 96) (j_icmp_ge dX7_widthOf_67) (by decide) (fun c12 => ?_) (fun c12 => mpp 70 rfl ?_)
  · have c12 : v4.toInt ≥ x8.toInt := ti_ge c12
    refine mp_a (a_iload_n dX7_widthOf_96 rfl) (mpp 97 rfl ?_)
    refine mp_a (a_iload_n dX7_widthOf_97 rfl) (mpp 98 rfl ?_)
    obtain ⟨z13, h14⟩ := ti_ex (v3 - v2 : Int32)
    have wz13 := ti_full z13
    refine mp_t (s_isub (v := z13) dX7_widthOf_98 h14) (mpp 99 rfl ?_)
    try have e15 : z13.toInt = v3.toInt - v2.toInt := ti_subz h14 rfl rfl (by omega) (by omega)
    exact mp_iret ⟨⟨_, rfl, trivial⟩, rfl⟩ dX7_widthOf_99 (Or.inl rfl)
  · have c12 : v4.toInt < x8.toInt := ti_ge_n c12
    refine mp_a (a_aload_n dX7_widthOf_70 rfl) (mpp 71 rfl ?_)
    refine mp_a (a_iload_n dX7_widthOf_71 rfl) (mpp 72 rfl ?_)
    have p16 : 0 ≤ t1.toInt := by omega
    have p17 : t1.toInt ≤ 7 := by omega
    refine mt_callv (i := 81) (q' := q_138) (As := [.int t1]) (rest := []) hT dX7_widthOf_72 rfl qm_138 (by decide) rfl rl_301 (by decide) rfl (Nat.le_of_ble_eq_true rfl) rfl ⟨rfl, rfl⟩ ⟨Nat.le_of_ble_eq_true rfl, Nat.le_of_ble_eq_true rfl⟩ (EvP.mono (by decide) (c_M_isCorner hT p16 p17 )) (fun r18 P19 g20 => mpp 75 rfl ?_)
    obtain ⟨⟨x21, rfl, g22⟩, e23⟩ := g20
    have e23 := e23.symm
    subst e23
    have wx21 := ti_full x21
    have g22 : 0 ≤ x21.toInt ∧ x21.toInt ≤ 1 ∧ ((x21.toInt = 1 ∧ (fv Po 302 (3 + 19 * t1.toInt.toNat)).toInt = 1) ∨ (x21.toInt = 0 ∧ (fv Po 302 (3 + 19 * t1.toInt.toNat)).toInt = 0)) := g22
    have g24 := ti_full (fv Po 302 (3 + 19 * t1.toInt.toNat))
    show MEvP _ none q_185 75 [(0, .ref 301), (1, .int t1), (2, .int v2), (3, .int v3), (4, .int v4)] [.int x21] _ _ _ _
    refine mp_Tb (t := 96) (j_if_eq dX7_widthOf_75) (by decide) (fun c25 => ?_) (fun c25 => mpp 78 rfl ?_)
    · have c25 : x21.toInt = 0 := ti_eq c25
      refine mp_a (a_iload_n dX7_widthOf_96 rfl) (mpp 97 rfl ?_)
      refine mp_a (a_iload_n dX7_widthOf_97 rfl) (mpp 98 rfl ?_)
      obtain ⟨z26, h27⟩ := ti_ex (v3 - v2 : Int32)
      have wz26 := ti_full z26
      refine mp_t (s_isub (v := z26) dX7_widthOf_98 h27) (mpp 99 rfl ?_)
      try have e28 : z26.toInt = v3.toInt - v2.toInt := ti_subz h27 rfl rfl (by omega) (by omega)
      exact mp_iret ⟨⟨_, rfl, trivial⟩, rfl⟩ dX7_widthOf_99 (Or.inl rfl)
    · have c25 : x21.toInt ≠ 0 := ti_eq_n c25
      refine mp_a (a_iload_n dX7_widthOf_78 rfl) (mpp 79 rfl ?_)
      refine mp_a (a_aload_n dX7_widthOf_79 rfl) (mpp 80 rfl ?_)
      refine mp_a (a_iload_n dX7_widthOf_80 rfl) (mpp 81 rfl ?_)
      refine mp_a (a_iload dX7_widthOf_81 rfl) (mpp 83 rfl ?_)
      have p29 : 0 ≤ t1.toInt := by omega
      have p30 : t1.toInt ≤ 7 := by omega
      have p31 : 0 ≤ v4.toInt := by omega
      have p32 : v4.toInt ≤ 7 := by omega
      refine mt_callv (i := 142) (q' := q_152) (As := [.int t1, .int v4]) (rest := [.int v3]) hT dX7_widthOf_83 rfl qm_152 (by decide) rfl rl_301 (by decide) rfl (Nat.le_of_ble_eq_true rfl) rfl ⟨rfl, rfl⟩ ⟨Nat.le_of_ble_eq_true rfl, Nat.le_of_ble_eq_true rfl⟩ (EvP.mono (by decide) (c_M_sizeOf hT p29 p30 p31 p32 )) (fun r33 P34 g35 => mpp 86 rfl ?_)
      obtain ⟨⟨x36, rfl, g37⟩, e38⟩ := g35
      have e38 := e38.symm
      subst e38
      have wx36 := ti_full x36
      show MEvP _ none q_185 86 [(0, .ref 301), (1, .int t1), (2, .int v2), (3, .int v3), (4, .int v4)] [.int x36, .int v3] _ _ _ _
      refine mp_calls (i := 178) (q' := q_173) (As := [.int v3, .int x36]) (rest := []) dX7_widthOf_86 rfl qm_173 (by decide) rfl (Nat.le_of_ble_eq_true rfl) rfl ⟨rfl, rfl⟩ ⟨Nat.le_of_ble_eq_true rfl, Nat.le_of_ble_eq_true rfl⟩ (EvP.mono (by decide) (c_M_greater hT )) (fun r39 P40 g41 => mpp 89 rfl ?_)
      obtain ⟨⟨x42, rfl, g43⟩, e44⟩ := g41
      have e44 := e44.symm
      subst e44
      have wx42 := ti_full x42
      have g43 : (x42.toInt = v3.toInt ∧ x36.toInt ≤ v3.toInt) ∨ (x42.toInt = x36.toInt ∧ v3.toInt ≤ x36.toInt) := g43
      show MEvP _ none q_185 89 [(0, .ref 301), (1, .int t1), (2, .int v2), (3, .int v3), (4, .int v4)] [.int x42] _ _ _ _
      refine mp_a (a_istore_n (L' := [(3, .int x42), (0, .ref 301), (1, .int t1), (2, .int v2), (4, .int v4)]) dX7_widthOf_89 (by decide) rfl) (mpp 90 rfl ?_)
      obtain ⟨z45, h46⟩ := ti_ex (v4 + 1 : Int32)
      have wz45 := ti_full z45
      refine mp_a (a_iinc (v := z45) (L' := [(4, .int z45), (3, .int x42), (0, .ref 301), (1, .int t1), (2, .int v2)]) dX7_widthOf_90 (by decide) rfl h46 rfl) (mpp 93 rfl ?_)
      try have e47 : z45.toInt = v4.toInt + 1 := ti_addz h46 rfl rfl (by omega) (by omega)
      refine mp_a (a_goto (t := 59) dX7_widthOf_93 (by decide)) ?_
      refine MEvP.less (L := [(0, .ref 301), (1, .int t1), (2, .int v2), (3, .int x42), (4, .int z45)]) rfl rfl ⟨rfl, rfl, rfl, rfl, rfl, trivial⟩ ?_
      have i48 : 0 ≤ z45.toInt := by omega
      exact ih _ (by omega) _ _ _ i48 rfl

set_option maxHeartbeats 4000000 in
theorem c_M_widthOf_l7 {Po : mP} {t1 : Int32} (hT : Typ Po)  (hp0 : 0 ≤ t1.toInt) (hp1 : t1.toInt ≤ 7)  : ∀ (n : Nat) (v2 : Int32) (v3 : Int32) (v4 : Int32), (0 ≤ v4.toInt) → (2147483647 - v4.toInt).toNat = n → MEvP 4 none q_185 7 [(0, .ref 301), (1, .int t1), (2, .int v2), (3, .int v3), (4, .int v4)] [] Po 0 0 (fun r P' => (∃ x : Int32, r = some (.int x) ∧ (True)) ∧ P' = Po) := by
  intro n
  induction n using Nat.strongRecOn with | _ n ih => ?_
  intro v2 v3 v4 i_0 hm
  have w_t1 := ti_full t1
  have w_v2 := ti_full v2
  have w_v3 := ti_full v3
  have w_v4 := ti_full v4
  refine mp_a (a_iload dX7_widthOf_7 rfl) (mpp 9 rfl ?_)
  refine mp_a (a_aload_n dX7_widthOf_9 rfl) (mpp 10 rfl ?_)
  refine mp_a (a_iload_n dX7_widthOf_10 rfl) (mpp 11 rfl ?_)
  refine mp_a (a_iconst (v := 1) dX7_widthOf_11 rfl) (mpp 12 rfl ?_)
  have p1 : 0 ≤ t1.toInt := by omega
  have p2 : t1.toInt ≤ 7 := by omega
  have p3 : 0 ≤ (1 : Int) := by omega
  have p4 : (1 : Int) ≤ 18 := by omega
  refine mt_callv (i := 78) (q' := q_137) (As := [.int t1, .int 1]) (rest := [.int v4]) hT dX7_widthOf_12 rfl qm_137 (by decide) rfl rl_301 (by decide) rfl (Nat.le_of_ble_eq_true rfl) rfl ⟨rfl, rfl⟩ ⟨Nat.le_of_ble_eq_true rfl, Nat.le_of_ble_eq_true rfl⟩ (EvP.mono (by decide) (c_M_of_c1 hT p1 p2 p3 p4 )) (fun r5 P6 g7 => mpp 15 rfl ?_)
  obtain ⟨⟨x8, rfl, g9⟩, e10⟩ := g7
  have e10 := e10.symm
  subst e10
  have wx8 := ti_full x8
  have g9 : x8.toInt = (fv Po 302 (4 + 19 * t1.toInt.toNat)).toInt ∧ 0 ≤ x8.toInt ∧ x8.toInt ≤ 8 := g9
  have g11 := ti_full (fv Po 302 (4 + 19 * t1.toInt.toNat))
  show MEvP _ none q_185 15 [(0, .ref 301), (1, .int t1), (2, .int v2), (3, .int v3), (4, .int v4)] [.int x8, .int v4] _ _ _ _
  refine mp_Tb (t := 56) (j_icmp_gt dX7_widthOf_15) (by decide) (fun c12 => ?_) (fun c12 => mpp 18 rfl ?_)
  · have c12 : v4.toInt > x8.toInt := ti_gt c12
    refine mp_a (a_iconst (v := 0) dX7_widthOf_56 rfl) (mpp 57 rfl ?_)
    refine mp_a (a_istore (L' := [(4, .int 0), (0, .ref 301), (1, .int t1), (2, .int v2), (3, .int v3)]) dX7_widthOf_57 (by decide) rfl) (mpp 59 rfl ?_)
    refine MEvP.less (L := [(0, .ref 301), (1, .int t1), (2, .int v2), (3, .int v3), (4, .int 0)]) rfl rfl ⟨rfl, rfl, rfl, rfl, rfl, trivial⟩ ?_
    have i13 : 0 ≤ (0 : Int) := by omega
    exact c_M_widthOf_l59 hT  hp0 hp1 _ _ _ _ i13 rfl
  · have c12 : v4.toInt ≤ x8.toInt := ti_gt_n c12
    refine mp_a (a_aload_n dX7_widthOf_18 rfl) (mpp 19 rfl ?_)
    refine mp_a (a_iload_n dX7_widthOf_19 rfl) (mpp 20 rfl ?_)
    have p14 : 0 ≤ t1.toInt := by omega
    have p15 : t1.toInt ≤ 7 := by omega
    refine mt_callv (i := 81) (q' := q_138) (As := [.int t1]) (rest := []) hT dX7_widthOf_20 rfl qm_138 (by decide) rfl rl_301 (by decide) rfl (Nat.le_of_ble_eq_true rfl) rfl ⟨rfl, rfl⟩ ⟨Nat.le_of_ble_eq_true rfl, Nat.le_of_ble_eq_true rfl⟩ (EvP.mono (by decide) (c_M_isCorner hT p14 p15 )) (fun r16 P17 g18 => mpp 23 rfl ?_)
    obtain ⟨⟨x19, rfl, g20⟩, e21⟩ := g18
    have e21 := e21.symm
    subst e21
    have wx19 := ti_full x19
    have g20 : 0 ≤ x19.toInt ∧ x19.toInt ≤ 1 ∧ ((x19.toInt = 1 ∧ (fv Po 302 (3 + 19 * t1.toInt.toNat)).toInt = 1) ∨ (x19.toInt = 0 ∧ (fv Po 302 (3 + 19 * t1.toInt.toNat)).toInt = 0)) := g20
    have g22 := ti_full (fv Po 302 (3 + 19 * t1.toInt.toNat))
    show MEvP _ none q_185 23 [(0, .ref 301), (1, .int t1), (2, .int v2), (3, .int v3), (4, .int v4)] [.int x19] _ _ _ _
    refine mp_Tb (t := 56) (j_if_ne dX7_widthOf_23) (by decide) (fun c23 => ?_) (fun c23 => mpp 26 rfl ?_)
    · have c23 : x19.toInt ≠ 0 := ti_ne c23
      refine mp_a (a_iconst (v := 0) dX7_widthOf_56 rfl) (mpp 57 rfl ?_)
      refine mp_a (a_istore (L' := [(4, .int 0), (0, .ref 301), (1, .int t1), (2, .int v2), (3, .int v3)]) dX7_widthOf_57 (by decide) rfl) (mpp 59 rfl ?_)
      refine MEvP.less (L := [(0, .ref 301), (1, .int t1), (2, .int v2), (3, .int v3), (4, .int 0)]) rfl rfl ⟨rfl, rfl, rfl, rfl, rfl, trivial⟩ ?_
      have i24 : 0 ≤ (0 : Int) := by omega
      exact c_M_widthOf_l59 hT  hp0 hp1 _ _ _ _ i24 rfl
    · have c23 : x19.toInt = 0 := ti_ne_n c23
      refine mp_a (a_iload_n dX7_widthOf_26 rfl) (mpp 27 rfl ?_)
      refine mp_a (a_aload_n dX7_widthOf_27 rfl) (mpp 28 rfl ?_)
      refine mp_a (a_iload_n dX7_widthOf_28 rfl) (mpp 29 rfl ?_)
      refine mp_a (a_iload dX7_widthOf_29 rfl) (mpp 31 rfl ?_)
      have p25 : 0 ≤ t1.toInt := by omega
      have p26 : t1.toInt ≤ 7 := by omega
      have p27 : v4.toInt ≤ 8 := by omega
      refine mt_callv (i := 225) (q' := q_186) (As := [.int t1, .int v4]) (rest := [.int v2]) hT dX7_widthOf_31 rfl qm_186 (by decide) rfl rl_301 (by decide) rfl (Nat.le_of_ble_eq_true rfl) rfl ⟨rfl, rfl⟩ ⟨Nat.le_of_ble_eq_true rfl, Nat.le_of_ble_eq_true rfl⟩ (EvP.mono (by decide) (c_M_placeOf hT p25 p26 p27 )) (fun r28 P29 g30 => mpp 34 rfl ?_)
      obtain ⟨⟨x31, rfl, g32⟩, e33⟩ := g30
      have e33 := e33.symm
      subst e33
      have wx31 := ti_full x31
      show MEvP _ none q_185 34 [(0, .ref 301), (1, .int t1), (2, .int v2), (3, .int v3), (4, .int v4)] [.int x31, .int v2] _ _ _ _
      refine mp_calls (i := 155) (q' := q_158) (As := [.int v2, .int x31]) (rest := []) dX7_widthOf_34 rfl qm_158 (by decide) rfl (Nat.le_of_ble_eq_true rfl) rfl ⟨rfl, rfl⟩ ⟨Nat.le_of_ble_eq_true rfl, Nat.le_of_ble_eq_true rfl⟩ (EvP.mono (by decide) (c_M_lesser hT )) (fun r34 P35 g36 => mpp 37 rfl ?_)
      obtain ⟨⟨x37, rfl, g38⟩, e39⟩ := g36
      have e39 := e39.symm
      subst e39
      have wx37 := ti_full x37
      have g38 : (x37.toInt = v2.toInt ∧ v2.toInt ≤ x31.toInt) ∨ (x37.toInt = x31.toInt ∧ x31.toInt ≤ v2.toInt) := g38
      show MEvP _ none q_185 37 [(0, .ref 301), (1, .int t1), (2, .int v2), (3, .int v3), (4, .int v4)] [.int x37] _ _ _ _
      refine mp_a (a_istore_n (L' := [(2, .int x37), (0, .ref 301), (1, .int t1), (3, .int v3), (4, .int v4)]) dX7_widthOf_37 (by decide) rfl) (mpp 38 rfl ?_)
      refine mp_a (a_iload_n dX7_widthOf_38 rfl) (mpp 39 rfl ?_)
      refine mp_a (a_aload_n dX7_widthOf_39 rfl) (mpp 40 rfl ?_)
      refine mp_a (a_iload_n dX7_widthOf_40 rfl) (mpp 41 rfl ?_)
      refine mp_a (a_iload dX7_widthOf_41 rfl) (mpp 43 rfl ?_)
      have p40 : 0 ≤ t1.toInt := by omega
      have p41 : t1.toInt ≤ 7 := by omega
      have p42 : v4.toInt ≤ 8 := by omega
      refine mt_callv (i := 225) (q' := q_186) (As := [.int t1, .int v4]) (rest := [.int v3]) hT dX7_widthOf_43 rfl qm_186 (by decide) rfl rl_301 (by decide) rfl (Nat.le_of_ble_eq_true rfl) rfl ⟨rfl, rfl⟩ ⟨Nat.le_of_ble_eq_true rfl, Nat.le_of_ble_eq_true rfl⟩ (EvP.mono (by decide) (c_M_placeOf hT p40 p41 p42 )) (fun r43 P44 g45 => mpp 46 rfl ?_)
      obtain ⟨⟨x46, rfl, g47⟩, e48⟩ := g45
      have e48 := e48.symm
      subst e48
      have wx46 := ti_full x46
      show MEvP _ none q_185 46 [(2, .int x37), (0, .ref 301), (1, .int t1), (3, .int v3), (4, .int v4)] [.int x46, .int v3] _ _ _ _
      refine mp_calls (i := 178) (q' := q_173) (As := [.int v3, .int x46]) (rest := []) dX7_widthOf_46 rfl qm_173 (by decide) rfl (Nat.le_of_ble_eq_true rfl) rfl ⟨rfl, rfl⟩ ⟨Nat.le_of_ble_eq_true rfl, Nat.le_of_ble_eq_true rfl⟩ (EvP.mono (by decide) (c_M_greater hT )) (fun r49 P50 g51 => mpp 49 rfl ?_)
      obtain ⟨⟨x52, rfl, g53⟩, e54⟩ := g51
      have e54 := e54.symm
      subst e54
      have wx52 := ti_full x52
      have g53 : (x52.toInt = v3.toInt ∧ x46.toInt ≤ v3.toInt) ∨ (x52.toInt = x46.toInt ∧ v3.toInt ≤ x46.toInt) := g53
      show MEvP _ none q_185 49 [(2, .int x37), (0, .ref 301), (1, .int t1), (3, .int v3), (4, .int v4)] [.int x52] _ _ _ _
      refine mp_a (a_istore_n (L' := [(3, .int x52), (2, .int x37), (0, .ref 301), (1, .int t1), (4, .int v4)]) dX7_widthOf_49 (by decide) rfl) (mpp 50 rfl ?_)
      obtain ⟨z55, h56⟩ := ti_ex (v4 + 1 : Int32)
      have wz55 := ti_full z55
      refine mp_a (a_iinc (v := z55) (L' := [(4, .int z55), (3, .int x52), (2, .int x37), (0, .ref 301), (1, .int t1)]) dX7_widthOf_50 (by decide) rfl h56 rfl) (mpp 53 rfl ?_)
      try have e57 : z55.toInt = v4.toInt + 1 := ti_addz h56 rfl rfl (by omega) (by omega)
      refine mp_a (a_goto (t := 7) dX7_widthOf_53 (by decide)) ?_
      refine MEvP.less (L := [(0, .ref 301), (1, .int t1), (2, .int x37), (3, .int x52), (4, .int z55)]) rfl rfl ⟨rfl, rfl, rfl, rfl, rfl, trivial⟩ ?_
      have i58 : 0 ≤ z55.toInt := by omega
      exact ih _ (by omega) _ _ _ i58 rfl

set_option maxHeartbeats 4000000 in
theorem c_M_widthOf {Po : mP} {t1 : Int32} (hT : Typ Po)  (hp0 : 0 ≤ t1.toInt) (hp1 : t1.toInt ≤ 7)  : EvP 5 185 [.ref 301, .int t1] Po (fun r P' => (∃ x : Int32, r = some (.int x) ∧ (True)) ∧ P' = Po) := by
  refine EvP.of qm_185 (Nat.le_of_ble_eq_true rfl) rfl ?_
  show MEvP _ none q_185 0 [(0, .ref 301), (1, .int t1)] [] _ 0 0 _
  refine mp_a (a_iconst (v := 0) dX7_widthOf_0 rfl) (mpp 1 rfl ?_)
  refine mp_a (a_istore_n (L' := [(2, .int 0), (0, .ref 301), (1, .int t1)]) dX7_widthOf_1 (by decide) rfl) (mpp 2 rfl ?_)
  refine mp_a (a_iconst (v := 0) dX7_widthOf_2 rfl) (mpp 3 rfl ?_)
  refine mp_a (a_istore_n (L' := [(3, .int 0), (2, .int 0), (0, .ref 301), (1, .int t1)]) dX7_widthOf_3 (by decide) rfl) (mpp 4 rfl ?_)
  refine mp_a (a_iconst (v := 0) dX7_widthOf_4 rfl) (mpp 5 rfl ?_)
  refine mp_a (a_istore (L' := [(4, .int 0), (3, .int 0), (2, .int 0), (0, .ref 301), (1, .int t1)]) dX7_widthOf_5 (by decide) rfl) (mpp 7 rfl ?_)
  refine MEvP.less (L := [(0, .ref 301), (1, .int t1), (2, .int 0), (3, .int 0), (4, .int 0)]) rfl rfl ⟨rfl, rfl, rfl, rfl, rfl, trivial⟩ ?_
  have i1 : 0 ≤ (0 : Int) := by omega
  exact c_M_widthOf_l7 hT  hp0 hp1 _ _ _ _ i1 rfl

set_option maxHeartbeats 4000000 in
theorem c_M_used_l4 {Po : mP}  (hT : Typ Po)   : ∀ (n : Nat) (v1 : Int32) (v2 : Int32), (0 ≤ v2.toInt) → (2147483647 - v2.toInt).toNat = n → MEvP 5 none q_184 4 [(0, .ref 301), (1, .int v1), (2, .int v2)] [] Po 0 0 (fun r P' => (∃ x : Int32, r = some (.int x) ∧ (True)) ∧ P' = Po) := by
  intro n
  induction n using Nat.strongRecOn with | _ n ih => ?_
  intro v1 v2 i_0 hm
  have w_v1 := ti_full v1
  have w_v2 := ti_full v2
  refine mp_a (a_iload_n dX7_used_4 rfl) (mpp 5 rfl ?_)
  refine mp_a (a_aload_n dX7_used_5 rfl) (mpp 6 rfl ?_)
  refine mt_getU (i := 9) (k := 0) (A := 302) hT dX7_used_6 rfl rl_301 (by decide) rfl (by decide) rfl un_18 (mpp 9 rfl ?_)
  refine mp_a (a_iconst (v := 0) dX7_used_9 rfl) (mpp 10 rfl ?_)
  have g3 : (0 : Int) ≤ (fv Po 302 0).toInt ∧ (fv Po 302 0).toInt ≤ 8 := Typ.rng hT rl_302 (by decide) (by decide) rfl
  refine mt_ialX (n := 155) hT dX7_used_10 rl_302 (by decide) rfl rfl (by decide) (by decide) ssp_0 (fun g1 => mpp 11 rfl ?_)
  have we4 := ti_full (fv Po 302 0)
  refine mp_Tb (t := 40) (j_icmp_ge dX7_used_11) (by decide) (fun c5 => ?_) (fun c5 => mpp 14 rfl ?_)
  · have c5 : v2.toInt ≥ (fv Po 302 0).toInt := ti_ge c5
    refine mp_a (a_iload_n dX7_used_40 rfl) (mpp 41 rfl ?_)
    exact mp_iret ⟨⟨_, rfl, trivial⟩, rfl⟩ dX7_used_41 (Or.inl rfl)
  · have c5 : v2.toInt < (fv Po 302 0).toInt := ti_ge_n c5
    refine mp_a (a_iload_n dX7_used_14 rfl) (mpp 15 rfl ?_)
    refine mp_a (a_aload_n dX7_used_15 rfl) (mpp 16 rfl ?_)
    refine mp_a (a_iload_n dX7_used_16 rfl) (mpp 17 rfl ?_)
    have p6 : 0 ≤ v2.toInt := by omega
    have p7 : v2.toInt ≤ 7 := by omega
    refine mt_callv (i := 130) (q' := q_145) (As := [.int v2]) (rest := [.int v1]) hT dX7_used_17 rfl qm_145 (by decide) rfl rl_301 (by decide) rfl (Nat.le_of_ble_eq_true rfl) rfl ⟨rfl, rfl⟩ ⟨Nat.le_of_ble_eq_true rfl, Nat.le_of_ble_eq_true rfl⟩ (EvP.mono (by decide) (c_M_isFolded hT p6 p7 )) (fun r8 P9 g10 => mpp 20 rfl ?_)
    obtain ⟨⟨x11, rfl, g12⟩, e13⟩ := g10
    have e13 := e13.symm
    subst e13
    have wx11 := ti_full x11
    have g12 : 0 ≤ x11.toInt ∧ x11.toInt ≤ 1 ∧ ((x11.toInt = 1 ∧ (fv Po 302 (5 + 19 * v2.toInt.toNat)).toInt = 1) ∨ (x11.toInt = 0 ∧ (fv Po 302 (5 + 19 * v2.toInt.toNat)).toInt ≠ 1)) := g12
    have g14 := ti_full (fv Po 302 (5 + 19 * v2.toInt.toNat))
    show MEvP _ none q_184 20 [(0, .ref 301), (1, .int v1), (2, .int v2)] [.int x11, .int v1] _ _ _ _
    refine mp_Tb (t := 31) (j_if_eq dX7_used_20) (by decide) (fun c15 => ?_) (fun c15 => mpp 23 rfl ?_)
    · have c15 : x11.toInt = 0 := ti_eq c15
      refine mp_a (a_iconst (v := 0) dX7_used_31 rfl) (mpp 32 rfl ?_)
      obtain ⟨z16, h17⟩ := ti_ex (v1 + 0 : Int32)
      have wz16 := ti_full z16
      refine mp_t (s_iadd (v := z16) dX7_used_32 h17) (mpp 33 rfl ?_)
      try have e18 : z16.toInt = v1.toInt + 0 := ti_addz h17 rfl rfl (by omega) (by omega)
      refine mp_a (a_istore_n (L' := [(1, .int z16), (0, .ref 301), (2, .int v2)]) dX7_used_33 (by decide) rfl) (mpp 34 rfl ?_)
      obtain ⟨z19, h20⟩ := ti_ex (v2 + 1 : Int32)
      have wz19 := ti_full z19
      refine mp_a (a_iinc (v := z19) (L' := [(2, .int z19), (1, .int z16), (0, .ref 301)]) dX7_used_34 (by decide) rfl h20 rfl) (mpp 37 rfl ?_)
      try have e21 : z19.toInt = v2.toInt + 1 := ti_addz h20 rfl rfl (by omega) (by omega)
      refine mp_a (a_goto (t := 4) dX7_used_37 (by decide)) ?_
      refine MEvP.less (L := [(0, .ref 301), (1, .int z16), (2, .int z19)]) rfl rfl ⟨rfl, rfl, rfl, trivial⟩ ?_
      have i22 : 0 ≤ z19.toInt := by omega
      exact ih _ (by omega) _ _ i22 rfl
    · have c15 : x11.toInt ≠ 0 := ti_eq_n c15
      refine mp_a (a_aload_n dX7_used_23 rfl) (mpp 24 rfl ?_)
      refine mp_a (a_iload_n dX7_used_24 rfl) (mpp 25 rfl ?_)
      have p23 : 0 ≤ v2.toInt := by omega
      have p24 : v2.toInt ≤ 7 := by omega
      refine mt_callv (i := 228) (q' := q_185) (As := [.int v2]) (rest := [.int v1]) hT dX7_used_25 rfl qm_185 (by decide) rfl rl_301 (by decide) rfl (Nat.le_of_ble_eq_true rfl) rfl ⟨rfl, rfl⟩ ⟨Nat.le_of_ble_eq_true rfl, Nat.le_of_ble_eq_true rfl⟩ (EvP.mono (by decide) (c_M_widthOf hT p23 p24 )) (fun r25 P26 g27 => mpp 28 rfl ?_)
      obtain ⟨⟨x28, rfl, g29⟩, e30⟩ := g27
      have e30 := e30.symm
      subst e30
      have wx28 := ti_full x28
      show MEvP _ none q_184 28 [(0, .ref 301), (1, .int v1), (2, .int v2)] [.int x28, .int v1] _ _ _ _
      refine mp_a (a_goto (t := 32) dX7_used_28 (by decide)) ?_
      obtain ⟨z31, h32⟩ := ti_ex (v1 + x28 : Int32)
      have wz31 := ti_full z31
      refine mp_t (s_iadd (v := z31) dX7_used_32 h32) (mpp 33 rfl ?_)
      try have e33 : z31.toInt = v1.toInt + x28.toInt := ti_addz h32 rfl rfl (by omega) (by omega)
      refine mp_a (a_istore_n (L' := [(1, .int z31), (0, .ref 301), (2, .int v2)]) dX7_used_33 (by decide) rfl) (mpp 34 rfl ?_)
      obtain ⟨z34, h35⟩ := ti_ex (v2 + 1 : Int32)
      have wz34 := ti_full z34
      refine mp_a (a_iinc (v := z34) (L' := [(2, .int z34), (1, .int z31), (0, .ref 301)]) dX7_used_34 (by decide) rfl h35 rfl) (mpp 37 rfl ?_)
      try have e36 : z34.toInt = v2.toInt + 1 := ti_addz h35 rfl rfl (by omega) (by omega)
      refine mp_a (a_goto (t := 4) dX7_used_37 (by decide)) ?_
      refine MEvP.less (L := [(0, .ref 301), (1, .int z31), (2, .int z34)]) rfl rfl ⟨rfl, rfl, rfl, trivial⟩ ?_
      have i37 : 0 ≤ z34.toInt := by omega
      exact ih _ (by omega) _ _ i37 rfl

set_option maxHeartbeats 4000000 in
theorem c_M_used {Po : mP}  (hT : Typ Po)   : EvP 6 184 [.ref 301] Po (fun r P' => (∃ x : Int32, r = some (.int x) ∧ (True)) ∧ P' = Po) := by
  refine EvP.of qm_184 (Nat.le_of_ble_eq_true rfl) rfl ?_
  show MEvP _ none q_184 0 [(0, .ref 301)] [] _ 0 0 _
  refine mp_a (a_iconst (v := 0) dX7_used_0 rfl) (mpp 1 rfl ?_)
  refine mp_a (a_istore_n (L' := [(1, .int 0), (0, .ref 301)]) dX7_used_1 (by decide) rfl) (mpp 2 rfl ?_)
  refine mp_a (a_iconst (v := 0) dX7_used_2 rfl) (mpp 3 rfl ?_)
  refine mp_a (a_istore_n (L' := [(2, .int 0), (1, .int 0), (0, .ref 301)]) dX7_used_3 (by decide) rfl) (mpp 4 rfl ?_)
  refine MEvP.less (L := [(0, .ref 301), (1, .int 0), (2, .int 0)]) rfl rfl ⟨rfl, rfl, rfl, trivial⟩ ?_
  have i1 : 0 ≤ (0 : Int) := by omega
  exact c_M_used_l4 hT   _ _ _ i1 rfl

set_option maxHeartbeats 4000000 in
theorem c_M_refuses {Po : mP} {t1 : Int32} {t2 : Int32} (hT : Typ Po)   : EvP 1 134 [.ref 301, .int t1, .int t2] Po (fun r P' => (∃ x : Int32, r = some (.int x) ∧ (x.toInt = -1003)) ∧ Typ P' ∧ KW [1093, 1094] Po P' ∧ KI 301 302 Po P') := by
  refine EvP.of qm_134 (Nat.le_of_ble_eq_true rfl) rfl ?_
  show MEvP _ none q_134 0 [(0, .ref 301), (1, .int t1), (2, .int t2)] [] _ 0 0 _
  refine mp_a (a_aload_n dX7_refuses_0 rfl) (mpp 1 rfl ?_)
  refine mp_a (a_iload_n dX7_refuses_1 rfl) (mpp 2 rfl ?_)
  refine mt_putI (i := 68) (k := 5) (x := t1) hT dX7_refuses_2 rfl rl_301 (by decide) rfl (by decide) rfl (ti_full t1) rfl rfl (fun P1 hT2 f3 f4 f5 => mpp 5 rfl ?_)
  have k6 : KW [1093, 1094] Po P1 := KW.step KW.refl rl_301 rfl f4 f5
  have e7 : (fv P1 301 5).toInt = t1.toInt := congrArg Int32.toInt f3
  refine mp_a (a_aload_n dX7_refuses_5 rfl) (mpp 6 rfl ?_)
  refine mp_a (a_iload_n dX7_refuses_6 rfl) (mpp 7 rfl ?_)
  refine mt_putI (i := 71) (k := 6) (x := t2) hT2 dX7_refuses_7 rfl rl_301 (by decide) rfl (by decide) rfl (ti_full t2) rfl rfl (fun P8 hT9 f10 f11 f12 => mpp 10 rfl ?_)
  have k13 : KW [1093, 1094] Po P8 := KW.step k6 rl_301 rfl f11 f12
  have e14 : (fv P8 301 6).toInt = t2.toInt := congrArg Int32.toInt f10
  refine mp_a (a_sipush (v := -1003) dX7_refuses_10 rfl) (mpp 13 rfl ?_)
  have u15 : (-1003 : Int) = -1003 := by omega
  have u16 : KI 301 302 Po P8 := by
    intro x j hx
    rw [f11 x j (by omega), f4 x j (by omega)]
  exact mp_iret ⟨⟨_, rfl, u15⟩, hT9, k13, u16⟩ dX7_refuses_13 (Or.inl rfl)

set_option maxHeartbeats 4000000 in
theorem c_M_stages {Po : mP} {t1 : Int32} (hT : Typ Po) (hR : Rel Po)  : EvP 7 183 [.ref 301, .int t1] Po (fun r P' => (∃ x : Int32, r = some (.int x) ∧ (True)) ∧ Typ P' ∧ KW [1093, 1094, 1152] Po P' ∧ Rel P') := by
  refine EvP.of qm_183 (Nat.le_of_ble_eq_true rfl) rfl ?_
  show MEvP _ none q_183 0 [(0, .ref 301), (1, .int t1)] [] _ 0 0 _
  refine mp_a (a_iload_n dX7_stages_0 rfl) (mpp 1 rfl ?_)
  refine mp_a (a_iconst (v := 1) dX7_stages_1 rfl) (mpp 2 rfl ?_)
  refine mp_a (a_bipush (v := 99) dX7_stages_2 rfl) (mpp 4 rfl ?_)
  refine mp_calls (i := 61) (q' := q_127) (As := [.int t1, .int 1, .int 99]) (rest := []) dX7_stages_4 rfl qm_127 (by decide) rfl (Nat.le_of_ble_eq_true rfl) rfl ⟨rfl, rfl⟩ ⟨Nat.le_of_ble_eq_true rfl, Nat.le_of_ble_eq_true rfl⟩ (EvP.mono (by decide) (c_M_isIn hT )) (fun r1 P2 g3 => mpp 7 rfl ?_)
  obtain ⟨⟨x4, rfl, g5⟩, e6⟩ := g3
  have e6 := e6.symm
  subst e6
  have wx4 := ti_full x4
  have g5 : 0 ≤ x4.toInt ∧ x4.toInt ≤ 1 ∧ ((x4.toInt = 1 ∧ (1 : Int) ≤ t1.toInt ∧ t1.toInt ≤ (99 : Int)) ∨ (x4.toInt = 0 ∧ (t1.toInt < (1 : Int) ∨ (99 : Int) < t1.toInt))) := g5
  show MEvP _ none q_183 7 [(0, .ref 301), (1, .int t1)] [.int x4] _ _ _ _
  refine mp_Tb (t := 14) (j_if_ne dX7_stages_7) (by decide) (fun c7 => ?_) (fun c7 => mpp 10 rfl ?_)
  · have c7 : x4.toInt ≠ 0 := ti_ne c7
    refine mp_a (a_aload_n dX7_stages_14 rfl) (mpp 15 rfl ?_)
    refine mt_callv (i := 231) (q' := q_184) (As := []) (rest := []) hT dX7_stages_15 rfl qm_184 (by decide) rfl rl_301 (by decide) rfl (Nat.le_of_ble_eq_true rfl) rfl ⟨rfl, rfl⟩ ⟨Nat.le_of_ble_eq_true rfl, Nat.le_of_ble_eq_true rfl⟩ (EvP.mono (by decide) (c_M_used hT )) (fun r8 P9 g10 => mpp 18 rfl ?_)
    obtain ⟨⟨x11, rfl, g12⟩, e13⟩ := g10
    have e13 := e13.symm
    subst e13
    have wx11 := ti_full x11
    show MEvP _ none q_183 18 [(0, .ref 301), (1, .int t1)] [.int x11] _ _ _ _
    refine mp_a (a_iload_n dX7_stages_18 rfl) (mpp 19 rfl ?_)
    refine mp_Tb (t := 35) (j_icmp_le dX7_stages_19) (by decide) (fun c14 => ?_) (fun c14 => mpp 22 rfl ?_)
    · have c14 : x11.toInt ≤ t1.toInt := ti_le c14
      refine mp_a (a_aload_n dX7_stages_35 rfl) (mpp 36 rfl ?_)
      refine mt_getU (i := 9) (k := 0) (A := 302) hT dX7_stages_36 rfl rl_301 (by decide) rfl (by decide) rfl un_18 (mpp 39 rfl ?_)
      refine mp_a (a_iconst (v := 1) dX7_stages_39 rfl) (mpp 40 rfl ?_)
      have g17 := ti_full (fv Po 302 1)
      refine mt_ialX (n := 155) hT dX7_stages_40 rl_302 (by decide) rfl rfl (by decide) (by decide) ssp_0 (fun g15 => mpp 41 rfl ?_)
      have we18 := ti_full (fv Po 302 1)
      refine mp_a (a_istore_n (L' := [(2, .int (fv Po 302 1)), (0, .ref 301), (1, .int t1)]) dX7_stages_41 (by decide) rfl) (mpp 42 rfl ?_)
      refine mp_a (a_aload_n dX7_stages_42 rfl) (mpp 43 rfl ?_)
      refine mt_getU (i := 9) (k := 0) (A := 302) hT dX7_stages_43 rfl rl_301 (by decide) rfl (by decide) rfl un_18 (mpp 46 rfl ?_)
      refine mp_a (a_iconst (v := 1) dX7_stages_46 rfl) (mpp 47 rfl ?_)
      refine mp_a (a_iload_n dX7_stages_47 rfl) (mpp 48 rfl ?_)
      refine mt_iasX (n := 155) hT dX7_stages_48 rl_302 (by decide) rfl rfl (by decide) (by decide) ssp_0 okS_c1 (fun P19 hT20 f21 f22 f23 => mpp 49 rfl ?_)
      have f21 : fv P19 302 1 = _ := f21
      have f22 : ∀ b j : Nat, ¬ (b = 302 ∧ j = 1) → fv P19 b j = fv Po b j := f22
      have k24 : KW [1093, 1094, 1152] Po P19 := KW.step KW.refl rl_302 rfl f22 f23
      have R25 := Rel.oth hR f22 (by decide)
      have e26 : (fv P19 302 1).toInt = t1.toInt := congrArg Int32.toInt f21
      refine mp_a (a_iload_n dX7_stages_49 rfl) (mpp 50 rfl ?_)
      exact mp_iret ⟨⟨_, rfl, trivial⟩, hT20, k24, R25⟩ dX7_stages_50 (Or.inl rfl)
    · have c14 : x11.toInt > t1.toInt := ti_le_n c14
      refine mp_a (a_aload_n dX7_stages_22 rfl) (mpp 23 rfl ?_)
      refine mp_a (a_bipush (v := 7) dX7_stages_23 rfl) (mpp 25 rfl ?_)
      refine mp_a (a_aload_n dX7_stages_25 rfl) (mpp 26 rfl ?_)
      refine mt_callv (i := 231) (q' := q_184) (As := []) (rest := [.int 7, .ref 301]) hT dX7_stages_26 rfl qm_184 (by decide) rfl rl_301 (by decide) rfl (Nat.le_of_ble_eq_true rfl) rfl ⟨rfl, rfl⟩ ⟨Nat.le_of_ble_eq_true rfl, Nat.le_of_ble_eq_true rfl⟩ (EvP.mono (by decide) (c_M_used hT )) (fun r27 P28 g29 => mpp 29 rfl ?_)
      obtain ⟨⟨x30, rfl, g31⟩, e32⟩ := g29
      have e32 := e32.symm
      subst e32
      have wx30 := ti_full x30
      show MEvP _ none q_183 29 [(0, .ref 301), (1, .int t1)] [.int x30, .int 7, .ref 301] _ _ _ _
      refine mp_a (a_iload_n dX7_stages_29 rfl) (mpp 30 rfl ?_)
      obtain ⟨z33, h34⟩ := ti_ex (x30 - t1 : Int32)
      have wz33 := ti_full z33
      refine mp_t (s_isub (v := z33) dX7_stages_30 h34) (mpp 31 rfl ?_)
      try have e35 : z33.toInt = x30.toInt - t1.toInt := ti_subz h34 rfl rfl (by omega) (by omega)
      refine mt_callv (i := 101) (q' := q_134) (As := [.int 7, .int z33]) (rest := []) hT dX7_stages_31 rfl qm_134 (by decide) rfl rl_301 (by decide) rfl (Nat.le_of_ble_eq_true rfl) rfl ⟨rfl, rfl⟩ ⟨Nat.le_of_ble_eq_true rfl, Nat.le_of_ble_eq_true rfl⟩ (EvP.mono (by decide) (c_M_refuses hT )) (fun r36 P37 g38 => mpp 34 rfl ?_)
      obtain ⟨⟨x39, rfl, g40⟩, hT41, k42, R43⟩ := g38
      have k44 : KW [1093, 1094, 1152] Po P37 := KW.trans KW.refl k42 rfl
      have R46 := Rel.kw hR k42 rfl
      have wx39 := ti_full x39
      have g40 : x39.toInt = -1003 := g40
      show MEvP _ none q_183 34 [(0, .ref 301), (1, .int t1)] [.int x39] _ _ _ _
      exact mp_iret ⟨⟨_, rfl, trivial⟩, hT41, k44, R46⟩ dX7_stages_34 (Or.inl rfl)
  · have c7 : x4.toInt = 0 := ti_ne_n c7
    refine mp_a (a_sipush (v := -1002) dX7_stages_10 rfl) (mpp 13 rfl ?_)
    exact mp_iret ⟨⟨_, rfl, trivial⟩, hT, KW.refl, hR⟩ dX7_stages_13 (Or.inl rfl)

