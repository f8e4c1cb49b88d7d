/-! methods on typed pools, 25 (written by a program) -/
set_option maxHeartbeats 4000000 in
theorem c_M_lesser {Po : mP} {t0 : Int32} {t1 : Int32} (hT : Typ Po)   : EvP 1 158 [.int t0, .int t1] Po (fun r P' => (∃ x : Int32, r = some (.int x) ∧ ((x.toInt = t0.toInt ∧ t0.toInt ≤ t1.toInt) ∨ (x.toInt = t1.toInt ∧ t1.toInt ≤ t0.toInt))) ∧ P' = Po) := by
  refine EvP.of qm_158 (Nat.le_of_ble_eq_true rfl) rfl ?_
  show MEvP _ none q_158 0 [(0, .int t0), (1, .int t1)] [] _ 0 0 _
  have w_t0 := ti_full t0
  have w_t1 := ti_full t1
  refine mp_a (a_iload_n dX7_lesser_0 rfl) (mpp 1 rfl ?_)
  refine mp_a (a_iload_n dX7_lesser_1 rfl) (mpp 2 rfl ?_)
  refine mp_Tb (t := 9) (j_icmp_ge dX7_lesser_2) (by decide) (fun c1 => ?_) (fun c1 => mpp 5 rfl ?_)
  · have c1 : t0.toInt ≥ t1.toInt := ti_ge c1
    refine mp_a (a_iload_n dX7_lesser_9 rfl) (mpp 10 rfl ?_)
    have u2 : (t1.toInt = t0.toInt ∧ t0.toInt ≤ t1.toInt) ∨ (t1.toInt = t1.toInt ∧ t1.toInt ≤ t0.toInt) := by omega
    exact mp_iret ⟨⟨_, rfl, u2⟩, rfl⟩ dX7_lesser_10 (Or.inl rfl)
  · have c1 : t0.toInt < t1.toInt := ti_ge_n c1
    refine mp_a (a_iload_n dX7_lesser_5 rfl) (mpp 6 rfl ?_)
    refine mp_a (a_goto (t := 10) dX7_lesser_6 (by decide)) ?_
    have u3 : (t0.toInt = t0.toInt ∧ t0.toInt ≤ t1.toInt) ∨ (t0.toInt = t1.toInt ∧ t1.toInt ≤ t0.toInt) := by omega
    exact mp_iret ⟨⟨_, rfl, u3⟩, rfl⟩ dX7_lesser_10 (Or.inl rfl)

set_option maxHeartbeats 4000000 in
theorem c_M_greater {Po : mP} {t0 : Int32} {t1 : Int32} (hT : Typ Po)   : EvP 1 173 [.int t0, .int t1] Po (fun r P' => (∃ x : Int32, r = some (.int x) ∧ ((x.toInt = t0.toInt ∧ t1.toInt ≤ t0.toInt) ∨ (x.toInt = t1.toInt ∧ t0.toInt ≤ t1.toInt))) ∧ P' = Po) := by
  refine EvP.of qm_173 (Nat.le_of_ble_eq_true rfl) rfl ?_
  show MEvP _ none q_173 0 [(0, .int t0), (1, .int t1)] [] _ 0 0 _
  have w_t0 := ti_full t0
  have w_t1 := ti_full t1
  refine mp_a (a_iload_n dX7_greater_0 rfl) (mpp 1 rfl ?_)
  refine mp_a (a_iload_n dX7_greater_1 rfl) (mpp 2 rfl ?_)
  refine mp_Tb (t := 9) (j_icmp_le dX7_greater_2) (by decide) (fun c1 => ?_) (fun c1 => mpp 5 rfl ?_)
  · have c1 : t0.toInt ≤ t1.toInt := ti_le c1
    refine mp_a (a_iload_n dX7_greater_9 rfl) (mpp 10 rfl ?_)
    have u2 : (t1.toInt = t0.toInt ∧ t1.toInt ≤ t0.toInt) ∨ (t1.toInt = t1.toInt ∧ t0.toInt ≤ t1.toInt) := by omega
    exact mp_iret ⟨⟨_, rfl, u2⟩, rfl⟩ dX7_greater_10 (Or.inl rfl)
  · have c1 : t0.toInt > t1.toInt := ti_le_n c1
    refine mp_a (a_iload_n dX7_greater_5 rfl) (mpp 6 rfl ?_)
    refine mp_a (a_goto (t := 10) dX7_greater_6 (by decide)) ?_
    have u3 : (t0.toInt = t0.toInt ∧ t1.toInt ≤ t0.toInt) ∨ (t0.toInt = t1.toInt ∧ t0.toInt ≤ t1.toInt) := by omega
    exact mp_iret ⟨⟨_, rfl, u3⟩, rfl⟩ dX7_greater_10 (Or.inl rfl)

set_option maxHeartbeats 4000000 in
theorem c_M_widthOf_l59 {Po : mP} {t1 : Int32} (hT : Typ Po)  (hp0 : 0 ≤ t1.toInt) (hp1 : t1.toInt ≤ 7)  : ∀ (n : Nat) (v2 : Int32) (v3 : Int32) (v4 : Int32), (((fv Po 302 (3 + 19 * t1.toInt.toNat)).toInt = 0 ∧ v2 = loF (fun j : Nat => fv Po 302 (6 + 19 * t1.toInt.toNat + j)) (fv Po 302 (4 + 19 * t1.toInt.toNat)).toInt.toNat ∧ v3 = hiF (fun j : Nat => fv Po 302 (6 + 19 * t1.toInt.toNat + j)) (fv Po 302 (4 + 19 * t1.toInt.toNat)).toInt.toNat) ∨ ((fv Po 302 (3 + 19 * t1.toInt.toNat)).toInt = 1 ∧ v2 = 0 ∧ v3 = mxF (fun j : Nat => fv Po 302 (6 + 19 * t1.toInt.toNat + j)) v4.toInt.toNat ∧ v4.toInt ≤ (fv Po 302 (4 + 19 * t1.toInt.toNat)).toInt)) → (0 ≤ v4.toInt) → (2147483647 - v4.toInt).toNat = n → MEvP 4 none q_185 59 [(0, .ref 301), (1, .int t1), (2, .int v2), (3, .int v3), (4, .int v4)] [] Po 0 0 (fun r P' => (∃ x : Int32, r = some (.int x) ∧ (x.toInt = (wdF (fv Po 302 (3 + 19 * t1.toInt.toNat)).toInt (fun j : Nat => fv Po 302 (6 + 19 * t1.toInt.toNat + j)) (fv Po 302 (4 + 19 * t1.toInt.toNat)).toInt.toNat).toInt)) ∧ P' = Po) := by
  intro n
  induction n using Nat.strongRecOn with | _ n ih => ?_
  intro v2 v3 v4 i_0 i_1 hm
  have w_t1 := ti_full t1
  have w_v2 := ti_full v2
  have w_v3 := ti_full v3
  have w_v4 := ti_full v4
  try have g1 : (0 : Int) ≤ (fv Po 302 (3 + 19 * t1.toInt.toNat)).toInt ∧ (fv Po 302 (3 + 19 * t1.toInt.toNat)).toInt ≤ 1 := s3_rng hT (by omega)
  try have g2 : (0 : Int) ≤ (fv Po 302 (4 + 19 * t1.toInt.toNat)).toInt ∧ (fv Po 302 (4 + 19 * t1.toInt.toNat)).toInt ≤ 8 := s4_rng hT (by omega)
  refine mp_a (a_iload dX7_widthOf_59 rfl) (mpp 61 rfl ?_)
  refine mp_a (a_aload_n dX7_widthOf_61 rfl) (mpp 62 rfl ?_)
  refine mp_a (a_iload_n dX7_widthOf_62 rfl) (mpp 63 rfl ?_)
  refine mp_a (a_iconst (v := 1) dX7_widthOf_63 rfl) (mpp 64 rfl ?_)
  have p3 : 0 ≤ t1.toInt := by omega
  have p4 : t1.toInt ≤ 7 := by omega
  have p5 : 0 ≤ (1 : Int) := by omega
  have p6 : (1 : Int) ≤ 18 := by omega
  refine mt_callv (i := 78) (q' := q_137) (As := [.int t1, .int 1]) (rest := [.int v4]) hT dX7_widthOf_64 rfl qm_137 (by decide) rfl rl_301 (by decide) rfl (Nat.le_of_ble_eq_true rfl) rfl ⟨rfl, rfl⟩ ⟨Nat.le_of_ble_eq_true rfl, Nat.le_of_ble_eq_true rfl⟩ (EvP.mono (by decide) (c_M_of_c1 hT p3 p4 p5 p6 )) (fun r7 P8 g9 => mpp 67 rfl ?_)
  obtain ⟨⟨x10, rfl, g11⟩, e12⟩ := g9
  have e12 := e12.symm
  subst e12
  have wx10 := ti_full x10
  replace g11 : x10.toInt = (fv Po 302 (4 + 19 * t1.toInt.toNat)).toInt ∧ 0 ≤ x10.toInt ∧ x10.toInt ≤ 8 := g11
  show MEvP _ none q_185 67 [(0, .ref 301), (1, .int t1), (2, .int v2), (3, .int v3), (4, .int v4)] [.int x10, .int v4] _ _ _ _
  refine mp_Tb (t := 96) (j_icmp_ge dX7_widthOf_67) (by decide) (fun c13 => ?_) (fun c13 => mpp 70 rfl ?_)
  · have c13 : v4.toInt ≥ x10.toInt := ti_ge c13
    refine mp_a (a_iload_n dX7_widthOf_96 rfl) (mpp 97 rfl ?_)
    refine mp_a (a_iload_n dX7_widthOf_97 rfl) (mpp 98 rfl ?_)
    obtain ⟨z14, h15⟩ := ti_ex (v3 - v2 : Int32)
    have wz14 := ti_full z14
    refine mp_t (s_isub (v := z14) dX7_widthOf_98 h15) (mpp 99 rfl ?_)
    try have e16 : z14.toInt = v3.toInt - v2.toInt := ti_subz h15 rfl rfl (by omega) (by omega)
    have u17 : z14.toInt = (wdF (fv Po 302 (3 + 19 * t1.toInt.toNat)).toInt (fun j : Nat => fv Po 302 (6 + 19 * t1.toInt.toNat + j)) (fv Po 302 (4 + 19 * t1.toInt.toNat)).toInt.toNat).toInt := i_0.elim (fun ⟨w1, w2, w3⟩ => wdF.s (by omega) w3 w2 rfl h15) (fun ⟨w1, w2, w3, w4⟩ => wdF.c w1 (by rw [← h15, w2, w3, Int32.sub_zero]) (by omega))
    exact mp_iret ⟨⟨_, rfl, u17⟩, rfl⟩ dX7_widthOf_99 (Or.inl rfl)
  · have c13 : v4.toInt < x10.toInt := ti_ge_n c13
    refine mp_a (a_aload_n dX7_widthOf_70 rfl) (mpp 71 rfl ?_)
    refine mp_a (a_iload_n dX7_widthOf_71 rfl) (mpp 72 rfl ?_)
    have p18 : 0 ≤ t1.toInt := by omega
    have p19 : t1.toInt ≤ 7 := by omega
    refine mt_callv (i := 81) (q' := q_138) (As := [.int t1]) (rest := []) hT dX7_widthOf_72 rfl qm_138 (by decide) rfl rl_301 (by decide) rfl (Nat.le_of_ble_eq_true rfl) rfl ⟨rfl, rfl⟩ ⟨Nat.le_of_ble_eq_true rfl, Nat.le_of_ble_eq_true rfl⟩ (EvP.mono (by decide) (c_M_isCorner hT p18 p19 )) (fun r20 P21 g22 => mpp 75 rfl ?_)
    obtain ⟨⟨x23, rfl, g24⟩, e25⟩ := g22
    have e25 := e25.symm
    subst e25
    have wx23 := ti_full x23
    replace g24 : 0 ≤ x23.toInt ∧ x23.toInt ≤ 1 ∧ ((x23.toInt = 1 ∧ (fv Po 302 (3 + 19 * t1.toInt.toNat)).toInt = 1) ∨ (x23.toInt = 0 ∧ (fv Po 302 (3 + 19 * t1.toInt.toNat)).toInt = 0)) := g24
    show MEvP _ none q_185 75 [(0, .ref 301), (1, .int t1), (2, .int v2), (3, .int v3), (4, .int v4)] [.int x23] _ _ _ _
    refine mp_Tb (t := 96) (j_if_eq dX7_widthOf_75) (by decide) (fun c26 => ?_) (fun c26 => mpp 78 rfl ?_)
    · have c26 : x23.toInt = 0 := ti_eq c26
      refine mp_a (a_iload_n dX7_widthOf_96 rfl) (mpp 97 rfl ?_)
      refine mp_a (a_iload_n dX7_widthOf_97 rfl) (mpp 98 rfl ?_)
      obtain ⟨z27, h28⟩ := ti_ex (v3 - v2 : Int32)
      have wz27 := ti_full z27
      refine mp_t (s_isub (v := z27) dX7_widthOf_98 h28) (mpp 99 rfl ?_)
      try have e29 : z27.toInt = v3.toInt - v2.toInt := ti_subz h28 rfl rfl (by omega) (by omega)
      have u30 : z27.toInt = (wdF (fv Po 302 (3 + 19 * t1.toInt.toNat)).toInt (fun j : Nat => fv Po 302 (6 + 19 * t1.toInt.toNat + j)) (fv Po 302 (4 + 19 * t1.toInt.toNat)).toInt.toNat).toInt := i_0.elim (fun ⟨w1, w2, w3⟩ => wdF.s (by omega) w3 w2 rfl h28) (fun ⟨w1, w2, w3, w4⟩ => wdF.c w1 (by rw [← h28, w2, w3, Int32.sub_zero]) (by omega))
      exact mp_iret ⟨⟨_, rfl, u30⟩, rfl⟩ dX7_widthOf_99 (Or.inl rfl)
    · have c26 : x23.toInt ≠ 0 := ti_eq_n c26
      refine mp_a (a_iload_n dX7_widthOf_78 rfl) (mpp 79 rfl ?_)
      refine mp_a (a_aload_n dX7_widthOf_79 rfl) (mpp 80 rfl ?_)
      refine mp_a (a_iload_n dX7_widthOf_80 rfl) (mpp 81 rfl ?_)
      refine mp_a (a_iload dX7_widthOf_81 rfl) (mpp 83 rfl ?_)
      have p31 : 0 ≤ t1.toInt := by omega
      have p32 : t1.toInt ≤ 7 := by omega
      have p33 : 0 ≤ v4.toInt := by omega
      have p34 : v4.toInt ≤ 7 := by omega
      refine mt_callv (i := 142) (q' := q_152) (As := [.int t1, .int v4]) (rest := [.int v3]) hT dX7_widthOf_83 rfl qm_152 (by decide) rfl rl_301 (by decide) rfl (Nat.le_of_ble_eq_true rfl) rfl ⟨rfl, rfl⟩ ⟨Nat.le_of_ble_eq_true rfl, Nat.le_of_ble_eq_true rfl⟩ (EvP.mono (by decide) (c_M_sizeOf hT p31 p32 p33 p34 )) (fun r35 P36 g37 => mpp 86 rfl ?_)
      obtain ⟨⟨x38, rfl, g39⟩, e40⟩ := g37
      have e40 := e40.symm
      subst e40
      have wx38 := ti_full x38
      replace g39 : x38.toInt = (fv Po 302 (6 + 19 * t1.toInt.toNat + v4.toInt.toNat)).toInt := g39
      show MEvP _ none q_185 86 [(0, .ref 301), (1, .int t1), (2, .int v2), (3, .int v3), (4, .int v4)] [.int x38, .int v3] _ _ _ _
      refine mp_calls (i := 178) (q' := q_173) (As := [.int v3, .int x38]) (rest := []) dX7_widthOf_86 rfl qm_173 (by decide) rfl (Nat.le_of_ble_eq_true rfl) rfl ⟨rfl, rfl⟩ ⟨Nat.le_of_ble_eq_true rfl, Nat.le_of_ble_eq_true rfl⟩ (EvP.mono (by decide) (c_M_greater hT )) (fun r41 P42 g43 => mpp 89 rfl ?_)
      obtain ⟨⟨x44, rfl, g45⟩, e46⟩ := g43
      have e46 := e46.symm
      subst e46
      have wx44 := ti_full x44
      replace g45 : (x44.toInt = v3.toInt ∧ x38.toInt ≤ v3.toInt) ∨ (x44.toInt = x38.toInt ∧ v3.toInt ≤ x38.toInt) := g45
      show MEvP _ none q_185 89 [(0, .ref 301), (1, .int t1), (2, .int v2), (3, .int v3), (4, .int v4)] [.int x44] _ _ _ _
      refine mp_a (a_istore_n (L' := [(3, .int x44), (0, .ref 301), (1, .int t1), (2, .int v2), (4, .int v4)]) dX7_widthOf_89 (by decide) rfl) (mpp 90 rfl ?_)
      obtain ⟨z47, h48⟩ := ti_ex (v4 + 1 : Int32)
      have wz47 := ti_full z47
      refine mp_a (a_iinc (v := z47) (L' := [(4, .int z47), (3, .int x44), (0, .ref 301), (1, .int t1), (2, .int v2)]) dX7_widthOf_90 (by decide) rfl h48 rfl) (mpp 93 rfl ?_)
      try have e49 : z47.toInt = v4.toInt + 1 := ti_addz h48 rfl rfl (by omega) (by omega)
      refine mp_a (a_goto (t := 59) dX7_widthOf_93 (by decide)) ?_
      refine MEvP.less (L := [(0, .ref 301), (1, .int t1), (2, .int v2), (3, .int x44), (4, .int z47)]) rfl rfl ⟨rfl, rfl, rfl, rfl, rfl, trivial⟩ ?_
      have i50 : ((fv Po 302 (3 + 19 * t1.toInt.toNat)).toInt = 0 ∧ v2 = loF (fun j : Nat => fv Po 302 (6 + 19 * t1.toInt.toNat + j)) (fv Po 302 (4 + 19 * t1.toInt.toNat)).toInt.toNat ∧ x44 = hiF (fun j : Nat => fv Po 302 (6 + 19 * t1.toInt.toNat + j)) (fv Po 302 (4 + 19 * t1.toInt.toNat)).toInt.toNat) ∨ ((fv Po 302 (3 + 19 * t1.toInt.toNat)).toInt = 1 ∧ v2 = 0 ∧ x44 = mxF (fun j : Nat => fv Po 302 (6 + 19 * t1.toInt.toNat + j)) z47.toInt.toNat ∧ z47.toInt ≤ (fv Po 302 (4 + 19 * t1.toInt.toNat)).toInt) := Or.inr (by obtain ⟨w1, w2, w3, w4⟩ := i_0.resolve_left (by omega); exact ⟨w1, w2, mxF.step w3 (by omega) (x := x38) (by show _ = (fv Po 302 (6 + 19 * t1.toInt.toNat + v4.toInt.toNat)).toInt; omega) (mxI_of (by omega)), by omega⟩)
      have i51 : 0 ≤ z47.toInt := by omega
      exact ih _ (by omega) _ _ _ i50 i51 rfl

set_option maxHeartbeats 4000000 in
theorem c_M_widthOf_l7 {Po : mP} {t1 : Int32} (hT : Typ Po)  (hp0 : 0 ≤ t1.toInt) (hp1 : t1.toInt ≤ 7)  : ∀ (n : Nat) (v2 : Int32) (v3 : Int32) (v4 : Int32), (v2 = loF (fun j : Nat => fv Po 302 (6 + 19 * t1.toInt.toNat + j)) (v4.toInt.toNat - 1)) → (v3 = hiF (fun j : Nat => fv Po 302 (6 + 19 * t1.toInt.toNat + j)) (v4.toInt.toNat - 1)) → (v4.toInt = 0 ∨ (v4.toInt ≤ (fv Po 302 (4 + 19 * t1.toInt.toNat)).toInt + 1 ∧ (fv Po 302 (3 + 19 * t1.toInt.toNat)).toInt = 0)) → (0 ≤ v4.toInt) → (2147483647 - v4.toInt).toNat = n → MEvP 4 none q_185 7 [(0, .ref 301), (1, .int t1), (2, .int v2), (3, .int v3), (4, .int v4)] [] Po 0 0 (fun r P' => (∃ x : Int32, r = some (.int x) ∧ (x.toInt = (wdF (fv Po 302 (3 + 19 * t1.toInt.toNat)).toInt (fun j : Nat => fv Po 302 (6 + 19 * t1.toInt.toNat + j)) (fv Po 302 (4 + 19 * t1.toInt.toNat)).toInt.toNat).toInt)) ∧ P' = Po) := by
  intro n
  induction n using Nat.strongRecOn with | _ n ih => ?_
  intro v2 v3 v4 i_0 i_1 i_2 i_3 hm
  have w_t1 := ti_full t1
  have w_v2 := ti_full v2
  have w_v3 := ti_full v3
  have w_v4 := ti_full v4
  try have g1 : (0 : Int) ≤ (fv Po 302 (3 + 19 * t1.toInt.toNat)).toInt ∧ (fv Po 302 (3 + 19 * t1.toInt.toNat)).toInt ≤ 1 := s3_rng hT (by omega)
  try have g2 : (0 : Int) ≤ (fv Po 302 (4 + 19 * t1.toInt.toNat)).toInt ∧ (fv Po 302 (4 + 19 * t1.toInt.toNat)).toInt ≤ 8 := s4_rng hT (by omega)
  refine mp_a (a_iload dX7_widthOf_7 rfl) (mpp 9 rfl ?_)
  refine mp_a (a_aload_n dX7_widthOf_9 rfl) (mpp 10 rfl ?_)
  refine mp_a (a_iload_n dX7_widthOf_10 rfl) (mpp 11 rfl ?_)
  refine mp_a (a_iconst (v := 1) dX7_widthOf_11 rfl) (mpp 12 rfl ?_)
  have p3 : 0 ≤ t1.toInt := by omega
  have p4 : t1.toInt ≤ 7 := by omega
  have p5 : 0 ≤ (1 : Int) := by omega
  have p6 : (1 : Int) ≤ 18 := by omega
  refine mt_callv (i := 78) (q' := q_137) (As := [.int t1, .int 1]) (rest := [.int v4]) hT dX7_widthOf_12 rfl qm_137 (by decide) rfl rl_301 (by decide) rfl (Nat.le_of_ble_eq_true rfl) rfl ⟨rfl, rfl⟩ ⟨Nat.le_of_ble_eq_true rfl, Nat.le_of_ble_eq_true rfl⟩ (EvP.mono (by decide) (c_M_of_c1 hT p3 p4 p5 p6 )) (fun r7 P8 g9 => mpp 15 rfl ?_)
  obtain ⟨⟨x10, rfl, g11⟩, e12⟩ := g9
  have e12 := e12.symm
  subst e12
  have wx10 := ti_full x10
  replace g11 : x10.toInt = (fv Po 302 (4 + 19 * t1.toInt.toNat)).toInt ∧ 0 ≤ x10.toInt ∧ x10.toInt ≤ 8 := g11
  show MEvP _ none q_185 15 [(0, .ref 301), (1, .int t1), (2, .int v2), (3, .int v3), (4, .int v4)] [.int x10, .int v4] _ _ _ _
  refine mp_Tb (t := 56) (j_icmp_gt dX7_widthOf_15) (by decide) (fun c13 => ?_) (fun c13 => mpp 18 rfl ?_)
  · have c13 : v4.toInt > x10.toInt := ti_gt c13
    refine mp_a (a_iconst (v := 0) dX7_widthOf_56 rfl) (mpp 57 rfl ?_)
    refine mp_a (a_istore (L' := [(4, .int 0), (0, .ref 301), (1, .int t1), (2, .int v2), (3, .int v3)]) dX7_widthOf_57 (by decide) rfl) (mpp 59 rfl ?_)
    refine MEvP.less (L := [(0, .ref 301), (1, .int t1), (2, .int v2), (3, .int v3), (4, .int 0)]) rfl rfl ⟨rfl, rfl, rfl, rfl, rfl, trivial⟩ ?_
    have i14 : ((fv Po 302 (3 + 19 * t1.toInt.toNat)).toInt = 0 ∧ v2 = loF (fun j : Nat => fv Po 302 (6 + 19 * t1.toInt.toNat + j)) (fv Po 302 (4 + 19 * t1.toInt.toNat)).toInt.toNat ∧ v3 = hiF (fun j : Nat => fv Po 302 (6 + 19 * t1.toInt.toNat + j)) (fv Po 302 (4 + 19 * t1.toInt.toNat)).toInt.toNat) ∨ ((fv Po 302 (3 + 19 * t1.toInt.toNat)).toInt = 1 ∧ v2 = 0 ∧ v3 = mxF (fun j : Nat => fv Po 302 (6 + 19 * t1.toInt.toNat + j)) (0 : Int).toNat ∧ (0 : Int) ≤ (fv Po 302 (4 + 19 * t1.toInt.toNat)).toInt) := by first | exact Or.inl ⟨by omega, i_0.trans (congrArg (loF _) (by omega)), i_1.trans (congrArg (hiF _) (by omega))⟩ | exact Or.inr ⟨by omega, i_0.trans (congrArg (loF _) (show _ = 0 by omega)), i_1.trans (congrArg (hiF _) (show _ = 0 by omega)), by omega⟩
    have i15 : 0 ≤ (0 : Int) := by omega
    exact c_M_widthOf_l59 hT  hp0 hp1 _ _ _ _ i14 i15 rfl
  · have c13 : v4.toInt ≤ x10.toInt := ti_gt_n c13
    refine mp_a (a_aload_n dX7_widthOf_18 rfl) (mpp 19 rfl ?_)
    refine mp_a (a_iload_n dX7_widthOf_19 rfl) (mpp 20 rfl ?_)
    have p16 : 0 ≤ t1.toInt := by omega
    have p17 : t1.toInt ≤ 7 := by omega
    refine mt_callv (i := 81) (q' := q_138) (As := [.int t1]) (rest := []) hT dX7_widthOf_20 rfl qm_138 (by decide) rfl rl_301 (by decide) rfl (Nat.le_of_ble_eq_true rfl) rfl ⟨rfl, rfl⟩ ⟨Nat.le_of_ble_eq_true rfl, Nat.le_of_ble_eq_true rfl⟩ (EvP.mono (by decide) (c_M_isCorner hT p16 p17 )) (fun r18 P19 g20 => mpp 23 rfl ?_)
    obtain ⟨⟨x21, rfl, g22⟩, e23⟩ := g20
    have e23 := e23.symm
    subst e23
    have wx21 := ti_full x21
    replace g22 : 0 ≤ x21.toInt ∧ x21.toInt ≤ 1 ∧ ((x21.toInt = 1 ∧ (fv Po 302 (3 + 19 * t1.toInt.toNat)).toInt = 1) ∨ (x21.toInt = 0 ∧ (fv Po 302 (3 + 19 * t1.toInt.toNat)).toInt = 0)) := g22
    show MEvP _ none q_185 23 [(0, .ref 301), (1, .int t1), (2, .int v2), (3, .int v3), (4, .int v4)] [.int x21] _ _ _ _
    refine mp_Tb (t := 56) (j_if_ne dX7_widthOf_23) (by decide) (fun c24 => ?_) (fun c24 => mpp 26 rfl ?_)
    · have c24 : x21.toInt ≠ 0 := ti_ne c24
      refine mp_a (a_iconst (v := 0) dX7_widthOf_56 rfl) (mpp 57 rfl ?_)
      refine mp_a (a_istore (L' := [(4, .int 0), (0, .ref 301), (1, .int t1), (2, .int v2), (3, .int v3)]) dX7_widthOf_57 (by decide) rfl) (mpp 59 rfl ?_)
      refine MEvP.less (L := [(0, .ref 301), (1, .int t1), (2, .int v2), (3, .int v3), (4, .int 0)]) rfl rfl ⟨rfl, rfl, rfl, rfl, rfl, trivial⟩ ?_
      have i25 : ((fv Po 302 (3 + 19 * t1.toInt.toNat)).toInt = 0 ∧ v2 = loF (fun j : Nat => fv Po 302 (6 + 19 * t1.toInt.toNat + j)) (fv Po 302 (4 + 19 * t1.toInt.toNat)).toInt.toNat ∧ v3 = hiF (fun j : Nat => fv Po 302 (6 + 19 * t1.toInt.toNat + j)) (fv Po 302 (4 + 19 * t1.toInt.toNat)).toInt.toNat) ∨ ((fv Po 302 (3 + 19 * t1.toInt.toNat)).toInt = 1 ∧ v2 = 0 ∧ v3 = mxF (fun j : Nat => fv Po 302 (6 + 19 * t1.toInt.toNat + j)) (0 : Int).toNat ∧ (0 : Int) ≤ (fv Po 302 (4 + 19 * t1.toInt.toNat)).toInt) := by first | exact Or.inl ⟨by omega, i_0.trans (congrArg (loF _) (by omega)), i_1.trans (congrArg (hiF _) (by omega))⟩ | exact Or.inr ⟨by omega, i_0.trans (congrArg (loF _) (show _ = 0 by omega)), i_1.trans (congrArg (hiF _) (show _ = 0 by omega)), by omega⟩
      have i26 : 0 ≤ (0 : Int) := by omega
      exact c_M_widthOf_l59 hT  hp0 hp1 _ _ _ _ i25 i26 rfl
    · have c24 : x21.toInt = 0 := ti_ne_n c24
      refine mp_a (a_iload_n dX7_widthOf_26 rfl) (mpp 27 rfl ?_)
      refine mp_a (a_aload_n dX7_widthOf_27 rfl) (mpp 28 rfl ?_)
      refine mp_a (a_iload_n dX7_widthOf_28 rfl) (mpp 29 rfl ?_)
      refine mp_a (a_iload dX7_widthOf_29 rfl) (mpp 31 rfl ?_)
      have p27 : 0 ≤ t1.toInt := by omega
      have p28 : t1.toInt ≤ 7 := by omega
      have p29 : v4.toInt ≤ 8 := by omega
      refine mt_callv (i := 225) (q' := q_186) (As := [.int t1, .int v4]) (rest := [.int v2]) hT dX7_widthOf_31 rfl qm_186 (by decide) rfl rl_301 (by decide) rfl (Nat.le_of_ble_eq_true rfl) rfl ⟨rfl, rfl⟩ ⟨Nat.le_of_ble_eq_true rfl, Nat.le_of_ble_eq_true rfl⟩ (EvP.mono (by decide) (c_M_placeOf hT p27 p28 p29 )) (fun r30 P31 g32 => mpp 34 rfl ?_)
      obtain ⟨⟨x33, rfl, g34⟩, e35⟩ := g32
      have e35 := e35.symm
      subst e35
      have wx33 := ti_full x33
      replace g34 : x33.toInt = (plF (fun j : Nat => fv Po 302 (6 + 19 * t1.toInt.toNat + j)) v4.toInt.toNat).toInt := g34
      show MEvP _ none q_185 34 [(0, .ref 301), (1, .int t1), (2, .int v2), (3, .int v3), (4, .int v4)] [.int x33, .int v2] _ _ _ _
      refine mp_calls (i := 155) (q' := q_158) (As := [.int v2, .int x33]) (rest := []) dX7_widthOf_34 rfl qm_158 (by decide) rfl (Nat.le_of_ble_eq_true rfl) rfl ⟨rfl, rfl⟩ ⟨Nat.le_of_ble_eq_true rfl, Nat.le_of_ble_eq_true rfl⟩ (EvP.mono (by decide) (c_M_lesser hT )) (fun r36 P37 g38 => mpp 37 rfl ?_)
      obtain ⟨⟨x39, rfl, g40⟩, e41⟩ := g38
      have e41 := e41.symm
      subst e41
      have wx39 := ti_full x39
      replace g40 : (x39.toInt = v2.toInt ∧ v2.toInt ≤ x33.toInt) ∨ (x39.toInt = x33.toInt ∧ x33.toInt ≤ v2.toInt) := g40
      show MEvP _ none q_185 37 [(0, .ref 301), (1, .int t1), (2, .int v2), (3, .int v3), (4, .int v4)] [.int x39] _ _ _ _
      refine mp_a (a_istore_n (L' := [(2, .int x39), (0, .ref 301), (1, .int t1), (3, .int v3), (4, .int v4)]) dX7_widthOf_37 (by decide) rfl) (mpp 38 rfl ?_)
      refine mp_a (a_iload_n dX7_widthOf_38 rfl) (mpp 39 rfl ?_)
      refine mp_a (a_aload_n dX7_widthOf_39 rfl) (mpp 40 rfl ?_)
      refine mp_a (a_iload_n dX7_widthOf_40 rfl) (mpp 41 rfl ?_)
      refine mp_a (a_iload dX7_widthOf_41 rfl) (mpp 43 rfl ?_)
      have p42 : 0 ≤ t1.toInt := by omega
      have p43 : t1.toInt ≤ 7 := by omega
      have p44 : v4.toInt ≤ 8 := by omega
      refine mt_callv (i := 225) (q' := q_186) (As := [.int t1, .int v4]) (rest := [.int v3]) hT dX7_widthOf_43 rfl qm_186 (by decide) rfl rl_301 (by decide) rfl (Nat.le_of_ble_eq_true rfl) rfl ⟨rfl, rfl⟩ ⟨Nat.le_of_ble_eq_true rfl, Nat.le_of_ble_eq_true rfl⟩ (EvP.mono (by decide) (c_M_placeOf hT p42 p43 p44 )) (fun r45 P46 g47 => mpp 46 rfl ?_)
      obtain ⟨⟨x48, rfl, g49⟩, e50⟩ := g47
      have e50 := e50.symm
      subst e50
      have wx48 := ti_full x48
      replace g49 : x48.toInt = (plF (fun j : Nat => fv Po 302 (6 + 19 * t1.toInt.toNat + j)) v4.toInt.toNat).toInt := g49
      show MEvP _ none q_185 46 [(2, .int x39), (0, .ref 301), (1, .int t1), (3, .int v3), (4, .int v4)] [.int x48, .int v3] _ _ _ _
      refine mp_calls (i := 178) (q' := q_173) (As := [.int v3, .int x48]) (rest := []) dX7_widthOf_46 rfl qm_173 (by decide) rfl (Nat.le_of_ble_eq_true rfl) rfl ⟨rfl, rfl⟩ ⟨Nat.le_of_ble_eq_true rfl, Nat.le_of_ble_eq_true rfl⟩ (EvP.mono (by decide) (c_M_greater hT )) (fun r51 P52 g53 => mpp 49 rfl ?_)
      obtain ⟨⟨x54, rfl, g55⟩, e56⟩ := g53
      have e56 := e56.symm
      subst e56
      have wx54 := ti_full x54
      replace g55 : (x54.toInt = v3.toInt ∧ x48.toInt ≤ v3.toInt) ∨ (x54.toInt = x48.toInt ∧ v3.toInt ≤ x48.toInt) := g55
      show MEvP _ none q_185 49 [(2, .int x39), (0, .ref 301), (1, .int t1), (3, .int v3), (4, .int v4)] [.int x54] _ _ _ _
      refine mp_a (a_istore_n (L' := [(3, .int x54), (2, .int x39), (0, .ref 301), (1, .int t1), (4, .int v4)]) dX7_widthOf_49 (by decide) rfl) (mpp 50 rfl ?_)
      obtain ⟨z57, h58⟩ := ti_ex (v4 + 1 : Int32)
      have wz57 := ti_full z57
      refine mp_a (a_iinc (v := z57) (L' := [(4, .int z57), (3, .int x54), (2, .int x39), (0, .ref 301), (1, .int t1)]) dX7_widthOf_50 (by decide) rfl h58 rfl) (mpp 53 rfl ?_)
      try have e59 : z57.toInt = v4.toInt + 1 := ti_addz h58 rfl rfl (by omega) (by omega)
      refine mp_a (a_goto (t := 7) dX7_widthOf_53 (by decide)) ?_
      refine MEvP.less (L := [(0, .ref 301), (1, .int t1), (2, .int x39), (3, .int x54), (4, .int z57)]) rfl rfl ⟨rfl, rfl, rfl, rfl, rfl, trivial⟩ ?_
      have i60 : x39 = loF (fun j : Nat => fv Po 302 (6 + 19 * t1.toInt.toNat + j)) (z57.toInt.toNat - 1) := loF.both i_0 (x := x33) g34 (by omega) (mnI_of (by omega))
      have i61 : x54 = hiF (fun j : Nat => fv Po 302 (6 + 19 * t1.toInt.toNat + j)) (z57.toInt.toNat - 1) := hiF.both i_1 (x := x48) g49 (by omega) (mxI_of (by omega))
      have i62 : z57.toInt = 0 ∨ (z57.toInt ≤ (fv Po 302 (4 + 19 * t1.toInt.toNat)).toInt + 1 ∧ (fv Po 302 (3 + 19 * t1.toInt.toNat)).toInt = 0) := by omega
      have i63 : 0 ≤ z57.toInt := by omega
      exact ih _ (by omega) _ _ _ i60 i61 i62 i63 rfl

set_option maxHeartbeats 4000000 in
theorem c_M_widthOf {Po : mP} {t1 : Int32} (hT : Typ Po)  (hp0 : 0 ≤ t1.toInt) (hp1 : t1.toInt ≤ 7)  : EvP 5 185 [.ref 301, .int t1] Po (fun r P' => (∃ x : Int32, r = some (.int x) ∧ (x.toInt = (wdF (fv Po 302 (3 + 19 * t1.toInt.toNat)).toInt (fun j : Nat => fv Po 302 (6 + 19 * t1.toInt.toNat + j)) (fv Po 302 (4 + 19 * t1.toInt.toNat)).toInt.toNat).toInt)) ∧ P' = Po) := by
  refine EvP.of qm_185 (Nat.le_of_ble_eq_true rfl) rfl ?_
  show MEvP _ none q_185 0 [(0, .ref 301), (1, .int t1)] [] _ 0 0 _
  have w_t1 := ti_full t1
  try have g1 : (0 : Int) ≤ (fv Po 302 (3 + 19 * t1.toInt.toNat)).toInt ∧ (fv Po 302 (3 + 19 * t1.toInt.toNat)).toInt ≤ 1 := s3_rng hT (by omega)
  try have g2 : (0 : Int) ≤ (fv Po 302 (4 + 19 * t1.toInt.toNat)).toInt ∧ (fv Po 302 (4 + 19 * t1.toInt.toNat)).toInt ≤ 8 := s4_rng hT (by omega)
  refine mp_a (a_iconst (v := 0) dX7_widthOf_0 rfl) (mpp 1 rfl ?_)
  refine mp_a (a_istore_n (L' := [(2, .int 0), (0, .ref 301), (1, .int t1)]) dX7_widthOf_1 (by decide) rfl) (mpp 2 rfl ?_)
  refine mp_a (a_iconst (v := 0) dX7_widthOf_2 rfl) (mpp 3 rfl ?_)
  refine mp_a (a_istore_n (L' := [(3, .int 0), (2, .int 0), (0, .ref 301), (1, .int t1)]) dX7_widthOf_3 (by decide) rfl) (mpp 4 rfl ?_)
  refine mp_a (a_iconst (v := 0) dX7_widthOf_4 rfl) (mpp 5 rfl ?_)
  refine mp_a (a_istore (L' := [(4, .int 0), (3, .int 0), (2, .int 0), (0, .ref 301), (1, .int t1)]) dX7_widthOf_5 (by decide) rfl) (mpp 7 rfl ?_)
  refine MEvP.less (L := [(0, .ref 301), (1, .int t1), (2, .int 0), (3, .int 0), (4, .int 0)]) rfl rfl ⟨rfl, rfl, rfl, rfl, rfl, trivial⟩ ?_
  have i3 : 0 = loF (fun j : Nat => fv Po 302 (6 + 19 * t1.toInt.toNat + j)) ((0 : Int).toNat - 1) := rfl
  have i4 : 0 = hiF (fun j : Nat => fv Po 302 (6 + 19 * t1.toInt.toNat + j)) ((0 : Int).toNat - 1) := rfl
  have i5 : (0 : Int) = 0 ∨ ((0 : Int) ≤ (fv Po 302 (4 + 19 * t1.toInt.toNat)).toInt + 1 ∧ (fv Po 302 (3 + 19 * t1.toInt.toNat)).toInt = 0) := by omega
  have i6 : 0 ≤ (0 : Int) := by omega
  exact c_M_widthOf_l7 hT  hp0 hp1 _ _ _ _ i3 i4 i5 i6 rfl

set_option maxHeartbeats 4000000 in
theorem c_M_used_l4 {Po : mP}  (hT : Typ Po)   : ∀ (n : Nat) (v1 : Int32) (v2 : Int32), (v1 = smF (fun k : Nat => wpM (sr Po) k) v2.toInt.toNat) → (v2.toInt ≤ (fv Po 302 0).toInt) → (0 ≤ v2.toInt) → (2147483647 - v2.toInt).toNat = n → MEvP 5 none q_184 4 [(0, .ref 301), (1, .int v1), (2, .int v2)] [] Po 0 0 (fun r P' => (∃ x : Int32, r = some (.int x) ∧ (x.toInt = (smF (fun k : Nat => wpM (sr Po) k) (fv Po 302 0).toInt.toNat).toInt)) ∧ P' = Po) := by
  intro n
  induction n using Nat.strongRecOn with | _ n ih => ?_
  intro v1 v2 i_0 i_1 i_2 hm
  have w_v1 := ti_full v1
  have w_v2 := ti_full v2
  have g1 : (0 : Int) ≤ (fv Po 302 0).toInt ∧ (fv Po 302 0).toInt ≤ 8 := Typ.rng hT rl_302 (by decide) (by decide) rfl
  refine mp_a (a_iload_n dX7_used_4 rfl) (mpp 5 rfl ?_)
  refine mp_a (a_aload_n dX7_used_5 rfl) (mpp 6 rfl ?_)
  refine mt_getU (i := 9) (k := 0) (A := 302) hT dX7_used_6 rfl rl_301 (by decide) rfl (by decide) rfl un_18 (mpp 9 rfl ?_)
  refine mp_a (a_iconst (v := 0) dX7_used_9 rfl) (mpp 10 rfl ?_)
  refine mt_ialX (n := 155) hT dX7_used_10 rl_302 (by decide) rfl rfl (by decide) (by decide) ssp_0 (fun g2 => mpp 11 rfl ?_)
  have we4 := ti_full (fv Po 302 0)
  refine mp_Tb (t := 40) (j_icmp_ge dX7_used_11) (by decide) (fun c5 => ?_) (fun c5 => mpp 14 rfl ?_)
  · have c5 : v2.toInt ≥ (fv Po 302 0).toInt := ti_ge c5
    refine mp_a (a_iload_n dX7_used_40 rfl) (mpp 41 rfl ?_)
    have u6 : v1.toInt = (smF (fun k : Nat => wpM (sr Po) k) (fv Po 302 0).toInt.toNat).toInt := congrArg Int32.toInt (i_0.trans (congrArg (smF _) (by omega)))
    exact mp_iret ⟨⟨_, rfl, u6⟩, rfl⟩ dX7_used_41 (Or.inl rfl)
  · have c5 : v2.toInt < (fv Po 302 0).toInt := ti_ge_n c5
    refine mp_a (a_iload_n dX7_used_14 rfl) (mpp 15 rfl ?_)
    refine mp_a (a_aload_n dX7_used_15 rfl) (mpp 16 rfl ?_)
    refine mp_a (a_iload_n dX7_used_16 rfl) (mpp 17 rfl ?_)
    have p7 : 0 ≤ v2.toInt := by omega
    have p8 : v2.toInt ≤ 7 := by omega
    refine mt_callv (i := 130) (q' := q_145) (As := [.int v2]) (rest := [.int v1]) hT dX7_used_17 rfl qm_145 (by decide) rfl rl_301 (by decide) rfl (Nat.le_of_ble_eq_true rfl) rfl ⟨rfl, rfl⟩ ⟨Nat.le_of_ble_eq_true rfl, Nat.le_of_ble_eq_true rfl⟩ (EvP.mono (by decide) (c_M_isFolded hT p7 p8 )) (fun r9 P10 g11 => mpp 20 rfl ?_)
    obtain ⟨⟨x12, rfl, g13⟩, e14⟩ := g11
    have e14 := e14.symm
    subst e14
    have wx12 := ti_full x12
    replace g13 : 0 ≤ x12.toInt ∧ x12.toInt ≤ 1 ∧ ((x12.toInt = 1 ∧ (fv Po 302 (5 + 19 * v2.toInt.toNat)).toInt = 1) ∨ (x12.toInt = 0 ∧ (fv Po 302 (5 + 19 * v2.toInt.toNat)).toInt ≠ 1)) := g13
    have g15 := ti_full (fv Po 302 (5 + 19 * v2.toInt.toNat))
    show MEvP _ none q_184 20 [(0, .ref 301), (1, .int v1), (2, .int v2)] [.int x12, .int v1] _ _ _ _
    refine mp_Tb (t := 31) (j_if_eq dX7_used_20) (by decide) (fun c16 => ?_) (fun c16 => mpp 23 rfl ?_)
    · have c16 : x12.toInt = 0 := ti_eq c16
      refine mp_a (a_iconst (v := 0) dX7_used_31 rfl) (mpp 32 rfl ?_)
      obtain ⟨z17, h18⟩ := ti_ex (v1 + 0 : Int32)
      have wz17 := ti_full z17
      refine mp_t (s_iadd (v := z17) dX7_used_32 h18) (mpp 33 rfl ?_)
      try have e19 : z17.toInt = v1.toInt + 0 := ti_addz h18 rfl rfl (by omega) (by omega)
      refine mp_a (a_istore_n (L' := [(1, .int z17), (0, .ref 301), (2, .int v2)]) dX7_used_33 (by decide) rfl) (mpp 34 rfl ?_)
      obtain ⟨z20, h21⟩ := ti_ex (v2 + 1 : Int32)
      have wz20 := ti_full z20
      refine mp_a (a_iinc (v := z20) (L' := [(2, .int z20), (1, .int z17), (0, .ref 301)]) dX7_used_34 (by decide) rfl h21 rfl) (mpp 37 rfl ?_)
      try have e22 : z20.toInt = v2.toInt + 1 := ti_addz h21 rfl rfl (by omega) (by omega)
      refine mp_a (a_goto (t := 4) dX7_used_37 (by decide)) ?_
      refine MEvP.less (L := [(0, .ref 301), (1, .int z17), (2, .int z20)]) rfl rfl ⟨rfl, rfl, rfl, trivial⟩ ?_
      have i23 : z17 = smF (fun k : Nat => wpM (sr Po) k) z20.toInt.toNat := smF.step i_0 (by omega) (by show _ = (wpM (sr Po) v2.toInt.toNat).toInt; rw [wpM.no (by omega)]) h18
      have i24 : z20.toInt ≤ (fv Po 302 0).toInt := by omega
      have i25 : 0 ≤ z20.toInt := by omega
      exact ih _ (by omega) _ _ i23 i24 i25 rfl
    · have c16 : x12.toInt ≠ 0 := ti_eq_n c16
      refine mp_a (a_aload_n dX7_used_23 rfl) (mpp 24 rfl ?_)
      refine mp_a (a_iload_n dX7_used_24 rfl) (mpp 25 rfl ?_)
      have p26 : 0 ≤ v2.toInt := by omega
      have p27 : v2.toInt ≤ 7 := by omega
      refine mt_callv (i := 228) (q' := q_185) (As := [.int v2]) (rest := [.int v1]) hT dX7_used_25 rfl qm_185 (by decide) rfl rl_301 (by decide) rfl (Nat.le_of_ble_eq_true rfl) rfl ⟨rfl, rfl⟩ ⟨Nat.le_of_ble_eq_true rfl, Nat.le_of_ble_eq_true rfl⟩ (EvP.mono (by decide) (c_M_widthOf hT p26 p27 )) (fun r28 P29 g30 => mpp 28 rfl ?_)
      obtain ⟨⟨x31, rfl, g32⟩, e33⟩ := g30
      have e33 := e33.symm
      subst e33
      have wx31 := ti_full x31
      replace g32 : x31.toInt = (wdF (fv Po 302 (3 + 19 * v2.toInt.toNat)).toInt (fun j : Nat => fv Po 302 (6 + 19 * v2.toInt.toNat + j)) (fv Po 302 (4 + 19 * v2.toInt.toNat)).toInt.toNat).toInt := g32
      try have g34 : (0 : Int) ≤ (fv Po 302 (3 + 19 * v2.toInt.toNat)).toInt ∧ (fv Po 302 (3 + 19 * v2.toInt.toNat)).toInt ≤ 1 := s3_rng hT (by omega)
      try have g35 : (0 : Int) ≤ (fv Po 302 (4 + 19 * v2.toInt.toNat)).toInt ∧ (fv Po 302 (4 + 19 * v2.toInt.toNat)).toInt ≤ 8 := s4_rng hT (by omega)
      show MEvP _ none q_184 28 [(0, .ref 301), (1, .int v1), (2, .int v2)] [.int x31, .int v1] _ _ _ _
      refine mp_a (a_goto (t := 32) dX7_used_28 (by decide)) ?_
      obtain ⟨z36, h37⟩ := ti_ex (v1 + x31 : Int32)
      have wz36 := ti_full z36
      refine mp_t (s_iadd (v := z36) dX7_used_32 h37) (mpp 33 rfl ?_)
      try have e38 : z36.toInt = v1.toInt + x31.toInt := ti_addz h37 rfl rfl (by omega) (by omega)
      refine mp_a (a_istore_n (L' := [(1, .int z36), (0, .ref 301), (2, .int v2)]) dX7_used_33 (by decide) rfl) (mpp 34 rfl ?_)
      obtain ⟨z39, h40⟩ := ti_ex (v2 + 1 : Int32)
      have wz39 := ti_full z39
      refine mp_a (a_iinc (v := z39) (L' := [(2, .int z39), (1, .int z36), (0, .ref 301)]) dX7_used_34 (by decide) rfl h40 rfl) (mpp 37 rfl ?_)
      try have e41 : z39.toInt = v2.toInt + 1 := ti_addz h40 rfl rfl (by omega) (by omega)
      refine mp_a (a_goto (t := 4) dX7_used_37 (by decide)) ?_
      refine MEvP.less (L := [(0, .ref 301), (1, .int z36), (2, .int z39)]) rfl rfl ⟨rfl, rfl, rfl, trivial⟩ ?_
      have i42 : z36 = smF (fun k : Nat => wpM (sr Po) k) z39.toInt.toNat := smF.step i_0 (by omega) (by show _ = (wpM (sr Po) v2.toInt.toNat).toInt; exact wpM.yes g32 (by omega)) h37
      have i43 : z39.toInt ≤ (fv Po 302 0).toInt := by omega
      have i44 : 0 ≤ z39.toInt := by omega
      exact ih _ (by omega) _ _ i42 i43 i44 rfl

set_option maxHeartbeats 4000000 in
theorem c_M_used {Po : mP}  (hT : Typ Po)   : EvP 6 184 [.ref 301] Po (fun r P' => (∃ x : Int32, r = some (.int x) ∧ (x.toInt = (smF (fun k : Nat => wpM (sr Po) k) (fv Po 302 0).toInt.toNat).toInt)) ∧ P' = Po) := by
  refine EvP.of qm_184 (Nat.le_of_ble_eq_true rfl) rfl ?_
  show MEvP _ none q_184 0 [(0, .ref 301)] [] _ 0 0 _
  have g1 : (0 : Int) ≤ (fv Po 302 0).toInt ∧ (fv Po 302 0).toInt ≤ 8 := Typ.rng hT rl_302 (by decide) (by decide) rfl
  refine mp_a (a_iconst (v := 0) dX7_used_0 rfl) (mpp 1 rfl ?_)
  refine mp_a (a_istore_n (L' := [(1, .int 0), (0, .ref 301)]) dX7_used_1 (by decide) rfl) (mpp 2 rfl ?_)
  refine mp_a (a_iconst (v := 0) dX7_used_2 rfl) (mpp 3 rfl ?_)
  refine mp_a (a_istore_n (L' := [(2, .int 0), (1, .int 0), (0, .ref 301)]) dX7_used_3 (by decide) rfl) (mpp 4 rfl ?_)
  refine MEvP.less (L := [(0, .ref 301), (1, .int 0), (2, .int 0)]) rfl rfl ⟨rfl, rfl, rfl, trivial⟩ ?_
  have i2 : 0 = smF (fun k : Nat => wpM (sr Po) k) (0 : Int).toNat := rfl
  have i3 : (0 : Int) ≤ (fv Po 302 0).toInt := by omega
  have i4 : 0 ≤ (0 : Int) := by omega
  exact c_M_used_l4 hT   _ _ _ i2 i3 i4 rfl

set_option maxHeartbeats 4000000 in
theorem c_M_refuses {Po : mP} {t1 : Int32} {t2 : Int32} (hT : Typ Po)   : EvP 1 134 [.ref 301, .int t1, .int t2] Po (fun r P' => (∃ x : Int32, r = some (.int x) ∧ (x.toInt = -1003)) ∧ Typ P' ∧ KW [1093, 1094] Po P' ∧ KI 301 302 Po P') := by
  refine EvP.of qm_134 (Nat.le_of_ble_eq_true rfl) rfl ?_
  show MEvP _ none q_134 0 [(0, .ref 301), (1, .int t1), (2, .int t2)] [] _ 0 0 _
  have w_t1 := ti_full t1
  have w_t2 := ti_full t2
  refine mp_a (a_aload_n dX7_refuses_0 rfl) (mpp 1 rfl ?_)
  refine mp_a (a_iload_n dX7_refuses_1 rfl) (mpp 2 rfl ?_)
  refine mt_putI (i := 68) (k := 5) (x := t1) hT dX7_refuses_2 rfl rl_301 (by decide) rfl (by decide) rfl (ti_full t1) rfl rfl (fun P1 hT2 f3 f4 f5 => mpp 5 rfl ?_)
  have k6 : KW [1093, 1094] Po P1 := KW.step KW.refl rl_301 rfl f4 f5
  have e7 : (fv P1 301 5).toInt = t1.toInt := congrArg Int32.toInt f3
  refine mp_a (a_aload_n dX7_refuses_5 rfl) (mpp 6 rfl ?_)
  refine mp_a (a_iload_n dX7_refuses_6 rfl) (mpp 7 rfl ?_)
  refine mt_putI (i := 71) (k := 6) (x := t2) hT2 dX7_refuses_7 rfl rl_301 (by decide) rfl (by decide) rfl (ti_full t2) rfl rfl (fun P8 hT9 f10 f11 f12 => mpp 10 rfl ?_)
  have k13 : KW [1093, 1094] Po P8 := KW.step k6 rl_301 rfl f11 f12
  have e14 : (fv P8 301 6).toInt = t2.toInt := congrArg Int32.toInt f10
  refine mp_a (a_sipush (v := -1003) dX7_refuses_10 rfl) (mpp 13 rfl ?_)
  have u15 : (-1003 : Int) = -1003 := by omega
  have u16 : KI 301 302 Po P8 := by
    intro x j hx
    rw [f11 x j (by omega), f4 x j (by omega)]
  exact mp_iret ⟨⟨_, rfl, u15⟩, hT9, k13, u16⟩ dX7_refuses_13 (Or.inl rfl)

set_option maxHeartbeats 4000000 in
theorem c_M_stages {Po : mP} {t1 : Int32} (hT : Typ Po) (hR : Rel Po)  : EvP 7 183 [.ref 301, .int t1] Po (fun r P' => (∃ x : Int32, r = some (.int x) ∧ (stagesM (sr Po) (sr P') x.toInt t1.toInt)) ∧ Typ P' ∧ KW [1093, 1094, 1152] Po P' ∧ Rel P') := by
  refine EvP.of qm_183 (Nat.le_of_ble_eq_true rfl) rfl ?_
  show MEvP _ none q_183 0 [(0, .ref 301), (1, .int t1)] [] _ 0 0 _
  have w_t1 := ti_full t1
  refine mp_a (a_iload_n dX7_stages_0 rfl) (mpp 1 rfl ?_)
  refine mp_a (a_iconst (v := 1) dX7_stages_1 rfl) (mpp 2 rfl ?_)
  refine mp_a (a_bipush (v := 99) dX7_stages_2 rfl) (mpp 4 rfl ?_)
  refine mp_calls (i := 61) (q' := q_127) (As := [.int t1, .int 1, .int 99]) (rest := []) dX7_stages_4 rfl qm_127 (by decide) rfl (Nat.le_of_ble_eq_true rfl) rfl ⟨rfl, rfl⟩ ⟨Nat.le_of_ble_eq_true rfl, Nat.le_of_ble_eq_true rfl⟩ (EvP.mono (by decide) (c_M_isIn hT )) (fun r1 P2 g3 => mpp 7 rfl ?_)
  obtain ⟨⟨x4, rfl, g5⟩, e6⟩ := g3
  have e6 := e6.symm
  subst e6
  have wx4 := ti_full x4
  replace g5 : 0 ≤ x4.toInt ∧ x4.toInt ≤ 1 ∧ ((x4.toInt = 1 ∧ (1 : Int) ≤ t1.toInt ∧ t1.toInt ≤ (99 : Int)) ∨ (x4.toInt = 0 ∧ (t1.toInt < (1 : Int) ∨ (99 : Int) < t1.toInt))) := g5
  show MEvP _ none q_183 7 [(0, .ref 301), (1, .int t1)] [.int x4] _ _ _ _
  refine mp_Tb (t := 14) (j_if_ne dX7_stages_7) (by decide) (fun c7 => ?_) (fun c7 => mpp 10 rfl ?_)
  · have c7 : x4.toInt ≠ 0 := ti_ne c7
    refine mp_a (a_aload_n dX7_stages_14 rfl) (mpp 15 rfl ?_)
    refine mt_callv (i := 231) (q' := q_184) (As := []) (rest := []) hT dX7_stages_15 rfl qm_184 (by decide) rfl rl_301 (by decide) rfl (Nat.le_of_ble_eq_true rfl) rfl ⟨rfl, rfl⟩ ⟨Nat.le_of_ble_eq_true rfl, Nat.le_of_ble_eq_true rfl⟩ (EvP.mono (by decide) (c_M_used hT )) (fun r8 P9 g10 => mpp 18 rfl ?_)
    obtain ⟨⟨x11, rfl, g12⟩, e13⟩ := g10
    have e13 := e13.symm
    subst e13
    have wx11 := ti_full x11
    replace g12 : x11.toInt = (smF (fun k : Nat => wpM (sr Po) k) (fv Po 302 0).toInt.toNat).toInt := g12
    have g14 : (0 : Int) ≤ (fv Po 302 0).toInt ∧ (fv Po 302 0).toInt ≤ 8 := Typ.rng hT rl_302 (by decide) (by decide) rfl
    show MEvP _ none q_183 18 [(0, .ref 301), (1, .int t1)] [.int x11] _ _ _ _
    refine mp_a (a_iload_n dX7_stages_18 rfl) (mpp 19 rfl ?_)
    refine mp_Tb (t := 35) (j_icmp_le dX7_stages_19) (by decide) (fun c15 => ?_) (fun c15 => mpp 22 rfl ?_)
    · have c15 : x11.toInt ≤ t1.toInt := ti_le c15
      refine mp_a (a_aload_n dX7_stages_35 rfl) (mpp 36 rfl ?_)
      refine mt_getU (i := 9) (k := 0) (A := 302) hT dX7_stages_36 rfl rl_301 (by decide) rfl (by decide) rfl un_18 (mpp 39 rfl ?_)
      refine mp_a (a_iconst (v := 1) dX7_stages_39 rfl) (mpp 40 rfl ?_)
      have g18 := ti_full (fv Po 302 1)
      refine mt_ialX (n := 155) hT dX7_stages_40 rl_302 (by decide) rfl rfl (by decide) (by decide) ssp_0 (fun g16 => mpp 41 rfl ?_)
      have we19 := ti_full (fv Po 302 1)
      refine mp_a (a_istore_n (L' := [(2, .int (fv Po 302 1)), (0, .ref 301), (1, .int t1)]) dX7_stages_41 (by decide) rfl) (mpp 42 rfl ?_)
      refine mp_a (a_aload_n dX7_stages_42 rfl) (mpp 43 rfl ?_)
      refine mt_getU (i := 9) (k := 0) (A := 302) hT dX7_stages_43 rfl rl_301 (by decide) rfl (by decide) rfl un_18 (mpp 46 rfl ?_)
      refine mp_a (a_iconst (v := 1) dX7_stages_46 rfl) (mpp 47 rfl ?_)
      refine mp_a (a_iload_n dX7_stages_47 rfl) (mpp 48 rfl ?_)
      refine mt_iasX (n := 155) hT dX7_stages_48 rl_302 (by decide) rfl rfl (by decide) (by decide) ssp_0 okS_c1 (fun P20 hT21 f22 f23 f24 => mpp 49 rfl ?_)
      have f22 : fv P20 302 1 = _ := f22
      have f23 : ∀ b j : Nat, ¬ (b = 302 ∧ j = 1) → fv P20 b j = fv Po b j := f23
      have k25 : KW [1093, 1094, 1152] Po P20 := KW.step KW.refl rl_302 rfl f23 f24
      have R26 := Rel.oth hR f23 (by decide)
      have e27 : (fv P20 302 1).toInt = t1.toInt := congrArg Int32.toInt f22
      refine mp_a (a_iload_n dX7_stages_49 rfl) (mpp 50 rfl ?_)
      have e29 : (fv P20 302 0).toInt = (fv Po 302 0).toInt := congrArg Int32.toInt (f23 302 0 (by omega))
      have e30 : (fv P20 302 2).toInt = (fv Po 302 2).toInt := congrArg Int32.toInt (f23 302 2 (by omega))
      have u28 : stagesM (sr Po) (sr P20) (fv Po 302 1).toInt t1.toInt := (show ((fv Po 302 1).toInt = -1002 ∧ (t1.toInt < 1 ∨ 99 < t1.toInt) ∧ (∀ j : Nat, fv P20 302 j = fv Po 302 j)) ∨ ((fv Po 302 1).toInt = -1003 ∧ (1 ≤ t1.toInt ∧ t1.toInt ≤ 99) ∧ t1.toInt < (smF (fun k : Nat => wpM (sr Po) k) ((fv Po 302 (0)).toInt).toNat).toInt ∧ (∀ j : Nat, fv P20 302 j = fv Po 302 j)) ∨ ((1 ≤ t1.toInt ∧ t1.toInt ≤ 99) ∧ (smF (fun k : Nat => wpM (sr Po) k) ((fv Po 302 (0)).toInt).toNat).toInt ≤ t1.toInt ∧ (fv Po 302 1).toInt = (fv Po 302 (1)).toInt ∧ (fv P20 302 (1)).toInt = t1.toInt ∧ (∀ j : Nat, ¬ j = 1 → fv P20 302 j = fv Po 302 j)) from Or.inr (Or.inr (⟨by omega, by omega, by omega, by omega, fun j h => by rw [f23 302 j (by omega)]⟩)))
      exact mp_iret ⟨⟨_, rfl, u28⟩, hT21, k25, R26⟩ dX7_stages_50 (Or.inl rfl)
    · have c15 : x11.toInt > t1.toInt := ti_le_n c15
      refine mp_a (a_aload_n dX7_stages_22 rfl) (mpp 23 rfl ?_)
      refine mp_a (a_bipush (v := 7) dX7_stages_23 rfl) (mpp 25 rfl ?_)
      refine mp_a (a_aload_n dX7_stages_25 rfl) (mpp 26 rfl ?_)
      refine mt_callv (i := 231) (q' := q_184) (As := []) (rest := [.int 7, .ref 301]) hT dX7_stages_26 rfl qm_184 (by decide) rfl rl_301 (by decide) rfl (Nat.le_of_ble_eq_true rfl) rfl ⟨rfl, rfl⟩ ⟨Nat.le_of_ble_eq_true rfl, Nat.le_of_ble_eq_true rfl⟩ (EvP.mono (by decide) (c_M_used hT )) (fun r31 P32 g33 => mpp 29 rfl ?_)
      obtain ⟨⟨x34, rfl, g35⟩, e36⟩ := g33
      have e36 := e36.symm
      subst e36
      have wx34 := ti_full x34
      replace g35 : x34.toInt = (smF (fun k : Nat => wpM (sr Po) k) (fv Po 302 0).toInt.toNat).toInt := g35
      show MEvP _ none q_183 29 [(0, .ref 301), (1, .int t1)] [.int x34, .int 7, .ref 301] _ _ _ _
      refine mp_a (a_iload_n dX7_stages_29 rfl) (mpp 30 rfl ?_)
      obtain ⟨z37, h38⟩ := ti_ex (x34 - t1 : Int32)
      have wz37 := ti_full z37
      refine mp_t (s_isub (v := z37) dX7_stages_30 h38) (mpp 31 rfl ?_)
      try have e39 : z37.toInt = x34.toInt - t1.toInt := ti_subz h38 rfl rfl (by omega) (by omega)
      refine mt_callv (i := 101) (q' := q_134) (As := [.int 7, .int z37]) (rest := []) hT dX7_stages_31 rfl qm_134 (by decide) rfl rl_301 (by decide) rfl (Nat.le_of_ble_eq_true rfl) rfl ⟨rfl, rfl⟩ ⟨Nat.le_of_ble_eq_true rfl, Nat.le_of_ble_eq_true rfl⟩ (EvP.mono (by decide) (c_M_refuses hT )) (fun r40 P41 g42 => mpp 34 rfl ?_)
      obtain ⟨⟨x43, rfl, g44⟩, hT45, k46, R47⟩ := g42
      have k48 : KW [1093, 1094, 1152] Po P41 := KW.trans KW.refl k46 rfl
      have R50 := Rel.kw hR k46 rfl
      have wx43 := ti_full x43
      replace g44 : x43.toInt = -1003 := g44
      show MEvP _ none q_183 34 [(0, .ref 301), (1, .int t1)] [.int x43] _ _ _ _
      have e52 : (fv P41 302 0).toInt = (fv Po 302 0).toInt := congrArg Int32.toInt (R47 302 0 (by omega))
      have e53 : (fv P41 302 1).toInt = (fv Po 302 1).toInt := congrArg Int32.toInt (R47 302 1 (by omega))
      have e54 : (fv P41 302 2).toInt = (fv Po 302 2).toInt := congrArg Int32.toInt (R47 302 2 (by omega))
      have u51 : stagesM (sr Po) (sr P41) x43.toInt t1.toInt := (show (x43.toInt = -1002 ∧ (t1.toInt < 1 ∨ 99 < t1.toInt) ∧ (∀ j : Nat, fv P41 302 j = fv Po 302 j)) ∨ (x43.toInt = -1003 ∧ (1 ≤ t1.toInt ∧ t1.toInt ≤ 99) ∧ t1.toInt < (smF (fun k : Nat => wpM (sr Po) k) ((fv Po 302 (0)).toInt).toNat).toInt ∧ (∀ j : Nat, fv P41 302 j = fv Po 302 j)) ∨ ((1 ≤ t1.toInt ∧ t1.toInt ≤ 99) ∧ (smF (fun k : Nat => wpM (sr Po) k) ((fv Po 302 (0)).toInt).toNat).toInt ≤ t1.toInt ∧ x43.toInt = (fv Po 302 (1)).toInt ∧ (fv P41 302 (1)).toInt = t1.toInt ∧ (∀ j : Nat, ¬ j = 1 → fv P41 302 j = fv Po 302 j)) from Or.inr (Or.inl (⟨by omega, by omega, by omega, fun j => by rw [R47 302 j (by omega)]⟩)))
      exact mp_iret ⟨⟨_, rfl, u51⟩, hT45, k48, R50⟩ dX7_stages_34 (Or.inl rfl)
  · have c7 : x4.toInt = 0 := ti_ne_n c7
    refine mp_a (a_sipush (v := -1002) dX7_stages_10 rfl) (mpp 13 rfl ?_)
    have u55 : stagesM (sr Po) (sr Po) (-1002 : Int) t1.toInt := (show ((-1002 : Int) = -1002 ∧ (t1.toInt < 1 ∨ 99 < t1.toInt) ∧ (∀ j : Nat, fv Po 302 j = fv Po 302 j)) ∨ ((-1002 : Int) = -1003 ∧ (1 ≤ t1.toInt ∧ t1.toInt ≤ 99) ∧ t1.toInt < (smF (fun k : Nat => wpM (sr Po) k) ((fv Po 302 (0)).toInt).toNat).toInt ∧ (∀ j : Nat, fv Po 302 j = fv Po 302 j)) ∨ ((1 ≤ t1.toInt ∧ t1.toInt ≤ 99) ∧ (smF (fun k : Nat => wpM (sr Po) k) ((fv Po 302 (0)).toInt).toNat).toInt ≤ t1.toInt ∧ (-1002 : Int) = (fv Po 302 (1)).toInt ∧ (fv Po 302 (1)).toInt = t1.toInt ∧ (∀ j : Nat, ¬ j = 1 → fv Po 302 j = fv Po 302 j)) from Or.inl (⟨by omega, by omega, fun j => rfl⟩))
    exact mp_iret ⟨⟨_, rfl, u55⟩, hT, KW.refl, hR⟩ dX7_stages_13 (Or.inl rfl)

set_option maxHeartbeats 4000000 in
theorem c_M_copies_was_past_l3 {Po : mP} {t1 : Int32} {t3 : Int32} (hp0 : 0 ≤ t1.toInt) (hp1 : t1.toInt + 155 ≤ 155) (hp2 : t1.toInt % 155 = 0) (hp3 : 0 ≤ t3.toInt) (hp4 : t3.toInt + 155 ≤ 1240) (hp5 : t3.toInt % 155 = 0)  : ∀ (n : Nat) (v4 : Int32), ∀ (P : mP), Typ P → KW [1344] Po P → (CPY Po P 303 t1.toInt.toNat 305 t3.toInt.toNat v4.toInt.toNat) → (v4.toInt ≤ 155) → (0 ≤ v4.toInt) → (2147483647 - v4.toInt).toNat = n → MEvP 0 none q_125 3 [(0, .ref 303), (1, .int t1), (2, .ref 305), (3, .int t3), (4, .int v4)] [] P 0 0 (fun r P' => (r = none ∧ (CPY Po P' 303 t1.toInt.toNat 305 t3.toInt.toNat 155)) ∧ Typ P' ∧ KW [1344] Po P' ∧ True) := by
  intro n
  induction n using Nat.strongRecOn with | _ n ih => ?_
  intro v4 P hT hK i_0 i_1 i_2 hm
  have w_t1 := ti_full t1
  have w_t3 := ti_full t3
  have w_v4 := ti_full v4
  refine mp_a (a_iload dX7_copies_3 rfl) (mpp 5 rfl ?_)
  refine mp_a (a_sipush (v := 155) dX7_copies_5 rfl) (mpp 8 rfl ?_)
  refine mp_Tb (t := 29) (j_icmp_ge dX7_copies_8) (by decide) (fun c1 => ?_) (fun c1 => mpp 11 rfl ?_)
  · have c1 : v4.toInt ≥ 155 := ti_ge c1
    have u2 : CPY Po P 303 t1.toInt.toNat 305 t3.toInt.toNat 155 := CPY.fin i_0 (by omega)
    exact mp_ret ⟨⟨rfl, u2⟩, hT, hK, trivial⟩ dX7_copies_29 rfl
  · have c1 : v4.toInt < 155 := ti_ge_n c1
    refine mp_a (a_aload_n dX7_copies_11 rfl) (mpp 12 rfl ?_)
    refine mp_a (a_iload_n dX7_copies_12 rfl) (mpp 13 rfl ?_)
    refine mp_a (a_iload dX7_copies_13 rfl) (mpp 15 rfl ?_)
    obtain ⟨z3, h4⟩ := ti_ex (t3 + v4 : Int32)
    have wz3 := ti_full z3
    refine mp_t (s_iadd (v := z3) dX7_copies_15 h4) (mpp 16 rfl ?_)
    try have e5 : z3.toInt = t3.toInt + v4.toInt := ti_addz h4 rfl rfl (by omega) (by omega)
    refine mp_a (a_aload_n dX7_copies_16 rfl) (mpp 17 rfl ?_)
    refine mp_a (a_iload_n dX7_copies_17 rfl) (mpp 18 rfl ?_)
    refine mp_a (a_iload dX7_copies_18 rfl) (mpp 20 rfl ?_)
    obtain ⟨z6, h7⟩ := ti_ex (t1 + v4 : Int32)
    have wz6 := ti_full z6
    refine mp_t (s_iadd (v := z6) dX7_copies_20 h7) (mpp 21 rfl ?_)
    try have e8 : z6.toInt = t1.toInt + v4.toInt := ti_addz h7 rfl rfl (by omega) (by omega)
    refine mt_ialX (n := 155) hT dX7_copies_21 rl_303 (by decide) rfl rfl (by omega) (by omega) ssp_0 (fun g9 => mpp 22 rfl ?_)
    have we11 := ti_full (fv P 303 z6.toInt.toNat)
    refine mt_iasX (n := 1240) hT dX7_copies_22 rl_305 (by decide) rfl rfl (by omega) (by omega) (fun j => ssp_0 (j % 155)) (okS_pp (f := (rsp 19).2.2) (g := (rsp 21).2.2) (sspm (by omega)) rfl g9 (by omega)) (fun P12 hT13 f14 f15 f16 => mpp 23 rfl ?_)
    have k17 : KW [1344] Po P12 := KW.step hK rl_305 rfl f15 f16
    obtain ⟨z18, h19⟩ := ti_ex (v4 + 1 : Int32)
    have wz18 := ti_full z18
    refine mp_a (a_iinc (v := z18) (L' := [(4, .int z18), (0, .ref 303), (1, .int t1), (2, .ref 305), (3, .int t3)]) dX7_copies_23 (by decide) rfl h19 rfl) (mpp 26 rfl ?_)
    try have e20 : z18.toInt = v4.toInt + 1 := ti_addz h19 rfl rfl (by omega) (by omega)
    refine mp_a (a_goto (t := 3) dX7_copies_26 (by decide)) ?_
    refine MEvP.less (L := [(0, .ref 303), (1, .int t1), (2, .ref 305), (3, .int t3), (4, .int z18)]) rfl rfl ⟨rfl, rfl, rfl, rfl, rfl, trivial⟩ ?_
    have i21 : CPY Po P12 303 t1.toInt.toNat 305 t3.toInt.toNat z18.toInt.toNat := CPY.step i_0 f14 f15 (by omega) (by omega) (by omega) (Or.inl (by decide))
    have i22 : z18.toInt ≤ 155 := by omega
    have i23 : 0 ≤ z18.toInt := by omega
    exact ih _ (by omega) _ P12 hT13 k17 i21 i22 i23 rfl

set_option maxHeartbeats 4000000 in
theorem c_M_copies_was_past {Po : mP} {t1 : Int32} {t3 : Int32} (hT : Typ Po)  (hp0 : 0 ≤ t1.toInt) (hp1 : t1.toInt + 155 ≤ 155) (hp2 : t1.toInt % 155 = 0) (hp3 : 0 ≤ t3.toInt) (hp4 : t3.toInt + 155 ≤ 1240) (hp5 : t3.toInt % 155 = 0)  : EvP 1 125 [.ref 303, .int t1, .ref 305, .int t3] Po (fun r P' => (r = none ∧ (CPY Po P' 303 t1.toInt.toNat 305 t3.toInt.toNat 155)) ∧ Typ P' ∧ KW [1344] Po P' ∧ True) := by
  refine EvP.of qm_125 (Nat.le_of_ble_eq_true rfl) rfl ?_
  show MEvP _ none q_125 0 [(0, .ref 303), (1, .int t1), (2, .ref 305), (3, .int t3)] [] _ 0 0 _
  have w_t1 := ti_full t1
  have w_t3 := ti_full t3
  refine mp_a (a_iconst (v := 0) dX7_copies_0 rfl) (mpp 1 rfl ?_)
  refine mp_a (a_istore (L' := [(4, .int 0), (0, .ref 303), (1, .int t1), (2, .ref 305), (3, .int t3)]) dX7_copies_1 (by decide) rfl) (mpp 3 rfl ?_)
  refine MEvP.less (L := [(0, .ref 303), (1, .int t1), (2, .ref 305), (3, .int t3), (4, .int 0)]) rfl rfl ⟨rfl, rfl, rfl, rfl, rfl, trivial⟩ ?_
  have i1 : CPY Po Po 303 t1.toInt.toNat 305 t3.toInt.toNat (0 : Int).toNat := CPY.start (by decide)
  have i2 : (0 : Int) ≤ 155 := by omega
  have i3 : 0 ≤ (0 : Int) := by omega
  exact c_M_copies_was_past_l3   hp0 hp1 hp2 hp3 hp4 hp5 _ _ Po hT KW.refl i1 i2 i3 rfl

set_option maxHeartbeats 4000000 in
theorem c_M_copies_past_past_l3 {Po : mP} {t1 : Int32} {t3 : Int32} (hp0 : 0 ≤ t1.toInt) (hp1 : t1.toInt + 155 ≤ 1240) (hp2 : t1.toInt % 155 = 0) (hp3 : 0 ≤ t3.toInt) (hp4 : t3.toInt + 155 ≤ 1240) (hp5 : t3.toInt % 155 = 0) (hp6 : t3.toInt + 155 ≤ t1.toInt)  : ∀ (n : Nat) (v4 : Int32), ∀ (P : mP), Typ P → KW [1344] Po P → (CPY Po P 305 t1.toInt.toNat 305 t3.toInt.toNat v4.toInt.toNat) → (v4.toInt ≤ 155) → (0 ≤ v4.toInt) → (2147483647 - v4.toInt).toNat = n → MEvP 0 none q_125 3 [(0, .ref 305), (1, .int t1), (2, .ref 305), (3, .int t3), (4, .int v4)] [] P 0 0 (fun r P' => (r = none ∧ (CPY Po P' 305 t1.toInt.toNat 305 t3.toInt.toNat 155)) ∧ Typ P' ∧ KW [1344] Po P' ∧ True) := by
  intro n
  induction n using Nat.strongRecOn with | _ n ih => ?_
  intro v4 P hT hK i_0 i_1 i_2 hm
  have w_t1 := ti_full t1
  have w_t3 := ti_full t3
  have w_v4 := ti_full v4
  refine mp_a (a_iload dX7_copies_3 rfl) (mpp 5 rfl ?_)
  refine mp_a (a_sipush (v := 155) dX7_copies_5 rfl) (mpp 8 rfl ?_)
  refine mp_Tb (t := 29) (j_icmp_ge dX7_copies_8) (by decide) (fun c1 => ?_) (fun c1 => mpp 11 rfl ?_)
  · have c1 : v4.toInt ≥ 155 := ti_ge c1
    have u2 : CPY Po P 305 t1.toInt.toNat 305 t3.toInt.toNat 155 := CPY.fin i_0 (by omega)
    exact mp_ret ⟨⟨rfl, u2⟩, hT, hK, trivial⟩ dX7_copies_29 rfl
  · have c1 : v4.toInt < 155 := ti_ge_n c1
    refine mp_a (a_aload_n dX7_copies_11 rfl) (mpp 12 rfl ?_)
    refine mp_a (a_iload_n dX7_copies_12 rfl) (mpp 13 rfl ?_)
    refine mp_a (a_iload dX7_copies_13 rfl) (mpp 15 rfl ?_)
    obtain ⟨z3, h4⟩ := ti_ex (t3 + v4 : Int32)
    have wz3 := ti_full z3
    refine mp_t (s_iadd (v := z3) dX7_copies_15 h4) (mpp 16 rfl ?_)
    try have e5 : z3.toInt = t3.toInt + v4.toInt := ti_addz h4 rfl rfl (by omega) (by omega)
    refine mp_a (a_aload_n dX7_copies_16 rfl) (mpp 17 rfl ?_)
    refine mp_a (a_iload_n dX7_copies_17 rfl) (mpp 18 rfl ?_)
    refine mp_a (a_iload dX7_copies_18 rfl) (mpp 20 rfl ?_)
    obtain ⟨z6, h7⟩ := ti_ex (t1 + v4 : Int32)
    have wz6 := ti_full z6
    refine mp_t (s_iadd (v := z6) dX7_copies_20 h7) (mpp 21 rfl ?_)
    try have e8 : z6.toInt = t1.toInt + v4.toInt := ti_addz h7 rfl rfl (by omega) (by omega)
    refine mt_ialX (n := 1240) hT dX7_copies_21 rl_305 (by decide) rfl rfl (by omega) (by omega) (fun j => ssp_0 (j % 155)) (fun g9 => mpp 22 rfl ?_)
    have we11 := ti_full (fv P 305 z6.toInt.toNat)
    refine mt_iasX (n := 1240) hT dX7_copies_22 rl_305 (by decide) rfl rfl (by omega) (by omega) (fun j => ssp_0 (j % 155)) (okS_pp (f := (rsp 21).2.2) (g := (rsp 21).2.2) rfl rfl g9 (by omega)) (fun P12 hT13 f14 f15 f16 => mpp 23 rfl ?_)
    have k17 : KW [1344] Po P12 := KW.step hK rl_305 rfl f15 f16
    obtain ⟨z18, h19⟩ := ti_ex (v4 + 1 : Int32)
    have wz18 := ti_full z18
    refine mp_a (a_iinc (v := z18) (L' := [(4, .int z18), (0, .ref 305), (1, .int t1), (2, .ref 305), (3, .int t3)]) dX7_copies_23 (by decide) rfl h19 rfl) (mpp 26 rfl ?_)
    try have e20 : z18.toInt = v4.toInt + 1 := ti_addz h19 rfl rfl (by omega) (by omega)
    refine mp_a (a_goto (t := 3) dX7_copies_26 (by decide)) ?_
    refine MEvP.less (L := [(0, .ref 305), (1, .int t1), (2, .ref 305), (3, .int t3), (4, .int z18)]) rfl rfl ⟨rfl, rfl, rfl, rfl, rfl, trivial⟩ ?_
    have i21 : CPY Po P12 305 t1.toInt.toNat 305 t3.toInt.toNat z18.toInt.toNat := CPY.step i_0 f14 f15 (by omega) (by omega) (by omega) (Or.inr (by omega))
    have i22 : z18.toInt ≤ 155 := by omega
    have i23 : 0 ≤ z18.toInt := by omega
    exact ih _ (by omega) _ P12 hT13 k17 i21 i22 i23 rfl

set_option maxHeartbeats 4000000 in
theorem c_M_copies_past_past {Po : mP} {t1 : Int32} {t3 : Int32} (hT : Typ Po)  (hp0 : 0 ≤ t1.toInt) (hp1 : t1.toInt + 155 ≤ 1240) (hp2 : t1.toInt % 155 = 0) (hp3 : 0 ≤ t3.toInt) (hp4 : t3.toInt + 155 ≤ 1240) (hp5 : t3.toInt % 155 = 0) (hp6 : t3.toInt + 155 ≤ t1.toInt)  : EvP 1 125 [.ref 305, .int t1, .ref 305, .int t3] Po (fun r P' => (r = none ∧ (CPY Po P' 305 t1.toInt.toNat 305 t3.toInt.toNat 155)) ∧ Typ P' ∧ KW [1344] Po P' ∧ True) := by
  refine EvP.of qm_125 (Nat.le_of_ble_eq_true rfl) rfl ?_
  show MEvP _ none q_125 0 [(0, .ref 305), (1, .int t1), (2, .ref 305), (3, .int t3)] [] _ 0 0 _
  have w_t1 := ti_full t1
  have w_t3 := ti_full t3
  refine mp_a (a_iconst (v := 0) dX7_copies_0 rfl) (mpp 1 rfl ?_)
  refine mp_a (a_istore (L' := [(4, .int 0), (0, .ref 305), (1, .int t1), (2, .ref 305), (3, .int t3)]) dX7_copies_1 (by decide) rfl) (mpp 3 rfl ?_)
  refine MEvP.less (L := [(0, .ref 305), (1, .int t1), (2, .ref 305), (3, .int t3), (4, .int 0)]) rfl rfl ⟨rfl, rfl, rfl, rfl, rfl, trivial⟩ ?_
  have i1 : CPY Po Po 305 t1.toInt.toNat 305 t3.toInt.toNat (0 : Int).toNat := CPY.start (by decide)
  have i2 : (0 : Int) ≤ 155 := by omega
  have i3 : 0 ≤ (0 : Int) := by omega
  exact c_M_copies_past_past_l3   hp0 hp1 hp2 hp3 hp4 hp5 hp6 _ _ Po hT KW.refl i1 i2 i3 rfl

set_option maxHeartbeats 4000000 in
theorem c_M_changed_l11 {Po : mP}   : ∀ (n : Nat) (v1 : Int32), ∀ (P : mP), Typ P → KW [1092, 1344] Po P → Rel P → ((fv P 301 4).toInt = 8) → (SHF Po P v1.toInt.toNat) → (v1.toInt ≤ 8 ∧ (fv Po 301 4).toInt = 8) → (1 ≤ v1.toInt) → (2147483647 - v1.toInt).toNat = n → MEvP 1 none q_140 11 [(0, .ref 301), (1, .int v1)] [] P 0 0 (fun r P' => (r = none ∧ (True)) ∧ Typ P' ∧ KW [1092, 1344] Po P' ∧ Rel P' ∧ (((fv Po 301 4).toInt < 8 ∧ (fv P' 301 4).toInt = (fv Po 301 4).toInt + 1) ∨ ((fv Po 301 4).toInt = 8 ∧ (fv P' 301 4).toInt = 8)) ∧ (PUP Po P' (fv Po 301 4).toInt.toNat) ∧ (∀ x j : Nat, ¬ x = 305 → ¬ (x = 301 ∧ j = 4) → fv P' x j = fv Po x j) ∧ KI 301 306 Po P') := by
  intro n
  induction n using Nat.strongRecOn with | _ n ih => ?_
  intro v1 P hT hK hR i_0 i_1 i_2 i_3 hm
  have w_v1 := ti_full v1
  have g1 : (0 : Int) ≤ (fv P 301 4).toInt ∧ (fv P 301 4).toInt ≤ 8 := Typ.rng hT rl_301 (by decide) (by decide) rfl
  have g2 : (0 : Int) ≤ (fv P 301 4).toInt ∧ (fv P 301 4).toInt ≤ 8 := Typ.rng hT rl_301 (by decide) (by decide) rfl
  refine mp_a (a_iload_n dX7_changed_11 rfl) (mpp 12 rfl ?_)
  refine mp_a (a_bipush (v := 8) dX7_changed_12 rfl) (mpp 14 rfl ?_)
  refine mp_Tb (t := 46) (j_icmp_ge dX7_changed_14) (by decide) (fun c3 => ?_) (fun c3 => mpp 17 rfl ?_)
  · have c3 : v1.toInt ≥ 8 := ti_ge c3
    refine mp_a (a_aload_n dX7_changed_46 rfl) (mpp 47 rfl ?_)
    refine mp_t (s_dup dX7_changed_47 rfl) (mpp 48 rfl ?_)
    refine mt_getI (i := 58) (k := 4) hT dX7_changed_48 rfl rl_301 (by decide) rfl (by decide) rfl (fun g4 g5 => mpp 51 rfl ?_)
    refine mp_a (a_iconst (v := 1) dX7_changed_51 rfl) (mpp 52 rfl ?_)
    obtain ⟨z6, h7⟩ := ti_ex ((fv P 301 4) - 1 : Int32)
    have wz6 := ti_full z6
    refine mp_t (s_isub (v := z6) dX7_changed_52 h7) (mpp 53 rfl ?_)
    try have e8 : z6.toInt = (fv P 301 4).toInt - 1 := ti_subz h7 rfl rfl (by omega) (by omega)
    refine mt_putI (i := 58) (k := 4) (x := z6) hT dX7_changed_53 rfl rl_301 (by decide) rfl (by decide) rfl ⟨by omega, by omega⟩ rfl rfl (fun P9 hT10 f11 f12 f13 => mpp 56 rfl ?_)
    have k14 : KW [1092, 1344] Po P9 := KW.step hK rl_301 rfl f12 f13
    have R15 := Rel.ne hR rl_301 rfl f12
    have e16 : (fv P9 301 4).toInt = z6.toInt := congrArg Int32.toInt f11
    refine mp_a (a_aload_n dX7_changed_56 rfl) (mpp 57 rfl ?_)
    refine mt_getU (i := 13) (k := 1) (A := 303) hT10 dX7_changed_57 rfl rl_301 (by decide) rfl (by decide) rfl un_19 (mpp 60 rfl ?_)
    refine mp_a (a_iconst (v := 0) dX7_changed_60 rfl) (mpp 61 rfl ?_)
    refine mp_a (a_aload_n dX7_changed_61 rfl) (mpp 62 rfl ?_)
    refine mt_getU (i := 19) (k := 3) (A := 305) hT10 dX7_changed_62 rfl rl_301 (by decide) rfl (by decide) rfl un_21 (mpp 65 rfl ?_)
    refine mp_a (a_sipush (v := 155) dX7_changed_65 rfl) (mpp 68 rfl ?_)
    refine mp_a (a_aload_n dX7_changed_68 rfl) (mpp 69 rfl ?_)
    refine mt_getI (i := 58) (k := 4) hT10 dX7_changed_69 rfl rl_301 (by decide) rfl (by decide) rfl (fun g17 g18 => mpp 72 rfl ?_)
    obtain ⟨z19, h20⟩ := ti_ex (155 * (fv P9 301 4) : Int32)
    have wz19 := ti_full z19
    refine mp_t (s_imul (v := z19) dX7_changed_72 h20) (mpp 73 rfl ?_)
    try have e21 : z19.toInt = 155 * (fv P9 301 4).toInt := ti_mulz h20 rfl rfl (by omega) (by omega)
    have p22 : 0 ≤ (0 : Int) := by omega
    have p23 : (0 : Int) + 155 ≤ 155 := by omega
    have p24 : (0 : Int) % 155 = 0 := by omega
    have p25 : 0 ≤ z19.toInt := by omega
    have p26 : z19.toInt + 155 ≤ 1240 := by omega
    have p27 : z19.toInt % 155 = 0 := by omega
    refine mp_calls (i := 54) (q' := q_125) (As := [.ref 303, .int 0, .ref 305, .int z19]) (rest := []) dX7_changed_73 rfl qm_125 (by decide) rfl (Nat.le_of_ble_eq_true rfl) rfl ⟨rfl, rfl⟩ ⟨Nat.le_of_ble_eq_true rfl, Nat.le_of_ble_eq_true rfl⟩ (EvP.mono (by decide) (c_M_copies_was_past hT10 p22 p23 p24 p25 p26 p27 )) (fun r28 P29 g30 => mpp 76 rfl ?_)
    obtain ⟨⟨rfl, g32⟩, hT33, k34, R35⟩ := g30
    have k36 : KW [1092, 1344] Po P29 := KW.trans k14 k34 rfl
    replace g32 : CPY P9 P29 303 (0 : Int).toNat 305 z19.toInt.toNat 155 := g32
    show MEvP _ none q_140 76 [(0, .ref 301), (1, .int v1)] [] _ _ _ _
    have R38 := Rel.cpy R15 g32 (Or.inl ⟨by decide, by first | rfl | omega⟩) (Or.inr ⟨rfl, by first | rfl | omega, by first | decide | omega⟩)
    refine mp_a (a_aload_n dX7_changed_76 rfl) (mpp 77 rfl ?_)
    refine mp_t (s_dup dX7_changed_77 rfl) (mpp 78 rfl ?_)
    have e39 : (fv P29 301 4).toInt = (fv P9 301 4).toInt := congrArg Int32.toInt (KW.at k34 4 rl_301 rfl)
    refine mt_getI (i := 58) (k := 4) hT33 dX7_changed_78 rfl rl_301 (by decide) rfl (by decide) rfl (fun g40 g41 => mpp 81 rfl ?_)
    refine mp_a (a_iconst (v := 1) dX7_changed_81 rfl) (mpp 82 rfl ?_)
    obtain ⟨z42, h43⟩ := ti_ex ((fv P29 301 4) + 1 : Int32)
    have wz42 := ti_full z42
    refine mp_t (s_iadd (v := z42) dX7_changed_82 h43) (mpp 83 rfl ?_)
    try have e44 : z42.toInt = (fv P29 301 4).toInt + 1 := ti_addz h43 rfl rfl (by omega) (by omega)
    refine mt_putI (i := 58) (k := 4) (x := z42) hT33 dX7_changed_83 rfl rl_301 (by decide) rfl (by decide) rfl ⟨by omega, by omega⟩ rfl rfl (fun P45 hT46 f47 f48 f49 => mpp 86 rfl ?_)
    have k50 : KW [1092, 1344] Po P45 := KW.step k36 rl_301 rfl f48 f49
    have R51 := Rel.ne R38 rl_301 rfl f48
    have e52 : (fv P45 301 4).toInt = z42.toInt := congrArg Int32.toInt f47
    have u53 : (((fv Po 301 4).toInt < 8 ∧ (fv P45 301 4).toInt = (fv Po 301 4).toInt + 1) ∨ ((fv Po 301 4).toInt = 8 ∧ (fv P45 301 4).toInt = 8)) := by omega
    have u54 : (PUP Po P45 (fv Po 301 4).toInt.toNat) := (show (fv Po 301 4).toInt.toNat = 8 from by omega) ▸ PUP.b (SHF.fin i_1 (by omega)) f12 g32 f48 (by omega)
    have u55 : (∀ x j : Nat, ¬ x = 305 → ¬ (x = 301 ∧ j = 4) → fv P45 x j = fv Po x j) := fun x j h1 h2 => by rw [f48 x j h2, g32.2 x j (fun e => h1 e.1), f12 x j h2, i_1.2 x j h1]
    have u56 : KI 301 306 Po P45 := fun x j hx => u55 x j (by omega) (by omega)
    exact mp_ret ⟨⟨rfl, trivial⟩, hT46, k50, R51, ⟨u53, u54, u55, u56⟩⟩ dX7_changed_86 rfl
  · have c3 : v1.toInt < 8 := ti_ge_n c3
    refine mp_a (a_aload_n dX7_changed_17 rfl) (mpp 18 rfl ?_)
    refine mt_getU (i := 19) (k := 3) (A := 305) hT dX7_changed_18 rfl rl_301 (by decide) rfl (by decide) rfl un_21 (mpp 21 rfl ?_)
    refine mp_a (a_sipush (v := 155) dX7_changed_21 rfl) (mpp 24 rfl ?_)
    refine mp_a (a_iload_n dX7_changed_24 rfl) (mpp 25 rfl ?_)
    obtain ⟨z57, h58⟩ := ti_ex (155 * v1 : Int32)
    have wz57 := ti_full z57
    refine mp_t (s_imul (v := z57) dX7_changed_25 h58) (mpp 26 rfl ?_)
    try have e59 : z57.toInt = 155 * v1.toInt := ti_mulz h58 rfl rfl (by omega) (by omega)
    refine mp_a (a_aload_n dX7_changed_26 rfl) (mpp 27 rfl ?_)
    refine mt_getU (i := 19) (k := 3) (A := 305) hT dX7_changed_27 rfl rl_301 (by decide) rfl (by decide) rfl un_21 (mpp 30 rfl ?_)
    refine mp_a (a_sipush (v := 155) dX7_changed_30 rfl) (mpp 33 rfl ?_)
    refine mp_a (a_iload_n dX7_changed_33 rfl) (mpp 34 rfl ?_)
    refine mp_a (a_iconst (v := 1) dX7_changed_34 rfl) (mpp 35 rfl ?_)
    obtain ⟨z60, h61⟩ := ti_ex (v1 - 1 : Int32)
    have wz60 := ti_full z60
    refine mp_t (s_isub (v := z60) dX7_changed_35 h61) (mpp 36 rfl ?_)
    try have e62 : z60.toInt = v1.toInt - 1 := ti_subz h61 rfl rfl (by omega) (by omega)
    obtain ⟨z63, h64⟩ := ti_ex (155 * z60 : Int32)
    have wz63 := ti_full z63
    refine mp_t (s_imul (v := z63) dX7_changed_36 h64) (mpp 37 rfl ?_)
    try have e65 : z63.toInt = 155 * z60.toInt := ti_mulz h64 rfl rfl (by omega) (by omega)
    have p66 : 0 ≤ z57.toInt := by omega
    have p67 : z57.toInt + 155 ≤ 1240 := by omega
    have p68 : z57.toInt % 155 = 0 := by omega
    have p69 : 0 ≤ z63.toInt := by omega
    have p70 : z63.toInt + 155 ≤ 1240 := by omega
    have p71 : z63.toInt % 155 = 0 := by omega
    have p72 : z63.toInt + 155 ≤ z57.toInt := by omega
    refine mp_calls (i := 54) (q' := q_125) (As := [.ref 305, .int z57, .ref 305, .int z63]) (rest := []) dX7_changed_37 rfl qm_125 (by decide) rfl (Nat.le_of_ble_eq_true rfl) rfl ⟨rfl, rfl⟩ ⟨Nat.le_of_ble_eq_true rfl, Nat.le_of_ble_eq_true rfl⟩ (EvP.mono (by decide) (c_M_copies_past_past hT p66 p67 p68 p69 p70 p71 p72 )) (fun r73 P74 g75 => mpp 40 rfl ?_)
    obtain ⟨⟨rfl, g77⟩, hT78, k79, R80⟩ := g75
    have k81 : KW [1092, 1344] Po P74 := KW.trans hK k79 rfl
    replace g77 : CPY P P74 305 z57.toInt.toNat 305 z63.toInt.toNat 155 := g77
    show MEvP _ none q_140 40 [(0, .ref 301), (1, .int v1)] [] _ _ _ _
    have R83 := Rel.cpy hR g77 (Or.inr ⟨rfl, by first | rfl | omega, by first | decide | omega⟩) (Or.inr ⟨rfl, by first | rfl | omega, by first | decide | omega⟩)
    obtain ⟨z84, h85⟩ := ti_ex (v1 + 1 : Int32)
    have wz84 := ti_full z84
    refine mp_a (a_iinc (v := z84) (L' := [(1, .int z84), (0, .ref 301)]) dX7_changed_40 (by decide) rfl h85 rfl) (mpp 43 rfl ?_)
    try have e86 : z84.toInt = v1.toInt + 1 := ti_addz h85 rfl rfl (by omega) (by omega)
    refine mp_a (a_goto (t := 11) dX7_changed_43 (by decide)) ?_
    refine MEvP.less (L := [(0, .ref 301), (1, .int z84)]) rfl rfl ⟨rfl, rfl, trivial⟩ ?_
    have e87 : (fv P74 301 4).toInt = (fv P 301 4).toInt := congrArg Int32.toInt (KW.at k79 4 rl_301 rfl)
    have i88 : (fv P74 301 4).toInt = 8 := by omega
    have i89 : SHF Po P74 z84.toInt.toNat := SHF.step i_1 g77 (by omega) (by omega) (by omega)
    have i90 : z84.toInt ≤ 8 ∧ (fv Po 301 4).toInt = 8 := by omega
    have i91 : 1 ≤ z84.toInt := by omega
    exact ih _ (by omega) _ P74 hT78 k81 R83 i88 i89 i90 i91 rfl

