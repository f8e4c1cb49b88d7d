/-! methods on typed pools, 11 (written by a program) -/
set_option maxHeartbeats 4000000 in
theorem c_CL_isBetween_Layers {Po : mP} {t1 : Int32} {t2 : Int32} (hT : Typ Po) (hX : XR Po)   : EvP 2 71 [.ref 294, .int t1, .int t2] Po (fun r P' => (∃ x : Int32, r = some (.int x) ∧ (0 ≤ x.toInt ∧ x.toInt ≤ 1)) ∧ P' = Po) := by
  refine EvP.of qm_71 (Nat.le_of_ble_eq_true rfl) rfl ?_
  show MEvP _ none q_71 0 [(0, .ref 294), (1, .int t1), (2, .int t2)] [] _ 0 0 _
  have w_t1 := ti_full t1
  have w_t2 := ti_full t2
  refine mp_a (a_aload_n dX1_isBetween_0 rfl) (mpp 1 rfl ?_)
  refine mt_getU (i := 9) (k := 1) (A := 295) hT dX1_isBetween_1 rfl rl_294 (by decide) rfl (by decide) rfl un_14 (mpp 4 rfl ?_)
  refine mp_a (a_iload_n dX1_isBetween_4 rfl) (mpp 5 rfl ?_)
  refine mp_calls (i := 59) (q' := q_12) (As := [.ref 295, .int t1]) (rest := []) dX1_isBetween_5 rfl qm_12 (by decide) rfl (Nat.le_of_ble_eq_true rfl) rfl ⟨rfl, rfl⟩ ⟨Nat.le_of_ble_eq_true rfl, Nat.le_of_ble_eq_true rfl⟩ (EvP.mono (by decide) (c_F_at_order hT hX )) (fun r1 P2 g3 => mpp 8 rfl ?_)
  obtain ⟨⟨x4, rfl, g5⟩, e6⟩ := g3
  have e6 := e6.symm
  subst e6
  have wx4 := ti_full x4
  replace g5 : (0 ≤ t1.toInt ∧ t1.toInt ≤ 7 ∧ x4.toInt = (fv Po 295 t1.toInt.toNat).toInt) ∨ ((t1.toInt < 0 ∨ 8 ≤ t1.toInt) ∧ x4.toInt = 0) := g5
  try replace g5 : x4.toInt = (fv Po 295 t1.toInt.toNat).toInt := (g5.resolve_right (by omega)).2.2
  show MEvP _ none q_71 8 [(0, .ref 294), (1, .int t1), (2, .int t2)] [.int x4] _ _ _ _
  refine mp_a (a_istore_n (L' := [(3, .int x4), (0, .ref 294), (1, .int t1), (2, .int t2)]) dX1_isBetween_8 (by decide) rfl) (mpp 9 rfl ?_)
  refine mp_a (a_aload_n dX1_isBetween_9 rfl) (mpp 10 rfl ?_)
  refine mt_getU (i := 9) (k := 1) (A := 295) hT dX1_isBetween_10 rfl rl_294 (by decide) rfl (by decide) rfl un_14 (mpp 13 rfl ?_)
  refine mp_a (a_iload_n dX1_isBetween_13 rfl) (mpp 14 rfl ?_)
  refine mp_calls (i := 59) (q' := q_12) (As := [.ref 295, .int t2]) (rest := []) dX1_isBetween_14 rfl qm_12 (by decide) rfl (Nat.le_of_ble_eq_true rfl) rfl ⟨rfl, rfl⟩ ⟨Nat.le_of_ble_eq_true rfl, Nat.le_of_ble_eq_true rfl⟩ (EvP.mono (by decide) (c_F_at_order hT hX )) (fun r7 P8 g9 => mpp 17 rfl ?_)
  obtain ⟨⟨x10, rfl, g11⟩, e12⟩ := g9
  have e12 := e12.symm
  subst e12
  have wx10 := ti_full x10
  replace g11 : (0 ≤ t2.toInt ∧ t2.toInt ≤ 7 ∧ x10.toInt = (fv Po 295 t2.toInt.toNat).toInt) ∨ ((t2.toInt < 0 ∨ 8 ≤ t2.toInt) ∧ x10.toInt = 0) := g11
  try replace g11 : x10.toInt = (fv Po 295 t2.toInt.toNat).toInt := (g11.resolve_right (by omega)).2.2
  show MEvP _ none q_71 17 [(3, .int x4), (0, .ref 294), (1, .int t1), (2, .int t2)] [.int x10] _ _ _ _
  refine mp_a (a_istore (L' := [(4, .int x10), (3, .int x4), (0, .ref 294), (1, .int t1), (2, .int t2)]) dX1_isBetween_17 (by decide) rfl) (mpp 19 rfl ?_)
  refine mp_a (a_aload_n dX1_isBetween_19 rfl) (mpp 20 rfl ?_)
  refine mt_getU (i := 9) (k := 1) (A := 295) hT dX1_isBetween_20 rfl rl_294 (by decide) rfl (by decide) rfl un_14 (mpp 23 rfl ?_)
  refine mp_a (a_iload_n dX1_isBetween_23 rfl) (mpp 24 rfl ?_)
  refine mp_a (a_iconst (v := 1) dX1_isBetween_24 rfl) (mpp 25 rfl ?_)
  obtain ⟨z13, h14⟩ := ti_ex (t2 + 1 : Int32)
  have wz13 := ti_full z13
  refine mp_t (s_iadd (v := z13) dX1_isBetween_25 h14) (mpp 26 rfl ?_)
  try have e15 : z13.toInt = t2.toInt + 1 := ti_addz h14 rfl rfl (by omega) (by omega)
  refine mp_calls (i := 59) (q' := q_12) (As := [.ref 295, .int z13]) (rest := []) dX1_isBetween_26 rfl qm_12 (by decide) rfl (Nat.le_of_ble_eq_true rfl) rfl ⟨rfl, rfl⟩ ⟨Nat.le_of_ble_eq_true rfl, Nat.le_of_ble_eq_true rfl⟩ (EvP.mono (by decide) (c_F_at_order hT hX )) (fun r16 P17 g18 => mpp 29 rfl ?_)
  obtain ⟨⟨x19, rfl, g20⟩, e21⟩ := g18
  have e21 := e21.symm
  subst e21
  have wx19 := ti_full x19
  replace g20 : (0 ≤ z13.toInt ∧ z13.toInt ≤ 7 ∧ x19.toInt = (fv Po 295 z13.toInt.toNat).toInt) ∨ ((z13.toInt < 0 ∨ 8 ≤ z13.toInt) ∧ x19.toInt = 0) := g20
  try replace g20 : x19.toInt = (fv Po 295 z13.toInt.toNat).toInt := (g20.resolve_right (by omega)).2.2
  show MEvP _ none q_71 29 [(4, .int x10), (3, .int x4), (0, .ref 294), (1, .int t1), (2, .int t2)] [.int x19] _ _ _ _
  refine mp_a (a_istore (L' := [(5, .int x19), (4, .int x10), (3, .int x4), (0, .ref 294), (1, .int t1), (2, .int t2)]) dX1_isBetween_29 (by decide) rfl) (mpp 31 rfl ?_)
  refine mp_a (a_iload dX1_isBetween_31 rfl) (mpp 33 rfl ?_)
  refine mp_a (a_iload dX1_isBetween_33 rfl) (mpp 35 rfl ?_)
  obtain ⟨z22, h23⟩ := ti_ex (if (8 : Nat) = 7 then (if x10 < x19 then x19 else x10) else (if x19 < x10 then x19 else x10) : Int32)
  have e24 : z22.toInt = min x10.toInt x19.toInt := ti_mm8 h23
  refine mp_math (i := 45) (k := 0) (v := z22) dX1_isBetween_35 rfl (by decide) (Nat.le_of_ble_eq_true rfl) h23 ⟨Nat.le_of_ble_eq_true rfl, Nat.le_of_ble_eq_true rfl⟩ (mpp 38 rfl ?_)
  refine mp_a (a_iload_n dX1_isBetween_38 rfl) (mpp 39 rfl ?_)
  refine mp_Tb (t := 57) (j_icmp_ge dX1_isBetween_39) (by decide) (fun c25 => ?_) (fun c25 => mpp 42 rfl ?_)
  · have c25 : z22.toInt ≥ x4.toInt := ti_ge c25
    refine mp_a (a_iconst (v := 0) dX1_isBetween_57 rfl) (mpp 58 rfl ?_)
    have u26 : 0 ≤ (0 : Int) ∧ (0 : Int) ≤ 1 := by omega
    exact mp_iret ⟨⟨_, rfl, u26⟩, rfl⟩ dX1_isBetween_58 (Or.inr ⟨rfl, by decide⟩)
  · have c25 : z22.toInt < x4.toInt := ti_ge_n c25
    refine mp_a (a_iload_n dX1_isBetween_42 rfl) (mpp 43 rfl ?_)
    refine mp_a (a_iload dX1_isBetween_43 rfl) (mpp 45 rfl ?_)
    refine mp_a (a_iload dX1_isBetween_45 rfl) (mpp 47 rfl ?_)
    obtain ⟨z27, h28⟩ := ti_ex (if (7 : Nat) = 7 then (if x10 < x19 then x19 else x10) else (if x19 < x10 then x19 else x10) : Int32)
    have e29 : z27.toInt = max x10.toInt x19.toInt := ti_mm7 h28
    refine mp_math (i := 77) (k := 0) (v := z27) dX1_isBetween_47 rfl (by decide) (Nat.le_of_ble_eq_true rfl) h28 ⟨Nat.le_of_ble_eq_true rfl, Nat.le_of_ble_eq_true rfl⟩ (mpp 50 rfl ?_)
    refine mp_Tb (t := 57) (j_icmp_ge dX1_isBetween_50) (by decide) (fun c30 => ?_) (fun c30 => mpp 53 rfl ?_)
    · have c30 : x4.toInt ≥ z27.toInt := ti_ge c30
      refine mp_a (a_iconst (v := 0) dX1_isBetween_57 rfl) (mpp 58 rfl ?_)
      have u31 : 0 ≤ (0 : Int) ∧ (0 : Int) ≤ 1 := by omega
      exact mp_iret ⟨⟨_, rfl, u31⟩, rfl⟩ dX1_isBetween_58 (Or.inr ⟨rfl, by decide⟩)
    · have c30 : x4.toInt < z27.toInt := ti_ge_n c30
      refine mp_a (a_iconst (v := 1) dX1_isBetween_53 rfl) (mpp 54 rfl ?_)
      refine mp_a (a_goto (t := 58) dX1_isBetween_54 (by decide)) ?_
      have u32 : 0 ≤ (1 : Int) ∧ (1 : Int) ≤ 1 := by omega
      exact mp_iret ⟨⟨_, rfl, u32⟩, rfl⟩ dX1_isBetween_58 (Or.inr ⟨rfl, by decide⟩)

set_option maxHeartbeats 4000000 in
theorem c_CL_isPierced_Layers_l13 {Po : mP} {t1 : Int32} (hT : Typ Po) (hX : XR Po)   : ∀ (n : Nat) (v2 : Int32) (v3 : Int32), (0 ≤ v3.toInt) → (2147483647 - v3.toInt).toNat = n → MEvP 2 none q_70 13 [(0, .ref 294), (1, .int t1), (2, .int v2), (3, .int v3)] [] Po 0 0 (fun r P' => (∃ x : Int32, r = some (.int x) ∧ (0 ≤ x.toInt ∧ x.toInt ≤ 1)) ∧ P' = Po) := by
  intro n
  induction n using Nat.strongRecOn with | _ n ih => ?_
  intro v2 v3 i_0 hm
  have w_t1 := ti_full t1
  have w_v2 := ti_full v2
  have w_v3 := ti_full v3
  refine mp_a (a_iload_n dX1_isPierced_13 rfl) (mpp 14 rfl ?_)
  refine mp_a (a_aload_n dX1_isPierced_14 rfl) (mpp 15 rfl ?_)
  have g1 : (0 : Int) ≤ (fv Po 294 0).toInt ∧ (fv Po 294 0).toInt ≤ 8 := Typ.rng hT rl_294 (by decide) (by decide) rfl
  refine mt_getI (i := 30) (k := 0) hT dX1_isPierced_15 rfl rl_294 (by decide) rfl (by decide) rfl (fun g2 g3 => mpp 18 rfl ?_)
  refine mp_Tb (t := 96) (j_icmp_ge dX1_isPierced_18) (by decide) (fun c4 => ?_) (fun c4 => mpp 21 rfl ?_)
  · have c4 : v3.toInt ≥ (fv Po 294 0).toInt := ti_ge c4
    refine mp_a (a_iconst (v := 0) dX1_isPierced_96 rfl) (mpp 97 rfl ?_)
    have u5 : 0 ≤ (0 : Int) ∧ (0 : Int) ≤ 1 := by omega
    exact mp_iret ⟨⟨_, rfl, u5⟩, rfl⟩ dX1_isPierced_97 (Or.inr ⟨rfl, by decide⟩)
  · have c4 : v3.toInt < (fv Po 294 0).toInt := ti_ge_n c4
    refine mp_a (a_aload_n dX1_isPierced_21 rfl) (mpp 22 rfl ?_)
    refine mt_getU (i := 15) (k := 2) (A := 296) hT dX1_isPierced_22 rfl rl_294 (by decide) rfl (by decide) rfl un_15 (mpp 25 rfl ?_)
    refine mp_a (a_iload_n dX1_isPierced_25 rfl) (mpp 26 rfl ?_)
    refine mp_calls (i := 59) (q' := q_12) (As := [.ref 296, .int v3]) (rest := []) dX1_isPierced_26 rfl qm_12 (by decide) rfl (Nat.le_of_ble_eq_true rfl) rfl ⟨rfl, rfl⟩ ⟨Nat.le_of_ble_eq_true rfl, Nat.le_of_ble_eq_true rfl⟩ (EvP.mono (by decide) (c_F_at_places hT hX )) (fun r6 P7 g8 => mpp 29 rfl ?_)
    obtain ⟨⟨x9, rfl, g10⟩, e11⟩ := g8
    have e11 := e11.symm
    subst e11
    have wx9 := ti_full x9
    replace g10 : (0 ≤ v3.toInt ∧ v3.toInt ≤ 7 ∧ x9.toInt = (fv Po 296 v3.toInt.toNat).toInt) ∨ ((v3.toInt < 0 ∨ 8 ≤ v3.toInt) ∧ x9.toInt = 0) := g10
    try replace g10 : x9.toInt = (fv Po 296 v3.toInt.toNat).toInt := (g10.resolve_right (by omega)).2.2
    show MEvP _ none q_70 29 [(0, .ref 294), (1, .int t1), (2, .int v2), (3, .int v3)] [.int x9] _ _ _ _
    refine mp_a (a_aload_n dX1_isPierced_29 rfl) (mpp 30 rfl ?_)
    refine mt_getU (i := 15) (k := 2) (A := 296) hT dX1_isPierced_30 rfl rl_294 (by decide) rfl (by decide) rfl un_15 (mpp 33 rfl ?_)
    refine mp_a (a_iload_n dX1_isPierced_33 rfl) (mpp 34 rfl ?_)
    refine mp_a (a_iconst (v := 1) dX1_isPierced_34 rfl) (mpp 35 rfl ?_)
    obtain ⟨z12, h13⟩ := ti_ex (v3 + 1 : Int32)
    have wz12 := ti_full z12
    refine mp_t (s_iadd (v := z12) dX1_isPierced_35 h13) (mpp 36 rfl ?_)
    try have e14 : z12.toInt = v3.toInt + 1 := ti_addz h13 rfl rfl (by omega) (by omega)
    refine mp_calls (i := 59) (q' := q_12) (As := [.ref 296, .int z12]) (rest := [.int x9]) dX1_isPierced_36 rfl qm_12 (by decide) rfl (Nat.le_of_ble_eq_true rfl) rfl ⟨rfl, rfl⟩ ⟨Nat.le_of_ble_eq_true rfl, Nat.le_of_ble_eq_true rfl⟩ (EvP.mono (by decide) (c_F_at_places hT hX )) (fun r15 P16 g17 => mpp 39 rfl ?_)
    obtain ⟨⟨x18, rfl, g19⟩, e20⟩ := g17
    have e20 := e20.symm
    subst e20
    have wx18 := ti_full x18
    replace g19 : (0 ≤ z12.toInt ∧ z12.toInt ≤ 7 ∧ x18.toInt = (fv Po 296 z12.toInt.toNat).toInt) ∨ ((z12.toInt < 0 ∨ 8 ≤ z12.toInt) ∧ x18.toInt = 0) := g19
    try replace g19 : x18.toInt = (fv Po 296 z12.toInt.toNat).toInt := (g19.resolve_right (by omega)).2.2
    show MEvP _ none q_70 39 [(0, .ref 294), (1, .int t1), (2, .int v2), (3, .int v3)] [.int x18, .int x9] _ _ _ _
    obtain ⟨z21, h22⟩ := ti_ex (if (8 : Nat) = 7 then (if x9 < x18 then x18 else x9) else (if x18 < x9 then x18 else x9) : Int32)
    have e23 : z21.toInt = min x9.toInt x18.toInt := ti_mm8 h22
    refine mp_math (i := 45) (k := 0) (v := z21) dX1_isPierced_39 rfl (by decide) (Nat.le_of_ble_eq_true rfl) h22 ⟨Nat.le_of_ble_eq_true rfl, Nat.le_of_ble_eq_true rfl⟩ (mpp 42 rfl ?_)
    refine mp_a (a_istore (L' := [(4, .int z21), (0, .ref 294), (1, .int t1), (2, .int v2), (3, .int v3)]) dX1_isPierced_42 (by decide) rfl) (mpp 44 rfl ?_)
    refine mp_a (a_aload_n dX1_isPierced_44 rfl) (mpp 45 rfl ?_)
    refine mt_getU (i := 15) (k := 2) (A := 296) hT dX1_isPierced_45 rfl rl_294 (by decide) rfl (by decide) rfl un_15 (mpp 48 rfl ?_)
    refine mp_a (a_iload_n dX1_isPierced_48 rfl) (mpp 49 rfl ?_)
    refine mp_calls (i := 59) (q' := q_12) (As := [.ref 296, .int v3]) (rest := []) dX1_isPierced_49 rfl qm_12 (by decide) rfl (Nat.le_of_ble_eq_true rfl) rfl ⟨rfl, rfl⟩ ⟨Nat.le_of_ble_eq_true rfl, Nat.le_of_ble_eq_true rfl⟩ (EvP.mono (by decide) (c_F_at_places hT hX )) (fun r24 P25 g26 => mpp 52 rfl ?_)
    obtain ⟨⟨x27, rfl, g28⟩, e29⟩ := g26
    have e29 := e29.symm
    subst e29
    have wx27 := ti_full x27
    replace g28 : (0 ≤ v3.toInt ∧ v3.toInt ≤ 7 ∧ x27.toInt = (fv Po 296 v3.toInt.toNat).toInt) ∨ ((v3.toInt < 0 ∨ 8 ≤ v3.toInt) ∧ x27.toInt = 0) := g28
    try replace g28 : x27.toInt = (fv Po 296 v3.toInt.toNat).toInt := (g28.resolve_right (by omega)).2.2
    show MEvP _ none q_70 52 [(4, .int z21), (0, .ref 294), (1, .int t1), (2, .int v2), (3, .int v3)] [.int x27] _ _ _ _
    refine mp_a (a_aload_n dX1_isPierced_52 rfl) (mpp 53 rfl ?_)
    refine mt_getU (i := 15) (k := 2) (A := 296) hT dX1_isPierced_53 rfl rl_294 (by decide) rfl (by decide) rfl un_15 (mpp 56 rfl ?_)
    refine mp_a (a_iload_n dX1_isPierced_56 rfl) (mpp 57 rfl ?_)
    refine mp_a (a_iconst (v := 1) dX1_isPierced_57 rfl) (mpp 58 rfl ?_)
    obtain ⟨z30, h31⟩ := ti_ex (v3 + 1 : Int32)
    have wz30 := ti_full z30
    refine mp_t (s_iadd (v := z30) dX1_isPierced_58 h31) (mpp 59 rfl ?_)
    try have e32 : z30.toInt = v3.toInt + 1 := ti_addz h31 rfl rfl (by omega) (by omega)
    refine mp_calls (i := 59) (q' := q_12) (As := [.ref 296, .int z30]) (rest := [.int x27]) dX1_isPierced_59 rfl qm_12 (by decide) rfl (Nat.le_of_ble_eq_true rfl) rfl ⟨rfl, rfl⟩ ⟨Nat.le_of_ble_eq_true rfl, Nat.le_of_ble_eq_true rfl⟩ (EvP.mono (by decide) (c_F_at_places hT hX )) (fun r33 P34 g35 => mpp 62 rfl ?_)
    obtain ⟨⟨x36, rfl, g37⟩, e38⟩ := g35
    have e38 := e38.symm
    subst e38
    have wx36 := ti_full x36
    replace g37 : (0 ≤ z30.toInt ∧ z30.toInt ≤ 7 ∧ x36.toInt = (fv Po 296 z30.toInt.toNat).toInt) ∨ ((z30.toInt < 0 ∨ 8 ≤ z30.toInt) ∧ x36.toInt = 0) := g37
    try replace g37 : x36.toInt = (fv Po 296 z30.toInt.toNat).toInt := (g37.resolve_right (by omega)).2.2
    show MEvP _ none q_70 62 [(4, .int z21), (0, .ref 294), (1, .int t1), (2, .int v2), (3, .int v3)] [.int x36, .int x27] _ _ _ _
    obtain ⟨z39, h40⟩ := ti_ex (if (7 : Nat) = 7 then (if x27 < x36 then x36 else x27) else (if x36 < x27 then x36 else x27) : Int32)
    have e41 : z39.toInt = max x27.toInt x36.toInt := ti_mm7 h40
    refine mp_math (i := 77) (k := 0) (v := z39) dX1_isPierced_62 rfl (by decide) (Nat.le_of_ble_eq_true rfl) h40 ⟨Nat.le_of_ble_eq_true rfl, Nat.le_of_ble_eq_true rfl⟩ (mpp 65 rfl ?_)
    refine mp_a (a_istore (L' := [(5, .int z39), (4, .int z21), (0, .ref 294), (1, .int t1), (2, .int v2), (3, .int v3)]) dX1_isPierced_65 (by decide) rfl) (mpp 67 rfl ?_)
    refine mp_a (a_iload dX1_isPierced_67 rfl) (mpp 69 rfl ?_)
    refine mp_a (a_iload_n dX1_isPierced_69 rfl) (mpp 70 rfl ?_)
    refine mp_Tb (t := 90) (j_icmp_ge dX1_isPierced_70) (by decide) (fun c42 => ?_) (fun c42 => mpp 73 rfl ?_)
    · have c42 : z21.toInt ≥ v2.toInt := ti_ge c42
      obtain ⟨z43, h44⟩ := ti_ex (v3 + 1 : Int32)
      have wz43 := ti_full z43
      refine mp_a (a_iinc (v := z43) (L' := [(3, .int z43), (5, .int z39), (4, .int z21), (0, .ref 294), (1, .int t1), (2, .int v2)]) dX1_isPierced_90 (by decide) rfl h44 rfl) (mpp 93 rfl ?_)
      try have e45 : z43.toInt = v3.toInt + 1 := ti_addz h44 rfl rfl (by omega) (by omega)
      refine mp_a (a_goto (t := 13) dX1_isPierced_93 (by decide)) ?_
      refine MEvP.less (L := [(0, .ref 294), (1, .int t1), (2, .int v2), (3, .int z43)]) rfl rfl ⟨rfl, rfl, rfl, rfl, trivial⟩ ?_
      have i46 : 0 ≤ z43.toInt := by omega
      exact ih _ (by omega) _ _ i46 rfl
    · have c42 : z21.toInt < v2.toInt := ti_ge_n c42
      refine mp_a (a_iload_n dX1_isPierced_73 rfl) (mpp 74 rfl ?_)
      refine mp_a (a_iload dX1_isPierced_74 rfl) (mpp 76 rfl ?_)
      refine mp_Tb (t := 90) (j_icmp_ge dX1_isPierced_76) (by decide) (fun c47 => ?_) (fun c47 => mpp 79 rfl ?_)
      · have c47 : v2.toInt ≥ z39.toInt := ti_ge c47
        obtain ⟨z48, h49⟩ := ti_ex (v3 + 1 : Int32)
        have wz48 := ti_full z48
        refine mp_a (a_iinc (v := z48) (L' := [(3, .int z48), (5, .int z39), (4, .int z21), (0, .ref 294), (1, .int t1), (2, .int v2)]) dX1_isPierced_90 (by decide) rfl h49 rfl) (mpp 93 rfl ?_)
        try have e50 : z48.toInt = v3.toInt + 1 := ti_addz h49 rfl rfl (by omega) (by omega)
        refine mp_a (a_goto (t := 13) dX1_isPierced_93 (by decide)) ?_
        refine MEvP.less (L := [(0, .ref 294), (1, .int t1), (2, .int v2), (3, .int z48)]) rfl rfl ⟨rfl, rfl, rfl, rfl, trivial⟩ ?_
        have i51 : 0 ≤ z48.toInt := by omega
        exact ih _ (by omega) _ _ i51 rfl
      · have c47 : v2.toInt < z39.toInt := ti_ge_n c47
        refine mp_a (a_aload_n dX1_isPierced_79 rfl) (mpp 80 rfl ?_)
        refine mp_a (a_iload_n dX1_isPierced_80 rfl) (mpp 81 rfl ?_)
        refine mp_a (a_iload_n dX1_isPierced_81 rfl) (mpp 82 rfl ?_)
        refine mt_callv (i := 80) (q' := q_71) (As := [.int v3, .int t1]) (rest := []) hT dX1_isPierced_82 rfl qm_71 (by decide) rfl rl_294 (by decide) rfl (Nat.le_of_ble_eq_true rfl) rfl ⟨rfl, rfl⟩ ⟨Nat.le_of_ble_eq_true rfl, Nat.le_of_ble_eq_true rfl⟩ (EvP.mono (by decide) (c_CL_isBetween_Layers hT hX )) (fun r52 P53 g54 => mpp 85 rfl ?_)
        obtain ⟨⟨x55, rfl, g56⟩, e57⟩ := g54
        have e57 := e57.symm
        subst e57
        have wx55 := ti_full x55
        replace g56 : 0 ≤ x55.toInt ∧ x55.toInt ≤ 1 := g56
        show MEvP _ none q_70 85 [(5, .int z39), (4, .int z21), (0, .ref 294), (1, .int t1), (2, .int v2), (3, .int v3)] [.int x55] _ _ _ _
        refine mp_Tb (t := 90) (j_if_eq dX1_isPierced_85) (by decide) (fun c58 => ?_) (fun c58 => mpp 88 rfl ?_)
        · have c58 : x55.toInt = 0 := ti_eq c58
          obtain ⟨z59, h60⟩ := ti_ex (v3 + 1 : Int32)
          have wz59 := ti_full z59
          refine mp_a (a_iinc (v := z59) (L' := [(3, .int z59), (5, .int z39), (4, .int z21), (0, .ref 294), (1, .int t1), (2, .int v2)]) dX1_isPierced_90 (by decide) rfl h60 rfl) (mpp 93 rfl ?_)
          try have e61 : z59.toInt = v3.toInt + 1 := ti_addz h60 rfl rfl (by omega) (by omega)
          refine mp_a (a_goto (t := 13) dX1_isPierced_93 (by decide)) ?_
          refine MEvP.less (L := [(0, .ref 294), (1, .int t1), (2, .int v2), (3, .int z59)]) rfl rfl ⟨rfl, rfl, rfl, rfl, trivial⟩ ?_
          have i62 : 0 ≤ z59.toInt := by omega
          exact ih _ (by omega) _ _ i62 rfl
        · have c58 : x55.toInt ≠ 0 := ti_eq_n c58
          refine mp_a (a_iconst (v := 1) dX1_isPierced_88 rfl) (mpp 89 rfl ?_)
          have u63 : 0 ≤ (1 : Int) ∧ (1 : Int) ≤ 1 := by omega
          exact mp_iret ⟨⟨_, rfl, u63⟩, rfl⟩ dX1_isPierced_89 (Or.inr ⟨rfl, by decide⟩)

set_option maxHeartbeats 4000000 in
theorem c_CL_isPierced_Layers {Po : mP} {t1 : Int32} (hT : Typ Po) (hX : XR Po)   : EvP 3 70 [.ref 294, .int t1] Po (fun r P' => (∃ x : Int32, r = some (.int x) ∧ (0 ≤ x.toInt ∧ x.toInt ≤ 1)) ∧ P' = Po) := by
  refine EvP.of qm_70 (Nat.le_of_ble_eq_true rfl) rfl ?_
  show MEvP _ none q_70 0 [(0, .ref 294), (1, .int t1)] [] _ 0 0 _
  have w_t1 := ti_full t1
  refine mp_a (a_aload_n dX1_isPierced_0 rfl) (mpp 1 rfl ?_)
  refine mt_getU (i := 15) (k := 2) (A := 296) hT dX1_isPierced_1 rfl rl_294 (by decide) rfl (by decide) rfl un_15 (mpp 4 rfl ?_)
  refine mp_a (a_iload_n dX1_isPierced_4 rfl) (mpp 5 rfl ?_)
  refine mp_a (a_iconst (v := 1) dX1_isPierced_5 rfl) (mpp 6 rfl ?_)
  obtain ⟨z1, h2⟩ := ti_ex (t1 + 1 : Int32)
  have wz1 := ti_full z1
  refine mp_t (s_iadd (v := z1) dX1_isPierced_6 h2) (mpp 7 rfl ?_)
  try have e3 : z1.toInt = t1.toInt + 1 := ti_addz h2 rfl rfl (by omega) (by omega)
  refine mp_calls (i := 59) (q' := q_12) (As := [.ref 296, .int z1]) (rest := []) dX1_isPierced_7 rfl qm_12 (by decide) rfl (Nat.le_of_ble_eq_true rfl) rfl ⟨rfl, rfl⟩ ⟨Nat.le_of_ble_eq_true rfl, Nat.le_of_ble_eq_true rfl⟩ (EvP.mono (by decide) (c_F_at_places hT hX )) (fun r4 P5 g6 => mpp 10 rfl ?_)
  obtain ⟨⟨x7, rfl, g8⟩, e9⟩ := g6
  have e9 := e9.symm
  subst e9
  have wx7 := ti_full x7
  replace g8 : (0 ≤ z1.toInt ∧ z1.toInt ≤ 7 ∧ x7.toInt = (fv Po 296 z1.toInt.toNat).toInt) ∨ ((z1.toInt < 0 ∨ 8 ≤ z1.toInt) ∧ x7.toInt = 0) := g8
  try replace g8 : x7.toInt = (fv Po 296 z1.toInt.toNat).toInt := (g8.resolve_right (by omega)).2.2
  show MEvP _ none q_70 10 [(0, .ref 294), (1, .int t1)] [.int x7] _ _ _ _
  refine mp_a (a_istore_n (L' := [(2, .int x7), (0, .ref 294), (1, .int t1)]) dX1_isPierced_10 (by decide) rfl) (mpp 11 rfl ?_)
  refine mp_a (a_iconst (v := 0) dX1_isPierced_11 rfl) (mpp 12 rfl ?_)
  refine mp_a (a_istore_n (L' := [(3, .int 0), (2, .int x7), (0, .ref 294), (1, .int t1)]) dX1_isPierced_12 (by decide) rfl) (mpp 13 rfl ?_)
  refine MEvP.less (L := [(0, .ref 294), (1, .int t1), (2, .int x7), (3, .int 0)]) rfl rfl ⟨rfl, rfl, rfl, rfl, trivial⟩ ?_
  have i10 : 0 ≤ (0 : Int) := by omega
  exact c_CL_isPierced_Layers_l13 hT hX   _ _ _ i10 rfl

set_option maxHeartbeats 4000000 in
theorem c_CL_isCrossed_Layers_l4 {Po : mP} {t1 : Int32} (hT : Typ Po) (hX : XR Po)   : ∀ (n : Nat) (v2 : Int32), (2147483647 - v2.toInt).toNat = n → MEvP 2 none q_72 4 [(0, .ref 294), (1, .int t1), (2, .int v2)] [] Po 0 0 (fun r P' => (∃ x : Int32, r = some (.int x) ∧ (0 ≤ x.toInt ∧ x.toInt ≤ 1)) ∧ P' = Po) := by
  intro n
  induction n using Nat.strongRecOn with | _ n ih => ?_
  intro v2  hm
  have w_t1 := ti_full t1
  have w_v2 := ti_full v2
  refine mp_a (a_iload_n dX1_isCrossed_4 rfl) (mpp 5 rfl ?_)
  refine mp_a (a_aload_n dX1_isCrossed_5 rfl) (mpp 6 rfl ?_)
  have g1 : (0 : Int) ≤ (fv Po 294 0).toInt ∧ (fv Po 294 0).toInt ≤ 8 := Typ.rng hT rl_294 (by decide) (by decide) rfl
  refine mt_getI (i := 30) (k := 0) hT dX1_isCrossed_6 rfl rl_294 (by decide) rfl (by decide) rfl (fun g2 g3 => mpp 9 rfl ?_)
  refine mp_a (a_iconst (v := 1) dX1_isCrossed_9 rfl) (mpp 10 rfl ?_)
  obtain ⟨z4, h5⟩ := ti_ex ((fv Po 294 0) - 1 : Int32)
  have wz4 := ti_full z4
  refine mp_t (s_isub (v := z4) dX1_isCrossed_10 h5) (mpp 11 rfl ?_)
  try have e6 : z4.toInt = (fv Po 294 0).toInt - 1 := ti_subz h5 rfl rfl (by omega) (by omega)
  refine mp_Tb (t := 72) (j_icmp_ge dX1_isCrossed_11) (by decide) (fun c7 => ?_) (fun c7 => mpp 14 rfl ?_)
  · have c7 : v2.toInt ≥ z4.toInt := ti_ge c7
    refine mp_a (a_iconst (v := 0) dX1_isCrossed_72 rfl) (mpp 73 rfl ?_)
    have u8 : 0 ≤ (0 : Int) ∧ (0 : Int) ≤ 1 := by omega
    exact mp_iret ⟨⟨_, rfl, u8⟩, rfl⟩ dX1_isCrossed_73 (Or.inr ⟨rfl, by decide⟩)
  · have c7 : v2.toInt < z4.toInt := ti_ge_n c7
    refine mp_a (a_aload_n dX1_isCrossed_14 rfl) (mpp 15 rfl ?_)
    refine mt_getU (i := 15) (k := 2) (A := 296) hT dX1_isCrossed_15 rfl rl_294 (by decide) rfl (by decide) rfl un_15 (mpp 18 rfl ?_)
    refine mp_a (a_iload_n dX1_isCrossed_18 rfl) (mpp 19 rfl ?_)
    refine mp_a (a_iconst (v := 1) dX1_isCrossed_19 rfl) (mpp 20 rfl ?_)
    obtain ⟨z9, h10⟩ := ti_ex (v2 + 1 : Int32)
    have wz9 := ti_full z9
    refine mp_t (s_iadd (v := z9) dX1_isCrossed_20 h10) (mpp 21 rfl ?_)
    try have e11 : z9.toInt = v2.toInt + 1 := ti_addz h10 rfl rfl (by omega) (by omega)
    refine mp_calls (i := 59) (q' := q_12) (As := [.ref 296, .int z9]) (rest := []) dX1_isCrossed_21 rfl qm_12 (by decide) rfl (Nat.le_of_ble_eq_true rfl) rfl ⟨rfl, rfl⟩ ⟨Nat.le_of_ble_eq_true rfl, Nat.le_of_ble_eq_true rfl⟩ (EvP.mono (by decide) (c_F_at_places hT hX )) (fun r12 P13 g14 => mpp 24 rfl ?_)
    obtain ⟨⟨x15, rfl, g16⟩, e17⟩ := g14
    have e17 := e17.symm
    subst e17
    have wx15 := ti_full x15
    replace g16 : (0 ≤ z9.toInt ∧ z9.toInt ≤ 7 ∧ x15.toInt = (fv Po 296 z9.toInt.toNat).toInt) ∨ ((z9.toInt < 0 ∨ 8 ≤ z9.toInt) ∧ x15.toInt = 0) := g16
    try replace g16 : x15.toInt = (fv Po 296 z9.toInt.toNat).toInt := (g16.resolve_right (by omega)).2.2
    show MEvP _ none q_72 24 [(0, .ref 294), (1, .int t1), (2, .int v2)] [.int x15] _ _ _ _
    refine mp_a (a_aload_n dX1_isCrossed_24 rfl) (mpp 25 rfl ?_)
    refine mt_getU (i := 15) (k := 2) (A := 296) hT dX1_isCrossed_25 rfl rl_294 (by decide) rfl (by decide) rfl un_15 (mpp 28 rfl ?_)
    refine mp_a (a_iload_n dX1_isCrossed_28 rfl) (mpp 29 rfl ?_)
    refine mp_a (a_iconst (v := 1) dX1_isCrossed_29 rfl) (mpp 30 rfl ?_)
    obtain ⟨z18, h19⟩ := ti_ex (t1 + 1 : Int32)
    have wz18 := ti_full z18
    refine mp_t (s_iadd (v := z18) dX1_isCrossed_30 h19) (mpp 31 rfl ?_)
    try have e20 : z18.toInt = t1.toInt + 1 := ti_addz h19 rfl rfl (by omega) (by omega)
    refine mp_calls (i := 59) (q' := q_12) (As := [.ref 296, .int z18]) (rest := [.int x15]) dX1_isCrossed_31 rfl qm_12 (by decide) rfl (Nat.le_of_ble_eq_true rfl) rfl ⟨rfl, rfl⟩ ⟨Nat.le_of_ble_eq_true rfl, Nat.le_of_ble_eq_true rfl⟩ (EvP.mono (by decide) (c_F_at_places hT hX )) (fun r21 P22 g23 => mpp 34 rfl ?_)
    obtain ⟨⟨x24, rfl, g25⟩, e26⟩ := g23
    have e26 := e26.symm
    subst e26
    have wx24 := ti_full x24
    replace g25 : (0 ≤ z18.toInt ∧ z18.toInt ≤ 7 ∧ x24.toInt = (fv Po 296 z18.toInt.toNat).toInt) ∨ ((z18.toInt < 0 ∨ 8 ≤ z18.toInt) ∧ x24.toInt = 0) := g25
    try replace g25 : x24.toInt = (fv Po 296 z18.toInt.toNat).toInt := (g25.resolve_right (by omega)).2.2
    show MEvP _ none q_72 34 [(0, .ref 294), (1, .int t1), (2, .int v2)] [.int x24, .int x15] _ _ _ _
    refine mp_Tb (t := 41) (j_icmp_ne dX1_isCrossed_34) (by decide) (fun c27 => ?_) (fun c27 => mpp 37 rfl ?_)
    · have c27 : x15.toInt ≠ x24.toInt := ti_ne c27
      refine mp_a (a_iconst (v := 0) dX1_isCrossed_41 rfl) (mpp 42 rfl ?_)
      refine mp_a (a_istore_n (L' := [(3, .int 0), (0, .ref 294), (1, .int t1), (2, .int v2)]) dX1_isCrossed_42 (by decide) rfl) (mpp 43 rfl ?_)
      refine mp_a (a_iload_n dX1_isCrossed_43 rfl) (mpp 44 rfl ?_)
      refine mp_Tt (t := 66) (j_if_eq dX1_isCrossed_44) (by decide) (by decide) ?_
      obtain ⟨z28, h29⟩ := ti_ex (v2 + 2 : Int32)
      have wz28 := ti_full z28
      refine mp_a (a_iinc (v := z28) (L' := [(2, .int z28), (3, .int 0), (0, .ref 294), (1, .int t1)]) dX1_isCrossed_66 (by decide) rfl h29 rfl) (mpp 69 rfl ?_)
      try have e30 : z28.toInt = v2.toInt + 2 := ti_addz h29 rfl rfl (by omega) (by omega)
      refine mp_a (a_goto (t := 4) dX1_isCrossed_69 (by decide)) ?_
      refine MEvP.less (L := [(0, .ref 294), (1, .int t1), (2, .int z28)]) rfl rfl ⟨rfl, rfl, rfl, trivial⟩ ?_
      exact ih _ (by omega) _  rfl
    · have c27 : x15.toInt = x24.toInt := ti_ne_n c27
      refine mp_a (a_iconst (v := 1) dX1_isCrossed_37 rfl) (mpp 38 rfl ?_)
      refine mp_a (a_goto (t := 42) dX1_isCrossed_38 (by decide)) ?_
      refine mp_a (a_istore_n (L' := [(3, .int 1), (0, .ref 294), (1, .int t1), (2, .int v2)]) dX1_isCrossed_42 (by decide) rfl) (mpp 43 rfl ?_)
      refine mp_a (a_iload_n dX1_isCrossed_43 rfl) (mpp 44 rfl ?_)
      refine mp_Tf (t := 66) (j_if_eq dX1_isCrossed_44) (by decide) (by decide) (mpp 47 rfl ?_)
      refine mp_a (a_aload_n dX1_isCrossed_47 rfl) (mpp 48 rfl ?_)
      refine mp_a (a_iload_n dX1_isCrossed_48 rfl) (mpp 49 rfl ?_)
      refine mp_a (a_iload_n dX1_isCrossed_49 rfl) (mpp 50 rfl ?_)
      refine mt_callv (i := 80) (q' := q_71) (As := [.int v2, .int t1]) (rest := []) hT dX1_isCrossed_50 rfl qm_71 (by decide) rfl rl_294 (by decide) rfl (Nat.le_of_ble_eq_true rfl) rfl ⟨rfl, rfl⟩ ⟨Nat.le_of_ble_eq_true rfl, Nat.le_of_ble_eq_true rfl⟩ (EvP.mono (by decide) (c_CL_isBetween_Layers hT hX )) (fun r31 P32 g33 => mpp 53 rfl ?_)
      obtain ⟨⟨x34, rfl, g35⟩, e36⟩ := g33
      have e36 := e36.symm
      subst e36
      have wx34 := ti_full x34
      replace g35 : 0 ≤ x34.toInt ∧ x34.toInt ≤ 1 := g35
      show MEvP _ none q_72 53 [(3, .int 1), (0, .ref 294), (1, .int t1), (2, .int v2)] [.int x34] _ _ _ _
      refine mp_a (a_aload_n dX1_isCrossed_53 rfl) (mpp 54 rfl ?_)
      refine mp_a (a_iload_n dX1_isCrossed_54 rfl) (mpp 55 rfl ?_)
      refine mp_a (a_iconst (v := 1) dX1_isCrossed_55 rfl) (mpp 56 rfl ?_)
      obtain ⟨z37, h38⟩ := ti_ex (v2 + 1 : Int32)
      have wz37 := ti_full z37
      refine mp_t (s_iadd (v := z37) dX1_isCrossed_56 h38) (mpp 57 rfl ?_)
      try have e39 : z37.toInt = v2.toInt + 1 := ti_addz h38 rfl rfl (by omega) (by omega)
      refine mp_a (a_iload_n dX1_isCrossed_57 rfl) (mpp 58 rfl ?_)
      refine mt_callv (i := 80) (q' := q_71) (As := [.int z37, .int t1]) (rest := [.int x34]) hT dX1_isCrossed_58 rfl qm_71 (by decide) rfl rl_294 (by decide) rfl (Nat.le_of_ble_eq_true rfl) rfl ⟨rfl, rfl⟩ ⟨Nat.le_of_ble_eq_true rfl, Nat.le_of_ble_eq_true rfl⟩ (EvP.mono (by decide) (c_CL_isBetween_Layers hT hX )) (fun r40 P41 g42 => mpp 61 rfl ?_)
      obtain ⟨⟨x43, rfl, g44⟩, e45⟩ := g42
      have e45 := e45.symm
      subst e45
      have wx43 := ti_full x43
      replace g44 : 0 ≤ x43.toInt ∧ x43.toInt ≤ 1 := g44
      show MEvP _ none q_72 61 [(3, .int 1), (0, .ref 294), (1, .int t1), (2, .int v2)] [.int x43, .int x34] _ _ _ _
      refine mp_Tb (t := 66) (j_icmp_eq dX1_isCrossed_61) (by decide) (fun c46 => ?_) (fun c46 => mpp 64 rfl ?_)
      · have c46 : x34.toInt = x43.toInt := ti_eq c46
        obtain ⟨z47, h48⟩ := ti_ex (v2 + 2 : Int32)
        have wz47 := ti_full z47
        refine mp_a (a_iinc (v := z47) (L' := [(2, .int z47), (3, .int 1), (0, .ref 294), (1, .int t1)]) dX1_isCrossed_66 (by decide) rfl h48 rfl) (mpp 69 rfl ?_)
        try have e49 : z47.toInt = v2.toInt + 2 := ti_addz h48 rfl rfl (by omega) (by omega)
        refine mp_a (a_goto (t := 4) dX1_isCrossed_69 (by decide)) ?_
        refine MEvP.less (L := [(0, .ref 294), (1, .int t1), (2, .int z47)]) rfl rfl ⟨rfl, rfl, rfl, trivial⟩ ?_
        exact ih _ (by omega) _  rfl
      · have c46 : x34.toInt ≠ x43.toInt := ti_eq_n c46
        refine mp_a (a_iconst (v := 1) dX1_isCrossed_64 rfl) (mpp 65 rfl ?_)
        have u50 : 0 ≤ (1 : Int) ∧ (1 : Int) ≤ 1 := by omega
        exact mp_iret ⟨⟨_, rfl, u50⟩, rfl⟩ dX1_isCrossed_65 (Or.inr ⟨rfl, by decide⟩)

set_option maxHeartbeats 4000000 in
theorem c_CL_isCrossed_Layers {Po : mP} {t1 : Int32} (hT : Typ Po) (hX : XR Po)   : EvP 3 72 [.ref 294, .int t1] Po (fun r P' => (∃ x : Int32, r = some (.int x) ∧ (0 ≤ x.toInt ∧ x.toInt ≤ 1)) ∧ P' = Po) := by
  refine EvP.of qm_72 (Nat.le_of_ble_eq_true rfl) rfl ?_
  show MEvP _ none q_72 0 [(0, .ref 294), (1, .int t1)] [] _ 0 0 _
  have w_t1 := ti_full t1
  refine mp_a (a_iload_n dX1_isCrossed_0 rfl) (mpp 1 rfl ?_)
  refine mp_a (a_iconst (v := 2) dX1_isCrossed_1 rfl) (mpp 2 rfl ?_)
  obtain ⟨z1, h2⟩ := ti_ex (t1 + 2 : Int32)
  have wz1 := ti_full z1
  refine mp_t (s_iadd (v := z1) dX1_isCrossed_2 h2) (mpp 3 rfl ?_)
  try have e3 : z1.toInt = t1.toInt + 2 := ti_addz h2 rfl rfl (by omega) (by omega)
  refine mp_a (a_istore_n (L' := [(2, .int z1), (0, .ref 294), (1, .int t1)]) dX1_isCrossed_3 (by decide) rfl) (mpp 4 rfl ?_)
  refine MEvP.less (L := [(0, .ref 294), (1, .int t1), (2, .int z1)]) rfl rfl ⟨rfl, rfl, rfl, trivial⟩ ?_
  exact c_CL_isCrossed_Layers_l4 hT hX   _ _  rfl

set_option maxHeartbeats 4000000 in
theorem c_CL_layersCollide_Layers_l2 {Po : mP}  (hT : Typ Po) (hX : XR Po)   : ∀ (n : Nat) (v1 : Int32), (0 ≤ v1.toInt) → (2147483647 - v1.toInt).toNat = n → MEvP 3 none q_69 2 [(0, .ref 294), (1, .int v1)] [] Po 0 0 (fun r P' => (∃ x : Int32, r = some (.int x) ∧ (0 ≤ x.toInt ∧ x.toInt ≤ 1)) ∧ P' = Po) := by
  intro n
  induction n using Nat.strongRecOn with | _ n ih => ?_
  intro v1 i_0 hm
  have w_v1 := ti_full v1
  refine mp_a (a_iload_n dX1_layersCollide_2 rfl) (mpp 3 rfl ?_)
  refine mp_a (a_aload_n dX1_layersCollide_3 rfl) (mpp 4 rfl ?_)
  have g1 : (0 : Int) ≤ (fv Po 294 0).toInt ∧ (fv Po 294 0).toInt ≤ 8 := Typ.rng hT rl_294 (by decide) (by decide) rfl
  refine mt_getI (i := 30) (k := 0) hT dX1_layersCollide_4 rfl rl_294 (by decide) rfl (by decide) rfl (fun g2 g3 => mpp 7 rfl ?_)
  refine mp_a (a_iconst (v := 1) dX1_layersCollide_7 rfl) (mpp 8 rfl ?_)
  obtain ⟨z4, h5⟩ := ti_ex ((fv Po 294 0) - 1 : Int32)
  have wz4 := ti_full z4
  refine mp_t (s_isub (v := z4) dX1_layersCollide_8 h5) (mpp 9 rfl ?_)
  try have e6 : z4.toInt = (fv Po 294 0).toInt - 1 := ti_subz h5 rfl rfl (by omega) (by omega)
  refine mp_Tb (t := 36) (j_icmp_ge dX1_layersCollide_9) (by decide) (fun c7 => ?_) (fun c7 => mpp 12 rfl ?_)
  · have c7 : v1.toInt ≥ z4.toInt := ti_ge c7
    refine mp_a (a_iconst (v := 0) dX1_layersCollide_36 rfl) (mpp 37 rfl ?_)
    have u8 : 0 ≤ (0 : Int) ∧ (0 : Int) ≤ 1 := by omega
    exact mp_iret ⟨⟨_, rfl, u8⟩, rfl⟩ dX1_layersCollide_37 (Or.inr ⟨rfl, by decide⟩)
  · have c7 : v1.toInt < z4.toInt := ti_ge_n c7
    refine mp_a (a_aload_n dX1_layersCollide_12 rfl) (mpp 13 rfl ?_)
    refine mp_a (a_iload_n dX1_layersCollide_13 rfl) (mpp 14 rfl ?_)
    refine mt_callv (i := 70) (q' := q_70) (As := [.int v1]) (rest := []) hT dX1_layersCollide_14 rfl qm_70 (by decide) rfl rl_294 (by decide) rfl (Nat.le_of_ble_eq_true rfl) rfl ⟨rfl, rfl⟩ ⟨Nat.le_of_ble_eq_true rfl, Nat.le_of_ble_eq_true rfl⟩ (EvP.mono (by decide) (c_CL_isPierced_Layers hT hX )) (fun r9 P10 g11 => mpp 17 rfl ?_)
    obtain ⟨⟨x12, rfl, g13⟩, e14⟩ := g11
    have e14 := e14.symm
    subst e14
    have wx12 := ti_full x12
    replace g13 : 0 ≤ x12.toInt ∧ x12.toInt ≤ 1 := g13
    show MEvP _ none q_69 17 [(0, .ref 294), (1, .int v1)] [.int x12] _ _ _ _
    refine mp_Tb (t := 28) (j_if_ne dX1_layersCollide_17) (by decide) (fun c15 => ?_) (fun c15 => mpp 20 rfl ?_)
    · have c15 : x12.toInt ≠ 0 := ti_ne c15
      refine mp_a (a_iconst (v := 1) dX1_layersCollide_28 rfl) (mpp 29 rfl ?_)
      have u16 : 0 ≤ (1 : Int) ∧ (1 : Int) ≤ 1 := by omega
      exact mp_iret ⟨⟨_, rfl, u16⟩, rfl⟩ dX1_layersCollide_29 (Or.inr ⟨rfl, by decide⟩)
    · have c15 : x12.toInt = 0 := ti_ne_n c15
      refine mp_a (a_aload_n dX1_layersCollide_20 rfl) (mpp 21 rfl ?_)
      refine mp_a (a_iload_n dX1_layersCollide_21 rfl) (mpp 22 rfl ?_)
      refine mt_callv (i := 74) (q' := q_72) (As := [.int v1]) (rest := []) hT dX1_layersCollide_22 rfl qm_72 (by decide) rfl rl_294 (by decide) rfl (Nat.le_of_ble_eq_true rfl) rfl ⟨rfl, rfl⟩ ⟨Nat.le_of_ble_eq_true rfl, Nat.le_of_ble_eq_true rfl⟩ (EvP.mono (by decide) (c_CL_isCrossed_Layers hT hX )) (fun r17 P18 g19 => mpp 25 rfl ?_)
      obtain ⟨⟨x20, rfl, g21⟩, e22⟩ := g19
      have e22 := e22.symm
      subst e22
      have wx20 := ti_full x20
      replace g21 : 0 ≤ x20.toInt ∧ x20.toInt ≤ 1 := g21
      show MEvP _ none q_69 25 [(0, .ref 294), (1, .int v1)] [.int x20] _ _ _ _
      refine mp_Tb (t := 30) (j_if_eq dX1_layersCollide_25) (by decide) (fun c23 => ?_) (fun c23 => mpp 28 rfl ?_)
      · have c23 : x20.toInt = 0 := ti_eq c23
        obtain ⟨z24, h25⟩ := ti_ex (v1 + 1 : Int32)
        have wz24 := ti_full z24
        refine mp_a (a_iinc (v := z24) (L' := [(1, .int z24), (0, .ref 294)]) dX1_layersCollide_30 (by decide) rfl h25 rfl) (mpp 33 rfl ?_)
        try have e26 : z24.toInt = v1.toInt + 1 := ti_addz h25 rfl rfl (by omega) (by omega)
        refine mp_a (a_goto (t := 2) dX1_layersCollide_33 (by decide)) ?_
        refine MEvP.less (L := [(0, .ref 294), (1, .int z24)]) rfl rfl ⟨rfl, rfl, trivial⟩ ?_
        have i27 : 0 ≤ z24.toInt := by omega
        exact ih _ (by omega) _ i27 rfl
      · have c23 : x20.toInt ≠ 0 := ti_eq_n c23
        refine mp_a (a_iconst (v := 1) dX1_layersCollide_28 rfl) (mpp 29 rfl ?_)
        have u28 : 0 ≤ (1 : Int) ∧ (1 : Int) ≤ 1 := by omega
        exact mp_iret ⟨⟨_, rfl, u28⟩, rfl⟩ dX1_layersCollide_29 (Or.inr ⟨rfl, by decide⟩)

set_option maxHeartbeats 4000000 in
theorem c_CL_layersCollide_Layers {Po : mP}  (hT : Typ Po) (hX : XR Po)   : EvP 4 69 [.ref 294] Po (fun r P' => (∃ x : Int32, r = some (.int x) ∧ (0 ≤ x.toInt ∧ x.toInt ≤ 1)) ∧ P' = Po) := by
  refine EvP.of qm_69 (Nat.le_of_ble_eq_true rfl) rfl ?_
  show MEvP _ none q_69 0 [(0, .ref 294)] [] _ 0 0 _
  refine mp_a (a_iconst (v := 0) dX1_layersCollide_0 rfl) (mpp 1 rfl ?_)
  refine mp_a (a_istore_n (L' := [(1, .int 0), (0, .ref 294)]) dX1_layersCollide_1 (by decide) rfl) (mpp 2 rfl ?_)
  refine MEvP.less (L := [(0, .ref 294), (1, .int 0)]) rfl rfl ⟨rfl, rfl, trivial⟩ ?_
  have i1 : 0 ≤ (0 : Int) := by omega
  exact c_CL_layersCollide_Layers_l2 hT hX   _ _ i1 rfl

set_option maxHeartbeats 4000000 in
theorem c_CL_isFree_Layers_l2 {Po : mP} {t1 : Int32} {t2 : Int32} (hT : Typ Po) (hX : XR Po)   : ∀ (n : Nat) (v3 : Int32), (0 ≤ v3.toInt) → (2147483647 - v3.toInt).toNat = n → MEvP 1 none q_67 2 [(0, .ref 294), (1, .int t1), (2, .int t2), (3, .int v3)] [] Po 0 0 (fun r P' => (∃ x : Int32, r = some (.int x) ∧ (0 ≤ x.toInt ∧ x.toInt ≤ 1)) ∧ P' = Po) := by
  intro n
  induction n using Nat.strongRecOn with | _ n ih => ?_
  intro v3 i_0 hm
  have w_t1 := ti_full t1
  have w_t2 := ti_full t2
  have w_v3 := ti_full v3
  refine mp_a (a_iload_n dX1_isFree_2 rfl) (mpp 3 rfl ?_)
  refine mp_a (a_iload_n dX1_isFree_3 rfl) (mpp 4 rfl ?_)
  refine mp_Tb (t := 27) (j_icmp_ge dX1_isFree_4) (by decide) (fun c1 => ?_) (fun c1 => mpp 7 rfl ?_)
  · have c1 : v3.toInt ≥ t2.toInt := ti_ge c1
    refine mp_a (a_iconst (v := 1) dX1_isFree_27 rfl) (mpp 28 rfl ?_)
    have u2 : 0 ≤ (1 : Int) ∧ (1 : Int) ≤ 1 := by omega
    exact mp_iret ⟨⟨_, rfl, u2⟩, rfl⟩ dX1_isFree_28 (Or.inr ⟨rfl, by decide⟩)
  · have c1 : v3.toInt < t2.toInt := ti_ge_n c1
    refine mp_a (a_aload_n dX1_isFree_7 rfl) (mpp 8 rfl ?_)
    refine mt_getU (i := 9) (k := 1) (A := 295) hT dX1_isFree_8 rfl rl_294 (by decide) rfl (by decide) rfl un_14 (mpp 11 rfl ?_)
    refine mp_a (a_iload_n dX1_isFree_11 rfl) (mpp 12 rfl ?_)
    refine mp_calls (i := 59) (q' := q_12) (As := [.ref 295, .int v3]) (rest := []) dX1_isFree_12 rfl qm_12 (by decide) rfl (Nat.le_of_ble_eq_true rfl) rfl ⟨rfl, rfl⟩ ⟨Nat.le_of_ble_eq_true rfl, Nat.le_of_ble_eq_true rfl⟩ (EvP.mono (by decide) (c_F_at_order hT hX )) (fun r3 P4 g5 => mpp 15 rfl ?_)
    obtain ⟨⟨x6, rfl, g7⟩, e8⟩ := g5
    have e8 := e8.symm
    subst e8
    have wx6 := ti_full x6
    replace g7 : (0 ≤ v3.toInt ∧ v3.toInt ≤ 7 ∧ x6.toInt = (fv Po 295 v3.toInt.toNat).toInt) ∨ ((v3.toInt < 0 ∨ 8 ≤ v3.toInt) ∧ x6.toInt = 0) := g7
    try replace g7 : x6.toInt = (fv Po 295 v3.toInt.toNat).toInt := (g7.resolve_right (by omega)).2.2
    show MEvP _ none q_67 15 [(0, .ref 294), (1, .int t1), (2, .int t2), (3, .int v3)] [.int x6] _ _ _ _
    refine mp_a (a_iload_n dX1_isFree_15 rfl) (mpp 16 rfl ?_)
    refine mp_Tb (t := 21) (j_icmp_ne dX1_isFree_16) (by decide) (fun c9 => ?_) (fun c9 => mpp 19 rfl ?_)
    · have c9 : x6.toInt ≠ t1.toInt := ti_ne c9
      obtain ⟨z10, h11⟩ := ti_ex (v3 + 1 : Int32)
      have wz10 := ti_full z10
      refine mp_a (a_iinc (v := z10) (L' := [(3, .int z10), (0, .ref 294), (1, .int t1), (2, .int t2)]) dX1_isFree_21 (by decide) rfl h11 rfl) (mpp 24 rfl ?_)
      try have e12 : z10.toInt = v3.toInt + 1 := ti_addz h11 rfl rfl (by omega) (by omega)
      refine mp_a (a_goto (t := 2) dX1_isFree_24 (by decide)) ?_
      refine MEvP.less (L := [(0, .ref 294), (1, .int t1), (2, .int t2), (3, .int z10)]) rfl rfl ⟨rfl, rfl, rfl, rfl, trivial⟩ ?_
      have i13 : 0 ≤ z10.toInt := by omega
      exact ih _ (by omega) _ i13 rfl
    · have c9 : x6.toInt = t1.toInt := ti_ne_n c9
      refine mp_a (a_iconst (v := 0) dX1_isFree_19 rfl) (mpp 20 rfl ?_)
      have u14 : 0 ≤ (0 : Int) ∧ (0 : Int) ≤ 1 := by omega
      exact mp_iret ⟨⟨_, rfl, u14⟩, rfl⟩ dX1_isFree_20 (Or.inr ⟨rfl, by decide⟩)

set_option maxHeartbeats 4000000 in
theorem c_CL_isFree_Layers {Po : mP} {t1 : Int32} {t2 : Int32} (hT : Typ Po) (hX : XR Po)   : EvP 2 67 [.ref 294, .int t1, .int t2] Po (fun r P' => (∃ x : Int32, r = some (.int x) ∧ (0 ≤ x.toInt ∧ x.toInt ≤ 1)) ∧ P' = Po) := by
  refine EvP.of qm_67 (Nat.le_of_ble_eq_true rfl) rfl ?_
  show MEvP _ none q_67 0 [(0, .ref 294), (1, .int t1), (2, .int t2)] [] _ 0 0 _
  have w_t1 := ti_full t1
  have w_t2 := ti_full t2
  refine mp_a (a_iconst (v := 0) dX1_isFree_0 rfl) (mpp 1 rfl ?_)
  refine mp_a (a_istore_n (L' := [(3, .int 0), (0, .ref 294), (1, .int t1), (2, .int t2)]) dX1_isFree_1 (by decide) rfl) (mpp 2 rfl ?_)
  refine MEvP.less (L := [(0, .ref 294), (1, .int t1), (2, .int t2), (3, .int 0)]) rfl rfl ⟨rfl, rfl, rfl, rfl, trivial⟩ ?_
  have i1 : 0 ≤ (0 : Int) := by omega
  exact c_CL_isFree_Layers_l2 hT hX   _ _ i1 rfl

set_option maxHeartbeats 4000000 in
theorem c_F_at_lcreases {Po : mP} {t1 : Int32} (hT : Typ Po) (hX : XR Po)   : EvP 1 12 [.ref 297, .int t1] Po (fun r P' => (∃ x : Int32, r = some (.int x) ∧ ((0 ≤ t1.toInt ∧ t1.toInt ≤ 7 ∧ x.toInt = (fv Po 297 t1.toInt.toNat).toInt) ∨ ((t1.toInt < 0 ∨ 8 ≤ t1.toInt) ∧ x.toInt = 0))) ∧ P' = Po) := by
  refine EvP.of qm_12 (Nat.le_of_ble_eq_true rfl) rfl ?_
  show MEvP _ none q_12 0 [(0, .ref 297), (1, .int t1)] [] _ 0 0 _
  have w_t1 := ti_full t1
  refine mp_a (a_iload_n dX6_at_0 rfl) (mpp 1 rfl ?_)
  refine mp_Tb (t := 16) (j_if_lt dX6_at_1) (by decide) (fun c1 => ?_) (fun c1 => mpp 4 rfl ?_)
  · have c1 : t1.toInt < 0 := ti_lt c1
    refine mp_a (a_iconst (v := 0) dX6_at_16 rfl) (mpp 17 rfl ?_)
    have u2 : (0 ≤ t1.toInt ∧ t1.toInt ≤ 7 ∧ (0 : Int) = (fv Po 297 t1.toInt.toNat).toInt) ∨ ((t1.toInt < 0 ∨ 8 ≤ t1.toInt) ∧ (0 : Int) = 0) := by omega
    exact mp_iret ⟨⟨_, rfl, u2⟩, rfl⟩ dX6_at_17 (Or.inl rfl)
  · have c1 : t1.toInt ≥ 0 := ti_lt_n c1
    refine mp_a (a_iload_n dX6_at_4 rfl) (mpp 5 rfl ?_)
    refine mp_a (a_aload_n dX6_at_5 rfl) (mpp 6 rfl ?_)
    refine mt_len (n := 8) hT dX6_at_6 rl_297 (by decide) (by decide) rfl (mpp 7 rfl ?_)
    refine mp_Tb (t := 16) (j_icmp_ge dX6_at_7) (by decide) (fun c3 => ?_) (fun c3 => mpp 10 rfl ?_)
    · have c3 : t1.toInt ≥ 8 := ti_ge c3
      refine mp_a (a_iconst (v := 0) dX6_at_16 rfl) (mpp 17 rfl ?_)
      have u4 : (0 ≤ t1.toInt ∧ t1.toInt ≤ 7 ∧ (0 : Int) = (fv Po 297 t1.toInt.toNat).toInt) ∨ ((t1.toInt < 0 ∨ 8 ≤ t1.toInt) ∧ (0 : Int) = 0) := by omega
      exact mp_iret ⟨⟨_, rfl, u4⟩, rfl⟩ dX6_at_17 (Or.inl rfl)
    · have c3 : t1.toInt < 8 := ti_ge_n c3
      refine mp_a (a_aload_n dX6_at_10 rfl) (mpp 11 rfl ?_)
      refine mp_a (a_iload_n dX6_at_11 rfl) (mpp 12 rfl ?_)
      refine mt_ial (n := 8) hT dX6_at_12 rl_297 (by decide) rfl rfl (by omega) (by omega) rfl (fun g5 g6 => mpp 13 rfl ?_)
      refine mp_a (a_goto (t := 17) dX6_at_13 (by decide)) ?_
      have u7 : (0 ≤ t1.toInt ∧ t1.toInt ≤ 7 ∧ (fv Po 297 t1.toInt.toNat).toInt = (fv Po 297 t1.toInt.toNat).toInt) ∨ ((t1.toInt < 0 ∨ 8 ≤ t1.toInt) ∧ (fv Po 297 t1.toInt.toNat).toInt = 0) := by omega
      exact mp_iret ⟨⟨_, rfl, u7⟩, rfl⟩ dX6_at_17 (Or.inl rfl)

