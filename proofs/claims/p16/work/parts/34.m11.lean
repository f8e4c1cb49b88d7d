/-! methods on typed pools, 11 (written by a program) -/
set_option maxHeartbeats 4000000 in
theorem c_CL_isBetween_Layers {Po : mP} {t1 : Int32} {t2 : Int32} (hT : Typ Po) (hX : XR Po)  (hp0 : 0 ≤ t1.toInt) (hp1 : t1.toInt ≤ 7) (hp2 : 0 ≤ t2.toInt) (hp3 : t2.toInt ≤ 6)  : EvP 2 71 [.ref 294, .int t1, .int t2] Po (fun r P' => (∃ x : Int32, r = some (.int x) ∧ (0 ≤ x.toInt ∧ x.toInt ≤ 1 ∧ ((x.toInt = 1 ∧ BT (oL Po) t1.toInt.toNat t2.toInt.toNat) ∨ (x.toInt = 0 ∧ ¬ BT (oL Po) t1.toInt.toNat t2.toInt.toNat)))) ∧ P' = Po) := by
  refine EvP.of qm_71 (Nat.le_of_ble_eq_true rfl) rfl ?_
  show MEvP _ none q_71 0 [(0, .ref 294), (1, .int t1), (2, .int t2)] [] _ 0 0 _
  have w_t1 := ti_full t1
  have w_t2 := ti_full t2
  refine mp_a (a_aload_n dX1_isBetween_0 rfl) (mpp 1 rfl ?_)
  refine mt_getU (i := 9) (k := 1) (A := 295) hT dX1_isBetween_1 rfl rl_294 (by decide) rfl (by decide) rfl un_14 (mpp 4 rfl ?_)
  refine mp_a (a_iload_n dX1_isBetween_4 rfl) (mpp 5 rfl ?_)
  refine mp_calls (i := 59) (q' := q_12) (As := [.ref 295, .int t1]) (rest := []) dX1_isBetween_5 rfl qm_12 (by decide) rfl (Nat.le_of_ble_eq_true rfl) rfl ⟨rfl, rfl⟩ ⟨Nat.le_of_ble_eq_true rfl, Nat.le_of_ble_eq_true rfl⟩ (EvP.mono (by decide) (c_F_at_order hT hX )) (fun r1 P2 g3 => mpp 8 rfl ?_)
  obtain ⟨⟨x4, rfl, g5⟩, e6⟩ := g3
  have e6 := e6.symm
  subst e6
  have wx4 := ti_full x4
  replace g5 : (0 ≤ t1.toInt ∧ t1.toInt ≤ 7 ∧ x4.toInt = (fv Po 295 t1.toInt.toNat).toInt) ∨ ((t1.toInt < 0 ∨ 8 ≤ t1.toInt) ∧ x4.toInt = 0) := g5
  try replace g5 : x4.toInt = (fv Po 295 t1.toInt.toNat).toInt := (g5.resolve_right (by omega)).2.2
  show MEvP _ none q_71 8 [(0, .ref 294), (1, .int t1), (2, .int t2)] [.int x4] _ _ _ _
  refine mp_a (a_istore_n (L' := [(3, .int x4), (0, .ref 294), (1, .int t1), (2, .int t2)]) dX1_isBetween_8 (by decide) rfl) (mpp 9 rfl ?_)
  refine mp_a (a_aload_n dX1_isBetween_9 rfl) (mpp 10 rfl ?_)
  refine mt_getU (i := 9) (k := 1) (A := 295) hT dX1_isBetween_10 rfl rl_294 (by decide) rfl (by decide) rfl un_14 (mpp 13 rfl ?_)
  refine mp_a (a_iload_n dX1_isBetween_13 rfl) (mpp 14 rfl ?_)
  refine mp_calls (i := 59) (q' := q_12) (As := [.ref 295, .int t2]) (rest := []) dX1_isBetween_14 rfl qm_12 (by decide) rfl (Nat.le_of_ble_eq_true rfl) rfl ⟨rfl, rfl⟩ ⟨Nat.le_of_ble_eq_true rfl, Nat.le_of_ble_eq_true rfl⟩ (EvP.mono (by decide) (c_F_at_order hT hX )) (fun r7 P8 g9 => mpp 17 rfl ?_)
  obtain ⟨⟨x10, rfl, g11⟩, e12⟩ := g9
  have e12 := e12.symm
  subst e12
  have wx10 := ti_full x10
  replace g11 : (0 ≤ t2.toInt ∧ t2.toInt ≤ 7 ∧ x10.toInt = (fv Po 295 t2.toInt.toNat).toInt) ∨ ((t2.toInt < 0 ∨ 8 ≤ t2.toInt) ∧ x10.toInt = 0) := g11
  try replace g11 : x10.toInt = (fv Po 295 t2.toInt.toNat).toInt := (g11.resolve_right (by omega)).2.2
  show MEvP _ none q_71 17 [(3, .int x4), (0, .ref 294), (1, .int t1), (2, .int t2)] [.int x10] _ _ _ _
  refine mp_a (a_istore (L' := [(4, .int x10), (3, .int x4), (0, .ref 294), (1, .int t1), (2, .int t2)]) dX1_isBetween_17 (by decide) rfl) (mpp 19 rfl ?_)
  refine mp_a (a_aload_n dX1_isBetween_19 rfl) (mpp 20 rfl ?_)
  refine mt_getU (i := 9) (k := 1) (A := 295) hT dX1_isBetween_20 rfl rl_294 (by decide) rfl (by decide) rfl un_14 (mpp 23 rfl ?_)
  refine mp_a (a_iload_n dX1_isBetween_23 rfl) (mpp 24 rfl ?_)
  refine mp_a (a_iconst (v := 1) dX1_isBetween_24 rfl) (mpp 25 rfl ?_)
  obtain ⟨z13, h14⟩ := ti_ex (t2 + 1 : Int32)
  have wz13 := ti_full z13
  refine mp_t (s_iadd (v := z13) dX1_isBetween_25 h14) (mpp 26 rfl ?_)
  try have e15 : z13.toInt = t2.toInt + 1 := ti_addz h14 rfl rfl (by omega) (by omega)
  refine mp_calls (i := 59) (q' := q_12) (As := [.ref 295, .int z13]) (rest := []) dX1_isBetween_26 rfl qm_12 (by decide) rfl (Nat.le_of_ble_eq_true rfl) rfl ⟨rfl, rfl⟩ ⟨Nat.le_of_ble_eq_true rfl, Nat.le_of_ble_eq_true rfl⟩ (EvP.mono (by decide) (c_F_at_order hT hX )) (fun r16 P17 g18 => mpp 29 rfl ?_)
  obtain ⟨⟨x19, rfl, g20⟩, e21⟩ := g18
  have e21 := e21.symm
  subst e21
  have wx19 := ti_full x19
  replace g20 : (0 ≤ z13.toInt ∧ z13.toInt ≤ 7 ∧ x19.toInt = (fv Po 295 z13.toInt.toNat).toInt) ∨ ((z13.toInt < 0 ∨ 8 ≤ z13.toInt) ∧ x19.toInt = 0) := g20
  try replace g20 : x19.toInt = (fv Po 295 z13.toInt.toNat).toInt := (g20.resolve_right (by omega)).2.2
  show MEvP _ none q_71 29 [(4, .int x10), (3, .int x4), (0, .ref 294), (1, .int t1), (2, .int t2)] [.int x19] _ _ _ _
  refine mp_a (a_istore (L' := [(5, .int x19), (4, .int x10), (3, .int x4), (0, .ref 294), (1, .int t1), (2, .int t2)]) dX1_isBetween_29 (by decide) rfl) (mpp 31 rfl ?_)
  refine mp_a (a_iload dX1_isBetween_31 rfl) (mpp 33 rfl ?_)
  refine mp_a (a_iload dX1_isBetween_33 rfl) (mpp 35 rfl ?_)
  obtain ⟨z22, h23⟩ := ti_ex (if (8 : Nat) = 7 then (if x10 < x19 then x19 else x10) else (if x19 < x10 then x19 else x10) : Int32)
  have e24 : z22.toInt = min x10.toInt x19.toInt := ti_mm8 h23
  refine mp_math (i := 45) (k := 0) (v := z22) dX1_isBetween_35 rfl (by decide) (Nat.le_of_ble_eq_true rfl) h23 ⟨Nat.le_of_ble_eq_true rfl, Nat.le_of_ble_eq_true rfl⟩ (mpp 38 rfl ?_)
  refine mp_a (a_iload_n dX1_isBetween_38 rfl) (mpp 39 rfl ?_)
  refine mp_Tb (t := 57) (j_icmp_ge dX1_isBetween_39) (by decide) (fun c25 => ?_) (fun c25 => mpp 42 rfl ?_)
  · have c25 : z22.toInt ≥ x4.toInt := ti_ge c25
    refine mp_a (a_iconst (v := 0) dX1_isBetween_57 rfl) (mpp 58 rfl ?_)
    have w27_ : x4.toInt = (fv Po 295 t1.toInt.toNat).toInt := by omega
    have w28_ : x10.toInt = (fv Po 295 t2.toInt.toNat).toInt := by omega
    have w29_ : x19.toInt = (fv Po 295 (t2.toInt.toNat + 1)).toInt := by rw [show (t2.toInt.toNat + 1) = z13.toInt.toNat from by omega]; omega
    have u26 : 0 ≤ (0 : Int) ∧ (0 : Int) ≤ 1 ∧ (((0 : Int) = 1 ∧ BT (oL Po) t1.toInt.toNat t2.toInt.toNat) ∨ ((0 : Int) = 0 ∧ ¬ BT (oL Po) t1.toInt.toNat t2.toInt.toNat)) := ⟨by omega, by omega, Or.inr ⟨rfl, fun h => by have h : (min (fv Po 295 t2.toInt.toNat).toInt (fv Po 295 (t2.toInt.toNat + 1)).toInt < (fv Po 295 t1.toInt.toNat).toInt ∧ (fv Po 295 t1.toInt.toNat).toInt < max (fv Po 295 t2.toInt.toNat).toInt (fv Po 295 (t2.toInt.toNat + 1)).toInt) := h; omega⟩⟩
    exact mp_iret ⟨⟨_, rfl, u26⟩, rfl⟩ dX1_isBetween_58 (Or.inr ⟨rfl, by decide⟩)
  · have c25 : z22.toInt < x4.toInt := ti_ge_n c25
    refine mp_a (a_iload_n dX1_isBetween_42 rfl) (mpp 43 rfl ?_)
    refine mp_a (a_iload dX1_isBetween_43 rfl) (mpp 45 rfl ?_)
    refine mp_a (a_iload dX1_isBetween_45 rfl) (mpp 47 rfl ?_)
    obtain ⟨z30, h31⟩ := ti_ex (if (7 : Nat) = 7 then (if x10 < x19 then x19 else x10) else (if x19 < x10 then x19 else x10) : Int32)
    have e32 : z30.toInt = max x10.toInt x19.toInt := ti_mm7 h31
    refine mp_math (i := 77) (k := 0) (v := z30) dX1_isBetween_47 rfl (by decide) (Nat.le_of_ble_eq_true rfl) h31 ⟨Nat.le_of_ble_eq_true rfl, Nat.le_of_ble_eq_true rfl⟩ (mpp 50 rfl ?_)
    refine mp_Tb (t := 57) (j_icmp_ge dX1_isBetween_50) (by decide) (fun c33 => ?_) (fun c33 => mpp 53 rfl ?_)
    · have c33 : x4.toInt ≥ z30.toInt := ti_ge c33
      refine mp_a (a_iconst (v := 0) dX1_isBetween_57 rfl) (mpp 58 rfl ?_)
      have w35_ : x4.toInt = (fv Po 295 t1.toInt.toNat).toInt := by omega
      have w36_ : x10.toInt = (fv Po 295 t2.toInt.toNat).toInt := by omega
      have w37_ : x19.toInt = (fv Po 295 (t2.toInt.toNat + 1)).toInt := by rw [show (t2.toInt.toNat + 1) = z13.toInt.toNat from by omega]; omega
      have u34 : 0 ≤ (0 : Int) ∧ (0 : Int) ≤ 1 ∧ (((0 : Int) = 1 ∧ BT (oL Po) t1.toInt.toNat t2.toInt.toNat) ∨ ((0 : Int) = 0 ∧ ¬ BT (oL Po) t1.toInt.toNat t2.toInt.toNat)) := ⟨by omega, by omega, Or.inr ⟨rfl, fun h => by have h : (min (fv Po 295 t2.toInt.toNat).toInt (fv Po 295 (t2.toInt.toNat + 1)).toInt < (fv Po 295 t1.toInt.toNat).toInt ∧ (fv Po 295 t1.toInt.toNat).toInt < max (fv Po 295 t2.toInt.toNat).toInt (fv Po 295 (t2.toInt.toNat + 1)).toInt) := h; omega⟩⟩
      exact mp_iret ⟨⟨_, rfl, u34⟩, rfl⟩ dX1_isBetween_58 (Or.inr ⟨rfl, by decide⟩)
    · have c33 : x4.toInt < z30.toInt := ti_ge_n c33
      refine mp_a (a_iconst (v := 1) dX1_isBetween_53 rfl) (mpp 54 rfl ?_)
      refine mp_a (a_goto (t := 58) dX1_isBetween_54 (by decide)) ?_
      have w39_ : x4.toInt = (fv Po 295 t1.toInt.toNat).toInt := by omega
      have w40_ : x10.toInt = (fv Po 295 t2.toInt.toNat).toInt := by omega
      have w41_ : x19.toInt = (fv Po 295 (t2.toInt.toNat + 1)).toInt := by rw [show (t2.toInt.toNat + 1) = z13.toInt.toNat from by omega]; omega
      have u38 : 0 ≤ (1 : Int) ∧ (1 : Int) ≤ 1 ∧ (((1 : Int) = 1 ∧ BT (oL Po) t1.toInt.toNat t2.toInt.toNat) ∨ ((1 : Int) = 0 ∧ ¬ BT (oL Po) t1.toInt.toNat t2.toInt.toNat)) := ⟨by omega, by omega, Or.inl ⟨rfl, (show (min (fv Po 295 t2.toInt.toNat).toInt (fv Po 295 (t2.toInt.toNat + 1)).toInt < (fv Po 295 t1.toInt.toNat).toInt ∧ (fv Po 295 t1.toInt.toNat).toInt < max (fv Po 295 t2.toInt.toNat).toInt (fv Po 295 (t2.toInt.toNat + 1)).toInt) from by omega)⟩⟩
      exact mp_iret ⟨⟨_, rfl, u38⟩, rfl⟩ dX1_isBetween_58 (Or.inr ⟨rfl, by decide⟩)

set_option maxHeartbeats 4000000 in
theorem c_CL_isPierced_Layers_l13 {Po : mP} {t1 : Int32} (hT : Typ Po) (hX : XR Po)  (hp0 : 0 ≤ t1.toInt) (hp1 : t1.toInt + 2 ≤ (fv Po 294 0).toInt) (hp2 : (fv Po 294 0).toInt ≤ 7)  : ∀ (n : Nat) (v2 : Int32) (v3 : Int32), (v2.toInt = (fv Po 296 (t1.toInt.toNat + 1)).toInt) → (∀ i : Nat, i < v3.toInt.toNat → ¬ PI1 (pL Po) (oL Po) t1.toInt.toNat i) → (0 ≤ v3.toInt) → (2147483647 - v3.toInt).toNat = n → MEvP 2 none q_70 13 [(0, .ref 294), (1, .int t1), (2, .int v2), (3, .int v3)] [] Po 0 0 (fun r P' => (∃ x : Int32, r = some (.int x) ∧ (0 ≤ x.toInt ∧ x.toInt ≤ 1 ∧ ((x.toInt = 1 ∧ PIc (nL Po) (pL Po) (oL Po) t1.toInt.toNat) ∨ (x.toInt = 0 ∧ ¬ PIc (nL Po) (pL Po) (oL Po) t1.toInt.toNat)))) ∧ P' = Po) := by
  intro n
  induction n using Nat.strongRecOn with | _ n ih => ?_
  intro v2 v3 i_0 i_1 i_2 hm
  have w_t1 := ti_full t1
  have w_v2 := ti_full v2
  have w_v3 := ti_full v3
  have g1 : (0 : Int) ≤ (fv Po 294 0).toInt ∧ (fv Po 294 0).toInt ≤ 8 := Typ.rng hT rl_294 (by decide) (by decide) rfl
  refine mp_a (a_iload_n dX1_isPierced_13 rfl) (mpp 14 rfl ?_)
  refine mp_a (a_aload_n dX1_isPierced_14 rfl) (mpp 15 rfl ?_)
  refine mt_getI (i := 30) (k := 0) hT dX1_isPierced_15 rfl rl_294 (by decide) rfl (by decide) rfl (fun g2 g3 => mpp 18 rfl ?_)
  refine mp_Tb (t := 96) (j_icmp_ge dX1_isPierced_18) (by decide) (fun c4 => ?_) (fun c4 => mpp 21 rfl ?_)
  · have c4 : v3.toInt ≥ (fv Po 294 0).toInt := ti_ge c4
    refine mp_a (a_iconst (v := 0) dX1_isPierced_96 rfl) (mpp 97 rfl ?_)
    have u5 : 0 ≤ (0 : Int) ∧ (0 : Int) ≤ 1 ∧ (((0 : Int) = 1 ∧ PIc (nL Po) (pL Po) (oL Po) t1.toInt.toNat) ∨ ((0 : Int) = 0 ∧ ¬ PIc (nL Po) (pL Po) (oL Po) t1.toInt.toNat)) := ⟨by omega, by omega, Or.inr ⟨rfl, fun ⟨i, h1, h2⟩ => i_1 i (by have h1 : i < (fv Po 294 0).toInt.toNat := h1; omega) h2⟩⟩
    exact mp_iret ⟨⟨_, rfl, u5⟩, rfl⟩ dX1_isPierced_97 (Or.inr ⟨rfl, by decide⟩)
  · have c4 : v3.toInt < (fv Po 294 0).toInt := ti_ge_n c4
    refine mp_a (a_aload_n dX1_isPierced_21 rfl) (mpp 22 rfl ?_)
    refine mt_getU (i := 15) (k := 2) (A := 296) hT dX1_isPierced_22 rfl rl_294 (by decide) rfl (by decide) rfl un_15 (mpp 25 rfl ?_)
    refine mp_a (a_iload_n dX1_isPierced_25 rfl) (mpp 26 rfl ?_)
    refine mp_calls (i := 59) (q' := q_12) (As := [.ref 296, .int v3]) (rest := []) dX1_isPierced_26 rfl qm_12 (by decide) rfl (Nat.le_of_ble_eq_true rfl) rfl ⟨rfl, rfl⟩ ⟨Nat.le_of_ble_eq_true rfl, Nat.le_of_ble_eq_true rfl⟩ (EvP.mono (by decide) (c_F_at_places hT hX )) (fun r6 P7 g8 => mpp 29 rfl ?_)
    obtain ⟨⟨x9, rfl, g10⟩, e11⟩ := g8
    have e11 := e11.symm
    subst e11
    have wx9 := ti_full x9
    replace g10 : (0 ≤ v3.toInt ∧ v3.toInt ≤ 7 ∧ x9.toInt = (fv Po 296 v3.toInt.toNat).toInt) ∨ ((v3.toInt < 0 ∨ 8 ≤ v3.toInt) ∧ x9.toInt = 0) := g10
    try replace g10 : x9.toInt = (fv Po 296 v3.toInt.toNat).toInt := (g10.resolve_right (by omega)).2.2
    show MEvP _ none q_70 29 [(0, .ref 294), (1, .int t1), (2, .int v2), (3, .int v3)] [.int x9] _ _ _ _
    refine mp_a (a_aload_n dX1_isPierced_29 rfl) (mpp 30 rfl ?_)
    refine mt_getU (i := 15) (k := 2) (A := 296) hT dX1_isPierced_30 rfl rl_294 (by decide) rfl (by decide) rfl un_15 (mpp 33 rfl ?_)
    refine mp_a (a_iload_n dX1_isPierced_33 rfl) (mpp 34 rfl ?_)
    refine mp_a (a_iconst (v := 1) dX1_isPierced_34 rfl) (mpp 35 rfl ?_)
    obtain ⟨z12, h13⟩ := ti_ex (v3 + 1 : Int32)
    have wz12 := ti_full z12
    refine mp_t (s_iadd (v := z12) dX1_isPierced_35 h13) (mpp 36 rfl ?_)
    try have e14 : z12.toInt = v3.toInt + 1 := ti_addz h13 rfl rfl (by omega) (by omega)
    refine mp_calls (i := 59) (q' := q_12) (As := [.ref 296, .int z12]) (rest := [.int x9]) dX1_isPierced_36 rfl qm_12 (by decide) rfl (Nat.le_of_ble_eq_true rfl) rfl ⟨rfl, rfl⟩ ⟨Nat.le_of_ble_eq_true rfl, Nat.le_of_ble_eq_true rfl⟩ (EvP.mono (by decide) (c_F_at_places hT hX )) (fun r15 P16 g17 => mpp 39 rfl ?_)
    obtain ⟨⟨x18, rfl, g19⟩, e20⟩ := g17
    have e20 := e20.symm
    subst e20
    have wx18 := ti_full x18
    replace g19 : (0 ≤ z12.toInt ∧ z12.toInt ≤ 7 ∧ x18.toInt = (fv Po 296 z12.toInt.toNat).toInt) ∨ ((z12.toInt < 0 ∨ 8 ≤ z12.toInt) ∧ x18.toInt = 0) := g19
    try replace g19 : x18.toInt = (fv Po 296 z12.toInt.toNat).toInt := (g19.resolve_right (by omega)).2.2
    show MEvP _ none q_70 39 [(0, .ref 294), (1, .int t1), (2, .int v2), (3, .int v3)] [.int x18, .int x9] _ _ _ _
    obtain ⟨z21, h22⟩ := ti_ex (if (8 : Nat) = 7 then (if x9 < x18 then x18 else x9) else (if x18 < x9 then x18 else x9) : Int32)
    have e23 : z21.toInt = min x9.toInt x18.toInt := ti_mm8 h22
    refine mp_math (i := 45) (k := 0) (v := z21) dX1_isPierced_39 rfl (by decide) (Nat.le_of_ble_eq_true rfl) h22 ⟨Nat.le_of_ble_eq_true rfl, Nat.le_of_ble_eq_true rfl⟩ (mpp 42 rfl ?_)
    refine mp_a (a_istore (L' := [(4, .int z21), (0, .ref 294), (1, .int t1), (2, .int v2), (3, .int v3)]) dX1_isPierced_42 (by decide) rfl) (mpp 44 rfl ?_)
    refine mp_a (a_aload_n dX1_isPierced_44 rfl) (mpp 45 rfl ?_)
    refine mt_getU (i := 15) (k := 2) (A := 296) hT dX1_isPierced_45 rfl rl_294 (by decide) rfl (by decide) rfl un_15 (mpp 48 rfl ?_)
    refine mp_a (a_iload_n dX1_isPierced_48 rfl) (mpp 49 rfl ?_)
    refine mp_calls (i := 59) (q' := q_12) (As := [.ref 296, .int v3]) (rest := []) dX1_isPierced_49 rfl qm_12 (by decide) rfl (Nat.le_of_ble_eq_true rfl) rfl ⟨rfl, rfl⟩ ⟨Nat.le_of_ble_eq_true rfl, Nat.le_of_ble_eq_true rfl⟩ (EvP.mono (by decide) (c_F_at_places hT hX )) (fun r24 P25 g26 => mpp 52 rfl ?_)
    obtain ⟨⟨x27, rfl, g28⟩, e29⟩ := g26
    have e29 := e29.symm
    subst e29
    have wx27 := ti_full x27
    replace g28 : (0 ≤ v3.toInt ∧ v3.toInt ≤ 7 ∧ x27.toInt = (fv Po 296 v3.toInt.toNat).toInt) ∨ ((v3.toInt < 0 ∨ 8 ≤ v3.toInt) ∧ x27.toInt = 0) := g28
    try replace g28 : x27.toInt = (fv Po 296 v3.toInt.toNat).toInt := (g28.resolve_right (by omega)).2.2
    show MEvP _ none q_70 52 [(4, .int z21), (0, .ref 294), (1, .int t1), (2, .int v2), (3, .int v3)] [.int x27] _ _ _ _
    refine mp_a (a_aload_n dX1_isPierced_52 rfl) (mpp 53 rfl ?_)
    refine mt_getU (i := 15) (k := 2) (A := 296) hT dX1_isPierced_53 rfl rl_294 (by decide) rfl (by decide) rfl un_15 (mpp 56 rfl ?_)
    refine mp_a (a_iload_n dX1_isPierced_56 rfl) (mpp 57 rfl ?_)
    refine mp_a (a_iconst (v := 1) dX1_isPierced_57 rfl) (mpp 58 rfl ?_)
    obtain ⟨z30, h31⟩ := ti_ex (v3 + 1 : Int32)
    have wz30 := ti_full z30
    refine mp_t (s_iadd (v := z30) dX1_isPierced_58 h31) (mpp 59 rfl ?_)
    try have e32 : z30.toInt = v3.toInt + 1 := ti_addz h31 rfl rfl (by omega) (by omega)
    refine mp_calls (i := 59) (q' := q_12) (As := [.ref 296, .int z30]) (rest := [.int x27]) dX1_isPierced_59 rfl qm_12 (by decide) rfl (Nat.le_of_ble_eq_true rfl) rfl ⟨rfl, rfl⟩ ⟨Nat.le_of_ble_eq_true rfl, Nat.le_of_ble_eq_true rfl⟩ (EvP.mono (by decide) (c_F_at_places hT hX )) (fun r33 P34 g35 => mpp 62 rfl ?_)
    obtain ⟨⟨x36, rfl, g37⟩, e38⟩ := g35
    have e38 := e38.symm
    subst e38
    have wx36 := ti_full x36
    replace g37 : (0 ≤ z30.toInt ∧ z30.toInt ≤ 7 ∧ x36.toInt = (fv Po 296 z30.toInt.toNat).toInt) ∨ ((z30.toInt < 0 ∨ 8 ≤ z30.toInt) ∧ x36.toInt = 0) := g37
    try replace g37 : x36.toInt = (fv Po 296 z30.toInt.toNat).toInt := (g37.resolve_right (by omega)).2.2
    show MEvP _ none q_70 62 [(4, .int z21), (0, .ref 294), (1, .int t1), (2, .int v2), (3, .int v3)] [.int x36, .int x27] _ _ _ _
    obtain ⟨z39, h40⟩ := ti_ex (if (7 : Nat) = 7 then (if x27 < x36 then x36 else x27) else (if x36 < x27 then x36 else x27) : Int32)
    have e41 : z39.toInt = max x27.toInt x36.toInt := ti_mm7 h40
    refine mp_math (i := 77) (k := 0) (v := z39) dX1_isPierced_62 rfl (by decide) (Nat.le_of_ble_eq_true rfl) h40 ⟨Nat.le_of_ble_eq_true rfl, Nat.le_of_ble_eq_true rfl⟩ (mpp 65 rfl ?_)
    refine mp_a (a_istore (L' := [(5, .int z39), (4, .int z21), (0, .ref 294), (1, .int t1), (2, .int v2), (3, .int v3)]) dX1_isPierced_65 (by decide) rfl) (mpp 67 rfl ?_)
    refine mp_a (a_iload dX1_isPierced_67 rfl) (mpp 69 rfl ?_)
    refine mp_a (a_iload_n dX1_isPierced_69 rfl) (mpp 70 rfl ?_)
    refine mp_Tb (t := 90) (j_icmp_ge dX1_isPierced_70) (by decide) (fun c42 => ?_) (fun c42 => mpp 73 rfl ?_)
    · have c42 : z21.toInt ≥ v2.toInt := ti_ge c42
      obtain ⟨z43, h44⟩ := ti_ex (v3 + 1 : Int32)
      have wz43 := ti_full z43
      refine mp_a (a_iinc (v := z43) (L' := [(3, .int z43), (5, .int z39), (4, .int z21), (0, .ref 294), (1, .int t1), (2, .int v2)]) dX1_isPierced_90 (by decide) rfl h44 rfl) (mpp 93 rfl ?_)
      try have e45 : z43.toInt = v3.toInt + 1 := ti_addz h44 rfl rfl (by omega) (by omega)
      refine mp_a (a_goto (t := 13) dX1_isPierced_93 (by decide)) ?_
      refine MEvP.less (L := [(0, .ref 294), (1, .int t1), (2, .int v2), (3, .int z43)]) rfl rfl ⟨rfl, rfl, rfl, rfl, trivial⟩ ?_
      have i46 : v2.toInt = (fv Po 296 (t1.toInt.toNat + 1)).toInt := i_0
      have w48_ : x9.toInt = (fv Po 296 v3.toInt.toNat).toInt := by omega
      have w49_ : x18.toInt = (fv Po 296 (v3.toInt.toNat + 1)).toInt := by rw [show (v3.toInt.toNat + 1) = z12.toInt.toNat from by omega]; omega
      have w50_ : x27.toInt = (fv Po 296 v3.toInt.toNat).toInt := by omega
      have w51_ : x36.toInt = (fv Po 296 (v3.toInt.toNat + 1)).toInt := by rw [show (v3.toInt.toNat + 1) = z30.toInt.toNat from by omega]; omega
      have i47 : ∀ i : Nat, i < z43.toInt.toNat → ¬ PI1 (pL Po) (oL Po) t1.toInt.toNat i := fun i hi => if e : i = v3.toInt.toNat then by subst e; exact (fun q => by have q1 : min (fv Po 296 v3.toInt.toNat).toInt (fv Po 296 (v3.toInt.toNat + 1)).toInt < (fv Po 296 (t1.toInt.toNat + 1)).toInt ∧ (fv Po 296 (t1.toInt.toNat + 1)).toInt < max (fv Po 296 v3.toInt.toNat).toInt (fv Po 296 (v3.toInt.toNat + 1)).toInt := ⟨q.1, q.2.1⟩; omega) else i_1 i (by omega)
      have i52 : 0 ≤ z43.toInt := by omega
      exact ih _ (by omega) _ _ i46 i47 i52 rfl
    · have c42 : z21.toInt < v2.toInt := ti_ge_n c42
      refine mp_a (a_iload_n dX1_isPierced_73 rfl) (mpp 74 rfl ?_)
      refine mp_a (a_iload dX1_isPierced_74 rfl) (mpp 76 rfl ?_)
      refine mp_Tb (t := 90) (j_icmp_ge dX1_isPierced_76) (by decide) (fun c53 => ?_) (fun c53 => mpp 79 rfl ?_)
      · have c53 : v2.toInt ≥ z39.toInt := ti_ge c53
        obtain ⟨z54, h55⟩ := ti_ex (v3 + 1 : Int32)
        have wz54 := ti_full z54
        refine mp_a (a_iinc (v := z54) (L' := [(3, .int z54), (5, .int z39), (4, .int z21), (0, .ref 294), (1, .int t1), (2, .int v2)]) dX1_isPierced_90 (by decide) rfl h55 rfl) (mpp 93 rfl ?_)
        try have e56 : z54.toInt = v3.toInt + 1 := ti_addz h55 rfl rfl (by omega) (by omega)
        refine mp_a (a_goto (t := 13) dX1_isPierced_93 (by decide)) ?_
        refine MEvP.less (L := [(0, .ref 294), (1, .int t1), (2, .int v2), (3, .int z54)]) rfl rfl ⟨rfl, rfl, rfl, rfl, trivial⟩ ?_
        have i57 : v2.toInt = (fv Po 296 (t1.toInt.toNat + 1)).toInt := i_0
        have w59_ : x9.toInt = (fv Po 296 v3.toInt.toNat).toInt := by omega
        have w60_ : x18.toInt = (fv Po 296 (v3.toInt.toNat + 1)).toInt := by rw [show (v3.toInt.toNat + 1) = z12.toInt.toNat from by omega]; omega
        have w61_ : x27.toInt = (fv Po 296 v3.toInt.toNat).toInt := by omega
        have w62_ : x36.toInt = (fv Po 296 (v3.toInt.toNat + 1)).toInt := by rw [show (v3.toInt.toNat + 1) = z30.toInt.toNat from by omega]; omega
        have i58 : ∀ i : Nat, i < z54.toInt.toNat → ¬ PI1 (pL Po) (oL Po) t1.toInt.toNat i := fun i hi => if e : i = v3.toInt.toNat then by subst e; exact (fun q => by have q1 : min (fv Po 296 v3.toInt.toNat).toInt (fv Po 296 (v3.toInt.toNat + 1)).toInt < (fv Po 296 (t1.toInt.toNat + 1)).toInt ∧ (fv Po 296 (t1.toInt.toNat + 1)).toInt < max (fv Po 296 v3.toInt.toNat).toInt (fv Po 296 (v3.toInt.toNat + 1)).toInt := ⟨q.1, q.2.1⟩; omega) else i_1 i (by omega)
        have i63 : 0 ≤ z54.toInt := by omega
        exact ih _ (by omega) _ _ i57 i58 i63 rfl
      · have c53 : v2.toInt < z39.toInt := ti_ge_n c53
        refine mp_a (a_aload_n dX1_isPierced_79 rfl) (mpp 80 rfl ?_)
        refine mp_a (a_iload_n dX1_isPierced_80 rfl) (mpp 81 rfl ?_)
        refine mp_a (a_iload_n dX1_isPierced_81 rfl) (mpp 82 rfl ?_)
        have p64 : 0 ≤ v3.toInt := by omega
        have p65 : v3.toInt ≤ 7 := by omega
        have p66 : 0 ≤ t1.toInt := by omega
        have p67 : t1.toInt ≤ 6 := by omega
        refine mt_callv (i := 80) (q' := q_71) (As := [.int v3, .int t1]) (rest := []) hT dX1_isPierced_82 rfl qm_71 (by decide) rfl rl_294 (by decide) rfl (Nat.le_of_ble_eq_true rfl) rfl ⟨rfl, rfl⟩ ⟨Nat.le_of_ble_eq_true rfl, Nat.le_of_ble_eq_true rfl⟩ (EvP.mono (by decide) (c_CL_isBetween_Layers hT hX p64 p65 p66 p67 )) (fun r68 P69 g70 => mpp 85 rfl ?_)
        obtain ⟨⟨x71, rfl, g72⟩, e73⟩ := g70
        have e73 := e73.symm
        subst e73
        have wx71 := ti_full x71
        replace g72 : 0 ≤ x71.toInt ∧ x71.toInt ≤ 1 ∧ ((x71.toInt = 1 ∧ BT (oL Po) v3.toInt.toNat t1.toInt.toNat) ∨ (x71.toInt = 0 ∧ ¬ BT (oL Po) v3.toInt.toNat t1.toInt.toNat)) := g72
        show MEvP _ none q_70 85 [(5, .int z39), (4, .int z21), (0, .ref 294), (1, .int t1), (2, .int v2), (3, .int v3)] [.int x71] _ _ _ _
        refine mp_Tb (t := 90) (j_if_eq dX1_isPierced_85) (by decide) (fun c74 => ?_) (fun c74 => mpp 88 rfl ?_)
        · have c74 : x71.toInt = 0 := ti_eq c74
          obtain ⟨z75, h76⟩ := ti_ex (v3 + 1 : Int32)
          have wz75 := ti_full z75
          refine mp_a (a_iinc (v := z75) (L' := [(3, .int z75), (5, .int z39), (4, .int z21), (0, .ref 294), (1, .int t1), (2, .int v2)]) dX1_isPierced_90 (by decide) rfl h76 rfl) (mpp 93 rfl ?_)
          try have e77 : z75.toInt = v3.toInt + 1 := ti_addz h76 rfl rfl (by omega) (by omega)
          refine mp_a (a_goto (t := 13) dX1_isPierced_93 (by decide)) ?_
          refine MEvP.less (L := [(0, .ref 294), (1, .int t1), (2, .int v2), (3, .int z75)]) rfl rfl ⟨rfl, rfl, rfl, rfl, trivial⟩ ?_
          have i78 : v2.toInt = (fv Po 296 (t1.toInt.toNat + 1)).toInt := i_0
          have w80_ : x9.toInt = (fv Po 296 v3.toInt.toNat).toInt := by omega
          have w81_ : x18.toInt = (fv Po 296 (v3.toInt.toNat + 1)).toInt := by rw [show (v3.toInt.toNat + 1) = z12.toInt.toNat from by omega]; omega
          have w82_ : x27.toInt = (fv Po 296 v3.toInt.toNat).toInt := by omega
          have w83_ : x36.toInt = (fv Po 296 (v3.toInt.toNat + 1)).toInt := by rw [show (v3.toInt.toNat + 1) = z30.toInt.toNat from by omega]; omega
          have i79 : ∀ i : Nat, i < z75.toInt.toNat → ¬ PI1 (pL Po) (oL Po) t1.toInt.toNat i := fun i hi => if e : i = v3.toInt.toNat then by subst e; exact (fun q => (g72.2.2.resolve_left (by omega)).2 q.2.2) else i_1 i (by omega)
          have i84 : 0 ≤ z75.toInt := by omega
          exact ih _ (by omega) _ _ i78 i79 i84 rfl
        · have c74 : x71.toInt ≠ 0 := ti_eq_n c74
          refine mp_a (a_iconst (v := 1) dX1_isPierced_88 rfl) (mpp 89 rfl ?_)
          have w86_ : x9.toInt = (fv Po 296 v3.toInt.toNat).toInt := by omega
          have w87_ : x18.toInt = (fv Po 296 (v3.toInt.toNat + 1)).toInt := by rw [show (v3.toInt.toNat + 1) = z12.toInt.toNat from by omega]; omega
          have w88_ : x27.toInt = (fv Po 296 v3.toInt.toNat).toInt := by omega
          have w89_ : x36.toInt = (fv Po 296 (v3.toInt.toNat + 1)).toInt := by rw [show (v3.toInt.toNat + 1) = z30.toInt.toNat from by omega]; omega
          have w90_ : min (fv Po 296 v3.toInt.toNat).toInt (fv Po 296 (v3.toInt.toNat + 1)).toInt < (fv Po 296 (t1.toInt.toNat + 1)).toInt ∧ (fv Po 296 (t1.toInt.toNat + 1)).toInt < max (fv Po 296 v3.toInt.toNat).toInt (fv Po 296 (v3.toInt.toNat + 1)).toInt := by omega
          have u85 : 0 ≤ (1 : Int) ∧ (1 : Int) ≤ 1 ∧ (((1 : Int) = 1 ∧ PIc (nL Po) (pL Po) (oL Po) t1.toInt.toNat) ∨ ((1 : Int) = 0 ∧ ¬ PIc (nL Po) (pL Po) (oL Po) t1.toInt.toNat)) := ⟨by omega, by omega, Or.inl ⟨rfl, ⟨v3.toInt.toNat, (show v3.toInt.toNat < (fv Po 294 0).toInt.toNat from by omega), w90_.1, w90_.2, (g72.2.2.resolve_right (by omega)).2⟩⟩⟩
          exact mp_iret ⟨⟨_, rfl, u85⟩, rfl⟩ dX1_isPierced_89 (Or.inr ⟨rfl, by decide⟩)

set_option maxHeartbeats 4000000 in
theorem c_CL_isPierced_Layers {Po : mP} {t1 : Int32} (hT : Typ Po) (hX : XR Po)  (hp0 : 0 ≤ t1.toInt) (hp1 : t1.toInt + 2 ≤ (fv Po 294 0).toInt) (hp2 : (fv Po 294 0).toInt ≤ 7)  : EvP 3 70 [.ref 294, .int t1] Po (fun r P' => (∃ x : Int32, r = some (.int x) ∧ (0 ≤ x.toInt ∧ x.toInt ≤ 1 ∧ ((x.toInt = 1 ∧ PIc (nL Po) (pL Po) (oL Po) t1.toInt.toNat) ∨ (x.toInt = 0 ∧ ¬ PIc (nL Po) (pL Po) (oL Po) t1.toInt.toNat)))) ∧ P' = Po) := by
  refine EvP.of qm_70 (Nat.le_of_ble_eq_true rfl) rfl ?_
  show MEvP _ none q_70 0 [(0, .ref 294), (1, .int t1)] [] _ 0 0 _
  have w_t1 := ti_full t1
  have g1 : (0 : Int) ≤ (fv Po 294 0).toInt ∧ (fv Po 294 0).toInt ≤ 8 := Typ.rng hT rl_294 (by decide) (by decide) rfl
  refine mp_a (a_aload_n dX1_isPierced_0 rfl) (mpp 1 rfl ?_)
  refine mt_getU (i := 15) (k := 2) (A := 296) hT dX1_isPierced_1 rfl rl_294 (by decide) rfl (by decide) rfl un_15 (mpp 4 rfl ?_)
  refine mp_a (a_iload_n dX1_isPierced_4 rfl) (mpp 5 rfl ?_)
  refine mp_a (a_iconst (v := 1) dX1_isPierced_5 rfl) (mpp 6 rfl ?_)
  obtain ⟨z2, h3⟩ := ti_ex (t1 + 1 : Int32)
  have wz2 := ti_full z2
  refine mp_t (s_iadd (v := z2) dX1_isPierced_6 h3) (mpp 7 rfl ?_)
  try have e4 : z2.toInt = t1.toInt + 1 := ti_addz h3 rfl rfl (by omega) (by omega)
  refine mp_calls (i := 59) (q' := q_12) (As := [.ref 296, .int z2]) (rest := []) dX1_isPierced_7 rfl qm_12 (by decide) rfl (Nat.le_of_ble_eq_true rfl) rfl ⟨rfl, rfl⟩ ⟨Nat.le_of_ble_eq_true rfl, Nat.le_of_ble_eq_true rfl⟩ (EvP.mono (by decide) (c_F_at_places hT hX )) (fun r5 P6 g7 => mpp 10 rfl ?_)
  obtain ⟨⟨x8, rfl, g9⟩, e10⟩ := g7
  have e10 := e10.symm
  subst e10
  have wx8 := ti_full x8
  replace g9 : (0 ≤ z2.toInt ∧ z2.toInt ≤ 7 ∧ x8.toInt = (fv Po 296 z2.toInt.toNat).toInt) ∨ ((z2.toInt < 0 ∨ 8 ≤ z2.toInt) ∧ x8.toInt = 0) := g9
  try replace g9 : x8.toInt = (fv Po 296 z2.toInt.toNat).toInt := (g9.resolve_right (by omega)).2.2
  show MEvP _ none q_70 10 [(0, .ref 294), (1, .int t1)] [.int x8] _ _ _ _
  refine mp_a (a_istore_n (L' := [(2, .int x8), (0, .ref 294), (1, .int t1)]) dX1_isPierced_10 (by decide) rfl) (mpp 11 rfl ?_)
  refine mp_a (a_iconst (v := 0) dX1_isPierced_11 rfl) (mpp 12 rfl ?_)
  refine mp_a (a_istore_n (L' := [(3, .int 0), (2, .int x8), (0, .ref 294), (1, .int t1)]) dX1_isPierced_12 (by decide) rfl) (mpp 13 rfl ?_)
  refine MEvP.less (L := [(0, .ref 294), (1, .int t1), (2, .int x8), (3, .int 0)]) rfl rfl ⟨rfl, rfl, rfl, rfl, trivial⟩ ?_
  have w12_ : x8.toInt = (fv Po 296 (t1.toInt.toNat + 1)).toInt := by rw [show (t1.toInt.toNat + 1) = z2.toInt.toNat from by omega]; omega
  have i11 : x8.toInt = (fv Po 296 (t1.toInt.toNat + 1)).toInt := by omega
  have i13 : ∀ i : Nat, i < (0 : Int).toNat → ¬ PI1 (pL Po) (oL Po) t1.toInt.toNat i := fun i hi => absurd hi (Nat.not_lt_zero i)
  have i14 : 0 ≤ (0 : Int) := by omega
  exact c_CL_isPierced_Layers_l13 hT hX  hp0 hp1 hp2 _ _ _ i11 i13 i14 rfl

set_option maxHeartbeats 4000000 in
theorem c_CL_isCrossed_Layers_l4 {Po : mP} {t1 : Int32} (hT : Typ Po) (hX : XR Po)  (hp0 : 0 ≤ t1.toInt) (hp1 : t1.toInt + 2 ≤ (fv Po 294 0).toInt) (hp2 : (fv Po 294 0).toInt ≤ 7)  : ∀ (n : Nat) (v2 : Int32), (t1.toInt + 2 ≤ v2.toInt) → ((v2.toInt - t1.toInt) % 2 = 0) → (∀ i : Nat, t1.toInt.toNat + 2 ≤ i → (i - t1.toInt.toNat) % 2 = 0 → i < v2.toInt.toNat → ¬ CR1 (pL Po) (oL Po) t1.toInt.toNat i) → (v2.toInt ≤ 9) → (2147483647 - v2.toInt).toNat = n → MEvP 2 none q_72 4 [(0, .ref 294), (1, .int t1), (2, .int v2)] [] Po 0 0 (fun r P' => (∃ x : Int32, r = some (.int x) ∧ (0 ≤ x.toInt ∧ x.toInt ≤ 1 ∧ ((x.toInt = 1 ∧ CRc (nL Po) (pL Po) (oL Po) t1.toInt.toNat) ∨ (x.toInt = 0 ∧ ¬ CRc (nL Po) (pL Po) (oL Po) t1.toInt.toNat)))) ∧ P' = Po) := by
  intro n
  induction n using Nat.strongRecOn with | _ n ih => ?_
  intro v2 i_0 i_1 i_2 i_3 hm
  have w_t1 := ti_full t1
  have w_v2 := ti_full v2
  have g1 : (0 : Int) ≤ (fv Po 294 0).toInt ∧ (fv Po 294 0).toInt ≤ 8 := Typ.rng hT rl_294 (by decide) (by decide) rfl
  refine mp_a (a_iload_n dX1_isCrossed_4 rfl) (mpp 5 rfl ?_)
  refine mp_a (a_aload_n dX1_isCrossed_5 rfl) (mpp 6 rfl ?_)
  refine mt_getI (i := 30) (k := 0) hT dX1_isCrossed_6 rfl rl_294 (by decide) rfl (by decide) rfl (fun g2 g3 => mpp 9 rfl ?_)
  refine mp_a (a_iconst (v := 1) dX1_isCrossed_9 rfl) (mpp 10 rfl ?_)
  obtain ⟨z4, h5⟩ := ti_ex ((fv Po 294 0) - 1 : Int32)
  have wz4 := ti_full z4
  refine mp_t (s_isub (v := z4) dX1_isCrossed_10 h5) (mpp 11 rfl ?_)
  try have e6 : z4.toInt = (fv Po 294 0).toInt - 1 := ti_subz h5 rfl rfl (by omega) (by omega)
  refine mp_Tb (t := 72) (j_icmp_ge dX1_isCrossed_11) (by decide) (fun c7 => ?_) (fun c7 => mpp 14 rfl ?_)
  · have c7 : v2.toInt ≥ z4.toInt := ti_ge c7
    refine mp_a (a_iconst (v := 0) dX1_isCrossed_72 rfl) (mpp 73 rfl ?_)
    have u8 : 0 ≤ (0 : Int) ∧ (0 : Int) ≤ 1 ∧ (((0 : Int) = 1 ∧ CRc (nL Po) (pL Po) (oL Po) t1.toInt.toNat) ∨ ((0 : Int) = 0 ∧ ¬ CRc (nL Po) (pL Po) (oL Po) t1.toInt.toNat)) := ⟨by omega, by omega, Or.inr ⟨rfl, fun ⟨i, h1, h2, h3, h4⟩ => i_2 i h1 h2 (by have h3 : i + 1 < (fv Po 294 0).toInt.toNat := h3; omega) h4⟩⟩
    exact mp_iret ⟨⟨_, rfl, u8⟩, rfl⟩ dX1_isCrossed_73 (Or.inr ⟨rfl, by decide⟩)
  · have c7 : v2.toInt < z4.toInt := ti_ge_n c7
    refine mp_a (a_aload_n dX1_isCrossed_14 rfl) (mpp 15 rfl ?_)
    refine mt_getU (i := 15) (k := 2) (A := 296) hT dX1_isCrossed_15 rfl rl_294 (by decide) rfl (by decide) rfl un_15 (mpp 18 rfl ?_)
    refine mp_a (a_iload_n dX1_isCrossed_18 rfl) (mpp 19 rfl ?_)
    refine mp_a (a_iconst (v := 1) dX1_isCrossed_19 rfl) (mpp 20 rfl ?_)
    obtain ⟨z9, h10⟩ := ti_ex (v2 + 1 : Int32)
    have wz9 := ti_full z9
    refine mp_t (s_iadd (v := z9) dX1_isCrossed_20 h10) (mpp 21 rfl ?_)
    try have e11 : z9.toInt = v2.toInt + 1 := ti_addz h10 rfl rfl (by omega) (by omega)
    refine mp_calls (i := 59) (q' := q_12) (As := [.ref 296, .int z9]) (rest := []) dX1_isCrossed_21 rfl qm_12 (by decide) rfl (Nat.le_of_ble_eq_true rfl) rfl ⟨rfl, rfl⟩ ⟨Nat.le_of_ble_eq_true rfl, Nat.le_of_ble_eq_true rfl⟩ (EvP.mono (by decide) (c_F_at_places hT hX )) (fun r12 P13 g14 => mpp 24 rfl ?_)
    obtain ⟨⟨x15, rfl, g16⟩, e17⟩ := g14
    have e17 := e17.symm
    subst e17
    have wx15 := ti_full x15
    replace g16 : (0 ≤ z9.toInt ∧ z9.toInt ≤ 7 ∧ x15.toInt = (fv Po 296 z9.toInt.toNat).toInt) ∨ ((z9.toInt < 0 ∨ 8 ≤ z9.toInt) ∧ x15.toInt = 0) := g16
    try replace g16 : x15.toInt = (fv Po 296 z9.toInt.toNat).toInt := (g16.resolve_right (by omega)).2.2
    show MEvP _ none q_72 24 [(0, .ref 294), (1, .int t1), (2, .int v2)] [.int x15] _ _ _ _
    refine mp_a (a_aload_n dX1_isCrossed_24 rfl) (mpp 25 rfl ?_)
    refine mt_getU (i := 15) (k := 2) (A := 296) hT dX1_isCrossed_25 rfl rl_294 (by decide) rfl (by decide) rfl un_15 (mpp 28 rfl ?_)
    refine mp_a (a_iload_n dX1_isCrossed_28 rfl) (mpp 29 rfl ?_)
    refine mp_a (a_iconst (v := 1) dX1_isCrossed_29 rfl) (mpp 30 rfl ?_)
    obtain ⟨z18, h19⟩ := ti_ex (t1 + 1 : Int32)
    have wz18 := ti_full z18
    refine mp_t (s_iadd (v := z18) dX1_isCrossed_30 h19) (mpp 31 rfl ?_)
    try have e20 : z18.toInt = t1.toInt + 1 := ti_addz h19 rfl rfl (by omega) (by omega)
    refine mp_calls (i := 59) (q' := q_12) (As := [.ref 296, .int z18]) (rest := [.int x15]) dX1_isCrossed_31 rfl qm_12 (by decide) rfl (Nat.le_of_ble_eq_true rfl) rfl ⟨rfl, rfl⟩ ⟨Nat.le_of_ble_eq_true rfl, Nat.le_of_ble_eq_true rfl⟩ (EvP.mono (by decide) (c_F_at_places hT hX )) (fun r21 P22 g23 => mpp 34 rfl ?_)
    obtain ⟨⟨x24, rfl, g25⟩, e26⟩ := g23
    have e26 := e26.symm
    subst e26
    have wx24 := ti_full x24
    replace g25 : (0 ≤ z18.toInt ∧ z18.toInt ≤ 7 ∧ x24.toInt = (fv Po 296 z18.toInt.toNat).toInt) ∨ ((z18.toInt < 0 ∨ 8 ≤ z18.toInt) ∧ x24.toInt = 0) := g25
    try replace g25 : x24.toInt = (fv Po 296 z18.toInt.toNat).toInt := (g25.resolve_right (by omega)).2.2
    show MEvP _ none q_72 34 [(0, .ref 294), (1, .int t1), (2, .int v2)] [.int x24, .int x15] _ _ _ _
    refine mp_Tb (t := 41) (j_icmp_ne dX1_isCrossed_34) (by decide) (fun c27 => ?_) (fun c27 => mpp 37 rfl ?_)
    · have c27 : x15.toInt ≠ x24.toInt := ti_ne c27
      refine mp_a (a_iconst (v := 0) dX1_isCrossed_41 rfl) (mpp 42 rfl ?_)
      refine mp_a (a_istore_n (L' := [(3, .int 0), (0, .ref 294), (1, .int t1), (2, .int v2)]) dX1_isCrossed_42 (by decide) rfl) (mpp 43 rfl ?_)
      refine mp_a (a_iload_n dX1_isCrossed_43 rfl) (mpp 44 rfl ?_)
      refine mp_Tt (t := 66) (j_if_eq dX1_isCrossed_44) (by decide) (by decide) ?_
      obtain ⟨z28, h29⟩ := ti_ex (v2 + 2 : Int32)
      have wz28 := ti_full z28
      refine mp_a (a_iinc (v := z28) (L' := [(2, .int z28), (3, .int 0), (0, .ref 294), (1, .int t1)]) dX1_isCrossed_66 (by decide) rfl h29 rfl) (mpp 69 rfl ?_)
      try have e30 : z28.toInt = v2.toInt + 2 := ti_addz h29 rfl rfl (by omega) (by omega)
      refine mp_a (a_goto (t := 4) dX1_isCrossed_69 (by decide)) ?_
      refine MEvP.less (L := [(0, .ref 294), (1, .int t1), (2, .int z28)]) rfl rfl ⟨rfl, rfl, rfl, trivial⟩ ?_
      have i31 : t1.toInt + 2 ≤ z28.toInt := by omega
      have i32 : (z28.toInt - t1.toInt) % 2 = 0 := by omega
      have w34_ : x15.toInt = (fv Po 296 (v2.toInt.toNat + 1)).toInt := by rw [show (v2.toInt.toNat + 1) = z9.toInt.toNat from by omega]; omega
      have w35_ : x24.toInt = (fv Po 296 (t1.toInt.toNat + 1)).toInt := by rw [show (t1.toInt.toNat + 1) = z18.toInt.toNat from by omega]; omega
      have i33 : ∀ i : Nat, t1.toInt.toNat + 2 ≤ i → (i - t1.toInt.toNat) % 2 = 0 → i < z28.toInt.toNat → ¬ CR1 (pL Po) (oL Po) t1.toInt.toNat i := fun i h1 h2 h3 => if e : i = v2.toInt.toNat then by subst e; exact (fun q => by have q1 : (fv Po 296 (v2.toInt.toNat + 1)).toInt = (fv Po 296 (t1.toInt.toNat + 1)).toInt := q.1; omega) else i_2 i h1 h2 (by omega)
      have i36 : z28.toInt ≤ 9 := by omega
      exact ih _ (by omega) _ i31 i32 i33 i36 rfl
    · have c27 : x15.toInt = x24.toInt := ti_ne_n c27
      refine mp_a (a_iconst (v := 1) dX1_isCrossed_37 rfl) (mpp 38 rfl ?_)
      refine mp_a (a_goto (t := 42) dX1_isCrossed_38 (by decide)) ?_
      refine mp_a (a_istore_n (L' := [(3, .int 1), (0, .ref 294), (1, .int t1), (2, .int v2)]) dX1_isCrossed_42 (by decide) rfl) (mpp 43 rfl ?_)
      refine mp_a (a_iload_n dX1_isCrossed_43 rfl) (mpp 44 rfl ?_)
      refine mp_Tf (t := 66) (j_if_eq dX1_isCrossed_44) (by decide) (by decide) (mpp 47 rfl ?_)
      refine mp_a (a_aload_n dX1_isCrossed_47 rfl) (mpp 48 rfl ?_)
      refine mp_a (a_iload_n dX1_isCrossed_48 rfl) (mpp 49 rfl ?_)
      refine mp_a (a_iload_n dX1_isCrossed_49 rfl) (mpp 50 rfl ?_)
      have p37 : 0 ≤ v2.toInt := by omega
      have p38 : v2.toInt ≤ 7 := by omega
      have p39 : 0 ≤ t1.toInt := by omega
      have p40 : t1.toInt ≤ 6 := by omega
      refine mt_callv (i := 80) (q' := q_71) (As := [.int v2, .int t1]) (rest := []) hT dX1_isCrossed_50 rfl qm_71 (by decide) rfl rl_294 (by decide) rfl (Nat.le_of_ble_eq_true rfl) rfl ⟨rfl, rfl⟩ ⟨Nat.le_of_ble_eq_true rfl, Nat.le_of_ble_eq_true rfl⟩ (EvP.mono (by decide) (c_CL_isBetween_Layers hT hX p37 p38 p39 p40 )) (fun r41 P42 g43 => mpp 53 rfl ?_)
      obtain ⟨⟨x44, rfl, g45⟩, e46⟩ := g43
      have e46 := e46.symm
      subst e46
      have wx44 := ti_full x44
      replace g45 : 0 ≤ x44.toInt ∧ x44.toInt ≤ 1 ∧ ((x44.toInt = 1 ∧ BT (oL Po) v2.toInt.toNat t1.toInt.toNat) ∨ (x44.toInt = 0 ∧ ¬ BT (oL Po) v2.toInt.toNat t1.toInt.toNat)) := g45
      show MEvP _ none q_72 53 [(3, .int 1), (0, .ref 294), (1, .int t1), (2, .int v2)] [.int x44] _ _ _ _
      refine mp_a (a_aload_n dX1_isCrossed_53 rfl) (mpp 54 rfl ?_)
      refine mp_a (a_iload_n dX1_isCrossed_54 rfl) (mpp 55 rfl ?_)
      refine mp_a (a_iconst (v := 1) dX1_isCrossed_55 rfl) (mpp 56 rfl ?_)
      obtain ⟨z47, h48⟩ := ti_ex (v2 + 1 : Int32)
      have wz47 := ti_full z47
      refine mp_t (s_iadd (v := z47) dX1_isCrossed_56 h48) (mpp 57 rfl ?_)
      try have e49 : z47.toInt = v2.toInt + 1 := ti_addz h48 rfl rfl (by omega) (by omega)
      refine mp_a (a_iload_n dX1_isCrossed_57 rfl) (mpp 58 rfl ?_)
      have p50 : 0 ≤ z47.toInt := by omega
      have p51 : z47.toInt ≤ 7 := by omega
      have p52 : 0 ≤ t1.toInt := by omega
      have p53 : t1.toInt ≤ 6 := by omega
      refine mt_callv (i := 80) (q' := q_71) (As := [.int z47, .int t1]) (rest := [.int x44]) hT dX1_isCrossed_58 rfl qm_71 (by decide) rfl rl_294 (by decide) rfl (Nat.le_of_ble_eq_true rfl) rfl ⟨rfl, rfl⟩ ⟨Nat.le_of_ble_eq_true rfl, Nat.le_of_ble_eq_true rfl⟩ (EvP.mono (by decide) (c_CL_isBetween_Layers hT hX p50 p51 p52 p53 )) (fun r54 P55 g56 => mpp 61 rfl ?_)
      obtain ⟨⟨x57, rfl, g58⟩, e59⟩ := g56
      have e59 := e59.symm
      subst e59
      have wx57 := ti_full x57
      replace g58 : 0 ≤ x57.toInt ∧ x57.toInt ≤ 1 ∧ ((x57.toInt = 1 ∧ BT (oL Po) z47.toInt.toNat t1.toInt.toNat) ∨ (x57.toInt = 0 ∧ ¬ BT (oL Po) z47.toInt.toNat t1.toInt.toNat)) := g58
      show MEvP _ none q_72 61 [(3, .int 1), (0, .ref 294), (1, .int t1), (2, .int v2)] [.int x57, .int x44] _ _ _ _
      refine mp_Tb (t := 66) (j_icmp_eq dX1_isCrossed_61) (by decide) (fun c60 => ?_) (fun c60 => mpp 64 rfl ?_)
      · have c60 : x44.toInt = x57.toInt := ti_eq c60
        obtain ⟨z61, h62⟩ := ti_ex (v2 + 2 : Int32)
        have wz61 := ti_full z61
        refine mp_a (a_iinc (v := z61) (L' := [(2, .int z61), (3, .int 1), (0, .ref 294), (1, .int t1)]) dX1_isCrossed_66 (by decide) rfl h62 rfl) (mpp 69 rfl ?_)
        try have e63 : z61.toInt = v2.toInt + 2 := ti_addz h62 rfl rfl (by omega) (by omega)
        refine mp_a (a_goto (t := 4) dX1_isCrossed_69 (by decide)) ?_
        refine MEvP.less (L := [(0, .ref 294), (1, .int t1), (2, .int z61)]) rfl rfl ⟨rfl, rfl, rfl, trivial⟩ ?_
        have i64 : t1.toInt + 2 ≤ z61.toInt := by omega
        have i65 : (z61.toInt - t1.toInt) % 2 = 0 := by omega
        have w67_ : x15.toInt = (fv Po 296 (v2.toInt.toNat + 1)).toInt := by rw [show (v2.toInt.toNat + 1) = z9.toInt.toNat from by omega]; omega
        have w68_ : x24.toInt = (fv Po 296 (t1.toInt.toNat + 1)).toInt := by rw [show (t1.toInt.toNat + 1) = z18.toInt.toNat from by omega]; omega
        have w69_ := g58
        rw [show z47.toInt.toNat = v2.toInt.toNat + 1 from by omega] at w69_
        have i66 : ∀ i : Nat, t1.toInt.toNat + 2 ≤ i → (i - t1.toInt.toNat) % 2 = 0 → i < z61.toInt.toNat → ¬ CR1 (pL Po) (oL Po) t1.toInt.toNat i := fun i h1 h2 h3 => if e : i = v2.toInt.toNat then by subst e; exact (fun q => q.2 (bt_iff g45.2.2 w69_.2.2 (by omega))) else i_2 i h1 h2 (by omega)
        have i70 : z61.toInt ≤ 9 := by omega
        exact ih _ (by omega) _ i64 i65 i66 i70 rfl
      · have c60 : x44.toInt ≠ x57.toInt := ti_eq_n c60
        refine mp_a (a_iconst (v := 1) dX1_isCrossed_64 rfl) (mpp 65 rfl ?_)
        have w72_ : x15.toInt = (fv Po 296 (v2.toInt.toNat + 1)).toInt := by rw [show (v2.toInt.toNat + 1) = z9.toInt.toNat from by omega]; omega
        have w73_ : x24.toInt = (fv Po 296 (t1.toInt.toNat + 1)).toInt := by rw [show (t1.toInt.toNat + 1) = z18.toInt.toNat from by omega]; omega
        have w74_ := g58
        rw [show z47.toInt.toNat = v2.toInt.toNat + 1 from by omega] at w74_
        have u71 : 0 ≤ (1 : Int) ∧ (1 : Int) ≤ 1 ∧ (((1 : Int) = 1 ∧ CRc (nL Po) (pL Po) (oL Po) t1.toInt.toNat) ∨ ((1 : Int) = 0 ∧ ¬ CRc (nL Po) (pL Po) (oL Po) t1.toInt.toNat)) := ⟨by omega, by omega, Or.inl ⟨rfl, ⟨v2.toInt.toNat, by omega, by omega, (show v2.toInt.toNat + 1 < (fv Po 294 0).toInt.toNat from by omega), (show (fv Po 296 (v2.toInt.toNat + 1)).toInt = (fv Po 296 (t1.toInt.toNat + 1)).toInt from by omega), bt_niff g45.2.2 w74_.2.2 (by omega)⟩⟩⟩
        exact mp_iret ⟨⟨_, rfl, u71⟩, rfl⟩ dX1_isCrossed_65 (Or.inr ⟨rfl, by decide⟩)

set_option maxHeartbeats 4000000 in
theorem c_CL_isCrossed_Layers {Po : mP} {t1 : Int32} (hT : Typ Po) (hX : XR Po)  (hp0 : 0 ≤ t1.toInt) (hp1 : t1.toInt + 2 ≤ (fv Po 294 0).toInt) (hp2 : (fv Po 294 0).toInt ≤ 7)  : EvP 3 72 [.ref 294, .int t1] Po (fun r P' => (∃ x : Int32, r = some (.int x) ∧ (0 ≤ x.toInt ∧ x.toInt ≤ 1 ∧ ((x.toInt = 1 ∧ CRc (nL Po) (pL Po) (oL Po) t1.toInt.toNat) ∨ (x.toInt = 0 ∧ ¬ CRc (nL Po) (pL Po) (oL Po) t1.toInt.toNat)))) ∧ P' = Po) := by
  refine EvP.of qm_72 (Nat.le_of_ble_eq_true rfl) rfl ?_
  show MEvP _ none q_72 0 [(0, .ref 294), (1, .int t1)] [] _ 0 0 _
  have w_t1 := ti_full t1
  have g1 : (0 : Int) ≤ (fv Po 294 0).toInt ∧ (fv Po 294 0).toInt ≤ 8 := Typ.rng hT rl_294 (by decide) (by decide) rfl
  refine mp_a (a_iload_n dX1_isCrossed_0 rfl) (mpp 1 rfl ?_)
  refine mp_a (a_iconst (v := 2) dX1_isCrossed_1 rfl) (mpp 2 rfl ?_)
  obtain ⟨z2, h3⟩ := ti_ex (t1 + 2 : Int32)
  have wz2 := ti_full z2
  refine mp_t (s_iadd (v := z2) dX1_isCrossed_2 h3) (mpp 3 rfl ?_)
  try have e4 : z2.toInt = t1.toInt + 2 := ti_addz h3 rfl rfl (by omega) (by omega)
  refine mp_a (a_istore_n (L' := [(2, .int z2), (0, .ref 294), (1, .int t1)]) dX1_isCrossed_3 (by decide) rfl) (mpp 4 rfl ?_)
  refine MEvP.less (L := [(0, .ref 294), (1, .int t1), (2, .int z2)]) rfl rfl ⟨rfl, rfl, rfl, trivial⟩ ?_
  have i5 : t1.toInt + 2 ≤ z2.toInt := by omega
  have i6 : (z2.toInt - t1.toInt) % 2 = 0 := by omega
  have i7 : ∀ i : Nat, t1.toInt.toNat + 2 ≤ i → (i - t1.toInt.toNat) % 2 = 0 → i < z2.toInt.toNat → ¬ CR1 (pL Po) (oL Po) t1.toInt.toNat i := fun i h1 h2 h3 => by omega
  have i8 : z2.toInt ≤ 9 := by omega
  exact c_CL_isCrossed_Layers_l4 hT hX  hp0 hp1 hp2 _ _ i5 i6 i7 i8 rfl

set_option maxHeartbeats 4000000 in
theorem c_CL_layersCollide_Layers_l2 {Po : mP}  (hT : Typ Po) (hX : XR Po)  (hp0 : (fv Po 294 0).toInt ≤ 7)  : ∀ (n : Nat) (v1 : Int32), (∀ c : Nat, c < v1.toInt.toNat → ¬ PIc (nL Po) (pL Po) (oL Po) c ∧ ¬ CRc (nL Po) (pL Po) (oL Po) c) → (v1.toInt ≤ 8) → (0 ≤ v1.toInt) → (2147483647 - v1.toInt).toNat = n → MEvP 3 none q_69 2 [(0, .ref 294), (1, .int v1)] [] Po 0 0 (fun r P' => (∃ x : Int32, r = some (.int x) ∧ (0 ≤ x.toInt ∧ x.toInt ≤ 1 ∧ ((x.toInt = 1 ∧ ¬ PSc (nL Po) (pL Po) (oL Po)) ∨ (x.toInt = 0 ∧ PSc (nL Po) (pL Po) (oL Po))))) ∧ P' = Po) := by
  intro n
  induction n using Nat.strongRecOn with | _ n ih => ?_
  intro v1 i_0 i_1 i_2 hm
  have w_v1 := ti_full v1
  have g1 : (0 : Int) ≤ (fv Po 294 0).toInt ∧ (fv Po 294 0).toInt ≤ 8 := Typ.rng hT rl_294 (by decide) (by decide) rfl
  refine mp_a (a_iload_n dX1_layersCollide_2 rfl) (mpp 3 rfl ?_)
  refine mp_a (a_aload_n dX1_layersCollide_3 rfl) (mpp 4 rfl ?_)
  refine mt_getI (i := 30) (k := 0) hT dX1_layersCollide_4 rfl rl_294 (by decide) rfl (by decide) rfl (fun g2 g3 => mpp 7 rfl ?_)
  refine mp_a (a_iconst (v := 1) dX1_layersCollide_7 rfl) (mpp 8 rfl ?_)
  obtain ⟨z4, h5⟩ := ti_ex ((fv Po 294 0) - 1 : Int32)
  have wz4 := ti_full z4
  refine mp_t (s_isub (v := z4) dX1_layersCollide_8 h5) (mpp 9 rfl ?_)
  try have e6 : z4.toInt = (fv Po 294 0).toInt - 1 := ti_subz h5 rfl rfl (by omega) (by omega)
  refine mp_Tb (t := 36) (j_icmp_ge dX1_layersCollide_9) (by decide) (fun c7 => ?_) (fun c7 => mpp 12 rfl ?_)
  · have c7 : v1.toInt ≥ z4.toInt := ti_ge c7
    refine mp_a (a_iconst (v := 0) dX1_layersCollide_36 rfl) (mpp 37 rfl ?_)
    have u8 : 0 ≤ (0 : Int) ∧ (0 : Int) ≤ 1 ∧ (((0 : Int) = 1 ∧ ¬ PSc (nL Po) (pL Po) (oL Po)) ∨ ((0 : Int) = 0 ∧ PSc (nL Po) (pL Po) (oL Po))) := ⟨by omega, by omega, Or.inr ⟨rfl, fun c hc => i_0 c (by have hc : c + 1 < (fv Po 294 0).toInt.toNat := hc; omega)⟩⟩
    exact mp_iret ⟨⟨_, rfl, u8⟩, rfl⟩ dX1_layersCollide_37 (Or.inr ⟨rfl, by decide⟩)
  · have c7 : v1.toInt < z4.toInt := ti_ge_n c7
    refine mp_a (a_aload_n dX1_layersCollide_12 rfl) (mpp 13 rfl ?_)
    refine mp_a (a_iload_n dX1_layersCollide_13 rfl) (mpp 14 rfl ?_)
    have p9 : 0 ≤ v1.toInt := by omega
    have p10 : v1.toInt + 2 ≤ (fv Po 294 0).toInt := by omega
    have p11 : (fv Po 294 0).toInt ≤ 7 := by omega
    refine mt_callv (i := 70) (q' := q_70) (As := [.int v1]) (rest := []) hT dX1_layersCollide_14 rfl qm_70 (by decide) rfl rl_294 (by decide) rfl (Nat.le_of_ble_eq_true rfl) rfl ⟨rfl, rfl⟩ ⟨Nat.le_of_ble_eq_true rfl, Nat.le_of_ble_eq_true rfl⟩ (EvP.mono (by decide) (c_CL_isPierced_Layers hT hX p9 p10 p11 )) (fun r12 P13 g14 => mpp 17 rfl ?_)
    obtain ⟨⟨x15, rfl, g16⟩, e17⟩ := g14
    have e17 := e17.symm
    subst e17
    have wx15 := ti_full x15
    replace g16 : 0 ≤ x15.toInt ∧ x15.toInt ≤ 1 ∧ ((x15.toInt = 1 ∧ PIc (nL Po) (pL Po) (oL Po) v1.toInt.toNat) ∨ (x15.toInt = 0 ∧ ¬ PIc (nL Po) (pL Po) (oL Po) v1.toInt.toNat)) := g16
    show MEvP _ none q_69 17 [(0, .ref 294), (1, .int v1)] [.int x15] _ _ _ _
    refine mp_Tb (t := 28) (j_if_ne dX1_layersCollide_17) (by decide) (fun c18 => ?_) (fun c18 => mpp 20 rfl ?_)
    · have c18 : x15.toInt ≠ 0 := ti_ne c18
      refine mp_a (a_iconst (v := 1) dX1_layersCollide_28 rfl) (mpp 29 rfl ?_)
      have u19 : 0 ≤ (1 : Int) ∧ (1 : Int) ≤ 1 ∧ (((1 : Int) = 1 ∧ ¬ PSc (nL Po) (pL Po) (oL Po)) ∨ ((1 : Int) = 0 ∧ PSc (nL Po) (pL Po) (oL Po))) := ⟨by omega, by omega, Or.inl ⟨rfl, fun h => (h v1.toInt.toNat (show v1.toInt.toNat + 1 < (fv Po 294 0).toInt.toNat from by omega)).1 (g16.2.2.resolve_right (by omega)).2⟩⟩
      exact mp_iret ⟨⟨_, rfl, u19⟩, rfl⟩ dX1_layersCollide_29 (Or.inr ⟨rfl, by decide⟩)
    · have c18 : x15.toInt = 0 := ti_ne_n c18
      refine mp_a (a_aload_n dX1_layersCollide_20 rfl) (mpp 21 rfl ?_)
      refine mp_a (a_iload_n dX1_layersCollide_21 rfl) (mpp 22 rfl ?_)
      have p20 : 0 ≤ v1.toInt := by omega
      have p21 : v1.toInt + 2 ≤ (fv Po 294 0).toInt := by omega
      have p22 : (fv Po 294 0).toInt ≤ 7 := by omega
      refine mt_callv (i := 74) (q' := q_72) (As := [.int v1]) (rest := []) hT dX1_layersCollide_22 rfl qm_72 (by decide) rfl rl_294 (by decide) rfl (Nat.le_of_ble_eq_true rfl) rfl ⟨rfl, rfl⟩ ⟨Nat.le_of_ble_eq_true rfl, Nat.le_of_ble_eq_true rfl⟩ (EvP.mono (by decide) (c_CL_isCrossed_Layers hT hX p20 p21 p22 )) (fun r23 P24 g25 => mpp 25 rfl ?_)
      obtain ⟨⟨x26, rfl, g27⟩, e28⟩ := g25
      have e28 := e28.symm
      subst e28
      have wx26 := ti_full x26
      replace g27 : 0 ≤ x26.toInt ∧ x26.toInt ≤ 1 ∧ ((x26.toInt = 1 ∧ CRc (nL Po) (pL Po) (oL Po) v1.toInt.toNat) ∨ (x26.toInt = 0 ∧ ¬ CRc (nL Po) (pL Po) (oL Po) v1.toInt.toNat)) := g27
      show MEvP _ none q_69 25 [(0, .ref 294), (1, .int v1)] [.int x26] _ _ _ _
      refine mp_Tb (t := 30) (j_if_eq dX1_layersCollide_25) (by decide) (fun c29 => ?_) (fun c29 => mpp 28 rfl ?_)
      · have c29 : x26.toInt = 0 := ti_eq c29
        obtain ⟨z30, h31⟩ := ti_ex (v1 + 1 : Int32)
        have wz30 := ti_full z30
        refine mp_a (a_iinc (v := z30) (L' := [(1, .int z30), (0, .ref 294)]) dX1_layersCollide_30 (by decide) rfl h31 rfl) (mpp 33 rfl ?_)
        try have e32 : z30.toInt = v1.toInt + 1 := ti_addz h31 rfl rfl (by omega) (by omega)
        refine mp_a (a_goto (t := 2) dX1_layersCollide_33 (by decide)) ?_
        refine MEvP.less (L := [(0, .ref 294), (1, .int z30)]) rfl rfl ⟨rfl, rfl, trivial⟩ ?_
        have i33 : ∀ c : Nat, c < z30.toInt.toNat → ¬ PIc (nL Po) (pL Po) (oL Po) c ∧ ¬ CRc (nL Po) (pL Po) (oL Po) c := fun c hc => if e : c = v1.toInt.toNat then by subst e; exact ⟨(g16.2.2.resolve_left (by omega)).2, (g27.2.2.resolve_left (by omega)).2⟩ else i_0 c (by omega)
        have i34 : z30.toInt ≤ 8 := by omega
        have i35 : 0 ≤ z30.toInt := by omega
        exact ih _ (by omega) _ i33 i34 i35 rfl
      · have c29 : x26.toInt ≠ 0 := ti_eq_n c29
        refine mp_a (a_iconst (v := 1) dX1_layersCollide_28 rfl) (mpp 29 rfl ?_)
        have u36 : 0 ≤ (1 : Int) ∧ (1 : Int) ≤ 1 ∧ (((1 : Int) = 1 ∧ ¬ PSc (nL Po) (pL Po) (oL Po)) ∨ ((1 : Int) = 0 ∧ PSc (nL Po) (pL Po) (oL Po))) := ⟨by omega, by omega, Or.inl ⟨rfl, fun h => (h v1.toInt.toNat (show v1.toInt.toNat + 1 < (fv Po 294 0).toInt.toNat from by omega)).2 (g27.2.2.resolve_right (by omega)).2⟩⟩
        exact mp_iret ⟨⟨_, rfl, u36⟩, rfl⟩ dX1_layersCollide_29 (Or.inr ⟨rfl, by decide⟩)

set_option maxHeartbeats 4000000 in
theorem c_CL_layersCollide_Layers {Po : mP}  (hT : Typ Po) (hX : XR Po)  (hp0 : (fv Po 294 0).toInt ≤ 7)  : EvP 4 69 [.ref 294] Po (fun r P' => (∃ x : Int32, r = some (.int x) ∧ (0 ≤ x.toInt ∧ x.toInt ≤ 1 ∧ ((x.toInt = 1 ∧ ¬ PSc (nL Po) (pL Po) (oL Po)) ∨ (x.toInt = 0 ∧ PSc (nL Po) (pL Po) (oL Po))))) ∧ P' = Po) := by
  refine EvP.of qm_69 (Nat.le_of_ble_eq_true rfl) rfl ?_
  show MEvP _ none q_69 0 [(0, .ref 294)] [] _ 0 0 _
  have g1 : (0 : Int) ≤ (fv Po 294 0).toInt ∧ (fv Po 294 0).toInt ≤ 8 := Typ.rng hT rl_294 (by decide) (by decide) rfl
  refine mp_a (a_iconst (v := 0) dX1_layersCollide_0 rfl) (mpp 1 rfl ?_)
  refine mp_a (a_istore_n (L' := [(1, .int 0), (0, .ref 294)]) dX1_layersCollide_1 (by decide) rfl) (mpp 2 rfl ?_)
  refine MEvP.less (L := [(0, .ref 294), (1, .int 0)]) rfl rfl ⟨rfl, rfl, trivial⟩ ?_
  have i2 : ∀ c : Nat, c < (0 : Int).toNat → ¬ PIc (nL Po) (pL Po) (oL Po) c ∧ ¬ CRc (nL Po) (pL Po) (oL Po) c := fun c hc => absurd hc (Nat.not_lt_zero c)
  have i3 : (0 : Int) ≤ 8 := by omega
  have i4 : 0 ≤ (0 : Int) := by omega
  exact c_CL_layersCollide_Layers_l2 hT hX  hp0 _ _ i2 i3 i4 rfl

set_option maxHeartbeats 4000000 in
theorem c_CL_isFree_Layers_l2 {Po : mP} {t1 : Int32} {t2 : Int32} (hT : Typ Po) (hX : XR Po)  (hp0 : 0 ≤ t2.toInt) (hp1 : t2.toInt ≤ 7)  : ∀ (n : Nat) (v3 : Int32), (∀ j : Nat, j < v3.toInt.toNat → ¬ oL Po j = t1.toInt) → (0 ≤ v3.toInt) → (2147483647 - v3.toInt).toNat = n → MEvP 1 none q_67 2 [(0, .ref 294), (1, .int t1), (2, .int t2), (3, .int v3)] [] Po 0 0 (fun r P' => (∃ x : Int32, r = some (.int x) ∧ (0 ≤ x.toInt ∧ x.toInt ≤ 1 ∧ ((x.toInt = 1 ∧ (∀ j : Nat, j < t2.toInt.toNat → ¬ oL Po j = t1.toInt)) ∨ (x.toInt = 0 ∧ ¬ (∀ j : Nat, j < t2.toInt.toNat → ¬ oL Po j = t1.toInt))))) ∧ P' = Po) := by
  intro n
  induction n using Nat.strongRecOn with | _ n ih => ?_
  intro v3 i_0 i_1 hm
  have w_t1 := ti_full t1
  have w_t2 := ti_full t2
  have w_v3 := ti_full v3
  refine mp_a (a_iload_n dX1_isFree_2 rfl) (mpp 3 rfl ?_)
  refine mp_a (a_iload_n dX1_isFree_3 rfl) (mpp 4 rfl ?_)
  refine mp_Tb (t := 27) (j_icmp_ge dX1_isFree_4) (by decide) (fun c1 => ?_) (fun c1 => mpp 7 rfl ?_)
  · have c1 : v3.toInt ≥ t2.toInt := ti_ge c1
    refine mp_a (a_iconst (v := 1) dX1_isFree_27 rfl) (mpp 28 rfl ?_)
    have u2 : 0 ≤ (1 : Int) ∧ (1 : Int) ≤ 1 ∧ (((1 : Int) = 1 ∧ (∀ j : Nat, j < t2.toInt.toNat → ¬ oL Po j = t1.toInt)) ∨ ((1 : Int) = 0 ∧ ¬ (∀ j : Nat, j < t2.toInt.toNat → ¬ oL Po j = t1.toInt))) := ⟨by omega, by omega, Or.inl ⟨rfl, fun j hj => i_0 j (by omega)⟩⟩
    exact mp_iret ⟨⟨_, rfl, u2⟩, rfl⟩ dX1_isFree_28 (Or.inr ⟨rfl, by decide⟩)
  · have c1 : v3.toInt < t2.toInt := ti_ge_n c1
    refine mp_a (a_aload_n dX1_isFree_7 rfl) (mpp 8 rfl ?_)
    refine mt_getU (i := 9) (k := 1) (A := 295) hT dX1_isFree_8 rfl rl_294 (by decide) rfl (by decide) rfl un_14 (mpp 11 rfl ?_)
    refine mp_a (a_iload_n dX1_isFree_11 rfl) (mpp 12 rfl ?_)
    refine mp_calls (i := 59) (q' := q_12) (As := [.ref 295, .int v3]) (rest := []) dX1_isFree_12 rfl qm_12 (by decide) rfl (Nat.le_of_ble_eq_true rfl) rfl ⟨rfl, rfl⟩ ⟨Nat.le_of_ble_eq_true rfl, Nat.le_of_ble_eq_true rfl⟩ (EvP.mono (by decide) (c_F_at_order hT hX )) (fun r3 P4 g5 => mpp 15 rfl ?_)
    obtain ⟨⟨x6, rfl, g7⟩, e8⟩ := g5
    have e8 := e8.symm
    subst e8
    have wx6 := ti_full x6
    replace g7 : (0 ≤ v3.toInt ∧ v3.toInt ≤ 7 ∧ x6.toInt = (fv Po 295 v3.toInt.toNat).toInt) ∨ ((v3.toInt < 0 ∨ 8 ≤ v3.toInt) ∧ x6.toInt = 0) := g7
    try replace g7 : x6.toInt = (fv Po 295 v3.toInt.toNat).toInt := (g7.resolve_right (by omega)).2.2
    show MEvP _ none q_67 15 [(0, .ref 294), (1, .int t1), (2, .int t2), (3, .int v3)] [.int x6] _ _ _ _
    refine mp_a (a_iload_n dX1_isFree_15 rfl) (mpp 16 rfl ?_)
    refine mp_Tb (t := 21) (j_icmp_ne dX1_isFree_16) (by decide) (fun c9 => ?_) (fun c9 => mpp 19 rfl ?_)
    · have c9 : x6.toInt ≠ t1.toInt := ti_ne c9
      obtain ⟨z10, h11⟩ := ti_ex (v3 + 1 : Int32)
      have wz10 := ti_full z10
      refine mp_a (a_iinc (v := z10) (L' := [(3, .int z10), (0, .ref 294), (1, .int t1), (2, .int t2)]) dX1_isFree_21 (by decide) rfl h11 rfl) (mpp 24 rfl ?_)
      try have e12 : z10.toInt = v3.toInt + 1 := ti_addz h11 rfl rfl (by omega) (by omega)
      refine mp_a (a_goto (t := 2) dX1_isFree_24 (by decide)) ?_
      refine MEvP.less (L := [(0, .ref 294), (1, .int t1), (2, .int t2), (3, .int z10)]) rfl rfl ⟨rfl, rfl, rfl, rfl, trivial⟩ ?_
      have i13 : ∀ j : Nat, j < z10.toInt.toNat → ¬ oL Po j = t1.toInt := fun j hj => if e : j = v3.toInt.toNat then by subst e; show ¬ (fv Po 295 v3.toInt.toNat).toInt = t1.toInt; omega else i_0 j (by omega)
      have i14 : 0 ≤ z10.toInt := by omega
      exact ih _ (by omega) _ i13 i14 rfl
    · have c9 : x6.toInt = t1.toInt := ti_ne_n c9
      refine mp_a (a_iconst (v := 0) dX1_isFree_19 rfl) (mpp 20 rfl ?_)
      have u15 : 0 ≤ (0 : Int) ∧ (0 : Int) ≤ 1 ∧ (((0 : Int) = 1 ∧ (∀ j : Nat, j < t2.toInt.toNat → ¬ oL Po j = t1.toInt)) ∨ ((0 : Int) = 0 ∧ ¬ (∀ j : Nat, j < t2.toInt.toNat → ¬ oL Po j = t1.toInt))) := ⟨by omega, by omega, Or.inr ⟨rfl, fun h => h v3.toInt.toNat (by omega) (by show (fv Po 295 v3.toInt.toNat).toInt = t1.toInt; omega)⟩⟩
      exact mp_iret ⟨⟨_, rfl, u15⟩, rfl⟩ dX1_isFree_20 (Or.inr ⟨rfl, by decide⟩)

set_option maxHeartbeats 4000000 in
theorem c_CL_isFree_Layers {Po : mP} {t1 : Int32} {t2 : Int32} (hT : Typ Po) (hX : XR Po)  (hp0 : 0 ≤ t2.toInt) (hp1 : t2.toInt ≤ 7)  : EvP 2 67 [.ref 294, .int t1, .int t2] Po (fun r P' => (∃ x : Int32, r = some (.int x) ∧ (0 ≤ x.toInt ∧ x.toInt ≤ 1 ∧ ((x.toInt = 1 ∧ (∀ j : Nat, j < t2.toInt.toNat → ¬ oL Po j = t1.toInt)) ∨ (x.toInt = 0 ∧ ¬ (∀ j : Nat, j < t2.toInt.toNat → ¬ oL Po j = t1.toInt))))) ∧ P' = Po) := by
  refine EvP.of qm_67 (Nat.le_of_ble_eq_true rfl) rfl ?_
  show MEvP _ none q_67 0 [(0, .ref 294), (1, .int t1), (2, .int t2)] [] _ 0 0 _
  have w_t1 := ti_full t1
  have w_t2 := ti_full t2
  refine mp_a (a_iconst (v := 0) dX1_isFree_0 rfl) (mpp 1 rfl ?_)
  refine mp_a (a_istore_n (L' := [(3, .int 0), (0, .ref 294), (1, .int t1), (2, .int t2)]) dX1_isFree_1 (by decide) rfl) (mpp 2 rfl ?_)
  refine MEvP.less (L := [(0, .ref 294), (1, .int t1), (2, .int t2), (3, .int 0)]) rfl rfl ⟨rfl, rfl, rfl, rfl, trivial⟩ ?_
  have i1 : ∀ j : Nat, j < (0 : Int).toNat → ¬ oL Po j = t1.toInt := fun j hj => absurd hj (Nat.not_lt_zero j)
  have i2 : 0 ≤ (0 : Int) := by omega
  exact c_CL_isFree_Layers_l2 hT hX  hp0 hp1 _ _ i1 i2 rfl

set_option maxHeartbeats 4000000 in
theorem c_F_at_lcreases {Po : mP} {t1 : Int32} (hT : Typ Po) (hX : XR Po)   : EvP 1 12 [.ref 297, .int t1] Po (fun r P' => (∃ x : Int32, r = some (.int x) ∧ ((0 ≤ t1.toInt ∧ t1.toInt ≤ 7 ∧ x.toInt = (fv Po 297 t1.toInt.toNat).toInt) ∨ ((t1.toInt < 0 ∨ 8 ≤ t1.toInt) ∧ x.toInt = 0))) ∧ P' = Po) := by
  refine EvP.of qm_12 (Nat.le_of_ble_eq_true rfl) rfl ?_
  show MEvP _ none q_12 0 [(0, .ref 297), (1, .int t1)] [] _ 0 0 _
  have w_t1 := ti_full t1
  refine mp_a (a_iload_n dX6_at_0 rfl) (mpp 1 rfl ?_)
  refine mp_Tb (t := 16) (j_if_lt dX6_at_1) (by decide) (fun c1 => ?_) (fun c1 => mpp 4 rfl ?_)
  · have c1 : t1.toInt < 0 := ti_lt c1
    refine mp_a (a_iconst (v := 0) dX6_at_16 rfl) (mpp 17 rfl ?_)
    have u2 : (0 ≤ t1.toInt ∧ t1.toInt ≤ 7 ∧ (0 : Int) = (fv Po 297 t1.toInt.toNat).toInt) ∨ ((t1.toInt < 0 ∨ 8 ≤ t1.toInt) ∧ (0 : Int) = 0) := by omega
    exact mp_iret ⟨⟨_, rfl, u2⟩, rfl⟩ dX6_at_17 (Or.inl rfl)
  · have c1 : t1.toInt ≥ 0 := ti_lt_n c1
    refine mp_a (a_iload_n dX6_at_4 rfl) (mpp 5 rfl ?_)
    refine mp_a (a_aload_n dX6_at_5 rfl) (mpp 6 rfl ?_)
    refine mt_len (n := 8) hT dX6_at_6 rl_297 (by decide) (by decide) rfl (mpp 7 rfl ?_)
    refine mp_Tb (t := 16) (j_icmp_ge dX6_at_7) (by decide) (fun c3 => ?_) (fun c3 => mpp 10 rfl ?_)
    · have c3 : t1.toInt ≥ 8 := ti_ge c3
      refine mp_a (a_iconst (v := 0) dX6_at_16 rfl) (mpp 17 rfl ?_)
      have u4 : (0 ≤ t1.toInt ∧ t1.toInt ≤ 7 ∧ (0 : Int) = (fv Po 297 t1.toInt.toNat).toInt) ∨ ((t1.toInt < 0 ∨ 8 ≤ t1.toInt) ∧ (0 : Int) = 0) := by omega
      exact mp_iret ⟨⟨_, rfl, u4⟩, rfl⟩ dX6_at_17 (Or.inl rfl)
    · have c3 : t1.toInt < 8 := ti_ge_n c3
      refine mp_a (a_aload_n dX6_at_10 rfl) (mpp 11 rfl ?_)
      refine mp_a (a_iload_n dX6_at_11 rfl) (mpp 12 rfl ?_)
      refine mt_ial (n := 8) hT dX6_at_12 rl_297 (by decide) rfl rfl (by omega) (by omega) rfl (fun g5 g6 => mpp 13 rfl ?_)
      refine mp_a (a_goto (t := 17) dX6_at_13 (by decide)) ?_
      have u7 : (0 ≤ t1.toInt ∧ t1.toInt ≤ 7 ∧ (fv Po 297 t1.toInt.toNat).toInt = (fv Po 297 t1.toInt.toNat).toInt) ∨ ((t1.toInt < 0 ∨ 8 ≤ t1.toInt) ∧ (fv Po 297 t1.toInt.toNat).toInt = 0) := by omega
      exact mp_iret ⟨⟨_, rfl, u7⟩, rfl⟩ dX6_at_17 (Or.inl rfl)

