/-! methods on typed pools, 46 (written by a program) -/
set_option maxHeartbeats 4000000 in
theorem c_M_orders {Po : mP} {t1 : Int32} (hT : Typ Po) (hR : Rel Po) (hp0 : ∀ l : Nat, l < 7 → (fv Po 313 l).toInt = 0)  : EvP 14 207 [.ref 301, .int t1] Po (fun r P' => (∃ x : Int32, r = some (.int x) ∧ ((ordersM (sr Po) x.toInt t1.toInt) ∧ (∀ l : Nat, l < 7 → fv P' 313 l = fv Po 313 l))) ∧ Typ P' ∧ KW [1107, 1108, 1109, 1664, 1728, 1792, 1856] Po P' ∧ Rel P') := by
  refine EvP.of qm_207 (Nat.le_of_ble_eq_true rfl) rfl ?_
  show MEvP _ none q_207 0 [(0, .ref 301), (1, .int t1)] [] _ 0 0 _
  have w_t1 := ti_full t1
  refine mp_a (a_aload_n dX7_orders_0 rfl) (mpp 1 rfl ?_)
  refine mp_a (a_iload_n dX7_orders_1 rfl) (mpp 2 rfl ?_)
  refine mt_callv (i := 279) (q' := q_199) (As := [.int t1]) (rest := []) hT dX7_orders_2 rfl qm_199 (by decide) rfl rl_301 (by decide) rfl (Nat.le_of_ble_eq_true rfl) rfl ⟨rfl, rfl⟩ ⟨Nat.le_of_ble_eq_true rfl, Nat.le_of_ble_eq_true rfl⟩ (EvP.mono (by decide) (c_M_wrongStrip hT )) (fun r1 P2 g3 => mpp 5 rfl ?_)
  obtain ⟨⟨x4, rfl, g5⟩, e6⟩ := g3
  have e6 := e6.symm
  subst e6
  have wx4 := ti_full x4
  replace g5 : (x4.toInt = -1001 ∧ (t1.toInt < 0 ∨ (fv Po 302 0).toInt ≤ t1.toInt)) ∨ (x4.toInt = -1002 ∧ (0 ≤ t1.toInt ∧ t1.toInt + 1 ≤ (fv Po 302 0).toInt ∧ t1.toInt ≤ 7) ∧ (fv Po 302 (3 + 19 * t1.toInt.toNat)).toInt = 1) ∨ (x4.toInt = -1004 ∧ (0 ≤ t1.toInt ∧ t1.toInt + 1 ≤ (fv Po 302 0).toInt ∧ t1.toInt ≤ 7) ∧ (fv Po 302 (3 + 19 * t1.toInt.toNat)).toInt = 0 ∧ 1 ≤ cntF (fun j : Nat => fv Po 302 (14 + 19 * t1.toInt.toNat + j)) 0 (nC (fv Po 302 (3 + 19 * t1.toInt.toNat)).toInt (fv Po 302 (4 + 19 * t1.toInt.toNat)).toInt)) ∨ (x4.toInt = 0 ∧ (0 ≤ t1.toInt ∧ t1.toInt + 1 ≤ (fv Po 302 0).toInt ∧ t1.toInt ≤ 7) ∧ (fv Po 302 (3 + 19 * t1.toInt.toNat)).toInt = 0 ∧ cntF (fun j : Nat => fv Po 302 (14 + 19 * t1.toInt.toNat + j)) 0 (nC (fv Po 302 (3 + 19 * t1.toInt.toNat)).toInt (fv Po 302 (4 + 19 * t1.toInt.toNat)).toInt) = 0) := g5
  have g7 : (0 : Int) ≤ (fv Po 302 0).toInt ∧ (fv Po 302 0).toInt ≤ 8 := Typ.rng hT rl_302 (by decide) (by decide) rfl
  try have g8 : (0 : Int) ≤ (fv Po 302 (3 + 19 * t1.toInt.toNat)).toInt ∧ (fv Po 302 (3 + 19 * t1.toInt.toNat)).toInt ≤ 1 := s3_rng hT (by omega)
  try have g9 : (0 : Int) ≤ (fv Po 302 (4 + 19 * t1.toInt.toNat)).toInt ∧ (fv Po 302 (4 + 19 * t1.toInt.toNat)).toInt ≤ 8 := s4_rng hT (by omega)
  show MEvP _ none q_207 5 [(0, .ref 301), (1, .int t1)] [.int x4] _ _ _ _
  refine mp_a (a_istore_n (L' := [(2, .int x4), (0, .ref 301), (1, .int t1)]) dX7_orders_5 (by decide) rfl) (mpp 6 rfl ?_)
  refine mp_a (a_iload_n dX7_orders_6 rfl) (mpp 7 rfl ?_)
  refine mp_Tb (t := 14) (j_if_eq dX7_orders_7) (by decide) (fun c10 => ?_) (fun c10 => mpp 10 rfl ?_)
  · have c10 : x4.toInt = 0 := ti_eq c10
    refine mp_a (a_aload_n dX7_orders_14 rfl) (mpp 15 rfl ?_)
    refine mp_a (a_iload_n dX7_orders_15 rfl) (mpp 16 rfl ?_)
    have p11 : 0 ≤ t1.toInt := by omega
    have p12 : t1.toInt ≤ 7 := by omega
    have p13 : (fv Po 302 (4 + 19 * t1.toInt.toNat)).toInt ≤ 7 := Rel.use hR (p := t1.toInt.toNat) (by omega) (by omega)
    have p14 : ∀ l : Nat, l < 7 → (fv Po 313 l).toInt = 0 := hp0
    refine mt_callv (i := 282) (q' := q_200) (As := [.int t1]) (rest := []) hT dX7_orders_16 rfl qm_200 (by decide) rfl rl_301 (by decide) rfl (Nat.le_of_ble_eq_true rfl) rfl ⟨rfl, rfl⟩ ⟨Nat.le_of_ble_eq_true rfl, Nat.le_of_ble_eq_true rfl⟩ (EvP.mono (by decide) (c_M_ordersOf hT p11 p12 p13 p14 )) (fun r15 P16 g17 => mpp 19 rfl ?_)
    obtain ⟨⟨x18, rfl, g19⟩, hT20, k21, R22⟩ := g17
    have k23 : KW [1107, 1108, 1109, 1664, 1728, 1792, 1856] Po P16 := KW.trans KW.refl k21 rfl
    have R25 := Rel.kw hR k21 rfl
    have wx18 := ti_full x18
    replace g19 : ORD Po P16 t1.toInt.toNat x18.toInt := g19
    show MEvP _ none q_207 19 [(2, .int x4), (0, .ref 301), (1, .int t1)] [.int x18] _ _ _ _
    have u26 : (ordersM (sr Po) x18.toInt t1.toInt) ∧ (∀ l : Nat, l < 7 → fv P16 313 l = fv Po 313 l) := ⟨(show (((x18.toInt = -1001 ∧ (t1.toInt < 0 ∨ (fv Po 302 (0)).toInt ≤ t1.toInt)) ∨ ((0 ≤ t1.toInt ∧ t1.toInt + 1 ≤ (fv Po 302 (0)).toInt ∧ t1.toInt ≤ 7) ∧ (((fv Po 302 (3 + 19 * t1.toInt.toNat)).toInt = 1 ∧ x18.toInt = -1002) ∨ ((fv Po 302 (3 + 19 * t1.toInt.toNat)).toInt = 0 ∧ 1 ≤ cntF (fun j : Nat => fv Po 302 (14 + 19 * t1.toInt.toNat + j)) 0 (nC (fv Po 302 (3 + 19 * t1.toInt.toNat)).toInt (fv Po 302 (4 + 19 * t1.toInt.toNat)).toInt) ∧ x18.toInt = -1004))))) ∨ ((0 ≤ t1.toInt ∧ t1.toInt + 1 ≤ (fv Po 302 (0)).toInt ∧ t1.toInt ≤ 7) ∧ (fv Po 302 (3 + 19 * t1.toInt.toNat)).toInt = 0 ∧ cntF (fun j : Nat => fv Po 302 (14 + 19 * t1.toInt.toNat + j)) 0 (nC (fv Po 302 (3 + 19 * t1.toInt.toNat)).toInt (fv Po 302 (4 + 19 * t1.toInt.toNat)).toInt) = 0 ∧ x18.toInt = (sT (fv Po 302 (4 + 19 * t1.toInt.toNat)).toInt.toNat (fun j : Nat => fv Po 302 (14 + 19 * t1.toInt.toNat + j)) (PSm (fv Po 302 (4 + 19 * t1.toInt.toNat)).toInt.toNat (fun j : Nat => (plF (fun j : Nat => fv Po 302 (6 + 19 * t1.toInt.toNat + j)) j).toInt)))) from Or.inr (⟨by omega, by omega, by omega, g19.1⟩)), g19.2.1⟩
    exact mp_iret ⟨⟨_, rfl, u26⟩, hT20, k23, R25⟩ dX7_orders_19 (Or.inl rfl)
  · have c10 : x4.toInt ≠ 0 := ti_eq_n c10
    refine mp_a (a_iload_n dX7_orders_10 rfl) (mpp 11 rfl ?_)
    refine mp_a (a_goto (t := 19) dX7_orders_11 (by decide)) ?_
    have u27 : (ordersM (sr Po) x4.toInt t1.toInt) ∧ (∀ l : Nat, l < 7 → fv Po 313 l = fv Po 313 l) := ⟨(show (((x4.toInt = -1001 ∧ (t1.toInt < 0 ∨ (fv Po 302 (0)).toInt ≤ t1.toInt)) ∨ ((0 ≤ t1.toInt ∧ t1.toInt + 1 ≤ (fv Po 302 (0)).toInt ∧ t1.toInt ≤ 7) ∧ (((fv Po 302 (3 + 19 * t1.toInt.toNat)).toInt = 1 ∧ x4.toInt = -1002) ∨ ((fv Po 302 (3 + 19 * t1.toInt.toNat)).toInt = 0 ∧ 1 ≤ cntF (fun j : Nat => fv Po 302 (14 + 19 * t1.toInt.toNat + j)) 0 (nC (fv Po 302 (3 + 19 * t1.toInt.toNat)).toInt (fv Po 302 (4 + 19 * t1.toInt.toNat)).toInt) ∧ x4.toInt = -1004))))) ∨ ((0 ≤ t1.toInt ∧ t1.toInt + 1 ≤ (fv Po 302 (0)).toInt ∧ t1.toInt ≤ 7) ∧ (fv Po 302 (3 + 19 * t1.toInt.toNat)).toInt = 0 ∧ cntF (fun j : Nat => fv Po 302 (14 + 19 * t1.toInt.toNat + j)) 0 (nC (fv Po 302 (3 + 19 * t1.toInt.toNat)).toInt (fv Po 302 (4 + 19 * t1.toInt.toNat)).toInt) = 0 ∧ x4.toInt = (sT (fv Po 302 (4 + 19 * t1.toInt.toNat)).toInt.toNat (fun j : Nat => fv Po 302 (14 + 19 * t1.toInt.toNat + j)) (PSm (fv Po 302 (4 + 19 * t1.toInt.toNat)).toInt.toNat (fun j : Nat => (plF (fun j : Nat => fv Po 302 (6 + 19 * t1.toInt.toNat + j)) j).toInt)))) from Or.inl (by omega)), fun _ _ => rfl⟩
    exact mp_iret ⟨⟨_, rfl, u27⟩, hT, KW.refl, hR⟩ dX7_orders_19 (Or.inl rfl)

set_option maxHeartbeats 4000000 in
theorem c_M_overAt_l5 {Po : mP} {t1 : Int32} {t2 : Int32} (hT : Typ Po)  (hp0 : 0 ≤ t1.toInt) (hp1 : t1.toInt ≤ 7) (hp2 : t2.toInt ≤ 2147483646)  : ∀ (n : Nat) (v3 : Int32) (v4 : Int32), (0 ≤ v3.toInt) → (v3.toInt ≤ v4.toInt) → (v4.toInt ≤ (fv Po 302 (4 + 19 * t1.toInt.toNat)).toInt) → (v3.toInt = pbF (fun j : Nat => fv Po 302 (6 + 19 * t1.toInt.toNat + j)) t2.toInt v4.toInt.toNat) → (0 ≤ v4.toInt) → (2147483647 - v4.toInt).toNat = n → MEvP 4 none q_212 5 [(0, .ref 301), (1, .int t1), (2, .int t2), (3, .int v3), (4, .int v4)] [] Po 0 0 (fun r P' => (∃ x : Int32, r = some (.int x) ∧ (0 ≤ x.toInt ∧ x.toInt ≤ 8 ∧ x.toInt = pbF (fun j : Nat => fv Po 302 (6 + 19 * t1.toInt.toNat + j)) t2.toInt (fv Po 302 (4 + 19 * t1.toInt.toNat)).toInt.toNat)) ∧ P' = Po) := by
  intro n
  induction n using Nat.strongRecOn with | _ n ih => ?_
  intro v3 v4 i_0 i_1 i_2 i_3 i_4 hm
  have w_t1 := ti_full t1
  have w_t2 := ti_full t2
  have w_v3 := ti_full v3
  have w_v4 := ti_full v4
  try have g1 : (0 : Int) ≤ (fv Po 302 (4 + 19 * t1.toInt.toNat)).toInt ∧ (fv Po 302 (4 + 19 * t1.toInt.toNat)).toInt ≤ 8 := s4_rng hT (by omega)
  refine mp_a (a_iload dX7_overAt_5 rfl) (mpp 7 rfl ?_)
  refine mp_a (a_aload_n dX7_overAt_7 rfl) (mpp 8 rfl ?_)
  refine mp_a (a_iload_n dX7_overAt_8 rfl) (mpp 9 rfl ?_)
  refine mp_a (a_iconst (v := 1) dX7_overAt_9 rfl) (mpp 10 rfl ?_)
  have p2 : 0 ≤ t1.toInt := by omega
  have p3 : t1.toInt ≤ 7 := by omega
  have p4 : 0 ≤ (1 : Int) := by omega
  have p5 : (1 : Int) ≤ 18 := by omega
  refine mt_callv (i := 78) (q' := q_137) (As := [.int t1, .int 1]) (rest := [.int v4]) hT dX7_overAt_10 rfl qm_137 (by decide) rfl rl_301 (by decide) rfl (Nat.le_of_ble_eq_true rfl) rfl ⟨rfl, rfl⟩ ⟨Nat.le_of_ble_eq_true rfl, Nat.le_of_ble_eq_true rfl⟩ (EvP.mono (by decide) (c_M_of_c1 hT p2 p3 p4 p5 )) (fun r6 P7 g8 => mpp 13 rfl ?_)
  obtain ⟨⟨x9, rfl, g10⟩, e11⟩ := g8
  have e11 := e11.symm
  subst e11
  have wx9 := ti_full x9
  replace g10 : x9.toInt = (fv Po 302 (4 + 19 * t1.toInt.toNat)).toInt ∧ 0 ≤ x9.toInt ∧ x9.toInt ≤ 8 := g10
  show MEvP _ none q_212 13 [(0, .ref 301), (1, .int t1), (2, .int t2), (3, .int v3), (4, .int v4)] [.int x9, .int v4] _ _ _ _
  refine mp_Tb (t := 74) (j_icmp_ge dX7_overAt_13) (by decide) (fun c12 => ?_) (fun c12 => mpp 16 rfl ?_)
  · have c12 : v4.toInt ≥ x9.toInt := ti_ge c12
    refine mp_a (a_iload_n dX7_overAt_74 rfl) (mpp 75 rfl ?_)
    have u13 : 0 ≤ v3.toInt ∧ v3.toInt ≤ 8 ∧ v3.toInt = pbF (fun j : Nat => fv Po 302 (6 + 19 * t1.toInt.toNat + j)) t2.toInt (fv Po 302 (4 + 19 * t1.toInt.toNat)).toInt.toNat := ⟨by omega, by omega, i_3.trans (congrArg (pbF _ _) (by omega))⟩
    exact mp_iret ⟨⟨_, rfl, u13⟩, rfl⟩ dX7_overAt_75 (Or.inl rfl)
  · have c12 : v4.toInt < x9.toInt := ti_ge_n c12
    refine mp_a (a_aload_n dX7_overAt_16 rfl) (mpp 17 rfl ?_)
    refine mp_a (a_iload_n dX7_overAt_17 rfl) (mpp 18 rfl ?_)
    refine mp_a (a_iload dX7_overAt_18 rfl) (mpp 20 rfl ?_)
    have p14 : 0 ≤ t1.toInt := by omega
    have p15 : t1.toInt ≤ 7 := by omega
    have p16 : v4.toInt ≤ 8 := by omega
    refine mt_callv (i := 225) (q' := q_186) (As := [.int t1, .int v4]) (rest := []) hT dX7_overAt_20 rfl qm_186 (by decide) rfl rl_301 (by decide) rfl (Nat.le_of_ble_eq_true rfl) rfl ⟨rfl, rfl⟩ ⟨Nat.le_of_ble_eq_true rfl, Nat.le_of_ble_eq_true rfl⟩ (EvP.mono (by decide) (c_M_placeOf hT p14 p15 p16 )) (fun r17 P18 g19 => mpp 23 rfl ?_)
    obtain ⟨⟨x20, rfl, g21⟩, e22⟩ := g19
    have e22 := e22.symm
    subst e22
    have wx20 := ti_full x20
    replace g21 : x20.toInt = (plF (fun j : Nat => fv Po 302 (6 + 19 * t1.toInt.toNat + j)) v4.toInt.toNat).toInt := g21
    show MEvP _ none q_212 23 [(0, .ref 301), (1, .int t1), (2, .int t2), (3, .int v3), (4, .int v4)] [.int x20] _ _ _ _
    refine mp_a (a_istore (L' := [(5, .int x20), (0, .ref 301), (1, .int t1), (2, .int t2), (3, .int v3), (4, .int v4)]) dX7_overAt_23 (by decide) rfl) (mpp 25 rfl ?_)
    refine mp_a (a_aload_n dX7_overAt_25 rfl) (mpp 26 rfl ?_)
    refine mp_a (a_iload_n dX7_overAt_26 rfl) (mpp 27 rfl ?_)
    refine mp_a (a_iload dX7_overAt_27 rfl) (mpp 29 rfl ?_)
    refine mp_a (a_iconst (v := 1) dX7_overAt_29 rfl) (mpp 30 rfl ?_)
    obtain ⟨z23, h24⟩ := ti_ex (v4 + 1 : Int32)
    have wz23 := ti_full z23
    refine mp_t (s_iadd (v := z23) dX7_overAt_30 h24) (mpp 31 rfl ?_)
    try have e25 : z23.toInt = v4.toInt + 1 := ti_addz h24 rfl rfl (by omega) (by omega)
    have p26 : 0 ≤ t1.toInt := by omega
    have p27 : t1.toInt ≤ 7 := by omega
    have p28 : z23.toInt ≤ 8 := by omega
    refine mt_callv (i := 225) (q' := q_186) (As := [.int t1, .int z23]) (rest := []) hT dX7_overAt_31 rfl qm_186 (by decide) rfl rl_301 (by decide) rfl (Nat.le_of_ble_eq_true rfl) rfl ⟨rfl, rfl⟩ ⟨Nat.le_of_ble_eq_true rfl, Nat.le_of_ble_eq_true rfl⟩ (EvP.mono (by decide) (c_M_placeOf hT p26 p27 p28 )) (fun r29 P30 g31 => mpp 34 rfl ?_)
    obtain ⟨⟨x32, rfl, g33⟩, e34⟩ := g31
    have e34 := e34.symm
    subst e34
    have wx32 := ti_full x32
    replace g33 : x32.toInt = (plF (fun j : Nat => fv Po 302 (6 + 19 * t1.toInt.toNat + j)) z23.toInt.toNat).toInt := g33
    show MEvP _ none q_212 34 [(5, .int x20), (0, .ref 301), (1, .int t1), (2, .int t2), (3, .int v3), (4, .int v4)] [.int x32] _ _ _ _
    refine mp_a (a_istore (L' := [(6, .int x32), (5, .int x20), (0, .ref 301), (1, .int t1), (2, .int t2), (3, .int v3), (4, .int v4)]) dX7_overAt_34 (by decide) rfl) (mpp 36 rfl ?_)
    refine mp_a (a_iload_n dX7_overAt_36 rfl) (mpp 37 rfl ?_)
    refine mp_a (a_iload dX7_overAt_37 rfl) (mpp 39 rfl ?_)
    refine mp_a (a_iload dX7_overAt_39 rfl) (mpp 41 rfl ?_)
    refine mp_calls (i := 155) (q' := q_158) (As := [.int x20, .int x32]) (rest := [.int v3]) dX7_overAt_41 rfl qm_158 (by decide) rfl (Nat.le_of_ble_eq_true rfl) rfl ⟨rfl, rfl⟩ ⟨Nat.le_of_ble_eq_true rfl, Nat.le_of_ble_eq_true rfl⟩ (EvP.mono (by decide) (c_M_lesser hT )) (fun r35 P36 g37 => mpp 44 rfl ?_)
    obtain ⟨⟨x38, rfl, g39⟩, e40⟩ := g37
    have e40 := e40.symm
    subst e40
    have wx38 := ti_full x38
    replace g39 : (x38.toInt = x20.toInt ∧ x20.toInt ≤ x32.toInt) ∨ (x38.toInt = x32.toInt ∧ x32.toInt ≤ x20.toInt) := g39
    show MEvP _ none q_212 44 [(6, .int x32), (5, .int x20), (0, .ref 301), (1, .int t1), (2, .int t2), (3, .int v3), (4, .int v4)] [.int x38, .int v3] _ _ _ _
    refine mp_a (a_iload_n dX7_overAt_44 rfl) (mpp 45 rfl ?_)
    refine mp_Tb (t := 65) (j_icmp_gt dX7_overAt_45) (by decide) (fun c41 => ?_) (fun c41 => mpp 48 rfl ?_)
    · have c41 : x38.toInt > t2.toInt := ti_gt c41
      refine mp_a (a_iconst (v := 0) dX7_overAt_65 rfl) (mpp 66 rfl ?_)
      obtain ⟨z42, h43⟩ := ti_ex (v3 + 0 : Int32)
      have wz42 := ti_full z42
      refine mp_t (s_iadd (v := z42) dX7_overAt_66 h43) (mpp 67 rfl ?_)
      try have e44 : z42.toInt = v3.toInt + 0 := ti_addz h43 rfl rfl (by omega) (by omega)
      refine mp_a (a_istore_n (L' := [(3, .int z42), (6, .int x32), (5, .int x20), (0, .ref 301), (1, .int t1), (2, .int t2), (4, .int v4)]) dX7_overAt_67 (by decide) rfl) (mpp 68 rfl ?_)
      obtain ⟨z45, h46⟩ := ti_ex (v4 + 1 : Int32)
      have wz45 := ti_full z45
      refine mp_a (a_iinc (v := z45) (L' := [(4, .int z45), (3, .int z42), (6, .int x32), (5, .int x20), (0, .ref 301), (1, .int t1), (2, .int t2)]) dX7_overAt_68 (by decide) rfl h46 rfl) (mpp 71 rfl ?_)
      try have e47 : z45.toInt = v4.toInt + 1 := ti_addz h46 rfl rfl (by omega) (by omega)
      refine mp_a (a_goto (t := 5) dX7_overAt_71 (by decide)) ?_
      refine MEvP.less (L := [(0, .ref 301), (1, .int t1), (2, .int t2), (3, .int z42), (4, .int z45)]) rfl rfl ⟨rfl, rfl, rfl, rfl, rfl, trivial⟩ ?_
      have i48 : 0 ≤ z42.toInt := by omega
      have i49 : z42.toInt ≤ z45.toInt := by omega
      have i50 : z45.toInt ≤ (fv Po 302 (4 + 19 * t1.toInt.toNat)).toInt := by omega
      have w52_0 : x20.toInt = (plF (fun j : Nat => fv Po 302 (6 + 19 * t1.toInt.toNat + j)) v4.toInt.toNat).toInt := g21
      have w52_1 : x32.toInt = (plF (fun j : Nat => fv Po 302 (6 + 19 * t1.toInt.toNat + j)) (v4.toInt.toNat + 1)).toInt := g33.trans (congrArg (fun n : Nat => (plF (fun j : Nat => fv Po 302 (6 + 19 * t1.toInt.toNat + j)) n).toInt) (by omega))
      have w52_l : lfF (fun j : Nat => fv Po 302 (6 + 19 * t1.toInt.toNat + j)) v4.toInt.toNat = min x20.toInt x32.toInt := by unfold lfF; rw [← w52_0, ← w52_1]
      have w52_r : rgF (fun j : Nat => fv Po 302 (6 + 19 * t1.toInt.toNat + j)) v4.toInt.toNat = max x20.toInt x32.toInt := by unfold rgF; rw [← w52_0, ← w52_1]
      have i51 : z42.toInt = pbF (fun j : Nat => fv Po 302 (6 + 19 * t1.toInt.toNat + j)) t2.toInt z45.toInt.toNat := pbF.no i_3 (by omega) (by omega) (by omega)
      have i53 : 0 ≤ z45.toInt := by omega
      exact ih _ (by omega) _ _ i48 i49 i50 i51 i53 rfl
    · have c41 : x38.toInt ≤ t2.toInt := ti_gt_n c41
      refine mp_a (a_iload_n dX7_overAt_48 rfl) (mpp 49 rfl ?_)
      refine mp_a (a_iconst (v := 1) dX7_overAt_49 rfl) (mpp 50 rfl ?_)
      obtain ⟨z54, h55⟩ := ti_ex (t2 + 1 : Int32)
      have wz54 := ti_full z54
      refine mp_t (s_iadd (v := z54) dX7_overAt_50 h55) (mpp 51 rfl ?_)
      try have e56 : z54.toInt = t2.toInt + 1 := ti_addz h55 rfl rfl (by omega) (by omega)
      refine mp_a (a_iload dX7_overAt_51 rfl) (mpp 53 rfl ?_)
      refine mp_a (a_iload dX7_overAt_53 rfl) (mpp 55 rfl ?_)
      refine mp_calls (i := 178) (q' := q_173) (As := [.int x20, .int x32]) (rest := [.int z54, .int v3]) dX7_overAt_55 rfl qm_173 (by decide) rfl (Nat.le_of_ble_eq_true rfl) rfl ⟨rfl, rfl⟩ ⟨Nat.le_of_ble_eq_true rfl, Nat.le_of_ble_eq_true rfl⟩ (EvP.mono (by decide) (c_M_greater hT )) (fun r57 P58 g59 => mpp 58 rfl ?_)
      obtain ⟨⟨x60, rfl, g61⟩, e62⟩ := g59
      have e62 := e62.symm
      subst e62
      have wx60 := ti_full x60
      replace g61 : (x60.toInt = x20.toInt ∧ x32.toInt ≤ x20.toInt) ∨ (x60.toInt = x32.toInt ∧ x20.toInt ≤ x32.toInt) := g61
      show MEvP _ none q_212 58 [(6, .int x32), (5, .int x20), (0, .ref 301), (1, .int t1), (2, .int t2), (3, .int v3), (4, .int v4)] [.int x60, .int z54, .int v3] _ _ _ _
      refine mp_Tb (t := 65) (j_icmp_gt dX7_overAt_58) (by decide) (fun c63 => ?_) (fun c63 => mpp 61 rfl ?_)
      · have c63 : z54.toInt > x60.toInt := ti_gt c63
        refine mp_a (a_iconst (v := 0) dX7_overAt_65 rfl) (mpp 66 rfl ?_)
        obtain ⟨z64, h65⟩ := ti_ex (v3 + 0 : Int32)
        have wz64 := ti_full z64
        refine mp_t (s_iadd (v := z64) dX7_overAt_66 h65) (mpp 67 rfl ?_)
        try have e66 : z64.toInt = v3.toInt + 0 := ti_addz h65 rfl rfl (by omega) (by omega)
        refine mp_a (a_istore_n (L' := [(3, .int z64), (6, .int x32), (5, .int x20), (0, .ref 301), (1, .int t1), (2, .int t2), (4, .int v4)]) dX7_overAt_67 (by decide) rfl) (mpp 68 rfl ?_)
        obtain ⟨z67, h68⟩ := ti_ex (v4 + 1 : Int32)
        have wz67 := ti_full z67
        refine mp_a (a_iinc (v := z67) (L' := [(4, .int z67), (3, .int z64), (6, .int x32), (5, .int x20), (0, .ref 301), (1, .int t1), (2, .int t2)]) dX7_overAt_68 (by decide) rfl h68 rfl) (mpp 71 rfl ?_)
        try have e69 : z67.toInt = v4.toInt + 1 := ti_addz h68 rfl rfl (by omega) (by omega)
        refine mp_a (a_goto (t := 5) dX7_overAt_71 (by decide)) ?_
        refine MEvP.less (L := [(0, .ref 301), (1, .int t1), (2, .int t2), (3, .int z64), (4, .int z67)]) rfl rfl ⟨rfl, rfl, rfl, rfl, rfl, trivial⟩ ?_
        have i70 : 0 ≤ z64.toInt := by omega
        have i71 : z64.toInt ≤ z67.toInt := by omega
        have i72 : z67.toInt ≤ (fv Po 302 (4 + 19 * t1.toInt.toNat)).toInt := by omega
        have w74_0 : x20.toInt = (plF (fun j : Nat => fv Po 302 (6 + 19 * t1.toInt.toNat + j)) v4.toInt.toNat).toInt := g21
        have w74_1 : x32.toInt = (plF (fun j : Nat => fv Po 302 (6 + 19 * t1.toInt.toNat + j)) (v4.toInt.toNat + 1)).toInt := g33.trans (congrArg (fun n : Nat => (plF (fun j : Nat => fv Po 302 (6 + 19 * t1.toInt.toNat + j)) n).toInt) (by omega))
        have w74_l : lfF (fun j : Nat => fv Po 302 (6 + 19 * t1.toInt.toNat + j)) v4.toInt.toNat = min x20.toInt x32.toInt := by unfold lfF; rw [← w74_0, ← w74_1]
        have w74_r : rgF (fun j : Nat => fv Po 302 (6 + 19 * t1.toInt.toNat + j)) v4.toInt.toNat = max x20.toInt x32.toInt := by unfold rgF; rw [← w74_0, ← w74_1]
        have i73 : z64.toInt = pbF (fun j : Nat => fv Po 302 (6 + 19 * t1.toInt.toNat + j)) t2.toInt z67.toInt.toNat := pbF.no i_3 (by omega) (by omega) (by omega)
        have i75 : 0 ≤ z67.toInt := by omega
        exact ih _ (by omega) _ _ i70 i71 i72 i73 i75 rfl
      · have c63 : z54.toInt ≤ x60.toInt := ti_gt_n c63
        refine mp_a (a_iconst (v := 1) dX7_overAt_61 rfl) (mpp 62 rfl ?_)
        refine mp_a (a_goto (t := 66) dX7_overAt_62 (by decide)) ?_
        obtain ⟨z76, h77⟩ := ti_ex (v3 + 1 : Int32)
        have wz76 := ti_full z76
        refine mp_t (s_iadd (v := z76) dX7_overAt_66 h77) (mpp 67 rfl ?_)
        try have e78 : z76.toInt = v3.toInt + 1 := ti_addz h77 rfl rfl (by omega) (by omega)
        refine mp_a (a_istore_n (L' := [(3, .int z76), (6, .int x32), (5, .int x20), (0, .ref 301), (1, .int t1), (2, .int t2), (4, .int v4)]) dX7_overAt_67 (by decide) rfl) (mpp 68 rfl ?_)
        obtain ⟨z79, h80⟩ := ti_ex (v4 + 1 : Int32)
        have wz79 := ti_full z79
        refine mp_a (a_iinc (v := z79) (L' := [(4, .int z79), (3, .int z76), (6, .int x32), (5, .int x20), (0, .ref 301), (1, .int t1), (2, .int t2)]) dX7_overAt_68 (by decide) rfl h80 rfl) (mpp 71 rfl ?_)
        try have e81 : z79.toInt = v4.toInt + 1 := ti_addz h80 rfl rfl (by omega) (by omega)
        refine mp_a (a_goto (t := 5) dX7_overAt_71 (by decide)) ?_
        refine MEvP.less (L := [(0, .ref 301), (1, .int t1), (2, .int t2), (3, .int z76), (4, .int z79)]) rfl rfl ⟨rfl, rfl, rfl, rfl, rfl, trivial⟩ ?_
        have i82 : 0 ≤ z76.toInt := by omega
        have i83 : z76.toInt ≤ z79.toInt := by omega
        have i84 : z79.toInt ≤ (fv Po 302 (4 + 19 * t1.toInt.toNat)).toInt := by omega
        have w86_0 : x20.toInt = (plF (fun j : Nat => fv Po 302 (6 + 19 * t1.toInt.toNat + j)) v4.toInt.toNat).toInt := g21
        have w86_1 : x32.toInt = (plF (fun j : Nat => fv Po 302 (6 + 19 * t1.toInt.toNat + j)) (v4.toInt.toNat + 1)).toInt := g33.trans (congrArg (fun n : Nat => (plF (fun j : Nat => fv Po 302 (6 + 19 * t1.toInt.toNat + j)) n).toInt) (by omega))
        have w86_l : lfF (fun j : Nat => fv Po 302 (6 + 19 * t1.toInt.toNat + j)) v4.toInt.toNat = min x20.toInt x32.toInt := by unfold lfF; rw [← w86_0, ← w86_1]
        have w86_r : rgF (fun j : Nat => fv Po 302 (6 + 19 * t1.toInt.toNat + j)) v4.toInt.toNat = max x20.toInt x32.toInt := by unfold rgF; rw [← w86_0, ← w86_1]
        have i85 : z76.toInt = pbF (fun j : Nat => fv Po 302 (6 + 19 * t1.toInt.toNat + j)) t2.toInt z79.toInt.toNat := pbF.yes i_3 (by omega) (by omega) (by omega)
        have i87 : 0 ≤ z79.toInt := by omega
        exact ih _ (by omega) _ _ i82 i83 i84 i85 i87 rfl

set_option maxHeartbeats 4000000 in
theorem c_M_overAt {Po : mP} {t1 : Int32} {t2 : Int32} (hT : Typ Po)  (hp0 : 0 ≤ t1.toInt) (hp1 : t1.toInt ≤ 7) (hp2 : t2.toInt ≤ 2147483646)  : EvP 5 212 [.ref 301, .int t1, .int t2] Po (fun r P' => (∃ x : Int32, r = some (.int x) ∧ (0 ≤ x.toInt ∧ x.toInt ≤ 8 ∧ x.toInt = pbF (fun j : Nat => fv Po 302 (6 + 19 * t1.toInt.toNat + j)) t2.toInt (fv Po 302 (4 + 19 * t1.toInt.toNat)).toInt.toNat)) ∧ P' = Po) := by
  refine EvP.of qm_212 (Nat.le_of_ble_eq_true rfl) rfl ?_
  show MEvP _ none q_212 0 [(0, .ref 301), (1, .int t1), (2, .int t2)] [] _ 0 0 _
  have w_t1 := ti_full t1
  have w_t2 := ti_full t2
  try have g1 : (0 : Int) ≤ (fv Po 302 (4 + 19 * t1.toInt.toNat)).toInt ∧ (fv Po 302 (4 + 19 * t1.toInt.toNat)).toInt ≤ 8 := s4_rng hT (by omega)
  refine mp_a (a_iconst (v := 0) dX7_overAt_0 rfl) (mpp 1 rfl ?_)
  refine mp_a (a_istore_n (L' := [(3, .int 0), (0, .ref 301), (1, .int t1), (2, .int t2)]) dX7_overAt_1 (by decide) rfl) (mpp 2 rfl ?_)
  refine mp_a (a_iconst (v := 0) dX7_overAt_2 rfl) (mpp 3 rfl ?_)
  refine mp_a (a_istore (L' := [(4, .int 0), (3, .int 0), (0, .ref 301), (1, .int t1), (2, .int t2)]) dX7_overAt_3 (by decide) rfl) (mpp 5 rfl ?_)
  refine MEvP.less (L := [(0, .ref 301), (1, .int t1), (2, .int t2), (3, .int 0), (4, .int 0)]) rfl rfl ⟨rfl, rfl, rfl, rfl, rfl, trivial⟩ ?_
  have i2 : 0 ≤ (0 : Int) := by omega
  have i3 : (0 : Int) ≤ (0 : Int) := by omega
  have i4 : (0 : Int) ≤ (fv Po 302 (4 + 19 * t1.toInt.toNat)).toInt := by omega
  have i5 : (0 : Int) = pbF (fun j : Nat => fv Po 302 (6 + 19 * t1.toInt.toNat + j)) t2.toInt (0 : Int).toNat := rfl
  have i6 : 0 ≤ (0 : Int) := by omega
  exact c_M_overAt_l5 hT  hp0 hp1 hp2 _ _ _ i2 i3 i4 i5 i6 rfl

set_option maxHeartbeats 4000000 in
theorem c_M_thickest_l65 {Po : mP} {t1 : Int32} (hT : Typ Po)   {nO : Nat} (ihO : ∀ m : Nat, m < nO → ∀ (v2 : Int32) (v3 : Int32), (0 ≤ t1.toInt) → (t1.toInt ≤ 7) → (t1.toInt + 1 ≤ (fv Po 302 0).toInt) → ((fv Po 302 (3 + 19 * t1.toInt.toNat)).toInt = 0) → (v3.toInt ≤ (fv Po 302 (4 + 19 * t1.toInt.toNat)).toInt) → (v2.toInt = tmF (fun j : Nat => fv Po 302 (6 + 19 * t1.toInt.toNat + j)) (fv Po 302 (4 + 19 * t1.toInt.toNat)).toInt.toNat v3.toInt.toNat) → (0 ≤ v3.toInt) → (2147483647 - v3.toInt).toNat = m → MEvP 5 none q_211 28 [(0, .ref 301), (1, .int t1), (2, .int v2), (3, .int v3)] [] Po 0 0 (fun r P' => (∃ x : Int32, r = some (.int x) ∧ (thickestM (sr Po) x.toInt t1.toInt)) ∧ P' = Po)) : ∀ (n : Nat) (v2 : Int32) (v3 : Int32) (v4 : Int32) (v5 : Int32) (v6 : Int32), (0 ≤ t1.toInt) → (t1.toInt ≤ 7) → (t1.toInt + 1 ≤ (fv Po 302 0).toInt) → ((fv Po 302 (3 + 19 * t1.toInt.toNat)).toInt = 0) → (v3.toInt + 1 ≤ (fv Po 302 (4 + 19 * t1.toInt.toNat)).toInt) → (0 ≤ v3.toInt) → ((lfF (fun j : Nat => fv Po 302 (6 + 19 * t1.toInt.toNat + j)) v3.toInt.toNat) = min v4.toInt v5.toInt) → ((rgF (fun j : Nat => fv Po 302 (6 + 19 * t1.toInt.toNat + j)) v3.toInt.toNat) = max v4.toInt v5.toInt) → ((lfF (fun j : Nat => fv Po 302 (6 + 19 * t1.toInt.toNat + j)) v3.toInt.toNat) ≤ v6.toInt) → (v6.toInt ≤ (rgF (fun j : Nat => fv Po 302 (6 + 19 * t1.toInt.toNat + j)) v3.toInt.toNat)) → (v2.toInt = mxR (fun j : Nat => fv Po 302 (6 + 19 * t1.toInt.toNat + j)) (fv Po 302 (4 + 19 * t1.toInt.toNat)).toInt.toNat (lfF (fun j : Nat => fv Po 302 (6 + 19 * t1.toInt.toNat + j)) v3.toInt.toNat) (tmF (fun j : Nat => fv Po 302 (6 + 19 * t1.toInt.toNat + j)) (fv Po 302 (4 + 19 * t1.toInt.toNat)).toInt.toNat v3.toInt.toNat) (v6.toInt - (lfF (fun j : Nat => fv Po 302 (6 + 19 * t1.toInt.toNat + j)) v3.toInt.toNat)).toNat) → (2147483647 - v3.toInt).toNat = nO → (2147483647 - v6.toInt).toNat = n → MEvP 5 none q_211 65 [(0, .ref 301), (1, .int t1), (2, .int v2), (3, .int v3), (4, .int v4), (5, .int v5), (6, .int v6)] [] Po 0 0 (fun r P' => (∃ x : Int32, r = some (.int x) ∧ (thickestM (sr Po) x.toInt t1.toInt)) ∧ P' = Po) := by
  intro n
  induction n using Nat.strongRecOn with | _ n ih => ?_
  intro v2 v3 v4 v5 v6 i_0 i_1 i_2 i_3 i_4 i_5 i_6 i_7 i_8 i_9 i_10 hmO hm
  have w_t1 := ti_full t1
  have w_v2 := ti_full v2
  have w_v3 := ti_full v3
  have w_v4 := ti_full v4
  have w_v5 := ti_full v5
  have w_v6 := ti_full v6
  have g1 : (0 : Int) ≤ (fv Po 302 0).toInt ∧ (fv Po 302 0).toInt ≤ 8 := Typ.rng hT rl_302 (by decide) (by decide) rfl
  try have g2 : (0 : Int) ≤ (fv Po 302 (3 + 19 * t1.toInt.toNat)).toInt ∧ (fv Po 302 (3 + 19 * t1.toInt.toNat)).toInt ≤ 1 := s3_rng hT (by omega)
  try have g3 : (0 : Int) ≤ (fv Po 302 (4 + 19 * t1.toInt.toNat)).toInt ∧ (fv Po 302 (4 + 19 * t1.toInt.toNat)).toInt ≤ 8 := s4_rng hT (by omega)
  refine mp_a (a_iload dX7_thickest_65 rfl) (mpp 67 rfl ?_)
  refine mp_a (a_iload dX7_thickest_67 rfl) (mpp 69 rfl ?_)
  refine mp_a (a_iload dX7_thickest_69 rfl) (mpp 71 rfl ?_)
  refine mp_calls (i := 178) (q' := q_173) (As := [.int v4, .int v5]) (rest := [.int v6]) dX7_thickest_71 rfl qm_173 (by decide) rfl (Nat.le_of_ble_eq_true rfl) rfl ⟨rfl, rfl⟩ ⟨Nat.le_of_ble_eq_true rfl, Nat.le_of_ble_eq_true rfl⟩ (EvP.mono (by decide) (c_M_greater hT )) (fun r4 P5 g6 => mpp 74 rfl ?_)
  obtain ⟨⟨x7, rfl, g8⟩, e9⟩ := g6
  have e9 := e9.symm
  subst e9
  have wx7 := ti_full x7
  replace g8 : (x7.toInt = v4.toInt ∧ v5.toInt ≤ v4.toInt) ∨ (x7.toInt = v5.toInt ∧ v4.toInt ≤ v5.toInt) := g8
  show MEvP _ none q_211 74 [(0, .ref 301), (1, .int t1), (2, .int v2), (3, .int v3), (4, .int v4), (5, .int v5), (6, .int v6)] [.int x7, .int v6] _ _ _ _
  refine mp_Tb (t := 95) (j_icmp_ge dX7_thickest_74) (by decide) (fun c10 => ?_) (fun c10 => mpp 77 rfl ?_)
  · have c10 : v6.toInt ≥ x7.toInt := ti_ge c10
    obtain ⟨z11, h12⟩ := ti_ex (v3 + 1 : Int32)
    have wz11 := ti_full z11
    refine mp_a (a_iinc (v := z11) (L' := [(3, .int z11), (0, .ref 301), (1, .int t1), (2, .int v2), (4, .int v4), (5, .int v5), (6, .int v6)]) dX7_thickest_95 (by decide) rfl h12 rfl) (mpp 98 rfl ?_)
    try have e13 : z11.toInt = v3.toInt + 1 := ti_addz h12 rfl rfl (by omega) (by omega)
    refine mp_a (a_goto (t := 28) dX7_thickest_98 (by decide)) ?_
    refine MEvP.less (L := [(0, .ref 301), (1, .int t1), (2, .int v2), (3, .int z11)]) rfl rfl ⟨rfl, rfl, rfl, rfl, trivial⟩ ?_
    have i14 : 0 ≤ t1.toInt := by omega
    have i15 : t1.toInt ≤ 7 := by omega
    have i16 : t1.toInt + 1 ≤ (fv Po 302 0).toInt := by omega
    have i17 : (fv Po 302 (3 + 19 * t1.toInt.toNat)).toInt = 0 := by omega
    have i18 : z11.toInt ≤ (fv Po 302 (4 + 19 * t1.toInt.toNat)).toInt := by omega
    have i19 : v2.toInt = tmF (fun j : Nat => fv Po 302 (6 + 19 * t1.toInt.toNat + j)) (fv Po 302 (4 + 19 * t1.toInt.toNat)).toInt.toNat z11.toInt.toNat := tmF.step i_10 (by omega) (by omega)
    have i20 : 0 ≤ z11.toInt := by omega
    exact ihO _ (by omega) _ _ i14 i15 i16 i17 i18 i19 i20 rfl
  · have c10 : v6.toInt < x7.toInt := ti_ge_n c10
    refine mp_a (a_iload_n dX7_thickest_77 rfl) (mpp 78 rfl ?_)
    refine mp_a (a_aload_n dX7_thickest_78 rfl) (mpp 79 rfl ?_)
    refine mp_a (a_iload_n dX7_thickest_79 rfl) (mpp 80 rfl ?_)
    refine mp_a (a_iload dX7_thickest_80 rfl) (mpp 82 rfl ?_)
    have p21 : 0 ≤ t1.toInt := by omega
    have p22 : t1.toInt ≤ 7 := by omega
    have p23 : v6.toInt ≤ 2147483646 := by omega
    refine mt_callv (i := 288) (q' := q_212) (As := [.int t1, .int v6]) (rest := [.int v2]) hT dX7_thickest_82 rfl qm_212 (by decide) rfl rl_301 (by decide) rfl (Nat.le_of_ble_eq_true rfl) rfl ⟨rfl, rfl⟩ ⟨Nat.le_of_ble_eq_true rfl, Nat.le_of_ble_eq_true rfl⟩ (EvP.mono (by decide) (c_M_overAt hT p21 p22 p23 )) (fun r24 P25 g26 => mpp 85 rfl ?_)
    obtain ⟨⟨x27, rfl, g28⟩, e29⟩ := g26
    have e29 := e29.symm
    subst e29
    have wx27 := ti_full x27
    replace g28 : 0 ≤ x27.toInt ∧ x27.toInt ≤ 8 ∧ x27.toInt = pbF (fun j : Nat => fv Po 302 (6 + 19 * t1.toInt.toNat + j)) v6.toInt (fv Po 302 (4 + 19 * t1.toInt.toNat)).toInt.toNat := g28
    show MEvP _ none q_211 85 [(0, .ref 301), (1, .int t1), (2, .int v2), (3, .int v3), (4, .int v4), (5, .int v5), (6, .int v6)] [.int x27, .int v2] _ _ _ _
    refine mp_calls (i := 178) (q' := q_173) (As := [.int v2, .int x27]) (rest := []) dX7_thickest_85 rfl qm_173 (by decide) rfl (Nat.le_of_ble_eq_true rfl) rfl ⟨rfl, rfl⟩ ⟨Nat.le_of_ble_eq_true rfl, Nat.le_of_ble_eq_true rfl⟩ (EvP.mono (by decide) (c_M_greater hT )) (fun r30 P31 g32 => mpp 88 rfl ?_)
    obtain ⟨⟨x33, rfl, g34⟩, e35⟩ := g32
    have e35 := e35.symm
    subst e35
    have wx33 := ti_full x33
    replace g34 : (x33.toInt = v2.toInt ∧ x27.toInt ≤ v2.toInt) ∨ (x33.toInt = x27.toInt ∧ v2.toInt ≤ x27.toInt) := g34
    show MEvP _ none q_211 88 [(0, .ref 301), (1, .int t1), (2, .int v2), (3, .int v3), (4, .int v4), (5, .int v5), (6, .int v6)] [.int x33] _ _ _ _
    refine mp_a (a_istore_n (L' := [(2, .int x33), (0, .ref 301), (1, .int t1), (3, .int v3), (4, .int v4), (5, .int v5), (6, .int v6)]) dX7_thickest_88 (by decide) rfl) (mpp 89 rfl ?_)
    obtain ⟨z36, h37⟩ := ti_ex (v6 + 1 : Int32)
    have wz36 := ti_full z36
    refine mp_a (a_iinc (v := z36) (L' := [(6, .int z36), (2, .int x33), (0, .ref 301), (1, .int t1), (3, .int v3), (4, .int v4), (5, .int v5)]) dX7_thickest_89 (by decide) rfl h37 rfl) (mpp 92 rfl ?_)
    try have e38 : z36.toInt = v6.toInt + 1 := ti_addz h37 rfl rfl (by omega) (by omega)
    refine mp_a (a_goto (t := 65) dX7_thickest_92 (by decide)) ?_
    refine MEvP.less (L := [(0, .ref 301), (1, .int t1), (2, .int x33), (3, .int v3), (4, .int v4), (5, .int v5), (6, .int z36)]) rfl rfl ⟨rfl, rfl, rfl, rfl, rfl, rfl, rfl, trivial⟩ ?_
    have i39 : 0 ≤ t1.toInt := by omega
    have i40 : t1.toInt ≤ 7 := by omega
    have i41 : t1.toInt + 1 ≤ (fv Po 302 0).toInt := by omega
    have i42 : (fv Po 302 (3 + 19 * t1.toInt.toNat)).toInt = 0 := by omega
    have i43 : v3.toInt + 1 ≤ (fv Po 302 (4 + 19 * t1.toInt.toNat)).toInt := by omega
    have i44 : 0 ≤ v3.toInt := by omega
    have i45 : (lfF (fun j : Nat => fv Po 302 (6 + 19 * t1.toInt.toNat + j)) v3.toInt.toNat) = min v4.toInt v5.toInt := i_6
    have i46 : (rgF (fun j : Nat => fv Po 302 (6 + 19 * t1.toInt.toNat + j)) v3.toInt.toNat) = max v4.toInt v5.toInt := i_7
    have i47 : (lfF (fun j : Nat => fv Po 302 (6 + 19 * t1.toInt.toNat + j)) v3.toInt.toNat) ≤ z36.toInt := by omega
    have i48 : z36.toInt ≤ (rgF (fun j : Nat => fv Po 302 (6 + 19 * t1.toInt.toNat + j)) v3.toInt.toNat) := by omega
    have i49 : x33.toInt = mxR (fun j : Nat => fv Po 302 (6 + 19 * t1.toInt.toNat + j)) (fv Po 302 (4 + 19 * t1.toInt.toNat)).toInt.toNat (lfF (fun j : Nat => fv Po 302 (6 + 19 * t1.toInt.toNat + j)) v3.toInt.toNat) (tmF (fun j : Nat => fv Po 302 (6 + 19 * t1.toInt.toNat + j)) (fv Po 302 (4 + 19 * t1.toInt.toNat)).toInt.toNat v3.toInt.toNat) (z36.toInt - (lfF (fun j : Nat => fv Po 302 (6 + 19 * t1.toInt.toNat + j)) v3.toInt.toNat)).toNat := mxR.step i_10 (by omega) (q := v6.toInt) (by omega) (by have e := g28.2.2; rw [← e]; omega)
    exact ih _ (by omega) _ _ _ _ _ i39 i40 i41 i42 i43 i44 i45 i46 i47 i48 i49 hmO rfl

set_option maxHeartbeats 4000000 in
theorem c_M_thickest_l28 {Po : mP} {t1 : Int32} (hT : Typ Po)   : ∀ (n : Nat) (v2 : Int32) (v3 : Int32), (0 ≤ t1.toInt) → (t1.toInt ≤ 7) → (t1.toInt + 1 ≤ (fv Po 302 0).toInt) → ((fv Po 302 (3 + 19 * t1.toInt.toNat)).toInt = 0) → (v3.toInt ≤ (fv Po 302 (4 + 19 * t1.toInt.toNat)).toInt) → (v2.toInt = tmF (fun j : Nat => fv Po 302 (6 + 19 * t1.toInt.toNat + j)) (fv Po 302 (4 + 19 * t1.toInt.toNat)).toInt.toNat v3.toInt.toNat) → (0 ≤ v3.toInt) → (2147483647 - v3.toInt).toNat = n → MEvP 5 none q_211 28 [(0, .ref 301), (1, .int t1), (2, .int v2), (3, .int v3)] [] Po 0 0 (fun r P' => (∃ x : Int32, r = some (.int x) ∧ (thickestM (sr Po) x.toInt t1.toInt)) ∧ P' = Po) := by
  intro n
  induction n using Nat.strongRecOn with | _ n ih => ?_
  intro v2 v3 i_0 i_1 i_2 i_3 i_4 i_5 i_6 hm
  have w_t1 := ti_full t1
  have w_v2 := ti_full v2
  have w_v3 := ti_full v3
  have g1 : (0 : Int) ≤ (fv Po 302 0).toInt ∧ (fv Po 302 0).toInt ≤ 8 := Typ.rng hT rl_302 (by decide) (by decide) rfl
  try have g2 : (0 : Int) ≤ (fv Po 302 (3 + 19 * t1.toInt.toNat)).toInt ∧ (fv Po 302 (3 + 19 * t1.toInt.toNat)).toInt ≤ 1 := s3_rng hT (by omega)
  try have g3 : (0 : Int) ≤ (fv Po 302 (4 + 19 * t1.toInt.toNat)).toInt ∧ (fv Po 302 (4 + 19 * t1.toInt.toNat)).toInt ≤ 8 := s4_rng hT (by omega)
  refine mp_a (a_iload_n dX7_thickest_28 rfl) (mpp 29 rfl ?_)
  refine mp_a (a_aload_n dX7_thickest_29 rfl) (mpp 30 rfl ?_)
  refine mp_a (a_iload_n dX7_thickest_30 rfl) (mpp 31 rfl ?_)
  refine mp_a (a_iconst (v := 1) dX7_thickest_31 rfl) (mpp 32 rfl ?_)
  have p4 : 0 ≤ t1.toInt := by omega
  have p5 : t1.toInt ≤ 7 := by omega
  have p6 : 0 ≤ (1 : Int) := by omega
  have p7 : (1 : Int) ≤ 18 := by omega
  refine mt_callv (i := 78) (q' := q_137) (As := [.int t1, .int 1]) (rest := [.int v3]) hT dX7_thickest_32 rfl qm_137 (by decide) rfl rl_301 (by decide) rfl (Nat.le_of_ble_eq_true rfl) rfl ⟨rfl, rfl⟩ ⟨Nat.le_of_ble_eq_true rfl, Nat.le_of_ble_eq_true rfl⟩ (EvP.mono (by decide) (c_M_of_c1 hT p4 p5 p6 p7 )) (fun r8 P9 g10 => mpp 35 rfl ?_)
  obtain ⟨⟨x11, rfl, g12⟩, e13⟩ := g10
  have e13 := e13.symm
  subst e13
  have wx11 := ti_full x11
  replace g12 : x11.toInt = (fv Po 302 (4 + 19 * t1.toInt.toNat)).toInt ∧ 0 ≤ x11.toInt ∧ x11.toInt ≤ 8 := g12
  show MEvP _ none q_211 35 [(0, .ref 301), (1, .int t1), (2, .int v2), (3, .int v3)] [.int x11, .int v3] _ _ _ _
  refine mp_Tb (t := 101) (j_icmp_ge dX7_thickest_35) (by decide) (fun c14 => ?_) (fun c14 => mpp 38 rfl ?_)
  · have c14 : v3.toInt ≥ x11.toInt := ti_ge c14
    refine mp_a (a_iload_n dX7_thickest_101 rfl) (mpp 102 rfl ?_)
    have u15 : thickestM (sr Po) v2.toInt t1.toInt := (show (v2.toInt = -1001 ∧ (t1.toInt < 0 ∨ (fv Po 302 (0)).toInt ≤ t1.toInt)) ∨ ((0 ≤ t1.toInt ∧ t1.toInt + 1 ≤ (fv Po 302 (0)).toInt ∧ t1.toInt ≤ 7) ∧ (fv Po 302 (3 + 19 * t1.toInt.toNat)).toInt = 1 ∧ v2.toInt = -1002) ∨ ((0 ≤ t1.toInt ∧ t1.toInt + 1 ≤ (fv Po 302 (0)).toInt ∧ t1.toInt ≤ 7) ∧ (fv Po 302 (3 + 19 * t1.toInt.toNat)).toInt = 0 ∧ v2.toInt = tmF (fun j : Nat => fv Po 302 (6 + 19 * t1.toInt.toNat + j)) (fv Po 302 (4 + 19 * t1.toInt.toNat)).toInt.toNat (fv Po 302 (4 + 19 * t1.toInt.toNat)).toInt.toNat) from Or.inr (Or.inr (⟨by omega, by omega, i_5.trans (congrArg (tmF _ _) (by omega))⟩)))
    exact mp_iret ⟨⟨_, rfl, u15⟩, rfl⟩ dX7_thickest_102 (Or.inl rfl)
  · have c14 : v3.toInt < x11.toInt := ti_ge_n c14
    refine mp_a (a_aload_n dX7_thickest_38 rfl) (mpp 39 rfl ?_)
    refine mp_a (a_iload_n dX7_thickest_39 rfl) (mpp 40 rfl ?_)
    refine mp_a (a_iload_n dX7_thickest_40 rfl) (mpp 41 rfl ?_)
    have p16 : 0 ≤ t1.toInt := by omega
    have p17 : t1.toInt ≤ 7 := by omega
    have p18 : v3.toInt ≤ 8 := by omega
    refine mt_callv (i := 225) (q' := q_186) (As := [.int t1, .int v3]) (rest := []) hT dX7_thickest_41 rfl qm_186 (by decide) rfl rl_301 (by decide) rfl (Nat.le_of_ble_eq_true rfl) rfl ⟨rfl, rfl⟩ ⟨Nat.le_of_ble_eq_true rfl, Nat.le_of_ble_eq_true rfl⟩ (EvP.mono (by decide) (c_M_placeOf hT p16 p17 p18 )) (fun r19 P20 g21 => mpp 44 rfl ?_)
    obtain ⟨⟨x22, rfl, g23⟩, e24⟩ := g21
    have e24 := e24.symm
    subst e24
    have wx22 := ti_full x22
    replace g23 : x22.toInt = (plF (fun j : Nat => fv Po 302 (6 + 19 * t1.toInt.toNat + j)) v3.toInt.toNat).toInt := g23
    show MEvP _ none q_211 44 [(0, .ref 301), (1, .int t1), (2, .int v2), (3, .int v3)] [.int x22] _ _ _ _
    refine mp_a (a_istore (L' := [(4, .int x22), (0, .ref 301), (1, .int t1), (2, .int v2), (3, .int v3)]) dX7_thickest_44 (by decide) rfl) (mpp 46 rfl ?_)
    refine mp_a (a_aload_n dX7_thickest_46 rfl) (mpp 47 rfl ?_)
    refine mp_a (a_iload_n dX7_thickest_47 rfl) (mpp 48 rfl ?_)
    refine mp_a (a_iload_n dX7_thickest_48 rfl) (mpp 49 rfl ?_)
    refine mp_a (a_iconst (v := 1) dX7_thickest_49 rfl) (mpp 50 rfl ?_)
    obtain ⟨z25, h26⟩ := ti_ex (v3 + 1 : Int32)
    have wz25 := ti_full z25
    refine mp_t (s_iadd (v := z25) dX7_thickest_50 h26) (mpp 51 rfl ?_)
    try have e27 : z25.toInt = v3.toInt + 1 := ti_addz h26 rfl rfl (by omega) (by omega)
    have p28 : 0 ≤ t1.toInt := by omega
    have p29 : t1.toInt ≤ 7 := by omega
    have p30 : z25.toInt ≤ 8 := by omega
    refine mt_callv (i := 225) (q' := q_186) (As := [.int t1, .int z25]) (rest := []) hT dX7_thickest_51 rfl qm_186 (by decide) rfl rl_301 (by decide) rfl (Nat.le_of_ble_eq_true rfl) rfl ⟨rfl, rfl⟩ ⟨Nat.le_of_ble_eq_true rfl, Nat.le_of_ble_eq_true rfl⟩ (EvP.mono (by decide) (c_M_placeOf hT p28 p29 p30 )) (fun r31 P32 g33 => mpp 54 rfl ?_)
    obtain ⟨⟨x34, rfl, g35⟩, e36⟩ := g33
    have e36 := e36.symm
    subst e36
    have wx34 := ti_full x34
    replace g35 : x34.toInt = (plF (fun j : Nat => fv Po 302 (6 + 19 * t1.toInt.toNat + j)) z25.toInt.toNat).toInt := g35
    show MEvP _ none q_211 54 [(4, .int x22), (0, .ref 301), (1, .int t1), (2, .int v2), (3, .int v3)] [.int x34] _ _ _ _
    refine mp_a (a_istore (L' := [(5, .int x34), (4, .int x22), (0, .ref 301), (1, .int t1), (2, .int v2), (3, .int v3)]) dX7_thickest_54 (by decide) rfl) (mpp 56 rfl ?_)
    refine mp_a (a_iload dX7_thickest_56 rfl) (mpp 58 rfl ?_)
    refine mp_a (a_iload dX7_thickest_58 rfl) (mpp 60 rfl ?_)
    refine mp_calls (i := 155) (q' := q_158) (As := [.int x22, .int x34]) (rest := []) dX7_thickest_60 rfl qm_158 (by decide) rfl (Nat.le_of_ble_eq_true rfl) rfl ⟨rfl, rfl⟩ ⟨Nat.le_of_ble_eq_true rfl, Nat.le_of_ble_eq_true rfl⟩ (EvP.mono (by decide) (c_M_lesser hT )) (fun r37 P38 g39 => mpp 63 rfl ?_)
    obtain ⟨⟨x40, rfl, g41⟩, e42⟩ := g39
    have e42 := e42.symm
    subst e42
    have wx40 := ti_full x40
    replace g41 : (x40.toInt = x22.toInt ∧ x22.toInt ≤ x34.toInt) ∨ (x40.toInt = x34.toInt ∧ x34.toInt ≤ x22.toInt) := g41
    show MEvP _ none q_211 63 [(5, .int x34), (4, .int x22), (0, .ref 301), (1, .int t1), (2, .int v2), (3, .int v3)] [.int x40] _ _ _ _
    refine mp_a (a_istore (L' := [(6, .int x40), (5, .int x34), (4, .int x22), (0, .ref 301), (1, .int t1), (2, .int v2), (3, .int v3)]) dX7_thickest_63 (by decide) rfl) (mpp 65 rfl ?_)
    refine MEvP.less (L := [(0, .ref 301), (1, .int t1), (2, .int v2), (3, .int v3), (4, .int x22), (5, .int x34), (6, .int x40)]) rfl rfl ⟨rfl, rfl, rfl, rfl, rfl, rfl, rfl, trivial⟩ ?_
    have i43 : 0 ≤ t1.toInt := by omega
    have i44 : t1.toInt ≤ 7 := by omega
    have i45 : t1.toInt + 1 ≤ (fv Po 302 0).toInt := by omega
    have i46 : (fv Po 302 (3 + 19 * t1.toInt.toNat)).toInt = 0 := by omega
    have i47 : v3.toInt + 1 ≤ (fv Po 302 (4 + 19 * t1.toInt.toNat)).toInt := by omega
    have i48 : 0 ≤ v3.toInt := by omega
    have w50_0 : x22.toInt = (plF (fun j : Nat => fv Po 302 (6 + 19 * t1.toInt.toNat + j)) v3.toInt.toNat).toInt := g23
    have w50_1 : x34.toInt = (plF (fun j : Nat => fv Po 302 (6 + 19 * t1.toInt.toNat + j)) (v3.toInt.toNat + 1)).toInt := g35.trans (congrArg (fun n : Nat => (plF (fun j : Nat => fv Po 302 (6 + 19 * t1.toInt.toNat + j)) n).toInt) (by omega))
    have w50_l : lfF (fun j : Nat => fv Po 302 (6 + 19 * t1.toInt.toNat + j)) v3.toInt.toNat = min x22.toInt x34.toInt := by unfold lfF; rw [← w50_0, ← w50_1]
    have w50_r : rgF (fun j : Nat => fv Po 302 (6 + 19 * t1.toInt.toNat + j)) v3.toInt.toNat = max x22.toInt x34.toInt := by unfold rgF; rw [← w50_0, ← w50_1]
    have i49 : (lfF (fun j : Nat => fv Po 302 (6 + 19 * t1.toInt.toNat + j)) v3.toInt.toNat) = min x22.toInt x34.toInt := by omega
    have i51 : (rgF (fun j : Nat => fv Po 302 (6 + 19 * t1.toInt.toNat + j)) v3.toInt.toNat) = max x22.toInt x34.toInt := by omega
    have i52 : (lfF (fun j : Nat => fv Po 302 (6 + 19 * t1.toInt.toNat + j)) v3.toInt.toNat) ≤ x40.toInt := by omega
    have i53 : x40.toInt ≤ (rgF (fun j : Nat => fv Po 302 (6 + 19 * t1.toInt.toNat + j)) v3.toInt.toNat) := by omega
    have i54 : v2.toInt = mxR (fun j : Nat => fv Po 302 (6 + 19 * t1.toInt.toNat + j)) (fv Po 302 (4 + 19 * t1.toInt.toNat)).toInt.toNat (lfF (fun j : Nat => fv Po 302 (6 + 19 * t1.toInt.toNat + j)) v3.toInt.toNat) (tmF (fun j : Nat => fv Po 302 (6 + 19 * t1.toInt.toNat + j)) (fv Po 302 (4 + 19 * t1.toInt.toNat)).toInt.toNat v3.toInt.toNat) (x40.toInt - (lfF (fun j : Nat => fv Po 302 (6 + 19 * t1.toInt.toNat + j)) v3.toInt.toNat)).toNat := by rw [show ((x40.toInt) - (lfF (fun j : Nat => fv Po 302 (6 + 19 * t1.toInt.toNat + j)) v3.toInt.toNat)).toNat = 0 from by omega]; exact i_5
    exact c_M_thickest_l65 hT   ih _ _ _ _ _ _ i43 i44 i45 i46 i47 i48 i49 i51 i52 i53 i54 hm rfl

set_option maxHeartbeats 4000000 in
theorem c_M_thickest {Po : mP} {t1 : Int32} (hT : Typ Po)   : EvP 6 211 [.ref 301, .int t1] Po (fun r P' => (∃ x : Int32, r = some (.int x) ∧ (thickestM (sr Po) x.toInt t1.toInt)) ∧ P' = Po) := by
  refine EvP.of qm_211 (Nat.le_of_ble_eq_true rfl) rfl ?_
  show MEvP _ none q_211 0 [(0, .ref 301), (1, .int t1)] [] _ 0 0 _
  have w_t1 := ti_full t1
  refine mp_a (a_aload_n dX7_thickest_0 rfl) (mpp 1 rfl ?_)
  refine mp_a (a_iload_n dX7_thickest_1 rfl) (mpp 2 rfl ?_)
  refine mt_callv (i := 85) (q' := q_144) (As := [.int t1]) (rest := []) hT dX7_thickest_2 rfl qm_144 (by decide) rfl rl_301 (by decide) rfl (Nat.le_of_ble_eq_true rfl) rfl ⟨rfl, rfl⟩ ⟨Nat.le_of_ble_eq_true rfl, Nat.le_of_ble_eq_true rfl⟩ (EvP.mono (by decide) (c_M_isPiece hT )) (fun r1 P2 g3 => mpp 5 rfl ?_)
  obtain ⟨⟨x4, rfl, g5⟩, e6⟩ := g3
  have e6 := e6.symm
  subst e6
  have wx4 := ti_full x4
  replace g5 : 0 ≤ x4.toInt ∧ x4.toInt ≤ 1 ∧ ((x4.toInt = 1 ∧ 0 ≤ t1.toInt ∧ t1.toInt + 1 ≤ (fv Po 302 0).toInt ∧ t1.toInt ≤ 7) ∨ (x4.toInt = 0 ∧ (t1.toInt < 0 ∨ (fv Po 302 0).toInt ≤ t1.toInt))) := g5
  have g7 : (0 : Int) ≤ (fv Po 302 0).toInt ∧ (fv Po 302 0).toInt ≤ 8 := Typ.rng hT rl_302 (by decide) (by decide) rfl
  show MEvP _ none q_211 5 [(0, .ref 301), (1, .int t1)] [.int x4] _ _ _ _
  refine mp_Tb (t := 12) (j_if_ne dX7_thickest_5) (by decide) (fun c8 => ?_) (fun c8 => mpp 8 rfl ?_)
  · have c8 : x4.toInt ≠ 0 := ti_ne c8
    refine mp_a (a_aload_n dX7_thickest_12 rfl) (mpp 13 rfl ?_)
    refine mp_a (a_iload_n dX7_thickest_13 rfl) (mpp 14 rfl ?_)
    have p9 : 0 ≤ t1.toInt := by omega
    have p10 : t1.toInt ≤ 7 := by omega
    refine mt_callv (i := 81) (q' := q_138) (As := [.int t1]) (rest := []) hT dX7_thickest_14 rfl qm_138 (by decide) rfl rl_301 (by decide) rfl (Nat.le_of_ble_eq_true rfl) rfl ⟨rfl, rfl⟩ ⟨Nat.le_of_ble_eq_true rfl, Nat.le_of_ble_eq_true rfl⟩ (EvP.mono (by decide) (c_M_isCorner hT p9 p10 )) (fun r11 P12 g13 => mpp 17 rfl ?_)
    obtain ⟨⟨x14, rfl, g15⟩, e16⟩ := g13
    have e16 := e16.symm
    subst e16
    have wx14 := ti_full x14
    replace g15 : 0 ≤ x14.toInt ∧ x14.toInt ≤ 1 ∧ ((x14.toInt = 1 ∧ (fv Po 302 (3 + 19 * t1.toInt.toNat)).toInt = 1) ∨ (x14.toInt = 0 ∧ (fv Po 302 (3 + 19 * t1.toInt.toNat)).toInt = 0)) := g15
    try have g17 : (0 : Int) ≤ (fv Po 302 (3 + 19 * t1.toInt.toNat)).toInt ∧ (fv Po 302 (3 + 19 * t1.toInt.toNat)).toInt ≤ 1 := s3_rng hT (by omega)
    show MEvP _ none q_211 17 [(0, .ref 301), (1, .int t1)] [.int x14] _ _ _ _
    refine mp_Tb (t := 24) (j_if_eq dX7_thickest_17) (by decide) (fun c18 => ?_) (fun c18 => mpp 20 rfl ?_)
    · have c18 : x14.toInt = 0 := ti_eq c18
      refine mp_a (a_iconst (v := 0) dX7_thickest_24 rfl) (mpp 25 rfl ?_)
      refine mp_a (a_istore_n (L' := [(2, .int 0), (0, .ref 301), (1, .int t1)]) dX7_thickest_25 (by decide) rfl) (mpp 26 rfl ?_)
      refine mp_a (a_iconst (v := 0) dX7_thickest_26 rfl) (mpp 27 rfl ?_)
      refine mp_a (a_istore_n (L' := [(3, .int 0), (2, .int 0), (0, .ref 301), (1, .int t1)]) dX7_thickest_27 (by decide) rfl) (mpp 28 rfl ?_)
      refine MEvP.less (L := [(0, .ref 301), (1, .int t1), (2, .int 0), (3, .int 0)]) rfl rfl ⟨rfl, rfl, rfl, rfl, trivial⟩ ?_
      have i19 : 0 ≤ t1.toInt := by omega
      have i20 : t1.toInt ≤ 7 := by omega
      have i21 : t1.toInt + 1 ≤ (fv Po 302 0).toInt := by omega
      have i22 : (fv Po 302 (3 + 19 * t1.toInt.toNat)).toInt = 0 := by omega
      try have g23 : (0 : Int) ≤ (fv Po 302 (4 + 19 * t1.toInt.toNat)).toInt ∧ (fv Po 302 (4 + 19 * t1.toInt.toNat)).toInt ≤ 8 := s4_rng hT (by omega)
      have i24 : (0 : Int) ≤ (fv Po 302 (4 + 19 * t1.toInt.toNat)).toInt := by omega
      have i25 : (0 : Int) = tmF (fun j : Nat => fv Po 302 (6 + 19 * t1.toInt.toNat + j)) (fv Po 302 (4 + 19 * t1.toInt.toNat)).toInt.toNat (0 : Int).toNat := rfl
      have i26 : 0 ≤ (0 : Int) := by omega
      exact c_M_thickest_l28 hT   _ _ _ i19 i20 i21 i22 i24 i25 i26 rfl
    · have c18 : x14.toInt ≠ 0 := ti_eq_n c18
      refine mp_a (a_sipush (v := -1002) dX7_thickest_20 rfl) (mpp 23 rfl ?_)
      have u27 : thickestM (sr Po) (-1002 : Int) t1.toInt := (show ((-1002 : Int) = -1001 ∧ (t1.toInt < 0 ∨ (fv Po 302 (0)).toInt ≤ t1.toInt)) ∨ ((0 ≤ t1.toInt ∧ t1.toInt + 1 ≤ (fv Po 302 (0)).toInt ∧ t1.toInt ≤ 7) ∧ (fv Po 302 (3 + 19 * t1.toInt.toNat)).toInt = 1 ∧ (-1002 : Int) = -1002) ∨ ((0 ≤ t1.toInt ∧ t1.toInt + 1 ≤ (fv Po 302 (0)).toInt ∧ t1.toInt ≤ 7) ∧ (fv Po 302 (3 + 19 * t1.toInt.toNat)).toInt = 0 ∧ (-1002 : Int) = tmF (fun j : Nat => fv Po 302 (6 + 19 * t1.toInt.toNat + j)) (fv Po 302 (4 + 19 * t1.toInt.toNat)).toInt.toNat (fv Po 302 (4 + 19 * t1.toInt.toNat)).toInt.toNat) from Or.inr (Or.inl (⟨by omega, by omega, by omega⟩)))
      exact mp_iret ⟨⟨_, rfl, u27⟩, rfl⟩ dX7_thickest_23 (Or.inl rfl)
  · have c8 : x4.toInt = 0 := ti_ne_n c8
    refine mp_a (a_sipush (v := -1001) dX7_thickest_8 rfl) (mpp 11 rfl ?_)
    have u28 : thickestM (sr Po) (-1001 : Int) t1.toInt := (show ((-1001 : Int) = -1001 ∧ (t1.toInt < 0 ∨ (fv Po 302 (0)).toInt ≤ t1.toInt)) ∨ ((0 ≤ t1.toInt ∧ t1.toInt + 1 ≤ (fv Po 302 (0)).toInt ∧ t1.toInt ≤ 7) ∧ (fv Po 302 (3 + 19 * t1.toInt.toNat)).toInt = 1 ∧ (-1001 : Int) = -1002) ∨ ((0 ≤ t1.toInt ∧ t1.toInt + 1 ≤ (fv Po 302 (0)).toInt ∧ t1.toInt ≤ 7) ∧ (fv Po 302 (3 + 19 * t1.toInt.toNat)).toInt = 0 ∧ (-1001 : Int) = tmF (fun j : Nat => fv Po 302 (6 + 19 * t1.toInt.toNat + j)) (fv Po 302 (4 + 19 * t1.toInt.toNat)).toInt.toNat (fv Po 302 (4 + 19 * t1.toInt.toNat)).toInt.toNat) from Or.inl (⟨by omega, by omega⟩))
    exact mp_iret ⟨⟨_, rfl, u28⟩, rfl⟩ dX7_thickest_11 (Or.inl rfl)

set_option maxHeartbeats 4000000 in
theorem c_M_reflected_l31 {Po : mP} {t1 : Int32} (hT : Typ Po)   : ∀ (n : Nat) (v2 : Int32) (v3 : Int32) (v4 : Int32), (0 ≤ t1.toInt) → (t1.toInt ≤ 7) → (t1.toInt + 1 ≤ (fv Po 302 0).toInt) → ((fv Po 302 (3 + 19 * t1.toInt.toNat)).toInt = 1) → (v2.toInt = rfF (fun j : Nat => fv Po 302 (6 + 19 * t1.toInt.toNat + j)) v4.toInt.toNat) → (v3 = smF (fun j : Nat => fv Po 302 (6 + 19 * t1.toInt.toNat + j)) v4.toInt.toNat) → (v4.toInt ≤ (fv Po 302 (4 + 19 * t1.toInt.toNat)).toInt) → (0 ≤ v4.toInt) → (2147483647 - v4.toInt).toNat = n → MEvP 3 none q_213 31 [(0, .ref 301), (1, .int t1), (2, .int v2), (3, .int v3), (4, .int v4)] [] Po 0 0 (fun r P' => (∃ x : Int32, r = some (.int x) ∧ (reflectedM (sr Po) x.toInt t1.toInt)) ∧ P' = Po) := by
  intro n
  induction n using Nat.strongRecOn with | _ n ih => ?_
  intro v2 v3 v4 i_0 i_1 i_2 i_3 i_4 i_5 i_6 i_7 hm
  have w_t1 := ti_full t1
  have w_v2 := ti_full v2
  have w_v3 := ti_full v3
  have w_v4 := ti_full v4
  have g1 : (0 : Int) ≤ (fv Po 302 0).toInt ∧ (fv Po 302 0).toInt ≤ 8 := Typ.rng hT rl_302 (by decide) (by decide) rfl
  try have g2 : (0 : Int) ≤ (fv Po 302 (3 + 19 * t1.toInt.toNat)).toInt ∧ (fv Po 302 (3 + 19 * t1.toInt.toNat)).toInt ≤ 1 := s3_rng hT (by omega)
  try have g3 : (0 : Int) ≤ (fv Po 302 (4 + 19 * t1.toInt.toNat)).toInt ∧ (fv Po 302 (4 + 19 * t1.toInt.toNat)).toInt ≤ 8 := s4_rng hT (by omega)
  refine mp_a (a_iload dX7_reflected_31 rfl) (mpp 33 rfl ?_)
  refine mp_a (a_aload_n dX7_reflected_33 rfl) (mpp 34 rfl ?_)
  refine mp_a (a_iload_n dX7_reflected_34 rfl) (mpp 35 rfl ?_)
  refine mp_a (a_iconst (v := 1) dX7_reflected_35 rfl) (mpp 36 rfl ?_)
  have p4 : 0 ≤ t1.toInt := by omega
  have p5 : t1.toInt ≤ 7 := by omega
  have p6 : 0 ≤ (1 : Int) := by omega
  have p7 : (1 : Int) ≤ 18 := by omega
  refine mt_callv (i := 78) (q' := q_137) (As := [.int t1, .int 1]) (rest := [.int v4]) hT dX7_reflected_36 rfl qm_137 (by decide) rfl rl_301 (by decide) rfl (Nat.le_of_ble_eq_true rfl) rfl ⟨rfl, rfl⟩ ⟨Nat.le_of_ble_eq_true rfl, Nat.le_of_ble_eq_true rfl⟩ (EvP.mono (by decide) (c_M_of_c1 hT p4 p5 p6 p7 )) (fun r8 P9 g10 => mpp 39 rfl ?_)
  obtain ⟨⟨x11, rfl, g12⟩, e13⟩ := g10
  have e13 := e13.symm
  subst e13
  have wx11 := ti_full x11
  replace g12 : x11.toInt = (fv Po 302 (4 + 19 * t1.toInt.toNat)).toInt ∧ 0 ≤ x11.toInt ∧ x11.toInt ≤ 8 := g12
  show MEvP _ none q_213 39 [(0, .ref 301), (1, .int t1), (2, .int v2), (3, .int v3), (4, .int v4)] [.int x11, .int v4] _ _ _ _
  refine mp_Tb (t := 73) (j_icmp_ge dX7_reflected_39) (by decide) (fun c14 => ?_) (fun c14 => mpp 42 rfl ?_)
  · have c14 : v4.toInt ≥ x11.toInt := ti_ge c14
    refine mp_a (a_iload_n dX7_reflected_73 rfl) (mpp 74 rfl ?_)
    have u15 : reflectedM (sr Po) v2.toInt t1.toInt := (show (v2.toInt = -1001 ∧ (t1.toInt < 0 ∨ (fv Po 302 (0)).toInt ≤ t1.toInt)) ∨ ((0 ≤ t1.toInt ∧ t1.toInt + 1 ≤ (fv Po 302 (0)).toInt ∧ t1.toInt ≤ 7) ∧ (fv Po 302 (3 + 19 * t1.toInt.toNat)).toInt = 0 ∧ v2.toInt = -1002) ∨ ((0 ≤ t1.toInt ∧ t1.toInt + 1 ≤ (fv Po 302 (0)).toInt ∧ t1.toInt ≤ 7) ∧ (fv Po 302 (3 + 19 * t1.toInt.toNat)).toInt = 1 ∧ v2.toInt = rfF (fun j : Nat => fv Po 302 (6 + 19 * t1.toInt.toNat + j)) (fv Po 302 (4 + 19 * t1.toInt.toNat)).toInt.toNat) from Or.inr (Or.inr (⟨by omega, by omega, i_4.trans (congrArg (rfF _) (by omega))⟩)))
    exact mp_iret ⟨⟨_, rfl, u15⟩, rfl⟩ dX7_reflected_74 (Or.inl rfl)
  · have c14 : v4.toInt < x11.toInt := ti_ge_n c14
    refine mp_a (a_iconst (v := 2) dX7_reflected_42 rfl) (mpp 43 rfl ?_)
    refine mp_a (a_iload_n dX7_reflected_43 rfl) (mpp 44 rfl ?_)
    obtain ⟨z16, h17⟩ := ti_ex (2 * v3 : Int32)
    have wz16 := ti_full z16
    refine mp_t (s_imul (v := z16) dX7_reflected_44 h17) (mpp 45 rfl ?_)
    try have e18 : z16.toInt = 2 * v3.toInt := ti_mulz h17 rfl rfl (by omega) (by omega)
    refine mp_a (a_iload_n dX7_reflected_45 rfl) (mpp 46 rfl ?_)
    obtain ⟨z19, h20⟩ := ti_ex (z16 - v2 : Int32)
    have wz19 := ti_full z19
    refine mp_t (s_isub (v := z19) dX7_reflected_46 h20) (mpp 47 rfl ?_)
    try have e21 : z19.toInt = z16.toInt - v2.toInt := ti_subz h20 rfl rfl (by omega) (by omega)
    refine mp_a (a_bipush (v := 24) dX7_reflected_47 rfl) (mpp 49 rfl ?_)
    obtain ⟨z22, h23⟩ := ti_ex (z19 - z19 / 24 * 24 : Int32)
    have wz22 := ti_full z22
    try have e25 : z22.toInt = z19.toInt % 24 := ti_remx h23 (show (0 : Int) ≤ z19.toInt by omega) (show (0 : Int) < 24 by omega)
    try have e24 : 0 ≤ z22.toInt ∧ z22.toInt < 24 := ti_rem h23 (show (0 : Int) ≤ z19.toInt by omega) (show (0 : Int) < 24 by omega)
    refine mp_t (s_irem (v := z22) dX7_reflected_49 (by decide) h23) (mpp 50 rfl ?_)
    have q26 := ti_rem24 h23
    refine mp_a (a_bipush (v := 24) dX7_reflected_50 rfl) (mpp 52 rfl ?_)
    obtain ⟨z27, h28⟩ := ti_ex (z22 + 24 : Int32)
    have wz27 := ti_full z27
    refine mp_t (s_iadd (v := z27) dX7_reflected_52 h28) (mpp 53 rfl ?_)
    try have e29 : z27.toInt = z22.toInt + 24 := ti_addz h28 rfl rfl (by omega) (by omega)
    refine mp_a (a_bipush (v := 24) dX7_reflected_53 rfl) (mpp 55 rfl ?_)
    obtain ⟨z30, h31⟩ := ti_ex (z27 - z27 / 24 * 24 : Int32)
    have wz30 := ti_full z30
    try have e33 : z30.toInt = z27.toInt % 24 := ti_remx h31 (show (0 : Int) ≤ z27.toInt by omega) (show (0 : Int) < 24 by omega)
    try have e32 : 0 ≤ z30.toInt ∧ z30.toInt < 24 := ti_rem h31 (show (0 : Int) ≤ z27.toInt by omega) (show (0 : Int) < 24 by omega)
    refine mp_t (s_irem (v := z30) dX7_reflected_55 (by decide) h31) (mpp 56 rfl ?_)
    refine mp_a (a_istore_n (L' := [(2, .int z30), (0, .ref 301), (1, .int t1), (3, .int v3), (4, .int v4)]) dX7_reflected_56 (by decide) rfl) (mpp 57 rfl ?_)
    refine mp_a (a_iload_n dX7_reflected_57 rfl) (mpp 58 rfl ?_)
    refine mp_a (a_aload_n dX7_reflected_58 rfl) (mpp 59 rfl ?_)
    refine mp_a (a_iload_n dX7_reflected_59 rfl) (mpp 60 rfl ?_)
    refine mp_a (a_iload dX7_reflected_60 rfl) (mpp 62 rfl ?_)
    have p34 : 0 ≤ t1.toInt := by omega
    have p35 : t1.toInt ≤ 7 := by omega
    have p36 : 0 ≤ v4.toInt := by omega
    have p37 : v4.toInt ≤ 7 := by omega
    refine mt_callv (i := 142) (q' := q_152) (As := [.int t1, .int v4]) (rest := [.int v3]) hT dX7_reflected_62 rfl qm_152 (by decide) rfl rl_301 (by decide) rfl (Nat.le_of_ble_eq_true rfl) rfl ⟨rfl, rfl⟩ ⟨Nat.le_of_ble_eq_true rfl, Nat.le_of_ble_eq_true rfl⟩ (EvP.mono (by decide) (c_M_sizeOf hT p34 p35 p36 p37 )) (fun r38 P39 g40 => mpp 65 rfl ?_)
    obtain ⟨⟨x41, rfl, g42⟩, e43⟩ := g40
    have e43 := e43.symm
    subst e43
    have wx41 := ti_full x41
    replace g42 : x41.toInt = (fv Po 302 (6 + 19 * t1.toInt.toNat + v4.toInt.toNat)).toInt := g42
    show MEvP _ none q_213 65 [(2, .int z30), (0, .ref 301), (1, .int t1), (3, .int v3), (4, .int v4)] [.int x41, .int v3] _ _ _ _
    obtain ⟨z44, h45⟩ := ti_ex (v3 + x41 : Int32)
    have wz44 := ti_full z44
    refine mp_t (s_iadd (v := z44) dX7_reflected_65 h45) (mpp 66 rfl ?_)
    try have e46 : z44.toInt = v3.toInt + x41.toInt := ti_addz h45 rfl rfl (by omega) (by omega)
    refine mp_a (a_istore_n (L' := [(3, .int z44), (2, .int z30), (0, .ref 301), (1, .int t1), (4, .int v4)]) dX7_reflected_66 (by decide) rfl) (mpp 67 rfl ?_)
    obtain ⟨z47, h48⟩ := ti_ex (v4 + 1 : Int32)
    have wz47 := ti_full z47
    refine mp_a (a_iinc (v := z47) (L' := [(4, .int z47), (3, .int z44), (2, .int z30), (0, .ref 301), (1, .int t1)]) dX7_reflected_67 (by decide) rfl h48 rfl) (mpp 70 rfl ?_)
    try have e49 : z47.toInt = v4.toInt + 1 := ti_addz h48 rfl rfl (by omega) (by omega)
    refine mp_a (a_goto (t := 31) dX7_reflected_70 (by decide)) ?_
    refine MEvP.less (L := [(0, .ref 301), (1, .int t1), (2, .int z30), (3, .int z44), (4, .int z47)]) rfl rfl ⟨rfl, rfl, rfl, rfl, rfl, trivial⟩ ?_
    have i50 : 0 ≤ t1.toInt := by omega
    have i51 : t1.toInt ≤ 7 := by omega
    have i52 : t1.toInt + 1 ≤ (fv Po 302 0).toInt := by omega
    have i53 : (fv Po 302 (3 + 19 * t1.toInt.toNat)).toInt = 1 := by omega
    have i54 : z30.toInt = rfF (fun j : Nat => fv Po 302 (6 + 19 * t1.toInt.toNat + j)) z47.toInt.toNat := rfF.step i_4 i_5 h17 h20 (by omega) (by omega)
    have i55 : z44 = smF (fun j : Nat => fv Po 302 (6 + 19 * t1.toInt.toNat + j)) z47.toInt.toNat := smF.step i_5 (by omega) (by show _ = (fv Po 302 (6 + 19 * t1.toInt.toNat + v4.toInt.toNat)).toInt; omega) h45
    have i56 : z47.toInt ≤ (fv Po 302 (4 + 19 * t1.toInt.toNat)).toInt := by omega
    have i57 : 0 ≤ z47.toInt := by omega
    exact ih _ (by omega) _ _ _ i50 i51 i52 i53 i54 i55 i56 i57 rfl

set_option maxHeartbeats 4000000 in
theorem c_M_reflected {Po : mP} {t1 : Int32} (hT : Typ Po)   : EvP 4 213 [.ref 301, .int t1] Po (fun r P' => (∃ x : Int32, r = some (.int x) ∧ (reflectedM (sr Po) x.toInt t1.toInt)) ∧ P' = Po) := by
  refine EvP.of qm_213 (Nat.le_of_ble_eq_true rfl) rfl ?_
  show MEvP _ none q_213 0 [(0, .ref 301), (1, .int t1)] [] _ 0 0 _
  have w_t1 := ti_full t1
  refine mp_a (a_aload_n dX7_reflected_0 rfl) (mpp 1 rfl ?_)
  refine mp_a (a_iload_n dX7_reflected_1 rfl) (mpp 2 rfl ?_)
  refine mt_callv (i := 85) (q' := q_144) (As := [.int t1]) (rest := []) hT dX7_reflected_2 rfl qm_144 (by decide) rfl rl_301 (by decide) rfl (Nat.le_of_ble_eq_true rfl) rfl ⟨rfl, rfl⟩ ⟨Nat.le_of_ble_eq_true rfl, Nat.le_of_ble_eq_true rfl⟩ (EvP.mono (by decide) (c_M_isPiece hT )) (fun r1 P2 g3 => mpp 5 rfl ?_)
  obtain ⟨⟨x4, rfl, g5⟩, e6⟩ := g3
  have e6 := e6.symm
  subst e6
  have wx4 := ti_full x4
  replace g5 : 0 ≤ x4.toInt ∧ x4.toInt ≤ 1 ∧ ((x4.toInt = 1 ∧ 0 ≤ t1.toInt ∧ t1.toInt + 1 ≤ (fv Po 302 0).toInt ∧ t1.toInt ≤ 7) ∨ (x4.toInt = 0 ∧ (t1.toInt < 0 ∨ (fv Po 302 0).toInt ≤ t1.toInt))) := g5
  have g7 : (0 : Int) ≤ (fv Po 302 0).toInt ∧ (fv Po 302 0).toInt ≤ 8 := Typ.rng hT rl_302 (by decide) (by decide) rfl
  show MEvP _ none q_213 5 [(0, .ref 301), (1, .int t1)] [.int x4] _ _ _ _
  refine mp_Tb (t := 12) (j_if_ne dX7_reflected_5) (by decide) (fun c8 => ?_) (fun c8 => mpp 8 rfl ?_)
  · have c8 : x4.toInt ≠ 0 := ti_ne c8
    refine mp_a (a_aload_n dX7_reflected_12 rfl) (mpp 13 rfl ?_)
    refine mp_a (a_iload_n dX7_reflected_13 rfl) (mpp 14 rfl ?_)
    have p9 : 0 ≤ t1.toInt := by omega
    have p10 : t1.toInt ≤ 7 := by omega
    refine mt_callv (i := 81) (q' := q_138) (As := [.int t1]) (rest := []) hT dX7_reflected_14 rfl qm_138 (by decide) rfl rl_301 (by decide) rfl (Nat.le_of_ble_eq_true rfl) rfl ⟨rfl, rfl⟩ ⟨Nat.le_of_ble_eq_true rfl, Nat.le_of_ble_eq_true rfl⟩ (EvP.mono (by decide) (c_M_isCorner hT p9 p10 )) (fun r11 P12 g13 => mpp 17 rfl ?_)
    obtain ⟨⟨x14, rfl, g15⟩, e16⟩ := g13
    have e16 := e16.symm
    subst e16
    have wx14 := ti_full x14
    replace g15 : 0 ≤ x14.toInt ∧ x14.toInt ≤ 1 ∧ ((x14.toInt = 1 ∧ (fv Po 302 (3 + 19 * t1.toInt.toNat)).toInt = 1) ∨ (x14.toInt = 0 ∧ (fv Po 302 (3 + 19 * t1.toInt.toNat)).toInt = 0)) := g15
    try have g17 : (0 : Int) ≤ (fv Po 302 (3 + 19 * t1.toInt.toNat)).toInt ∧ (fv Po 302 (3 + 19 * t1.toInt.toNat)).toInt ≤ 1 := s3_rng hT (by omega)
    show MEvP _ none q_213 17 [(0, .ref 301), (1, .int t1)] [.int x14] _ _ _ _
    refine mp_Tb (t := 24) (j_if_ne dX7_reflected_17) (by decide) (fun c18 => ?_) (fun c18 => mpp 20 rfl ?_)
    · have c18 : x14.toInt ≠ 0 := ti_ne c18
      refine mp_a (a_iconst (v := 0) dX7_reflected_24 rfl) (mpp 25 rfl ?_)
      refine mp_a (a_istore_n (L' := [(2, .int 0), (0, .ref 301), (1, .int t1)]) dX7_reflected_25 (by decide) rfl) (mpp 26 rfl ?_)
      refine mp_a (a_iconst (v := 0) dX7_reflected_26 rfl) (mpp 27 rfl ?_)
      refine mp_a (a_istore_n (L' := [(3, .int 0), (2, .int 0), (0, .ref 301), (1, .int t1)]) dX7_reflected_27 (by decide) rfl) (mpp 28 rfl ?_)
      refine mp_a (a_iconst (v := 0) dX7_reflected_28 rfl) (mpp 29 rfl ?_)
      refine mp_a (a_istore (L' := [(4, .int 0), (3, .int 0), (2, .int 0), (0, .ref 301), (1, .int t1)]) dX7_reflected_29 (by decide) rfl) (mpp 31 rfl ?_)
      refine MEvP.less (L := [(0, .ref 301), (1, .int t1), (2, .int 0), (3, .int 0), (4, .int 0)]) rfl rfl ⟨rfl, rfl, rfl, rfl, rfl, trivial⟩ ?_
      have i19 : 0 ≤ t1.toInt := by omega
      have i20 : t1.toInt ≤ 7 := by omega
      have i21 : t1.toInt + 1 ≤ (fv Po 302 0).toInt := by omega
      have i22 : (fv Po 302 (3 + 19 * t1.toInt.toNat)).toInt = 1 := by omega
      have i23 : (0 : Int) = rfF (fun j : Nat => fv Po 302 (6 + 19 * t1.toInt.toNat + j)) (0 : Int).toNat := rfl
      have i24 : 0 = smF (fun j : Nat => fv Po 302 (6 + 19 * t1.toInt.toNat + j)) (0 : Int).toNat := rfl
      try have g25 : (0 : Int) ≤ (fv Po 302 (4 + 19 * t1.toInt.toNat)).toInt ∧ (fv Po 302 (4 + 19 * t1.toInt.toNat)).toInt ≤ 8 := s4_rng hT (by omega)
      have i26 : (0 : Int) ≤ (fv Po 302 (4 + 19 * t1.toInt.toNat)).toInt := by omega
      have i27 : 0 ≤ (0 : Int) := by omega
      exact c_M_reflected_l31 hT   _ _ _ _ i19 i20 i21 i22 i23 i24 i26 i27 rfl
    · have c18 : x14.toInt = 0 := ti_ne_n c18
      refine mp_a (a_sipush (v := -1002) dX7_reflected_20 rfl) (mpp 23 rfl ?_)
      have u28 : reflectedM (sr Po) (-1002 : Int) t1.toInt := (show ((-1002 : Int) = -1001 ∧ (t1.toInt < 0 ∨ (fv Po 302 (0)).toInt ≤ t1.toInt)) ∨ ((0 ≤ t1.toInt ∧ t1.toInt + 1 ≤ (fv Po 302 (0)).toInt ∧ t1.toInt ≤ 7) ∧ (fv Po 302 (3 + 19 * t1.toInt.toNat)).toInt = 0 ∧ (-1002 : Int) = -1002) ∨ ((0 ≤ t1.toInt ∧ t1.toInt + 1 ≤ (fv Po 302 (0)).toInt ∧ t1.toInt ≤ 7) ∧ (fv Po 302 (3 + 19 * t1.toInt.toNat)).toInt = 1 ∧ (-1002 : Int) = rfF (fun j : Nat => fv Po 302 (6 + 19 * t1.toInt.toNat + j)) (fv Po 302 (4 + 19 * t1.toInt.toNat)).toInt.toNat) from Or.inr (Or.inl (⟨by omega, by omega, by omega⟩)))
      exact mp_iret ⟨⟨_, rfl, u28⟩, rfl⟩ dX7_reflected_23 (Or.inl rfl)
  · have c8 : x4.toInt = 0 := ti_ne_n c8
    refine mp_a (a_sipush (v := -1001) dX7_reflected_8 rfl) (mpp 11 rfl ?_)
    have u29 : reflectedM (sr Po) (-1001 : Int) t1.toInt := (show ((-1001 : Int) = -1001 ∧ (t1.toInt < 0 ∨ (fv Po 302 (0)).toInt ≤ t1.toInt)) ∨ ((0 ≤ t1.toInt ∧ t1.toInt + 1 ≤ (fv Po 302 (0)).toInt ∧ t1.toInt ≤ 7) ∧ (fv Po 302 (3 + 19 * t1.toInt.toNat)).toInt = 0 ∧ (-1001 : Int) = -1002) ∨ ((0 ≤ t1.toInt ∧ t1.toInt + 1 ≤ (fv Po 302 (0)).toInt ∧ t1.toInt ≤ 7) ∧ (fv Po 302 (3 + 19 * t1.toInt.toNat)).toInt = 1 ∧ (-1001 : Int) = rfF (fun j : Nat => fv Po 302 (6 + 19 * t1.toInt.toNat + j)) (fv Po 302 (4 + 19 * t1.toInt.toNat)).toInt.toNat) from Or.inl (⟨by omega, by omega⟩))
    exact mp_iret ⟨⟨_, rfl, u29⟩, rfl⟩ dX7_reflected_11 (Or.inl rfl)

set_option maxHeartbeats 4000000 in
theorem c_M_append {Po : mP} {t1 : Int32} (hT : Typ Po)   : EvP 2 214 [.ref 301, .int t1] Po (fun r P' => (∃ x : Int32, r = some (.int x) ∧ ((x.toInt = -1002 ∧ (t1.toInt < 32 ∨ 126 < t1.toInt ∨ 80 ≤ (fv Po 301 23).toInt) ∧ (fv P' 301 23).toInt = (fv Po 301 23).toInt ∧ ∀ j : Nat, fv P' 314 j = fv Po 314 j) ∨ (x.toInt = (fv Po 301 23).toInt + 1 ∧ 32 ≤ t1.toInt ∧ t1.toInt ≤ 126 ∧ (fv Po 301 23).toInt < 80 ∧ (fv P' 301 23).toInt = (fv Po 301 23).toInt + 1 ∧ (fv P' 314 (fv Po 301 23).toInt.toNat).toInt = t1.toInt ∧ ∀ j : Nat, ¬ j = (fv Po 301 23).toInt.toNat → fv P' 314 j = fv Po 314 j))) ∧ Typ P' ∧ KW [1111, 1920] Po P' ∧ True) := by
  refine EvP.of qm_214 (Nat.le_of_ble_eq_true rfl) rfl ?_
  show MEvP _ none q_214 0 [(0, .ref 301), (1, .int t1)] [] _ 0 0 _
  have w_t1 := ti_full t1
  have g1 : (0 : Int) ≤ (fv Po 301 23).toInt ∧ (fv Po 301 23).toInt ≤ 80 := Typ.rng hT rl_301 (by decide) (by decide) rfl
  refine mp_a (a_iload_n dX7_append_0 rfl) (mpp 1 rfl ?_)
  refine mp_a (a_bipush (v := 32) dX7_append_1 rfl) (mpp 3 rfl ?_)
  refine mp_a (a_bipush (v := 126) dX7_append_3 rfl) (mpp 5 rfl ?_)
  refine mp_calls (i := 61) (q' := q_127) (As := [.int t1, .int 32, .int 126]) (rest := []) dX7_append_5 rfl qm_127 (by decide) rfl (Nat.le_of_ble_eq_true rfl) rfl ⟨rfl, rfl⟩ ⟨Nat.le_of_ble_eq_true rfl, Nat.le_of_ble_eq_true rfl⟩ (EvP.mono (by decide) (c_M_isIn hT )) (fun r2 P3 g4 => mpp 8 rfl ?_)
  obtain ⟨⟨x5, rfl, g6⟩, e7⟩ := g4
  have e7 := e7.symm
  subst e7
  have wx5 := ti_full x5
  replace g6 : 0 ≤ x5.toInt ∧ x5.toInt ≤ 1 ∧ ((x5.toInt = 1 ∧ (32 : Int) ≤ t1.toInt ∧ t1.toInt ≤ (126 : Int)) ∨ (x5.toInt = 0 ∧ (t1.toInt < (32 : Int) ∨ (126 : Int) < t1.toInt))) := g6
  show MEvP _ none q_214 8 [(0, .ref 301), (1, .int t1)] [.int x5] _ _ _ _
  refine mp_Tb (t := 20) (j_if_eq dX7_append_8) (by decide) (fun c8 => ?_) (fun c8 => mpp 11 rfl ?_)
  · have c8 : x5.toInt = 0 := ti_eq c8
    refine mp_a (a_sipush (v := -1002) dX7_append_20 rfl) (mpp 23 rfl ?_)
    have u9 : ((-1002 : Int) = -1002 ∧ (t1.toInt < 32 ∨ 126 < t1.toInt ∨ 80 ≤ (fv Po 301 23).toInt) ∧ (fv Po 301 23).toInt = (fv Po 301 23).toInt ∧ ∀ j : Nat, fv Po 314 j = fv Po 314 j) ∨ ((-1002 : Int) = (fv Po 301 23).toInt + 1 ∧ 32 ≤ t1.toInt ∧ t1.toInt ≤ 126 ∧ (fv Po 301 23).toInt < 80 ∧ (fv Po 301 23).toInt = (fv Po 301 23).toInt + 1 ∧ (fv Po 314 (fv Po 301 23).toInt.toNat).toInt = t1.toInt ∧ ∀ j : Nat, ¬ j = (fv Po 301 23).toInt.toNat → fv Po 314 j = fv Po 314 j) := Or.inl ⟨rfl, by omega, by omega, fun _ => rfl⟩
    exact mp_iret ⟨⟨_, rfl, u9⟩, hT, KW.refl, trivial⟩ dX7_append_23 (Or.inl rfl)
  · have c8 : x5.toInt ≠ 0 := ti_eq_n c8
    refine mp_a (a_aload_n dX7_append_11 rfl) (mpp 12 rfl ?_)
    refine mt_getI (i := 291) (k := 23) hT dX7_append_12 rfl rl_301 (by decide) rfl (by decide) rfl (fun g10 g11 => mpp 15 rfl ?_)
    refine mp_a (a_bipush (v := 80) dX7_append_15 rfl) (mpp 17 rfl ?_)
    refine mp_Tb (t := 24) (j_icmp_ne dX7_append_17) (by decide) (fun c12 => ?_) (fun c12 => mpp 20 rfl ?_)
    · have c12 : (fv Po 301 23).toInt ≠ 80 := ti_ne c12
      refine mp_a (a_aload_n dX7_append_24 rfl) (mpp 25 rfl ?_)
      refine mt_getU (i := 47) (k := 22) (A := 314) hT dX7_append_25 rfl rl_301 (by decide) rfl (by decide) rfl un_30 (mpp 28 rfl ?_)
      refine mp_a (a_aload_n dX7_append_28 rfl) (mpp 29 rfl ?_)
      refine mt_getI (i := 291) (k := 23) hT dX7_append_29 rfl rl_301 (by decide) rfl (by decide) rfl (fun g13 g14 => mpp 32 rfl ?_)
      refine mp_a (a_iload_n dX7_append_32 rfl) (mpp 33 rfl ?_)
      refine mt_ias (n := 80) hT dX7_append_33 rl_314 (by decide) rfl rfl (by omega) (by omega) rfl (ti_full t1) (fun P15 hT16 f17 f18 f19 => mpp 34 rfl ?_)
      have k20 : KW [1111, 1920] Po P15 := KW.step KW.refl rl_314 rfl f18 f19
      refine mp_a (a_aload_n dX7_append_34 rfl) (mpp 35 rfl ?_)
      refine mp_t (s_dup dX7_append_35 rfl) (mpp 36 rfl ?_)
      have e21 : (fv P15 301 23).toInt = (fv Po 301 23).toInt := congrArg Int32.toInt (f18 301 23 (ne_r rl_301 rl_314 rfl))
      refine mt_getI (i := 291) (k := 23) hT16 dX7_append_36 rfl rl_301 (by decide) rfl (by decide) rfl (fun g22 g23 => mpp 39 rfl ?_)
      refine mp_a (a_iconst (v := 1) dX7_append_39 rfl) (mpp 40 rfl ?_)
      obtain ⟨z24, h25⟩ := ti_ex ((fv P15 301 23) + 1 : Int32)
      have wz24 := ti_full z24
      refine mp_t (s_iadd (v := z24) dX7_append_40 h25) (mpp 41 rfl ?_)
      try have e26 : z24.toInt = (fv P15 301 23).toInt + 1 := ti_addz h25 rfl rfl (by omega) (by omega)
      refine mt_putI (i := 291) (k := 23) (x := z24) hT16 dX7_append_41 rfl rl_301 (by decide) rfl (by decide) rfl ⟨by omega, by omega⟩ rfl rfl (fun P27 hT28 f29 f30 f31 => mpp 44 rfl ?_)
      have k32 : KW [1111, 1920] Po P27 := KW.step k20 rl_301 rfl f30 f31
      have e33 : (fv P27 301 23).toInt = z24.toInt := congrArg Int32.toInt f29
      refine mp_a (a_aload_n dX7_append_44 rfl) (mpp 45 rfl ?_)
      refine mt_getI (i := 291) (k := 23) hT28 dX7_append_45 rfl rl_301 (by decide) rfl (by decide) rfl (fun g34 g35 => mpp 48 rfl ?_)
      have u36 : ((fv P27 301 23).toInt = -1002 ∧ (t1.toInt < 32 ∨ 126 < t1.toInt ∨ 80 ≤ (fv Po 301 23).toInt) ∧ (fv P27 301 23).toInt = (fv Po 301 23).toInt ∧ ∀ j : Nat, fv P27 314 j = fv Po 314 j) ∨ ((fv P27 301 23).toInt = (fv Po 301 23).toInt + 1 ∧ 32 ≤ t1.toInt ∧ t1.toInt ≤ 126 ∧ (fv Po 301 23).toInt < 80 ∧ (fv P27 301 23).toInt = (fv Po 301 23).toInt + 1 ∧ (fv P27 314 (fv Po 301 23).toInt.toNat).toInt = t1.toInt ∧ ∀ j : Nat, ¬ j = (fv Po 301 23).toInt.toNat → fv P27 314 j = fv Po 314 j) := Or.inr ⟨by omega, by omega, by omega, by omega, by omega, by rw [f30 314 _ (by omega)]; exact congrArg Int32.toInt f17, fun j hj => (f30 314 j (by omega)).trans (f18 314 j (fun e => hj e.2))⟩
      exact mp_iret ⟨⟨_, rfl, u36⟩, hT28, k32, trivial⟩ dX7_append_48 (Or.inl rfl)
    · have c12 : (fv Po 301 23).toInt = 80 := ti_ne_n c12
      refine mp_a (a_sipush (v := -1002) dX7_append_20 rfl) (mpp 23 rfl ?_)
      have u37 : ((-1002 : Int) = -1002 ∧ (t1.toInt < 32 ∨ 126 < t1.toInt ∨ 80 ≤ (fv Po 301 23).toInt) ∧ (fv Po 301 23).toInt = (fv Po 301 23).toInt ∧ ∀ j : Nat, fv Po 314 j = fv Po 314 j) ∨ ((-1002 : Int) = (fv Po 301 23).toInt + 1 ∧ 32 ≤ t1.toInt ∧ t1.toInt ≤ 126 ∧ (fv Po 301 23).toInt < 80 ∧ (fv Po 301 23).toInt = (fv Po 301 23).toInt + 1 ∧ (fv Po 314 (fv Po 301 23).toInt.toNat).toInt = t1.toInt ∧ ∀ j : Nat, ¬ j = (fv Po 301 23).toInt.toNat → fv Po 314 j = fv Po 314 j) := Or.inl ⟨rfl, by omega, by omega, fun _ => rfl⟩
      exact mp_iret ⟨⟨_, rfl, u37⟩, hT, KW.refl, trivial⟩ dX7_append_23 (Or.inl rfl)

set_option maxHeartbeats 4000000 in
theorem c_M_sign {Po : mP}  (hT : Typ Po)   : EvP 1 218 [.ref 301] Po (fun r P' => (∃ x : Int32, r = some (.int x) ∧ ((x.toInt = -1 ∨ (fv Po 301 24).toInt + 1 ≤ (fv Po 301 23).toInt) ∧ x.toInt = (chM Po (fv Po 301 24).toInt).toInt)) ∧ P' = Po) := by
  refine EvP.of qm_218 (Nat.le_of_ble_eq_true rfl) rfl ?_
  show MEvP _ none q_218 0 [(0, .ref 301)] [] _ 0 0 _
  have g1 : (0 : Int) ≤ (fv Po 301 24).toInt ∧ (fv Po 301 24).toInt ≤ 81 := Typ.rng hT rl_301 (by decide) (by decide) rfl
  have g2 : (0 : Int) ≤ (fv Po 301 23).toInt ∧ (fv Po 301 23).toInt ≤ 80 := Typ.rng hT rl_301 (by decide) (by decide) rfl
  refine mp_a (a_aload_n dX7_sign_0 rfl) (mpp 1 rfl ?_)
  refine mt_getI (i := 294) (k := 24) hT dX7_sign_1 rfl rl_301 (by decide) rfl (by decide) rfl (fun g3 g4 => mpp 4 rfl ?_)
  refine mp_a (a_aload_n dX7_sign_4 rfl) (mpp 5 rfl ?_)
  refine mt_getI (i := 291) (k := 23) hT dX7_sign_5 rfl rl_301 (by decide) rfl (by decide) rfl (fun g5 g6 => mpp 8 rfl ?_)
  refine mp_Tb (t := 23) (j_icmp_ge dX7_sign_8) (by decide) (fun c7 => ?_) (fun c7 => mpp 11 rfl ?_)
  · have c7 : (fv Po 301 24).toInt ≥ (fv Po 301 23).toInt := ti_ge c7
    refine mp_a (a_iconst (v := -1) dX7_sign_23 rfl) (mpp 24 rfl ?_)
    have u8 : ((-1 : Int) = -1 ∨ (fv Po 301 24).toInt + 1 ≤ (fv Po 301 23).toInt) ∧ (-1 : Int) = (chM Po (fv Po 301 24).toInt).toInt := ⟨by omega, by rw [show chM Po (fv Po 301 24).toInt = -1 from ch_out (by omega)]; rfl⟩
    exact mp_iret ⟨⟨_, rfl, u8⟩, rfl⟩ dX7_sign_24 (Or.inl rfl)
  · have c7 : (fv Po 301 24).toInt < (fv Po 301 23).toInt := ti_ge_n c7
    refine mp_a (a_aload_n dX7_sign_11 rfl) (mpp 12 rfl ?_)
    refine mt_getU (i := 47) (k := 22) (A := 314) hT dX7_sign_12 rfl rl_301 (by decide) rfl (by decide) rfl un_30 (mpp 15 rfl ?_)
    refine mp_a (a_aload_n dX7_sign_15 rfl) (mpp 16 rfl ?_)
    refine mt_getI (i := 294) (k := 24) hT dX7_sign_16 rfl rl_301 (by decide) rfl (by decide) rfl (fun g9 g10 => mpp 19 rfl ?_)
    refine mt_ial (n := 80) hT dX7_sign_19 rl_314 (by decide) rfl rfl (by omega) (by omega) rfl (fun g11 g12 => mpp 20 rfl ?_)
    refine mp_a (a_goto (t := 24) dX7_sign_20 (by decide)) ?_
    have u13 : ((fv Po 314 (fv Po 301 24).toInt.toNat).toInt = -1 ∨ (fv Po 301 24).toInt + 1 ≤ (fv Po 301 23).toInt) ∧ (fv Po 314 (fv Po 301 24).toInt.toNat).toInt = (chM Po (fv Po 301 24).toInt).toInt := ⟨by omega, by rw [show chM Po (fv Po 301 24).toInt = fv Po 314 (fv Po 301 24).toInt.toNat from ch_in ⟨by omega, by omega⟩]⟩
    exact mp_iret ⟨⟨_, rfl, u13⟩, rfl⟩ dX7_sign_24 (Or.inl rfl)

