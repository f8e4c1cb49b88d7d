/-! methods on typed pools, 35 (written by a program) -/
set_option maxHeartbeats 4000000 in
theorem c_M_hasSharp_l9 {Po : mP} {t1 : Int32} (hT : Typ Po)  (hp0 : 0 ≤ t1.toInt) (hp1 : t1.toInt ≤ 7)  : ∀ (n : Nat) (v2 : Int32) (v3 : Int32), (v2.toInt ≤ 8) → (v2.toInt = (fv Po 302 (4 + 19 * t1.toInt.toNat)).toInt) → (0 ≤ v3.toInt) → (∀ j : Nat, (j : Int) < v3.toInt → ¬ SHp (fv Po 302 (4 + 19 * t1.toInt.toNat)).toInt.toNat (fun j : Nat => fv Po 302 (6 + 19 * t1.toInt.toNat + j)) (fun j : Nat => fv Po 302 (14 + 19 * t1.toInt.toNat + j)) j) → (0 ≤ v3.toInt) → (2147483647 - v3.toInt).toNat = n → MEvP 3 none q_162 9 [(0, .ref 301), (1, .int t1), (2, .int v2), (3, .int v3)] [] Po 0 0 (fun r P' => (∃ x : Int32, r = some (.int x) ∧ (0 ≤ x.toInt ∧ x.toInt ≤ 1 ∧ ((x.toInt = 1 ∧ SHf (fv Po 302 (4 + 19 * t1.toInt.toNat)).toInt.toNat (fun j : Nat => fv Po 302 (6 + 19 * t1.toInt.toNat + j)) (fun j : Nat => fv Po 302 (14 + 19 * t1.toInt.toNat + j))) ∨ (x.toInt = 0 ∧ ¬ SHf (fv Po 302 (4 + 19 * t1.toInt.toNat)).toInt.toNat (fun j : Nat => fv Po 302 (6 + 19 * t1.toInt.toNat + j)) (fun j : Nat => fv Po 302 (14 + 19 * t1.toInt.toNat + j)))))) ∧ P' = Po) := by
  intro n
  induction n using Nat.strongRecOn with | _ n ih => ?_
  intro v2 v3 i_0 i_1 i_2 i_3 i_4 hm
  have w_t1 := ti_full t1
  have w_v2 := ti_full v2
  have w_v3 := ti_full v3
  try have g1 : (0 : Int) ≤ (fv Po 302 (4 + 19 * t1.toInt.toNat)).toInt ∧ (fv Po 302 (4 + 19 * t1.toInt.toNat)).toInt ≤ 8 := s4_rng hT (by omega)
  refine mp_a (a_iload_n dX7_hasSharp_9 rfl) (mpp 10 rfl ?_)
  refine mp_a (a_iload_n dX7_hasSharp_10 rfl) (mpp 11 rfl ?_)
  refine mp_Tb (t := 89) (j_icmp_ge dX7_hasSharp_11) (by decide) (fun c2 => ?_) (fun c2 => mpp 14 rfl ?_)
  · have c2 : v3.toInt ≥ v2.toInt := ti_ge c2
    refine mp_a (a_iconst (v := 0) dX7_hasSharp_89 rfl) (mpp 90 rfl ?_)
    have u3 : 0 ≤ (0 : Int) ∧ (0 : Int) ≤ 1 ∧ (((0 : Int) = 1 ∧ SHf (fv Po 302 (4 + 19 * t1.toInt.toNat)).toInt.toNat (fun j : Nat => fv Po 302 (6 + 19 * t1.toInt.toNat + j)) (fun j : Nat => fv Po 302 (14 + 19 * t1.toInt.toNat + j))) ∨ ((0 : Int) = 0 ∧ ¬ SHf (fv Po 302 (4 + 19 * t1.toInt.toNat)).toInt.toNat (fun j : Nat => fv Po 302 (6 + 19 * t1.toInt.toNat + j)) (fun j : Nat => fv Po 302 (14 + 19 * t1.toInt.toNat + j)))) := ⟨by omega, by omega, Or.inr ⟨rfl, fun ⟨i, h1, h2⟩ => i_3 i (by omega) h2⟩⟩
    exact mp_iret ⟨⟨_, rfl, u3⟩, rfl⟩ dX7_hasSharp_90 (Or.inr ⟨rfl, by decide⟩)
  · have c2 : v3.toInt < v2.toInt := ti_ge_n c2
    refine mp_a (a_aload_n dX7_hasSharp_14 rfl) (mpp 15 rfl ?_)
    refine mp_a (a_iload_n dX7_hasSharp_15 rfl) (mpp 16 rfl ?_)
    refine mp_a (a_iload_n dX7_hasSharp_16 rfl) (mpp 17 rfl ?_)
    refine mp_a (a_iload_n dX7_hasSharp_17 rfl) (mpp 18 rfl ?_)
    obtain ⟨z4, h5⟩ := ti_ex (v3 + v2 : Int32)
    have wz4 := ti_full z4
    refine mp_t (s_iadd (v := z4) dX7_hasSharp_18 h5) (mpp 19 rfl ?_)
    try have e6 : z4.toInt = v3.toInt + v2.toInt := ti_addz h5 rfl rfl (by omega) (by omega)
    refine mp_a (a_iconst (v := 1) dX7_hasSharp_19 rfl) (mpp 20 rfl ?_)
    obtain ⟨z7, h8⟩ := ti_ex (z4 - 1 : Int32)
    have wz7 := ti_full z7
    refine mp_t (s_isub (v := z7) dX7_hasSharp_20 h8) (mpp 21 rfl ?_)
    try have e9 : z7.toInt = z4.toInt - 1 := ti_subz h8 rfl rfl (by omega) (by omega)
    refine mp_a (a_iload_n dX7_hasSharp_21 rfl) (mpp 22 rfl ?_)
    obtain ⟨z10, h11⟩ := ti_ex (z7 - z7 / v2 * v2 : Int32)
    have wz10 := ti_full z10
    have n12 : ¬ v2 = 0 := ti_n0 (by omega)
    try have e14 : z10.toInt = z7.toInt % v2.toInt := ti_remx h11 (show (0 : Int) ≤ z7.toInt by omega) (show (0 : Int) < v2.toInt by omega)
    try have e13 : 0 ≤ z10.toInt ∧ z10.toInt < v2.toInt := ti_rem h11 (show (0 : Int) ≤ z7.toInt by omega) (show (0 : Int) < v2.toInt by omega)
    refine mp_t (s_irem (v := z10) dX7_hasSharp_22 n12 h11) (mpp 23 rfl ?_)
    have p15 : 0 ≤ t1.toInt := by omega
    have p16 : t1.toInt ≤ 7 := by omega
    have p17 : 0 ≤ z10.toInt := by omega
    have p18 : z10.toInt ≤ 7 := by omega
    refine mt_callv (i := 142) (q' := q_152) (As := [.int t1, .int z10]) (rest := []) hT dX7_hasSharp_23 rfl qm_152 (by decide) rfl rl_301 (by decide) rfl (Nat.le_of_ble_eq_true rfl) rfl ⟨rfl, rfl⟩ ⟨Nat.le_of_ble_eq_true rfl, Nat.le_of_ble_eq_true rfl⟩ (EvP.mono (by decide) (c_M_sizeOf hT p15 p16 p17 p18 )) (fun r19 P20 g21 => mpp 26 rfl ?_)
    obtain ⟨⟨x22, rfl, g23⟩, e24⟩ := g21
    have e24 := e24.symm
    subst e24
    have wx22 := ti_full x22
    replace g23 : x22.toInt = (fv Po 302 (6 + 19 * t1.toInt.toNat + z10.toInt.toNat)).toInt := g23
    show MEvP _ none q_162 26 [(0, .ref 301), (1, .int t1), (2, .int v2), (3, .int v3)] [.int x22] _ _ _ _
    refine mp_a (a_istore (L' := [(4, .int x22), (0, .ref 301), (1, .int t1), (2, .int v2), (3, .int v3)]) dX7_hasSharp_26 (by decide) rfl) (mpp 28 rfl ?_)
    refine mp_a (a_aload_n dX7_hasSharp_28 rfl) (mpp 29 rfl ?_)
    refine mp_a (a_iload_n dX7_hasSharp_29 rfl) (mpp 30 rfl ?_)
    refine mp_a (a_iload_n dX7_hasSharp_30 rfl) (mpp 31 rfl ?_)
    refine mp_a (a_iconst (v := 1) dX7_hasSharp_31 rfl) (mpp 32 rfl ?_)
    obtain ⟨z25, h26⟩ := ti_ex (v3 + 1 : Int32)
    have wz25 := ti_full z25
    refine mp_t (s_iadd (v := z25) dX7_hasSharp_32 h26) (mpp 33 rfl ?_)
    try have e27 : z25.toInt = v3.toInt + 1 := ti_addz h26 rfl rfl (by omega) (by omega)
    refine mp_a (a_iload_n dX7_hasSharp_33 rfl) (mpp 34 rfl ?_)
    obtain ⟨z28, h29⟩ := ti_ex (z25 - z25 / v2 * v2 : Int32)
    have wz28 := ti_full z28
    have n30 : ¬ v2 = 0 := ti_n0 (by omega)
    try have e32 : z28.toInt = z25.toInt % v2.toInt := ti_remx h29 (show (0 : Int) ≤ z25.toInt by omega) (show (0 : Int) < v2.toInt by omega)
    try have e31 : 0 ≤ z28.toInt ∧ z28.toInt < v2.toInt := ti_rem h29 (show (0 : Int) ≤ z25.toInt by omega) (show (0 : Int) < v2.toInt by omega)
    refine mp_t (s_irem (v := z28) dX7_hasSharp_34 n30 h29) (mpp 35 rfl ?_)
    have p33 : 0 ≤ t1.toInt := by omega
    have p34 : t1.toInt ≤ 7 := by omega
    have p35 : 0 ≤ z28.toInt := by omega
    have p36 : z28.toInt ≤ 7 := by omega
    refine mt_callv (i := 142) (q' := q_152) (As := [.int t1, .int z28]) (rest := []) hT dX7_hasSharp_35 rfl qm_152 (by decide) rfl rl_301 (by decide) rfl (Nat.le_of_ble_eq_true rfl) rfl ⟨rfl, rfl⟩ ⟨Nat.le_of_ble_eq_true rfl, Nat.le_of_ble_eq_true rfl⟩ (EvP.mono (by decide) (c_M_sizeOf hT p33 p34 p35 p36 )) (fun r37 P38 g39 => mpp 38 rfl ?_)
    obtain ⟨⟨x40, rfl, g41⟩, e42⟩ := g39
    have e42 := e42.symm
    subst e42
    have wx40 := ti_full x40
    replace g41 : x40.toInt = (fv Po 302 (6 + 19 * t1.toInt.toNat + z28.toInt.toNat)).toInt := g41
    show MEvP _ none q_162 38 [(4, .int x22), (0, .ref 301), (1, .int t1), (2, .int v2), (3, .int v3)] [.int x40] _ _ _ _
    refine mp_a (a_istore (L' := [(5, .int x40), (4, .int x22), (0, .ref 301), (1, .int t1), (2, .int v2), (3, .int v3)]) dX7_hasSharp_38 (by decide) rfl) (mpp 40 rfl ?_)
    refine mp_a (a_aload_n dX7_hasSharp_40 rfl) (mpp 41 rfl ?_)
    refine mp_a (a_iload_n dX7_hasSharp_41 rfl) (mpp 42 rfl ?_)
    refine mp_a (a_iload_n dX7_hasSharp_42 rfl) (mpp 43 rfl ?_)
    have p43 : 0 ≤ t1.toInt := by omega
    have p44 : t1.toInt ≤ 7 := by omega
    have p45 : 0 ≤ v3.toInt := by omega
    have p46 : v3.toInt ≤ 7 := by omega
    refine mt_callv (i := 142) (q' := q_152) (As := [.int t1, .int v3]) (rest := []) hT dX7_hasSharp_43 rfl qm_152 (by decide) rfl rl_301 (by decide) rfl (Nat.le_of_ble_eq_true rfl) rfl ⟨rfl, rfl⟩ ⟨Nat.le_of_ble_eq_true rfl, Nat.le_of_ble_eq_true rfl⟩ (EvP.mono (by decide) (c_M_sizeOf hT p43 p44 p45 p46 )) (fun r47 P48 g49 => mpp 46 rfl ?_)
    obtain ⟨⟨x50, rfl, g51⟩, e52⟩ := g49
    have e52 := e52.symm
    subst e52
    have wx50 := ti_full x50
    replace g51 : x50.toInt = (fv Po 302 (6 + 19 * t1.toInt.toNat + v3.toInt.toNat)).toInt := g51
    show MEvP _ none q_162 46 [(5, .int x40), (4, .int x22), (0, .ref 301), (1, .int t1), (2, .int v2), (3, .int v3)] [.int x50] _ _ _ _
    refine mp_a (a_iload dX7_hasSharp_46 rfl) (mpp 48 rfl ?_)
    refine mp_Tb (t := 83) (j_icmp_ge dX7_hasSharp_48) (by decide) (fun c53 => ?_) (fun c53 => mpp 51 rfl ?_)
    · have c53 : x50.toInt ≥ x22.toInt := ti_ge c53
      obtain ⟨z54, h55⟩ := ti_ex (v3 + 1 : Int32)
      have wz54 := ti_full z54
      refine mp_a (a_iinc (v := z54) (L' := [(3, .int z54), (5, .int x40), (4, .int x22), (0, .ref 301), (1, .int t1), (2, .int v2)]) dX7_hasSharp_83 (by decide) rfl h55 rfl) (mpp 86 rfl ?_)
      try have e56 : z54.toInt = v3.toInt + 1 := ti_addz h55 rfl rfl (by omega) (by omega)
      refine mp_a (a_goto (t := 9) dX7_hasSharp_86 (by decide)) ?_
      refine MEvP.less (L := [(0, .ref 301), (1, .int t1), (2, .int v2), (3, .int z54)]) rfl rfl ⟨rfl, rfl, rfl, rfl, trivial⟩ ?_
      have i57 : v2.toInt ≤ 8 := by omega
      have i58 : v2.toInt = (fv Po 302 (4 + 19 * t1.toInt.toNat)).toInt := by omega
      have i59 : 0 ≤ z54.toInt := by omega
      have q62_ : z10.toInt.toNat = prI v2.toInt.toNat v3.toInt.toNat := pr_mod (by omega) (by omega) (by omega) (ti_remx h11 (by omega) (by omega))
      rw [show v2.toInt.toNat = (fv Po 302 (4 + 19 * t1.toInt.toNat)).toInt.toNat from by omega] at q62_
      have q62_r : x22.toInt = (fv Po 302 (6 + 19 * t1.toInt.toNat + prI (fv Po 302 (4 + 19 * t1.toInt.toNat)).toInt.toNat v3.toInt.toNat)).toInt := by rw [← q62_]; omega
      have q63_ : z28.toInt.toNat = nxI v2.toInt.toNat v3.toInt.toNat := nx_mod (by omega) (by omega) (by omega) (ti_remx h29 (by omega) (by omega))
      rw [show v2.toInt.toNat = (fv Po 302 (4 + 19 * t1.toInt.toNat)).toInt.toNat from by omega] at q63_
      have q63_r : x40.toInt = (fv Po 302 (6 + 19 * t1.toInt.toNat + nxI (fv Po 302 (4 + 19 * t1.toInt.toNat)).toInt.toNat v3.toInt.toNat)).toInt := by rw [← q63_]; omega
      have w61_ : ¬ ((fv Po 302 (6 + 19 * t1.toInt.toNat + v3.toInt.toNat)).toInt < (fv Po 302 (6 + 19 * t1.toInt.toNat + prI (fv Po 302 (4 + 19 * t1.toInt.toNat)).toInt.toNat v3.toInt.toNat)).toInt ∧ (fv Po 302 (6 + 19 * t1.toInt.toNat + v3.toInt.toNat)).toInt < (fv Po 302 (6 + 19 * t1.toInt.toNat + nxI (fv Po 302 (4 + 19 * t1.toInt.toNat)).toInt.toNat v3.toInt.toNat)).toInt ∧ (fv Po 302 (14 + 19 * t1.toInt.toNat + v3.toInt.toNat)).toInt = (fv Po 302 (14 + 19 * t1.toInt.toNat + nxI (fv Po 302 (4 + 19 * t1.toInt.toNat)).toInt.toNat v3.toInt.toNat)).toInt) := by omega
      have i60 : ∀ j : Nat, (j : Int) < z54.toInt → ¬ SHp (fv Po 302 (4 + 19 * t1.toInt.toNat)).toInt.toNat (fun j : Nat => fv Po 302 (6 + 19 * t1.toInt.toNat + j)) (fun j : Nat => fv Po 302 (14 + 19 * t1.toInt.toNat + j)) j := fun j hj => if e : j = v3.toInt.toNat then fun h => w61_ (e ▸ h) else i_3 j (by omega)
      have i64 : 0 ≤ z54.toInt := by omega
      exact ih _ (by omega) _ _ i57 i58 i59 i60 i64 rfl
    · have c53 : x50.toInt < x22.toInt := ti_ge_n c53
      refine mp_a (a_aload_n dX7_hasSharp_51 rfl) (mpp 52 rfl ?_)
      refine mp_a (a_iload_n dX7_hasSharp_52 rfl) (mpp 53 rfl ?_)
      refine mp_a (a_iload_n dX7_hasSharp_53 rfl) (mpp 54 rfl ?_)
      have p65 : 0 ≤ t1.toInt := by omega
      have p66 : t1.toInt ≤ 7 := by omega
      have p67 : 0 ≤ v3.toInt := by omega
      have p68 : v3.toInt ≤ 7 := by omega
      refine mt_callv (i := 142) (q' := q_152) (As := [.int t1, .int v3]) (rest := []) hT dX7_hasSharp_54 rfl qm_152 (by decide) rfl rl_301 (by decide) rfl (Nat.le_of_ble_eq_true rfl) rfl ⟨rfl, rfl⟩ ⟨Nat.le_of_ble_eq_true rfl, Nat.le_of_ble_eq_true rfl⟩ (EvP.mono (by decide) (c_M_sizeOf hT p65 p66 p67 p68 )) (fun r69 P70 g71 => mpp 57 rfl ?_)
      obtain ⟨⟨x72, rfl, g73⟩, e74⟩ := g71
      have e74 := e74.symm
      subst e74
      have wx72 := ti_full x72
      replace g73 : x72.toInt = (fv Po 302 (6 + 19 * t1.toInt.toNat + v3.toInt.toNat)).toInt := g73
      show MEvP _ none q_162 57 [(5, .int x40), (4, .int x22), (0, .ref 301), (1, .int t1), (2, .int v2), (3, .int v3)] [.int x72] _ _ _ _
      refine mp_a (a_iload dX7_hasSharp_57 rfl) (mpp 59 rfl ?_)
      refine mp_Tb (t := 83) (j_icmp_ge dX7_hasSharp_59) (by decide) (fun c75 => ?_) (fun c75 => mpp 62 rfl ?_)
      · have c75 : x72.toInt ≥ x40.toInt := ti_ge c75
        obtain ⟨z76, h77⟩ := ti_ex (v3 + 1 : Int32)
        have wz76 := ti_full z76
        refine mp_a (a_iinc (v := z76) (L' := [(3, .int z76), (5, .int x40), (4, .int x22), (0, .ref 301), (1, .int t1), (2, .int v2)]) dX7_hasSharp_83 (by decide) rfl h77 rfl) (mpp 86 rfl ?_)
        try have e78 : z76.toInt = v3.toInt + 1 := ti_addz h77 rfl rfl (by omega) (by omega)
        refine mp_a (a_goto (t := 9) dX7_hasSharp_86 (by decide)) ?_
        refine MEvP.less (L := [(0, .ref 301), (1, .int t1), (2, .int v2), (3, .int z76)]) rfl rfl ⟨rfl, rfl, rfl, rfl, trivial⟩ ?_
        have i79 : v2.toInt ≤ 8 := by omega
        have i80 : v2.toInt = (fv Po 302 (4 + 19 * t1.toInt.toNat)).toInt := by omega
        have i81 : 0 ≤ z76.toInt := by omega
        have q84_ : z10.toInt.toNat = prI v2.toInt.toNat v3.toInt.toNat := pr_mod (by omega) (by omega) (by omega) (ti_remx h11 (by omega) (by omega))
        rw [show v2.toInt.toNat = (fv Po 302 (4 + 19 * t1.toInt.toNat)).toInt.toNat from by omega] at q84_
        have q84_r : x22.toInt = (fv Po 302 (6 + 19 * t1.toInt.toNat + prI (fv Po 302 (4 + 19 * t1.toInt.toNat)).toInt.toNat v3.toInt.toNat)).toInt := by rw [← q84_]; omega
        have q85_ : z28.toInt.toNat = nxI v2.toInt.toNat v3.toInt.toNat := nx_mod (by omega) (by omega) (by omega) (ti_remx h29 (by omega) (by omega))
        rw [show v2.toInt.toNat = (fv Po 302 (4 + 19 * t1.toInt.toNat)).toInt.toNat from by omega] at q85_
        have q85_r : x40.toInt = (fv Po 302 (6 + 19 * t1.toInt.toNat + nxI (fv Po 302 (4 + 19 * t1.toInt.toNat)).toInt.toNat v3.toInt.toNat)).toInt := by rw [← q85_]; omega
        have w83_ : ¬ ((fv Po 302 (6 + 19 * t1.toInt.toNat + v3.toInt.toNat)).toInt < (fv Po 302 (6 + 19 * t1.toInt.toNat + prI (fv Po 302 (4 + 19 * t1.toInt.toNat)).toInt.toNat v3.toInt.toNat)).toInt ∧ (fv Po 302 (6 + 19 * t1.toInt.toNat + v3.toInt.toNat)).toInt < (fv Po 302 (6 + 19 * t1.toInt.toNat + nxI (fv Po 302 (4 + 19 * t1.toInt.toNat)).toInt.toNat v3.toInt.toNat)).toInt ∧ (fv Po 302 (14 + 19 * t1.toInt.toNat + v3.toInt.toNat)).toInt = (fv Po 302 (14 + 19 * t1.toInt.toNat + nxI (fv Po 302 (4 + 19 * t1.toInt.toNat)).toInt.toNat v3.toInt.toNat)).toInt) := by omega
        have i82 : ∀ j : Nat, (j : Int) < z76.toInt → ¬ SHp (fv Po 302 (4 + 19 * t1.toInt.toNat)).toInt.toNat (fun j : Nat => fv Po 302 (6 + 19 * t1.toInt.toNat + j)) (fun j : Nat => fv Po 302 (14 + 19 * t1.toInt.toNat + j)) j := fun j hj => if e : j = v3.toInt.toNat then fun h => w83_ (e ▸ h) else i_3 j (by omega)
        have i86 : 0 ≤ z76.toInt := by omega
        exact ih _ (by omega) _ _ i79 i80 i81 i82 i86 rfl
      · have c75 : x72.toInt < x40.toInt := ti_ge_n c75
        refine mp_a (a_aload_n dX7_hasSharp_62 rfl) (mpp 63 rfl ?_)
        refine mp_a (a_iload_n dX7_hasSharp_63 rfl) (mpp 64 rfl ?_)
        refine mp_a (a_iload_n dX7_hasSharp_64 rfl) (mpp 65 rfl ?_)
        have p87 : 0 ≤ t1.toInt := by omega
        have p88 : t1.toInt ≤ 7 := by omega
        have p89 : 0 ≤ v3.toInt := by omega
        have p90 : v3.toInt ≤ 7 := by omega
        refine mt_callv (i := 92) (q' := q_146) (As := [.int t1, .int v3]) (rest := []) hT dX7_hasSharp_65 rfl qm_146 (by decide) rfl rl_301 (by decide) rfl (Nat.le_of_ble_eq_true rfl) rfl ⟨rfl, rfl⟩ ⟨Nat.le_of_ble_eq_true rfl, Nat.le_of_ble_eq_true rfl⟩ (EvP.mono (by decide) (c_M_creaseOf hT p87 p88 p89 p90 )) (fun r91 P92 g93 => mpp 68 rfl ?_)
        obtain ⟨⟨x94, rfl, g95⟩, e96⟩ := g93
        have e96 := e96.symm
        subst e96
        have wx94 := ti_full x94
        replace g95 : x94.toInt = (fv Po 302 (14 + 19 * t1.toInt.toNat + v3.toInt.toNat)).toInt := g95
        show MEvP _ none q_162 68 [(5, .int x40), (4, .int x22), (0, .ref 301), (1, .int t1), (2, .int v2), (3, .int v3)] [.int x94] _ _ _ _
        refine mp_a (a_aload_n dX7_hasSharp_68 rfl) (mpp 69 rfl ?_)
        refine mp_a (a_iload_n dX7_hasSharp_69 rfl) (mpp 70 rfl ?_)
        refine mp_a (a_iload_n dX7_hasSharp_70 rfl) (mpp 71 rfl ?_)
        refine mp_a (a_iconst (v := 1) dX7_hasSharp_71 rfl) (mpp 72 rfl ?_)
        obtain ⟨z97, h98⟩ := ti_ex (v3 + 1 : Int32)
        have wz97 := ti_full z97
        refine mp_t (s_iadd (v := z97) dX7_hasSharp_72 h98) (mpp 73 rfl ?_)
        try have e99 : z97.toInt = v3.toInt + 1 := ti_addz h98 rfl rfl (by omega) (by omega)
        refine mp_a (a_iload_n dX7_hasSharp_73 rfl) (mpp 74 rfl ?_)
        obtain ⟨z100, h101⟩ := ti_ex (z97 - z97 / v2 * v2 : Int32)
        have wz100 := ti_full z100
        have n102 : ¬ v2 = 0 := ti_n0 (by omega)
        try have e104 : z100.toInt = z97.toInt % v2.toInt := ti_remx h101 (show (0 : Int) ≤ z97.toInt by omega) (show (0 : Int) < v2.toInt by omega)
        try have e103 : 0 ≤ z100.toInt ∧ z100.toInt < v2.toInt := ti_rem h101 (show (0 : Int) ≤ z97.toInt by omega) (show (0 : Int) < v2.toInt by omega)
        refine mp_t (s_irem (v := z100) dX7_hasSharp_74 n102 h101) (mpp 75 rfl ?_)
        have p105 : 0 ≤ t1.toInt := by omega
        have p106 : t1.toInt ≤ 7 := by omega
        have p107 : 0 ≤ z100.toInt := by omega
        have p108 : z100.toInt ≤ 7 := by omega
        refine mt_callv (i := 92) (q' := q_146) (As := [.int t1, .int z100]) (rest := [.int x94]) hT dX7_hasSharp_75 rfl qm_146 (by decide) rfl rl_301 (by decide) rfl (Nat.le_of_ble_eq_true rfl) rfl ⟨rfl, rfl⟩ ⟨Nat.le_of_ble_eq_true rfl, Nat.le_of_ble_eq_true rfl⟩ (EvP.mono (by decide) (c_M_creaseOf hT p105 p106 p107 p108 )) (fun r109 P110 g111 => mpp 78 rfl ?_)
        obtain ⟨⟨x112, rfl, g113⟩, e114⟩ := g111
        have e114 := e114.symm
        subst e114
        have wx112 := ti_full x112
        replace g113 : x112.toInt = (fv Po 302 (14 + 19 * t1.toInt.toNat + z100.toInt.toNat)).toInt := g113
        show MEvP _ none q_162 78 [(5, .int x40), (4, .int x22), (0, .ref 301), (1, .int t1), (2, .int v2), (3, .int v3)] [.int x112, .int x94] _ _ _ _
        refine mp_Tb (t := 83) (j_icmp_ne dX7_hasSharp_78) (by decide) (fun c115 => ?_) (fun c115 => mpp 81 rfl ?_)
        · have c115 : x94.toInt ≠ x112.toInt := ti_ne c115
          obtain ⟨z116, h117⟩ := ti_ex (v3 + 1 : Int32)
          have wz116 := ti_full z116
          refine mp_a (a_iinc (v := z116) (L' := [(3, .int z116), (5, .int x40), (4, .int x22), (0, .ref 301), (1, .int t1), (2, .int v2)]) dX7_hasSharp_83 (by decide) rfl h117 rfl) (mpp 86 rfl ?_)
          try have e118 : z116.toInt = v3.toInt + 1 := ti_addz h117 rfl rfl (by omega) (by omega)
          refine mp_a (a_goto (t := 9) dX7_hasSharp_86 (by decide)) ?_
          refine MEvP.less (L := [(0, .ref 301), (1, .int t1), (2, .int v2), (3, .int z116)]) rfl rfl ⟨rfl, rfl, rfl, rfl, trivial⟩ ?_
          have i119 : v2.toInt ≤ 8 := by omega
          have i120 : v2.toInt = (fv Po 302 (4 + 19 * t1.toInt.toNat)).toInt := by omega
          have i121 : 0 ≤ z116.toInt := by omega
          have q124_ : z10.toInt.toNat = prI v2.toInt.toNat v3.toInt.toNat := pr_mod (by omega) (by omega) (by omega) (ti_remx h11 (by omega) (by omega))
          rw [show v2.toInt.toNat = (fv Po 302 (4 + 19 * t1.toInt.toNat)).toInt.toNat from by omega] at q124_
          have q124_r : x22.toInt = (fv Po 302 (6 + 19 * t1.toInt.toNat + prI (fv Po 302 (4 + 19 * t1.toInt.toNat)).toInt.toNat v3.toInt.toNat)).toInt := by rw [← q124_]; omega
          have q125_ : z28.toInt.toNat = nxI v2.toInt.toNat v3.toInt.toNat := nx_mod (by omega) (by omega) (by omega) (ti_remx h29 (by omega) (by omega))
          rw [show v2.toInt.toNat = (fv Po 302 (4 + 19 * t1.toInt.toNat)).toInt.toNat from by omega] at q125_
          have q125_r : x40.toInt = (fv Po 302 (6 + 19 * t1.toInt.toNat + nxI (fv Po 302 (4 + 19 * t1.toInt.toNat)).toInt.toNat v3.toInt.toNat)).toInt := by rw [← q125_]; omega
          have q126_ : z100.toInt.toNat = nxI v2.toInt.toNat v3.toInt.toNat := nx_mod (by omega) (by omega) (by omega) (ti_remx h101 (by omega) (by omega))
          rw [show v2.toInt.toNat = (fv Po 302 (4 + 19 * t1.toInt.toNat)).toInt.toNat from by omega] at q126_
          have q126_r : x112.toInt = (fv Po 302 (14 + 19 * t1.toInt.toNat + nxI (fv Po 302 (4 + 19 * t1.toInt.toNat)).toInt.toNat v3.toInt.toNat)).toInt := by rw [← q126_]; omega
          have w123_ : ¬ ((fv Po 302 (6 + 19 * t1.toInt.toNat + v3.toInt.toNat)).toInt < (fv Po 302 (6 + 19 * t1.toInt.toNat + prI (fv Po 302 (4 + 19 * t1.toInt.toNat)).toInt.toNat v3.toInt.toNat)).toInt ∧ (fv Po 302 (6 + 19 * t1.toInt.toNat + v3.toInt.toNat)).toInt < (fv Po 302 (6 + 19 * t1.toInt.toNat + nxI (fv Po 302 (4 + 19 * t1.toInt.toNat)).toInt.toNat v3.toInt.toNat)).toInt ∧ (fv Po 302 (14 + 19 * t1.toInt.toNat + v3.toInt.toNat)).toInt = (fv Po 302 (14 + 19 * t1.toInt.toNat + nxI (fv Po 302 (4 + 19 * t1.toInt.toNat)).toInt.toNat v3.toInt.toNat)).toInt) := by omega
          have i122 : ∀ j : Nat, (j : Int) < z116.toInt → ¬ SHp (fv Po 302 (4 + 19 * t1.toInt.toNat)).toInt.toNat (fun j : Nat => fv Po 302 (6 + 19 * t1.toInt.toNat + j)) (fun j : Nat => fv Po 302 (14 + 19 * t1.toInt.toNat + j)) j := fun j hj => if e : j = v3.toInt.toNat then fun h => w123_ (e ▸ h) else i_3 j (by omega)
          have i127 : 0 ≤ z116.toInt := by omega
          exact ih _ (by omega) _ _ i119 i120 i121 i122 i127 rfl
        · have c115 : x94.toInt = x112.toInt := ti_ne_n c115
          refine mp_a (a_iconst (v := 1) dX7_hasSharp_81 rfl) (mpp 82 rfl ?_)
          have q129_ : z10.toInt.toNat = prI v2.toInt.toNat v3.toInt.toNat := pr_mod (by omega) (by omega) (by omega) (ti_remx h11 (by omega) (by omega))
          rw [show v2.toInt.toNat = (fv Po 302 (4 + 19 * t1.toInt.toNat)).toInt.toNat from by omega] at q129_
          have q129_r : x22.toInt = (fv Po 302 (6 + 19 * t1.toInt.toNat + prI (fv Po 302 (4 + 19 * t1.toInt.toNat)).toInt.toNat v3.toInt.toNat)).toInt := by rw [← q129_]; omega
          have q130_ : z28.toInt.toNat = nxI v2.toInt.toNat v3.toInt.toNat := nx_mod (by omega) (by omega) (by omega) (ti_remx h29 (by omega) (by omega))
          rw [show v2.toInt.toNat = (fv Po 302 (4 + 19 * t1.toInt.toNat)).toInt.toNat from by omega] at q130_
          have q130_r : x40.toInt = (fv Po 302 (6 + 19 * t1.toInt.toNat + nxI (fv Po 302 (4 + 19 * t1.toInt.toNat)).toInt.toNat v3.toInt.toNat)).toInt := by rw [← q130_]; omega
          have q131_ : z100.toInt.toNat = nxI v2.toInt.toNat v3.toInt.toNat := nx_mod (by omega) (by omega) (by omega) (ti_remx h101 (by omega) (by omega))
          rw [show v2.toInt.toNat = (fv Po 302 (4 + 19 * t1.toInt.toNat)).toInt.toNat from by omega] at q131_
          have q131_r : x112.toInt = (fv Po 302 (14 + 19 * t1.toInt.toNat + nxI (fv Po 302 (4 + 19 * t1.toInt.toNat)).toInt.toNat v3.toInt.toNat)).toInt := by rw [← q131_]; omega
          have u128 : 0 ≤ (1 : Int) ∧ (1 : Int) ≤ 1 ∧ (((1 : Int) = 1 ∧ SHf (fv Po 302 (4 + 19 * t1.toInt.toNat)).toInt.toNat (fun j : Nat => fv Po 302 (6 + 19 * t1.toInt.toNat + j)) (fun j : Nat => fv Po 302 (14 + 19 * t1.toInt.toNat + j))) ∨ ((1 : Int) = 0 ∧ ¬ SHf (fv Po 302 (4 + 19 * t1.toInt.toNat)).toInt.toNat (fun j : Nat => fv Po 302 (6 + 19 * t1.toInt.toNat + j)) (fun j : Nat => fv Po 302 (14 + 19 * t1.toInt.toNat + j)))) := ⟨by omega, by omega, Or.inl ⟨rfl, v3.toInt.toNat, by omega, show ((fv Po 302 (6 + 19 * t1.toInt.toNat + v3.toInt.toNat)).toInt < (fv Po 302 (6 + 19 * t1.toInt.toNat + prI (fv Po 302 (4 + 19 * t1.toInt.toNat)).toInt.toNat v3.toInt.toNat)).toInt ∧ (fv Po 302 (6 + 19 * t1.toInt.toNat + v3.toInt.toNat)).toInt < (fv Po 302 (6 + 19 * t1.toInt.toNat + nxI (fv Po 302 (4 + 19 * t1.toInt.toNat)).toInt.toNat v3.toInt.toNat)).toInt ∧ (fv Po 302 (14 + 19 * t1.toInt.toNat + v3.toInt.toNat)).toInt = (fv Po 302 (14 + 19 * t1.toInt.toNat + nxI (fv Po 302 (4 + 19 * t1.toInt.toNat)).toInt.toNat v3.toInt.toNat)).toInt) from by omega⟩⟩
          exact mp_iret ⟨⟨_, rfl, u128⟩, rfl⟩ dX7_hasSharp_82 (Or.inr ⟨rfl, by decide⟩)

set_option maxHeartbeats 4000000 in
theorem c_M_hasSharp {Po : mP} {t1 : Int32} (hT : Typ Po)  (hp0 : 0 ≤ t1.toInt) (hp1 : t1.toInt ≤ 7)  : EvP 4 162 [.ref 301, .int t1] Po (fun r P' => (∃ x : Int32, r = some (.int x) ∧ (0 ≤ x.toInt ∧ x.toInt ≤ 1 ∧ ((x.toInt = 1 ∧ SHf (fv Po 302 (4 + 19 * t1.toInt.toNat)).toInt.toNat (fun j : Nat => fv Po 302 (6 + 19 * t1.toInt.toNat + j)) (fun j : Nat => fv Po 302 (14 + 19 * t1.toInt.toNat + j))) ∨ (x.toInt = 0 ∧ ¬ SHf (fv Po 302 (4 + 19 * t1.toInt.toNat)).toInt.toNat (fun j : Nat => fv Po 302 (6 + 19 * t1.toInt.toNat + j)) (fun j : Nat => fv Po 302 (14 + 19 * t1.toInt.toNat + j)))))) ∧ P' = Po) := by
  refine EvP.of qm_162 (Nat.le_of_ble_eq_true rfl) rfl ?_
  show MEvP _ none q_162 0 [(0, .ref 301), (1, .int t1)] [] _ 0 0 _
  have w_t1 := ti_full t1
  try have g1 : (0 : Int) ≤ (fv Po 302 (4 + 19 * t1.toInt.toNat)).toInt ∧ (fv Po 302 (4 + 19 * t1.toInt.toNat)).toInt ≤ 8 := s4_rng hT (by omega)
  refine mp_a (a_aload_n dX7_hasSharp_0 rfl) (mpp 1 rfl ?_)
  refine mp_a (a_iload_n dX7_hasSharp_1 rfl) (mpp 2 rfl ?_)
  refine mp_a (a_iconst (v := 1) dX7_hasSharp_2 rfl) (mpp 3 rfl ?_)
  have p2 : 0 ≤ t1.toInt := by omega
  have p3 : t1.toInt ≤ 7 := by omega
  have p4 : 0 ≤ (1 : Int) := by omega
  have p5 : (1 : Int) ≤ 18 := by omega
  refine mt_callv (i := 78) (q' := q_137) (As := [.int t1, .int 1]) (rest := []) hT dX7_hasSharp_3 rfl qm_137 (by decide) rfl rl_301 (by decide) rfl (Nat.le_of_ble_eq_true rfl) rfl ⟨rfl, rfl⟩ ⟨Nat.le_of_ble_eq_true rfl, Nat.le_of_ble_eq_true rfl⟩ (EvP.mono (by decide) (c_M_of_c1 hT p2 p3 p4 p5 )) (fun r6 P7 g8 => mpp 6 rfl ?_)
  obtain ⟨⟨x9, rfl, g10⟩, e11⟩ := g8
  have e11 := e11.symm
  subst e11
  have wx9 := ti_full x9
  replace g10 : x9.toInt = (fv Po 302 (4 + 19 * t1.toInt.toNat)).toInt ∧ 0 ≤ x9.toInt ∧ x9.toInt ≤ 8 := g10
  show MEvP _ none q_162 6 [(0, .ref 301), (1, .int t1)] [.int x9] _ _ _ _
  refine mp_a (a_istore_n (L' := [(2, .int x9), (0, .ref 301), (1, .int t1)]) dX7_hasSharp_6 (by decide) rfl) (mpp 7 rfl ?_)
  refine mp_a (a_iconst (v := 0) dX7_hasSharp_7 rfl) (mpp 8 rfl ?_)
  refine mp_a (a_istore_n (L' := [(3, .int 0), (2, .int x9), (0, .ref 301), (1, .int t1)]) dX7_hasSharp_8 (by decide) rfl) (mpp 9 rfl ?_)
  refine MEvP.less (L := [(0, .ref 301), (1, .int t1), (2, .int x9), (3, .int 0)]) rfl rfl ⟨rfl, rfl, rfl, rfl, trivial⟩ ?_
  have i12 : x9.toInt ≤ 8 := by omega
  have i13 : x9.toInt = (fv Po 302 (4 + 19 * t1.toInt.toNat)).toInt := by omega
  have i14 : 0 ≤ (0 : Int) := by omega
  have i15 : ∀ j : Nat, (j : Int) < (0 : Int) → ¬ SHp (fv Po 302 (4 + 19 * t1.toInt.toNat)).toInt.toNat (fun j : Nat => fv Po 302 (6 + 19 * t1.toInt.toNat + j)) (fun j : Nat => fv Po 302 (14 + 19 * t1.toInt.toNat + j)) j := fun j hj => absurd hj (by omega)
  have i16 : 0 ≤ (0 : Int) := by omega
  exact c_M_hasSharp_l9 hT  hp0 hp1 _ _ _ i12 i13 i14 i15 i16 rfl

set_option maxHeartbeats 4000000 in
theorem c_M_whyNot {Po : mP} {t1 : Int32} (hT : Typ Po)  (hp0 : 0 ≤ t1.toInt) (hp1 : t1.toInt ≤ 7)  : EvP 7 160 [.ref 301, .int t1] Po (fun r P' => (∃ x : Int32, r = some (.int x) ∧ ((x.toInt ≠ 4 ∨ UD Po t1.toInt.toNat 0) ∧ 0 ≤ x.toInt ∧ x.toInt ≤ 5 ∧ WYf cM eM (fv Po 302 (3 + 19 * t1.toInt.toNat)).toInt (fv Po 302 (4 + 19 * t1.toInt.toNat)).toInt (fun j : Nat => fv Po 302 (6 + 19 * t1.toInt.toNat + j)) (fun j : Nat => fv Po 302 (14 + 19 * t1.toInt.toNat + j)) x.toInt)) ∧ Typ P' ∧ KW [1101, 1102, 1536, 1600] Po P' ∧ True) := by
  refine EvP.of qm_160 (Nat.le_of_ble_eq_true rfl) rfl ?_
  show MEvP _ none q_160 0 [(0, .ref 301), (1, .int t1)] [] _ 0 0 _
  have w_t1 := ti_full t1
  try have g1 : (0 : Int) ≤ (fv Po 302 (3 + 19 * t1.toInt.toNat)).toInt ∧ (fv Po 302 (3 + 19 * t1.toInt.toNat)).toInt ≤ 1 := s3_rng hT (by omega)
  try have g2 : (0 : Int) ≤ (fv Po 302 (4 + 19 * t1.toInt.toNat)).toInt ∧ (fv Po 302 (4 + 19 * t1.toInt.toNat)).toInt ≤ 8 := s4_rng hT (by omega)
  refine mp_a (a_aload_n dX7_whyNot_0 rfl) (mpp 1 rfl ?_)
  refine mp_a (a_iload_n dX7_whyNot_1 rfl) (mpp 2 rfl ?_)
  refine mp_a (a_iconst (v := 0) dX7_whyNot_2 rfl) (mpp 3 rfl ?_)
  have p3 : 0 ≤ t1.toInt := by omega
  have p4 : t1.toInt ≤ 7 := by omega
  refine mt_callv (i := 136) (q' := q_149) (As := [.int t1, .int 0]) (rest := []) hT dX7_whyNot_3 rfl qm_149 (by decide) rfl rl_301 (by decide) rfl (Nat.le_of_ble_eq_true rfl) rfl ⟨rfl, rfl⟩ ⟨Nat.le_of_ble_eq_true rfl, Nat.le_of_ble_eq_true rfl⟩ (EvP.mono (by decide) (c_M_countOf hT p3 p4 )) (fun r5 P6 g7 => mpp 6 rfl ?_)
  obtain ⟨⟨x8, rfl, g9⟩, e10⟩ := g7
  have e10 := e10.symm
  subst e10
  have wx8 := ti_full x8
  replace g9 : (x8.toInt ≤ 0 ∨ UD Po t1.toInt.toNat (0 : Int)) ∧ 0 ≤ x8.toInt ∧ x8.toInt ≤ 8 ∧ x8.toInt = cntF (fun j : Nat => fv Po 302 (14 + 19 * t1.toInt.toNat + j)) (0 : Int) (nC (fv Po 302 (3 + 19 * t1.toInt.toNat)).toInt (fv Po 302 (4 + 19 * t1.toInt.toNat)).toInt) := g9
  show MEvP _ none q_160 6 [(0, .ref 301), (1, .int t1)] [.int x8] _ _ _ _
  refine mp_Tb (t := 11) (j_if_le dX7_whyNot_6) (by decide) (fun c11 => ?_) (fun c11 => mpp 9 rfl ?_)
  · have c11 : x8.toInt ≤ 0 := ti_le c11
    refine mp_a (a_aload_n dX7_whyNot_11 rfl) (mpp 12 rfl ?_)
    refine mp_a (a_iload_n dX7_whyNot_12 rfl) (mpp 13 rfl ?_)
    have p12 : 0 ≤ t1.toInt := by omega
    have p13 : t1.toInt ≤ 7 := by omega
    refine mt_callv (i := 81) (q' := q_138) (As := [.int t1]) (rest := []) hT dX7_whyNot_13 rfl qm_138 (by decide) rfl rl_301 (by decide) rfl (Nat.le_of_ble_eq_true rfl) rfl ⟨rfl, rfl⟩ ⟨Nat.le_of_ble_eq_true rfl, Nat.le_of_ble_eq_true rfl⟩ (EvP.mono (by decide) (c_M_isCorner hT p12 p13 )) (fun r14 P15 g16 => mpp 16 rfl ?_)
    obtain ⟨⟨x17, rfl, g18⟩, e19⟩ := g16
    have e19 := e19.symm
    subst e19
    have wx17 := ti_full x17
    replace g18 : 0 ≤ x17.toInt ∧ x17.toInt ≤ 1 ∧ ((x17.toInt = 1 ∧ (fv Po 302 (3 + 19 * t1.toInt.toNat)).toInt = 1) ∨ (x17.toInt = 0 ∧ (fv Po 302 (3 + 19 * t1.toInt.toNat)).toInt = 0)) := g18
    show MEvP _ none q_160 16 [(0, .ref 301), (1, .int t1)] [.int x17] _ _ _ _
    refine mp_Tb (t := 68) (j_if_eq dX7_whyNot_16) (by decide) (fun c20 => ?_) (fun c20 => mpp 19 rfl ?_)
    · have c20 : x17.toInt = 0 := ti_eq c20
      refine mp_a (a_aload_n dX7_whyNot_68 rfl) (mpp 69 rfl ?_)
      refine mp_a (a_iload_n dX7_whyNot_69 rfl) (mpp 70 rfl ?_)
      have p21 : 0 ≤ t1.toInt := by omega
      have p22 : t1.toInt ≤ 7 := by omega
      refine mt_callv (i := 209) (q' := q_163) (As := [.int t1]) (rest := []) hT dX7_whyNot_70 rfl qm_163 (by decide) rfl rl_301 (by decide) rfl (Nat.le_of_ble_eq_true rfl) rfl ⟨rfl, rfl⟩ ⟨Nat.le_of_ble_eq_true rfl, Nat.le_of_ble_eq_true rfl⟩ (EvP.mono (by decide) (c_M_foldsNow hT p21 p22 )) (fun r23 P24 g25 => mpp 73 rfl ?_)
      obtain ⟨⟨x26, rfl, g27⟩, hT28, k29, R30⟩ := g25
      have k31 : KW [1101, 1102, 1536, 1600] Po P24 := KW.trans KW.refl k29 rfl
      have wx26 := ti_full x26
      replace g27 : 0 ≤ x26.toInt ∧ x26.toInt ≤ 1 ∧ ((∃ k R', RD cM (pcR (fv Po 302 (3 + 19 * t1.toInt.toNat)).toInt (fv Po 302 (4 + 19 * t1.toInt.toNat)).toInt (fun j : Nat => fv Po 302 (6 + 19 * t1.toInt.toNat + j)) (fun j : Nat => fv Po 302 (14 + 19 * t1.toInt.toNat + j))) k R' ∧ ((x26.toInt = 1 ∧ isRf eM R') ∨ (x26.toInt = 0 ∧ ¬ isRf eM R')))) := g27
      show MEvP _ none q_160 73 [(0, .ref 301), (1, .int t1)] [.int x26] _ _ _ _
      refine mp_Tb (t := 80) (j_if_eq dX7_whyNot_73) (by decide) (fun c33 => ?_) (fun c33 => mpp 76 rfl ?_)
      · have c33 : x26.toInt = 0 := ti_eq c33
        refine mp_a (a_iconst (v := 5) dX7_whyNot_80 rfl) (mpp 81 rfl ?_)
        obtain ⟨kw35_, Rw35_, rw35_, ew35_⟩ := g27.2.2
        have u34 : ((5 : Int) ≠ 4 ∨ UD Po t1.toInt.toNat 0) ∧ 0 ≤ (5 : Int) ∧ (5 : Int) ≤ 5 ∧ WYf cM eM (fv Po 302 (3 + 19 * t1.toInt.toNat)).toInt (fv Po 302 (4 + 19 * t1.toInt.toNat)).toInt (fun j : Nat => fv Po 302 (6 + 19 * t1.toInt.toNat + j)) (fun j : Nat => fv Po 302 (14 + 19 * t1.toInt.toNat + j)) (5 : Int) := ⟨Or.inl (by omega), by omega, by omega, Or.inr (Or.inr (Or.inr (Or.inr ⟨by omega, Or.inl (by omega), _, _, rw35_, Or.inr ⟨(ew35_.resolve_left (fun q => absurd q.1 (by omega))).2, rfl⟩⟩)))⟩
        exact mp_iret ⟨⟨_, rfl, u34⟩, hT28, k31, trivial⟩ dX7_whyNot_81 (Or.inl rfl)
      · have c33 : x26.toInt ≠ 0 := ti_eq_n c33
        refine mp_a (a_iconst (v := 0) dX7_whyNot_76 rfl) (mpp 77 rfl ?_)
        refine mp_a (a_goto (t := 81) dX7_whyNot_77 (by decide)) ?_
        obtain ⟨kw37_, Rw37_, rw37_, ew37_⟩ := g27.2.2
        have u36 : ((0 : Int) ≠ 4 ∨ UD Po t1.toInt.toNat 0) ∧ 0 ≤ (0 : Int) ∧ (0 : Int) ≤ 5 ∧ WYf cM eM (fv Po 302 (3 + 19 * t1.toInt.toNat)).toInt (fv Po 302 (4 + 19 * t1.toInt.toNat)).toInt (fun j : Nat => fv Po 302 (6 + 19 * t1.toInt.toNat + j)) (fun j : Nat => fv Po 302 (14 + 19 * t1.toInt.toNat + j)) (0 : Int) := ⟨Or.inl (by omega), by omega, by omega, Or.inr (Or.inr (Or.inr (Or.inr ⟨by omega, Or.inl (by omega), _, _, rw37_, Or.inl ⟨(ew37_.resolve_right (fun q => absurd q.1 (by omega))).2, rfl⟩⟩)))⟩
        exact mp_iret ⟨⟨_, rfl, u36⟩, hT28, k31, trivial⟩ dX7_whyNot_81 (Or.inl rfl)
    · have c20 : x17.toInt ≠ 0 := ti_eq_n c20
      refine mp_a (a_aload_n dX7_whyNot_19 rfl) (mpp 20 rfl ?_)
      refine mp_a (a_iload_n dX7_whyNot_20 rfl) (mpp 21 rfl ?_)
      refine mp_a (a_iconst (v := 1) dX7_whyNot_21 rfl) (mpp 22 rfl ?_)
      have p38 : 0 ≤ t1.toInt := by omega
      have p39 : t1.toInt ≤ 7 := by omega
      refine mt_callv (i := 136) (q' := q_149) (As := [.int t1, .int 1]) (rest := []) hT dX7_whyNot_22 rfl qm_149 (by decide) rfl rl_301 (by decide) rfl (Nat.le_of_ble_eq_true rfl) rfl ⟨rfl, rfl⟩ ⟨Nat.le_of_ble_eq_true rfl, Nat.le_of_ble_eq_true rfl⟩ (EvP.mono (by decide) (c_M_countOf hT p38 p39 )) (fun r40 P41 g42 => mpp 25 rfl ?_)
      obtain ⟨⟨x43, rfl, g44⟩, e45⟩ := g42
      have e45 := e45.symm
      subst e45
      have wx43 := ti_full x43
      replace g44 : (x43.toInt ≤ 0 ∨ UD Po t1.toInt.toNat (1 : Int)) ∧ 0 ≤ x43.toInt ∧ x43.toInt ≤ 8 ∧ x43.toInt = cntF (fun j : Nat => fv Po 302 (14 + 19 * t1.toInt.toNat + j)) (1 : Int) (nC (fv Po 302 (3 + 19 * t1.toInt.toNat)).toInt (fv Po 302 (4 + 19 * t1.toInt.toNat)).toInt) := g44
      show MEvP _ none q_160 25 [(0, .ref 301), (1, .int t1)] [.int x43] _ _ _ _
      refine mp_a (a_aload_n dX7_whyNot_25 rfl) (mpp 26 rfl ?_)
      refine mp_a (a_iload_n dX7_whyNot_26 rfl) (mpp 27 rfl ?_)
      refine mp_a (a_iconst (v := 2) dX7_whyNot_27 rfl) (mpp 28 rfl ?_)
      have p46 : 0 ≤ t1.toInt := by omega
      have p47 : t1.toInt ≤ 7 := by omega
      refine mt_callv (i := 136) (q' := q_149) (As := [.int t1, .int 2]) (rest := [.int x43]) hT dX7_whyNot_28 rfl qm_149 (by decide) rfl rl_301 (by decide) rfl (Nat.le_of_ble_eq_true rfl) rfl ⟨rfl, rfl⟩ ⟨Nat.le_of_ble_eq_true rfl, Nat.le_of_ble_eq_true rfl⟩ (EvP.mono (by decide) (c_M_countOf hT p46 p47 )) (fun r48 P49 g50 => mpp 31 rfl ?_)
      obtain ⟨⟨x51, rfl, g52⟩, e53⟩ := g50
      have e53 := e53.symm
      subst e53
      have wx51 := ti_full x51
      replace g52 : (x51.toInt ≤ 0 ∨ UD Po t1.toInt.toNat (2 : Int)) ∧ 0 ≤ x51.toInt ∧ x51.toInt ≤ 8 ∧ x51.toInt = cntF (fun j : Nat => fv Po 302 (14 + 19 * t1.toInt.toNat + j)) (2 : Int) (nC (fv Po 302 (3 + 19 * t1.toInt.toNat)).toInt (fv Po 302 (4 + 19 * t1.toInt.toNat)).toInt) := g52
      show MEvP _ none q_160 31 [(0, .ref 301), (1, .int t1)] [.int x51, .int x43] _ _ _ _
      obtain ⟨z54, h55⟩ := ti_ex (x43 - x51 : Int32)
      have wz54 := ti_full z54
      refine mp_t (s_isub (v := z54) dX7_whyNot_31 h55) (mpp 32 rfl ?_)
      try have e56 : z54.toInt = x43.toInt - x51.toInt := ti_subz h55 rfl rfl (by omega) (by omega)
      refine mp_a (a_istore_n (L' := [(2, .int z54), (0, .ref 301), (1, .int t1)]) dX7_whyNot_32 (by decide) rfl) (mpp 33 rfl ?_)
      refine mp_a (a_aload_n dX7_whyNot_33 rfl) (mpp 34 rfl ?_)
      refine mp_a (a_iload_n dX7_whyNot_34 rfl) (mpp 35 rfl ?_)
      have p57 : 0 ≤ t1.toInt := by omega
      have p58 : t1.toInt ≤ 7 := by omega
      refine mt_callv (i := 203) (q' := q_161) (As := [.int t1]) (rest := []) hT dX7_whyNot_35 rfl qm_161 (by decide) rfl rl_301 (by decide) rfl (Nat.le_of_ble_eq_true rfl) rfl ⟨rfl, rfl⟩ ⟨Nat.le_of_ble_eq_true rfl, Nat.le_of_ble_eq_true rfl⟩ (EvP.mono (by decide) (c_M_evenAngles hT p57 p58 )) (fun r59 P60 g61 => mpp 38 rfl ?_)
      obtain ⟨⟨x62, rfl, g63⟩, e64⟩ := g61
      have e64 := e64.symm
      subst e64
      have wx62 := ti_full x62
      replace g63 : x62.toInt = (evF (fun j : Nat => fv Po 302 (6 + 19 * t1.toInt.toNat + j)) (fv Po 302 (4 + 19 * t1.toInt.toNat)).toInt.toNat).toInt := g63
      show MEvP _ none q_160 38 [(2, .int z54), (0, .ref 301), (1, .int t1)] [.int x62] _ _ _ _
      refine mp_a (a_bipush (v := 12) dX7_whyNot_38 rfl) (mpp 40 rfl ?_)
      refine mp_Tb (t := 45) (j_icmp_eq dX7_whyNot_40) (by decide) (fun c65 => ?_) (fun c65 => mpp 43 rfl ?_)
      · have c65 : x62.toInt = 12 := ti_eq c65
        refine mp_a (a_iload_n dX7_whyNot_45 rfl) (mpp 46 rfl ?_)
        refine mp_a (a_iconst (v := 2) dX7_whyNot_46 rfl) (mpp 47 rfl ?_)
        refine mp_Tb (t := 58) (j_icmp_eq dX7_whyNot_47) (by decide) (fun c66 => ?_) (fun c66 => mpp 50 rfl ?_)
        · have c66 : z54.toInt = 2 := ti_eq c66
          refine mp_a (a_aload_n dX7_whyNot_58 rfl) (mpp 59 rfl ?_)
          refine mp_a (a_iload_n dX7_whyNot_59 rfl) (mpp 60 rfl ?_)
          have p67 : 0 ≤ t1.toInt := by omega
          have p68 : t1.toInt ≤ 7 := by omega
          refine mt_callv (i := 206) (q' := q_162) (As := [.int t1]) (rest := []) hT dX7_whyNot_60 rfl qm_162 (by decide) rfl rl_301 (by decide) rfl (Nat.le_of_ble_eq_true rfl) rfl ⟨rfl, rfl⟩ ⟨Nat.le_of_ble_eq_true rfl, Nat.le_of_ble_eq_true rfl⟩ (EvP.mono (by decide) (c_M_hasSharp hT p67 p68 )) (fun r69 P70 g71 => mpp 63 rfl ?_)
          obtain ⟨⟨x72, rfl, g73⟩, e74⟩ := g71
          have e74 := e74.symm
          subst e74
          have wx72 := ti_full x72
          replace g73 : 0 ≤ x72.toInt ∧ x72.toInt ≤ 1 ∧ ((x72.toInt = 1 ∧ SHf (fv Po 302 (4 + 19 * t1.toInt.toNat)).toInt.toNat (fun j : Nat => fv Po 302 (6 + 19 * t1.toInt.toNat + j)) (fun j : Nat => fv Po 302 (14 + 19 * t1.toInt.toNat + j))) ∨ (x72.toInt = 0 ∧ ¬ SHf (fv Po 302 (4 + 19 * t1.toInt.toNat)).toInt.toNat (fun j : Nat => fv Po 302 (6 + 19 * t1.toInt.toNat + j)) (fun j : Nat => fv Po 302 (14 + 19 * t1.toInt.toNat + j)))) := g73
          show MEvP _ none q_160 63 [(2, .int z54), (0, .ref 301), (1, .int t1)] [.int x72] _ _ _ _
          refine mp_Tb (t := 68) (j_if_eq dX7_whyNot_63) (by decide) (fun c75 => ?_) (fun c75 => mpp 66 rfl ?_)
          · have c75 : x72.toInt = 0 := ti_eq c75
            refine mp_a (a_aload_n dX7_whyNot_68 rfl) (mpp 69 rfl ?_)
            refine mp_a (a_iload_n dX7_whyNot_69 rfl) (mpp 70 rfl ?_)
            have p76 : 0 ≤ t1.toInt := by omega
            have p77 : t1.toInt ≤ 7 := by omega
            refine mt_callv (i := 209) (q' := q_163) (As := [.int t1]) (rest := []) hT dX7_whyNot_70 rfl qm_163 (by decide) rfl rl_301 (by decide) rfl (Nat.le_of_ble_eq_true rfl) rfl ⟨rfl, rfl⟩ ⟨Nat.le_of_ble_eq_true rfl, Nat.le_of_ble_eq_true rfl⟩ (EvP.mono (by decide) (c_M_foldsNow hT p76 p77 )) (fun r78 P79 g80 => mpp 73 rfl ?_)
            obtain ⟨⟨x81, rfl, g82⟩, hT83, k84, R85⟩ := g80
            have k86 : KW [1101, 1102, 1536, 1600] Po P79 := KW.trans KW.refl k84 rfl
            have wx81 := ti_full x81
            replace g82 : 0 ≤ x81.toInt ∧ x81.toInt ≤ 1 ∧ ((∃ k R', RD cM (pcR (fv Po 302 (3 + 19 * t1.toInt.toNat)).toInt (fv Po 302 (4 + 19 * t1.toInt.toNat)).toInt (fun j : Nat => fv Po 302 (6 + 19 * t1.toInt.toNat + j)) (fun j : Nat => fv Po 302 (14 + 19 * t1.toInt.toNat + j))) k R' ∧ ((x81.toInt = 1 ∧ isRf eM R') ∨ (x81.toInt = 0 ∧ ¬ isRf eM R')))) := g82
            show MEvP _ none q_160 73 [(2, .int z54), (0, .ref 301), (1, .int t1)] [.int x81] _ _ _ _
            refine mp_Tb (t := 80) (j_if_eq dX7_whyNot_73) (by decide) (fun c88 => ?_) (fun c88 => mpp 76 rfl ?_)
            · have c88 : x81.toInt = 0 := ti_eq c88
              refine mp_a (a_iconst (v := 5) dX7_whyNot_80 rfl) (mpp 81 rfl ?_)
              obtain ⟨kw90_, Rw90_, rw90_, ew90_⟩ := g82.2.2
              have u89 : ((5 : Int) ≠ 4 ∨ UD Po t1.toInt.toNat 0) ∧ 0 ≤ (5 : Int) ∧ (5 : Int) ≤ 5 ∧ WYf cM eM (fv Po 302 (3 + 19 * t1.toInt.toNat)).toInt (fv Po 302 (4 + 19 * t1.toInt.toNat)).toInt (fun j : Nat => fv Po 302 (6 + 19 * t1.toInt.toNat + j)) (fun j : Nat => fv Po 302 (14 + 19 * t1.toInt.toNat + j)) (5 : Int) := ⟨Or.inl (by omega), by omega, by omega, Or.inr (Or.inr (Or.inr (Or.inr ⟨by omega, Or.inr ⟨by omega, by omega, (g73.2.2.resolve_left (by omega)).2⟩, _, _, rw90_, Or.inr ⟨(ew90_.resolve_left (fun q => absurd q.1 (by omega))).2, rfl⟩⟩)))⟩
              exact mp_iret ⟨⟨_, rfl, u89⟩, hT83, k86, trivial⟩ dX7_whyNot_81 (Or.inl rfl)
            · have c88 : x81.toInt ≠ 0 := ti_eq_n c88
              refine mp_a (a_iconst (v := 0) dX7_whyNot_76 rfl) (mpp 77 rfl ?_)
              refine mp_a (a_goto (t := 81) dX7_whyNot_77 (by decide)) ?_
              obtain ⟨kw92_, Rw92_, rw92_, ew92_⟩ := g82.2.2
              have u91 : ((0 : Int) ≠ 4 ∨ UD Po t1.toInt.toNat 0) ∧ 0 ≤ (0 : Int) ∧ (0 : Int) ≤ 5 ∧ WYf cM eM (fv Po 302 (3 + 19 * t1.toInt.toNat)).toInt (fv Po 302 (4 + 19 * t1.toInt.toNat)).toInt (fun j : Nat => fv Po 302 (6 + 19 * t1.toInt.toNat + j)) (fun j : Nat => fv Po 302 (14 + 19 * t1.toInt.toNat + j)) (0 : Int) := ⟨Or.inl (by omega), by omega, by omega, Or.inr (Or.inr (Or.inr (Or.inr ⟨by omega, Or.inr ⟨by omega, by omega, (g73.2.2.resolve_left (by omega)).2⟩, _, _, rw92_, Or.inl ⟨(ew92_.resolve_right (fun q => absurd q.1 (by omega))).2, rfl⟩⟩)))⟩
              exact mp_iret ⟨⟨_, rfl, u91⟩, hT83, k86, trivial⟩ dX7_whyNot_81 (Or.inl rfl)
          · have c75 : x72.toInt ≠ 0 := ti_eq_n c75
            refine mp_a (a_iconst (v := 3) dX7_whyNot_66 rfl) (mpp 67 rfl ?_)
            have u93 : ((3 : Int) ≠ 4 ∨ UD Po t1.toInt.toNat 0) ∧ 0 ≤ (3 : Int) ∧ (3 : Int) ≤ 5 ∧ WYf cM eM (fv Po 302 (3 + 19 * t1.toInt.toNat)).toInt (fv Po 302 (4 + 19 * t1.toInt.toNat)).toInt (fun j : Nat => fv Po 302 (6 + 19 * t1.toInt.toNat + j)) (fun j : Nat => fv Po 302 (14 + 19 * t1.toInt.toNat + j)) (3 : Int) := ⟨Or.inl (by omega), by omega, by omega, Or.inr (Or.inr (Or.inr (Or.inl ⟨by omega, by omega, by omega, by omega, (g73.2.2.resolve_right (by omega)).2, rfl⟩)))⟩
            exact mp_iret ⟨⟨_, rfl, u93⟩, hT, KW.refl, trivial⟩ dX7_whyNot_67 (Or.inl rfl)
        · have c66 : z54.toInt ≠ 2 := ti_eq_n c66
          refine mp_a (a_iload_n dX7_whyNot_50 rfl) (mpp 51 rfl ?_)
          refine mp_a (a_bipush (v := -2) dX7_whyNot_51 rfl) (mpp 53 rfl ?_)
          refine mp_Tb (t := 58) (j_icmp_eq dX7_whyNot_53) (by decide) (fun c94 => ?_) (fun c94 => mpp 56 rfl ?_)
          · have c94 : z54.toInt = (-2) := ti_eq c94
            refine mp_a (a_aload_n dX7_whyNot_58 rfl) (mpp 59 rfl ?_)
            refine mp_a (a_iload_n dX7_whyNot_59 rfl) (mpp 60 rfl ?_)
            have p95 : 0 ≤ t1.toInt := by omega
            have p96 : t1.toInt ≤ 7 := by omega
            refine mt_callv (i := 206) (q' := q_162) (As := [.int t1]) (rest := []) hT dX7_whyNot_60 rfl qm_162 (by decide) rfl rl_301 (by decide) rfl (Nat.le_of_ble_eq_true rfl) rfl ⟨rfl, rfl⟩ ⟨Nat.le_of_ble_eq_true rfl, Nat.le_of_ble_eq_true rfl⟩ (EvP.mono (by decide) (c_M_hasSharp hT p95 p96 )) (fun r97 P98 g99 => mpp 63 rfl ?_)
            obtain ⟨⟨x100, rfl, g101⟩, e102⟩ := g99
            have e102 := e102.symm
            subst e102
            have wx100 := ti_full x100
            replace g101 : 0 ≤ x100.toInt ∧ x100.toInt ≤ 1 ∧ ((x100.toInt = 1 ∧ SHf (fv Po 302 (4 + 19 * t1.toInt.toNat)).toInt.toNat (fun j : Nat => fv Po 302 (6 + 19 * t1.toInt.toNat + j)) (fun j : Nat => fv Po 302 (14 + 19 * t1.toInt.toNat + j))) ∨ (x100.toInt = 0 ∧ ¬ SHf (fv Po 302 (4 + 19 * t1.toInt.toNat)).toInt.toNat (fun j : Nat => fv Po 302 (6 + 19 * t1.toInt.toNat + j)) (fun j : Nat => fv Po 302 (14 + 19 * t1.toInt.toNat + j)))) := g101
            show MEvP _ none q_160 63 [(2, .int z54), (0, .ref 301), (1, .int t1)] [.int x100] _ _ _ _
            refine mp_Tb (t := 68) (j_if_eq dX7_whyNot_63) (by decide) (fun c103 => ?_) (fun c103 => mpp 66 rfl ?_)
            · have c103 : x100.toInt = 0 := ti_eq c103
              refine mp_a (a_aload_n dX7_whyNot_68 rfl) (mpp 69 rfl ?_)
              refine mp_a (a_iload_n dX7_whyNot_69 rfl) (mpp 70 rfl ?_)
              have p104 : 0 ≤ t1.toInt := by omega
              have p105 : t1.toInt ≤ 7 := by omega
              refine mt_callv (i := 209) (q' := q_163) (As := [.int t1]) (rest := []) hT dX7_whyNot_70 rfl qm_163 (by decide) rfl rl_301 (by decide) rfl (Nat.le_of_ble_eq_true rfl) rfl ⟨rfl, rfl⟩ ⟨Nat.le_of_ble_eq_true rfl, Nat.le_of_ble_eq_true rfl⟩ (EvP.mono (by decide) (c_M_foldsNow hT p104 p105 )) (fun r106 P107 g108 => mpp 73 rfl ?_)
              obtain ⟨⟨x109, rfl, g110⟩, hT111, k112, R113⟩ := g108
              have k114 : KW [1101, 1102, 1536, 1600] Po P107 := KW.trans KW.refl k112 rfl
              have wx109 := ti_full x109
              replace g110 : 0 ≤ x109.toInt ∧ x109.toInt ≤ 1 ∧ ((∃ k R', RD cM (pcR (fv Po 302 (3 + 19 * t1.toInt.toNat)).toInt (fv Po 302 (4 + 19 * t1.toInt.toNat)).toInt (fun j : Nat => fv Po 302 (6 + 19 * t1.toInt.toNat + j)) (fun j : Nat => fv Po 302 (14 + 19 * t1.toInt.toNat + j))) k R' ∧ ((x109.toInt = 1 ∧ isRf eM R') ∨ (x109.toInt = 0 ∧ ¬ isRf eM R')))) := g110
              show MEvP _ none q_160 73 [(2, .int z54), (0, .ref 301), (1, .int t1)] [.int x109] _ _ _ _
              refine mp_Tb (t := 80) (j_if_eq dX7_whyNot_73) (by decide) (fun c116 => ?_) (fun c116 => mpp 76 rfl ?_)
              · have c116 : x109.toInt = 0 := ti_eq c116
                refine mp_a (a_iconst (v := 5) dX7_whyNot_80 rfl) (mpp 81 rfl ?_)
                obtain ⟨kw118_, Rw118_, rw118_, ew118_⟩ := g110.2.2
                have u117 : ((5 : Int) ≠ 4 ∨ UD Po t1.toInt.toNat 0) ∧ 0 ≤ (5 : Int) ∧ (5 : Int) ≤ 5 ∧ WYf cM eM (fv Po 302 (3 + 19 * t1.toInt.toNat)).toInt (fv Po 302 (4 + 19 * t1.toInt.toNat)).toInt (fun j : Nat => fv Po 302 (6 + 19 * t1.toInt.toNat + j)) (fun j : Nat => fv Po 302 (14 + 19 * t1.toInt.toNat + j)) (5 : Int) := ⟨Or.inl (by omega), by omega, by omega, Or.inr (Or.inr (Or.inr (Or.inr ⟨by omega, Or.inr ⟨by omega, by omega, (g101.2.2.resolve_left (by omega)).2⟩, _, _, rw118_, Or.inr ⟨(ew118_.resolve_left (fun q => absurd q.1 (by omega))).2, rfl⟩⟩)))⟩
                exact mp_iret ⟨⟨_, rfl, u117⟩, hT111, k114, trivial⟩ dX7_whyNot_81 (Or.inl rfl)
              · have c116 : x109.toInt ≠ 0 := ti_eq_n c116
                refine mp_a (a_iconst (v := 0) dX7_whyNot_76 rfl) (mpp 77 rfl ?_)
                refine mp_a (a_goto (t := 81) dX7_whyNot_77 (by decide)) ?_
                obtain ⟨kw120_, Rw120_, rw120_, ew120_⟩ := g110.2.2
                have u119 : ((0 : Int) ≠ 4 ∨ UD Po t1.toInt.toNat 0) ∧ 0 ≤ (0 : Int) ∧ (0 : Int) ≤ 5 ∧ WYf cM eM (fv Po 302 (3 + 19 * t1.toInt.toNat)).toInt (fv Po 302 (4 + 19 * t1.toInt.toNat)).toInt (fun j : Nat => fv Po 302 (6 + 19 * t1.toInt.toNat + j)) (fun j : Nat => fv Po 302 (14 + 19 * t1.toInt.toNat + j)) (0 : Int) := ⟨Or.inl (by omega), by omega, by omega, Or.inr (Or.inr (Or.inr (Or.inr ⟨by omega, Or.inr ⟨by omega, by omega, (g101.2.2.resolve_left (by omega)).2⟩, _, _, rw120_, Or.inl ⟨(ew120_.resolve_right (fun q => absurd q.1 (by omega))).2, rfl⟩⟩)))⟩
                exact mp_iret ⟨⟨_, rfl, u119⟩, hT111, k114, trivial⟩ dX7_whyNot_81 (Or.inl rfl)
            · have c103 : x100.toInt ≠ 0 := ti_eq_n c103
              refine mp_a (a_iconst (v := 3) dX7_whyNot_66 rfl) (mpp 67 rfl ?_)
              have u121 : ((3 : Int) ≠ 4 ∨ UD Po t1.toInt.toNat 0) ∧ 0 ≤ (3 : Int) ∧ (3 : Int) ≤ 5 ∧ WYf cM eM (fv Po 302 (3 + 19 * t1.toInt.toNat)).toInt (fv Po 302 (4 + 19 * t1.toInt.toNat)).toInt (fun j : Nat => fv Po 302 (6 + 19 * t1.toInt.toNat + j)) (fun j : Nat => fv Po 302 (14 + 19 * t1.toInt.toNat + j)) (3 : Int) := ⟨Or.inl (by omega), by omega, by omega, Or.inr (Or.inr (Or.inr (Or.inl ⟨by omega, by omega, by omega, by omega, (g101.2.2.resolve_right (by omega)).2, rfl⟩)))⟩
              exact mp_iret ⟨⟨_, rfl, u121⟩, hT, KW.refl, trivial⟩ dX7_whyNot_67 (Or.inl rfl)
          · have c94 : z54.toInt ≠ (-2) := ti_eq_n c94
            refine mp_a (a_iconst (v := 2) dX7_whyNot_56 rfl) (mpp 57 rfl ?_)
            have u122 : ((2 : Int) ≠ 4 ∨ UD Po t1.toInt.toNat 0) ∧ 0 ≤ (2 : Int) ∧ (2 : Int) ≤ 5 ∧ WYf cM eM (fv Po 302 (3 + 19 * t1.toInt.toNat)).toInt (fv Po 302 (4 + 19 * t1.toInt.toNat)).toInt (fun j : Nat => fv Po 302 (6 + 19 * t1.toInt.toNat + j)) (fun j : Nat => fv Po 302 (14 + 19 * t1.toInt.toNat + j)) (2 : Int) := ⟨Or.inl (by omega), by omega, by omega, Or.inr (Or.inr (Or.inl ⟨by omega, by omega, by omega, by omega, rfl⟩))⟩
            exact mp_iret ⟨⟨_, rfl, u122⟩, hT, KW.refl, trivial⟩ dX7_whyNot_57 (Or.inl rfl)
      · have c65 : x62.toInt ≠ 12 := ti_eq_n c65
        refine mp_a (a_iconst (v := 1) dX7_whyNot_43 rfl) (mpp 44 rfl ?_)
        have u123 : ((1 : Int) ≠ 4 ∨ UD Po t1.toInt.toNat 0) ∧ 0 ≤ (1 : Int) ∧ (1 : Int) ≤ 5 ∧ WYf cM eM (fv Po 302 (3 + 19 * t1.toInt.toNat)).toInt (fv Po 302 (4 + 19 * t1.toInt.toNat)).toInt (fun j : Nat => fv Po 302 (6 + 19 * t1.toInt.toNat + j)) (fun j : Nat => fv Po 302 (14 + 19 * t1.toInt.toNat + j)) (1 : Int) := ⟨Or.inl (by omega), by omega, by omega, Or.inr (Or.inl ⟨by omega, by omega, by omega, rfl⟩)⟩
        exact mp_iret ⟨⟨_, rfl, u123⟩, hT, KW.refl, trivial⟩ dX7_whyNot_44 (Or.inl rfl)
  · have c11 : x8.toInt > 0 := ti_le_n c11
    refine mp_a (a_iconst (v := 4) dX7_whyNot_9 rfl) (mpp 10 rfl ?_)
    have u124 : ((4 : Int) ≠ 4 ∨ UD Po t1.toInt.toNat 0) ∧ 0 ≤ (4 : Int) ∧ (4 : Int) ≤ 5 ∧ WYf cM eM (fv Po 302 (3 + 19 * t1.toInt.toNat)).toInt (fv Po 302 (4 + 19 * t1.toInt.toNat)).toInt (fun j : Nat => fv Po 302 (6 + 19 * t1.toInt.toNat + j)) (fun j : Nat => fv Po 302 (14 + 19 * t1.toInt.toNat + j)) (4 : Int) := ⟨Or.inr (g9.1.resolve_left (by omega)), by omega, by omega, Or.inl ⟨by omega, rfl⟩⟩
    exact mp_iret ⟨⟨_, rfl, u124⟩, hT, KW.refl, trivial⟩ dX7_whyNot_10 (Or.inl rfl)

set_option maxHeartbeats 4000000 in
theorem c_M_lowestOpen_l2 {Po : mP} {t1 : Int32} (hT : Typ Po)  (hp0 : 0 ≤ t1.toInt) (hp1 : t1.toInt ≤ 7) (hp2 : UD Po t1.toInt.toNat 0)  : ∀ (n : Nat) (v2 : Int32), (UDf Po t1.toInt.toNat v2.toInt.toNat) → (v2.toInt ≤ 7) → (0 ≤ v2.toInt) → (2147483647 - v2.toInt).toNat = n → MEvP 3 none q_189 2 [(0, .ref 301), (1, .int t1), (2, .int v2)] [] Po 0 0 (fun r P' => (∃ x : Int32, r = some (.int x) ∧ (True)) ∧ P' = Po) := by
  intro n
  induction n using Nat.strongRecOn with | _ n ih => ?_
  intro v2 i_0 i_1 i_2 hm
  have w_t1 := ti_full t1
  have w_v2 := ti_full v2
  refine mp_a (a_aload_n dX7_lowestOpen_2 rfl) (mpp 3 rfl ?_)
  refine mp_a (a_iload_n dX7_lowestOpen_3 rfl) (mpp 4 rfl ?_)
  refine mp_a (a_iload_n dX7_lowestOpen_4 rfl) (mpp 5 rfl ?_)
  have p1 : 0 ≤ t1.toInt := by omega
  have p2 : t1.toInt ≤ 7 := by omega
  have p3 : 0 ≤ v2.toInt := by omega
  have p4 : v2.toInt ≤ 7 := by omega
  refine mt_callv (i := 92) (q' := q_146) (As := [.int t1, .int v2]) (rest := []) hT dX7_lowestOpen_5 rfl qm_146 (by decide) rfl rl_301 (by decide) rfl (Nat.le_of_ble_eq_true rfl) rfl ⟨rfl, rfl⟩ ⟨Nat.le_of_ble_eq_true rfl, Nat.le_of_ble_eq_true rfl⟩ (EvP.mono (by decide) (c_M_creaseOf hT p1 p2 p3 p4 )) (fun r5 P6 g7 => mpp 8 rfl ?_)
  obtain ⟨⟨x8, rfl, g9⟩, e10⟩ := g7
  have e10 := e10.symm
  subst e10
  have wx8 := ti_full x8
  replace g9 : x8.toInt = (fv Po 302 (14 + 19 * t1.toInt.toNat + v2.toInt.toNat)).toInt := g9
  show MEvP _ none q_189 8 [(0, .ref 301), (1, .int t1), (2, .int v2)] [.int x8] _ _ _ _
  refine mp_Tb (t := 17) (j_if_eq dX7_lowestOpen_8) (by decide) (fun c11 => ?_) (fun c11 => mpp 11 rfl ?_)
  · have c11 : x8.toInt = 0 := ti_eq c11
    refine mp_a (a_iload_n dX7_lowestOpen_17 rfl) (mpp 18 rfl ?_)
    exact mp_iret ⟨⟨_, rfl, trivial⟩, rfl⟩ dX7_lowestOpen_18 (Or.inl rfl)
  · have c11 : x8.toInt ≠ 0 := ti_eq_n c11
    obtain ⟨z12, h13⟩ := ti_ex (v2 + 1 : Int32)
    have wz12 := ti_full z12
    refine mp_a (a_iinc (v := z12) (L' := [(2, .int z12), (0, .ref 301), (1, .int t1)]) dX7_lowestOpen_11 (by decide) rfl h13 rfl) (mpp 14 rfl ?_)
    try have e14 : z12.toInt = v2.toInt + 1 := ti_addz h13 rfl rfl (by omega) (by omega)
    refine mp_a (a_goto (t := 2) dX7_lowestOpen_14 (by decide)) ?_
    refine MEvP.less (L := [(0, .ref 301), (1, .int t1), (2, .int z12)]) rfl rfl ⟨rfl, rfl, rfl, trivial⟩ ?_
    have i15 : UDf Po t1.toInt.toNat z12.toInt.toNat := UDf.next i_0 (by omega) (by omega)
    have i16 : z12.toInt ≤ 7 := by obtain ⟨j, h1, h2, -⟩ := i15; omega
    have i17 : 0 ≤ z12.toInt := by omega
    exact ih _ (by omega) _ i15 i16 i17 rfl

set_option maxHeartbeats 4000000 in
theorem c_M_lowestOpen {Po : mP} {t1 : Int32} (hT : Typ Po)  (hp0 : 0 ≤ t1.toInt) (hp1 : t1.toInt ≤ 7) (hp2 : UD Po t1.toInt.toNat 0)  : EvP 4 189 [.ref 301, .int t1] Po (fun r P' => (∃ x : Int32, r = some (.int x) ∧ (True)) ∧ P' = Po) := by
  refine EvP.of qm_189 (Nat.le_of_ble_eq_true rfl) rfl ?_
  show MEvP _ none q_189 0 [(0, .ref 301), (1, .int t1)] [] _ 0 0 _
  have w_t1 := ti_full t1
  refine mp_a (a_iconst (v := 0) dX7_lowestOpen_0 rfl) (mpp 1 rfl ?_)
  refine mp_a (a_istore_n (L' := [(2, .int 0), (0, .ref 301), (1, .int t1)]) dX7_lowestOpen_1 (by decide) rfl) (mpp 2 rfl ?_)
  refine MEvP.less (L := [(0, .ref 301), (1, .int t1), (2, .int 0)]) rfl rfl ⟨rfl, rfl, rfl, trivial⟩ ?_
  have i1 : UDf Po t1.toInt.toNat (0 : Int).toNat := UDf.start hp2 (by decide)
  have i2 : (0 : Int) ≤ 7 := by obtain ⟨j, h1, h2, -⟩ := i1; omega
  have i3 : 0 ≤ (0 : Int) := by omega
  exact c_M_lowestOpen_l2 hT  hp0 hp1 hp2 _ _ i1 i2 i3 rfl

