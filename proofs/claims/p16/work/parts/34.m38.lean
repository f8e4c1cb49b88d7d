/-! methods on typed pools, 38 (written by a program) -/
set_option maxHeartbeats 4000000 in
theorem c_M_collides_l2 {Po : mP} {t1 : Int32} (hT : Typ Po)  (hp0 : 0 ≤ t1.toInt) (hp1 : t1.toInt + 2 ≤ (fv Po 301 20).toInt) (hp2 : (fv Po 301 20).toInt ≤ 7)  : ∀ (n : Nat) (v2 : Int32), (∀ i : Nat, i < v2.toInt.toNat → ¬ i = t1.toInt.toNat → ¬ i = t1.toInt.toNat + 1 → ¬ PI1 (pM Po) (oM Po) t1.toInt.toNat i) → (0 ≤ v2.toInt) → (2147483647 - v2.toInt).toNat = n → MEvP 2 none q_203 2 [(0, .ref 301), (1, .int t1), (2, .int v2)] [] Po 0 0 (fun r P' => (∃ x : Int32, r = some (.int x) ∧ (0 ≤ x.toInt ∧ x.toInt ≤ 1 ∧ ((x.toInt = 1 ∧ (PIm (nM Po) (pM Po) (oM Po) t1.toInt.toNat ∨ CRm (nM Po) (pM Po) (oM Po) t1.toInt.toNat)) ∨ (x.toInt = 0 ∧ ¬ (PIm (nM Po) (pM Po) (oM Po) t1.toInt.toNat ∨ CRm (nM Po) (pM Po) (oM Po) t1.toInt.toNat))))) ∧ P' = Po) := by
  intro n
  induction n using Nat.strongRecOn with | _ n ih => ?_
  intro v2 i_0 i_1 hm
  have w_t1 := ti_full t1
  have w_v2 := ti_full v2
  have g1 : (0 : Int) ≤ (fv Po 301 20).toInt ∧ (fv Po 301 20).toInt ≤ 8 := Typ.rng hT rl_301 (by decide) (by decide) rfl
  refine mp_a (a_iload_n dX7_collides_2 rfl) (mpp 3 rfl ?_)
  refine mp_a (a_aload_n dX7_collides_3 rfl) (mpp 4 rfl ?_)
  refine mt_getI (i := 255) (k := 20) hT dX7_collides_4 rfl rl_301 (by decide) rfl (by decide) rfl (fun g2 g3 => mpp 7 rfl ?_)
  refine mp_Tb (t := 55) (j_icmp_ge dX7_collides_7) (by decide) (fun c4 => ?_) (fun c4 => mpp 10 rfl ?_)
  · have c4 : v2.toInt ≥ (fv Po 301 20).toInt := ti_ge c4
    refine mp_a (a_iload_n dX7_collides_55 rfl) (mpp 56 rfl ?_)
    refine mp_a (a_iconst (v := 2) dX7_collides_56 rfl) (mpp 57 rfl ?_)
    obtain ⟨z5, h6⟩ := ti_ex (t1 - t1 / 2 * 2 : Int32)
    have wz5 := ti_full z5
    try have e8 : z5.toInt = t1.toInt % 2 := ti_remx h6 (show (0 : Int) ≤ t1.toInt by omega) (show (0 : Int) < 2 by omega)
    try have e7 : 0 ≤ z5.toInt ∧ z5.toInt < 2 := ti_rem h6 (show (0 : Int) ≤ t1.toInt by omega) (show (0 : Int) < 2 by omega)
    refine mp_t (s_irem (v := z5) dX7_collides_57 (by decide) h6) (mpp 58 rfl ?_)
    refine mp_a (a_istore_n (L' := [(2, .int z5), (0, .ref 301), (1, .int t1)]) dX7_collides_58 (by decide) rfl) (mpp 59 rfl ?_)
    refine MEvP.less (L := [(0, .ref 301), (1, .int t1), (2, .int z5)]) rfl rfl ⟨rfl, rfl, rfl, trivial⟩ ?_
    have i9 : 0 ≤ z5.toInt := by omega
    have i10 : z5.toInt % 2 = t1.toInt % 2 := by omega
    have i11 : ∀ i : Nat, i < z5.toInt.toNat → i % 2 = t1.toInt.toNat % 2 → ¬ i = t1.toInt.toNat → ¬ CR1 (pM Po) (oM Po) t1.toInt.toNat i := fun i h1 h2 h3 => by omega
    have i12 : ¬ PIm (nM Po) (pM Po) (oM Po) t1.toInt.toNat := fun ⟨i, h1, h2, h3, h4⟩ => i_0 i (by have h1 : i < (fv Po 301 20).toInt.toNat := h1; omega) h2 h3 h4
    have i13 : z5.toInt ≤ 9 := by omega
    exact c_M_collides_l59 hT  hp0 hp1 hp2 _ _ i9 i10 i11 i12 i13 rfl
  · have c4 : v2.toInt < (fv Po 301 20).toInt := ti_ge_n c4
    refine mp_a (a_iload_n dX7_collides_10 rfl) (mpp 11 rfl ?_)
    refine mp_a (a_iload_n dX7_collides_11 rfl) (mpp 12 rfl ?_)
    refine mp_Tb (t := 49) (j_icmp_eq dX7_collides_12) (by decide) (fun c14 => ?_) (fun c14 => mpp 15 rfl ?_)
    · have c14 : v2.toInt = t1.toInt := ti_eq c14
      obtain ⟨z15, h16⟩ := ti_ex (v2 + 1 : Int32)
      have wz15 := ti_full z15
      refine mp_a (a_iinc (v := z15) (L' := [(2, .int z15), (0, .ref 301), (1, .int t1)]) dX7_collides_49 (by decide) rfl h16 rfl) (mpp 52 rfl ?_)
      try have e17 : z15.toInt = v2.toInt + 1 := ti_addz h16 rfl rfl (by omega) (by omega)
      refine mp_a (a_goto (t := 2) dX7_collides_52 (by decide)) ?_
      refine MEvP.less (L := [(0, .ref 301), (1, .int t1), (2, .int z15)]) rfl rfl ⟨rfl, rfl, rfl, trivial⟩ ?_
      have i18 : ∀ i : Nat, i < z15.toInt.toNat → ¬ i = t1.toInt.toNat → ¬ i = t1.toInt.toNat + 1 → ¬ PI1 (pM Po) (oM Po) t1.toInt.toNat i := fun i hi h1 h2 => if e : i = v2.toInt.toNat then by subst e; exact (absurd (show v2.toInt.toNat = t1.toInt.toNat ∨ v2.toInt.toNat = t1.toInt.toNat + 1 from by omega) (fun q => q.elim h1 h2)) else i_0 i (by omega) h1 h2
      have i19 : 0 ≤ z15.toInt := by omega
      exact ih _ (by omega) _ i18 i19 rfl
    · have c14 : v2.toInt ≠ t1.toInt := ti_eq_n c14
      refine mp_a (a_iload_n dX7_collides_15 rfl) (mpp 16 rfl ?_)
      refine mp_a (a_iload_n dX7_collides_16 rfl) (mpp 17 rfl ?_)
      refine mp_a (a_iconst (v := 1) dX7_collides_17 rfl) (mpp 18 rfl ?_)
      obtain ⟨z20, h21⟩ := ti_ex (t1 + 1 : Int32)
      have wz20 := ti_full z20
      refine mp_t (s_iadd (v := z20) dX7_collides_18 h21) (mpp 19 rfl ?_)
      try have e22 : z20.toInt = t1.toInt + 1 := ti_addz h21 rfl rfl (by omega) (by omega)
      refine mp_Tb (t := 49) (j_icmp_eq dX7_collides_19) (by decide) (fun c23 => ?_) (fun c23 => mpp 22 rfl ?_)
      · have c23 : v2.toInt = z20.toInt := ti_eq c23
        obtain ⟨z24, h25⟩ := ti_ex (v2 + 1 : Int32)
        have wz24 := ti_full z24
        refine mp_a (a_iinc (v := z24) (L' := [(2, .int z24), (0, .ref 301), (1, .int t1)]) dX7_collides_49 (by decide) rfl h25 rfl) (mpp 52 rfl ?_)
        try have e26 : z24.toInt = v2.toInt + 1 := ti_addz h25 rfl rfl (by omega) (by omega)
        refine mp_a (a_goto (t := 2) dX7_collides_52 (by decide)) ?_
        refine MEvP.less (L := [(0, .ref 301), (1, .int t1), (2, .int z24)]) rfl rfl ⟨rfl, rfl, rfl, trivial⟩ ?_
        have i27 : ∀ i : Nat, i < z24.toInt.toNat → ¬ i = t1.toInt.toNat → ¬ i = t1.toInt.toNat + 1 → ¬ PI1 (pM Po) (oM Po) t1.toInt.toNat i := fun i hi h1 h2 => if e : i = v2.toInt.toNat then by subst e; exact (absurd (show v2.toInt.toNat = t1.toInt.toNat ∨ v2.toInt.toNat = t1.toInt.toNat + 1 from by omega) (fun q => q.elim h1 h2)) else i_0 i (by omega) h1 h2
        have i28 : 0 ≤ z24.toInt := by omega
        exact ih _ (by omega) _ i27 i28 rfl
      · have c23 : v2.toInt ≠ z20.toInt := ti_eq_n c23
        refine mp_a (a_aload_n dX7_collides_22 rfl) (mpp 23 rfl ?_)
        refine mp_a (a_iload_n dX7_collides_23 rfl) (mpp 24 rfl ?_)
        refine mp_a (a_aload_n dX7_collides_24 rfl) (mpp 25 rfl ?_)
        refine mt_getU (i := 40) (k := 17) (A := 312) hT dX7_collides_25 rfl rl_301 (by decide) rfl (by decide) rfl un_28 (mpp 28 rfl ?_)
        refine mp_a (a_iload_n dX7_collides_28 rfl) (mpp 29 rfl ?_)
        refine mp_a (a_iconst (v := 1) dX7_collides_29 rfl) (mpp 30 rfl ?_)
        obtain ⟨z29, h30⟩ := ti_ex (t1 + 1 : Int32)
        have wz29 := ti_full z29
        refine mp_t (s_iadd (v := z29) dX7_collides_30 h30) (mpp 31 rfl ?_)
        try have e31 : z29.toInt = t1.toInt + 1 := ti_addz h30 rfl rfl (by omega) (by omega)
        refine mt_ial (n := 8) hT dX7_collides_31 rl_312 (by decide) rfl rfl (by omega) (by omega) rfl (fun g32 g33 => mpp 32 rfl ?_)
        have p34 : 0 ≤ v2.toInt := by omega
        have p35 : v2.toInt ≤ 6 := by omega
        refine mt_callv (i := 258) (q' := q_204) (As := [.int v2, .int (fv Po 312 z29.toInt.toNat)]) (rest := []) hT dX7_collides_32 rfl qm_204 (by decide) rfl rl_301 (by decide) rfl (Nat.le_of_ble_eq_true rfl) rfl ⟨rfl, rfl⟩ ⟨Nat.le_of_ble_eq_true rfl, Nat.le_of_ble_eq_true rfl⟩ (EvP.mono (by decide) (c_M_reachesOver hT p34 p35 )) (fun r36 P37 g38 => mpp 35 rfl ?_)
        obtain ⟨⟨x39, rfl, g40⟩, e41⟩ := g38
        have e41 := e41.symm
        subst e41
        have wx39 := ti_full x39
        replace g40 : 0 ≤ x39.toInt ∧ x39.toInt ≤ 1 ∧ ((x39.toInt = 1 ∧ (min (fv Po 312 v2.toInt.toNat).toInt (fv Po 312 (v2.toInt.toNat + 1)).toInt < (fv Po 312 z29.toInt.toNat).toInt ∧ (fv Po 312 z29.toInt.toNat).toInt < max (fv Po 312 v2.toInt.toNat).toInt (fv Po 312 (v2.toInt.toNat + 1)).toInt)) ∨ (x39.toInt = 0 ∧ ¬ (min (fv Po 312 v2.toInt.toNat).toInt (fv Po 312 (v2.toInt.toNat + 1)).toInt < (fv Po 312 z29.toInt.toNat).toInt ∧ (fv Po 312 z29.toInt.toNat).toInt < max (fv Po 312 v2.toInt.toNat).toInt (fv Po 312 (v2.toInt.toNat + 1)).toInt))) := g40
        show MEvP _ none q_203 35 [(0, .ref 301), (1, .int t1), (2, .int v2)] [.int x39] _ _ _ _
        refine mp_Tb (t := 49) (j_if_eq dX7_collides_35) (by decide) (fun c42 => ?_) (fun c42 => mpp 38 rfl ?_)
        · have c42 : x39.toInt = 0 := ti_eq c42
          obtain ⟨z43, h44⟩ := ti_ex (v2 + 1 : Int32)
          have wz43 := ti_full z43
          refine mp_a (a_iinc (v := z43) (L' := [(2, .int z43), (0, .ref 301), (1, .int t1)]) dX7_collides_49 (by decide) rfl h44 rfl) (mpp 52 rfl ?_)
          try have e45 : z43.toInt = v2.toInt + 1 := ti_addz h44 rfl rfl (by omega) (by omega)
          refine mp_a (a_goto (t := 2) dX7_collides_52 (by decide)) ?_
          refine MEvP.less (L := [(0, .ref 301), (1, .int t1), (2, .int z43)]) rfl rfl ⟨rfl, rfl, rfl, trivial⟩ ?_
          have w47_ := g40
          rw [show z29.toInt.toNat = t1.toInt.toNat + 1 from by omega] at w47_
          have i46 : ∀ i : Nat, i < z43.toInt.toNat → ¬ i = t1.toInt.toNat → ¬ i = t1.toInt.toNat + 1 → ¬ PI1 (pM Po) (oM Po) t1.toInt.toNat i := fun i hi h1 h2 => if e : i = v2.toInt.toNat then by subst e; exact (fun q => (w47_.2.2.resolve_left (by omega)).2 ⟨q.1, q.2.1⟩) else i_0 i (by omega) h1 h2
          have i48 : 0 ≤ z43.toInt := by omega
          exact ih _ (by omega) _ i46 i48 rfl
        · have c42 : x39.toInt ≠ 0 := ti_eq_n c42
          refine mp_a (a_aload_n dX7_collides_38 rfl) (mpp 39 rfl ?_)
          refine mp_a (a_iload_n dX7_collides_39 rfl) (mpp 40 rfl ?_)
          refine mp_a (a_iload_n dX7_collides_40 rfl) (mpp 41 rfl ?_)
          have p49 : 0 ≤ v2.toInt := by omega
          have p50 : v2.toInt ≤ 6 := by omega
          have p51 : 0 ≤ t1.toInt := by omega
          have p52 : t1.toInt ≤ 5 := by omega
          refine mt_callv (i := 261) (q' := q_205) (As := [.int v2, .int t1]) (rest := []) hT dX7_collides_41 rfl qm_205 (by decide) rfl rl_301 (by decide) rfl (Nat.le_of_ble_eq_true rfl) rfl ⟨rfl, rfl⟩ ⟨Nat.le_of_ble_eq_true rfl, Nat.le_of_ble_eq_true rfl⟩ (EvP.mono (by decide) (c_M_isBetween hT p49 p50 p51 p52 )) (fun r53 P54 g55 => mpp 44 rfl ?_)
          obtain ⟨⟨x56, rfl, g57⟩, e58⟩ := g55
          have e58 := e58.symm
          subst e58
          have wx56 := ti_full x56
          replace g57 : 0 ≤ x56.toInt ∧ x56.toInt ≤ 1 ∧ ((x56.toInt = 1 ∧ BT (oM Po) v2.toInt.toNat t1.toInt.toNat) ∨ (x56.toInt = 0 ∧ ¬ BT (oM Po) v2.toInt.toNat t1.toInt.toNat)) := g57
          show MEvP _ none q_203 44 [(0, .ref 301), (1, .int t1), (2, .int v2)] [.int x56] _ _ _ _
          refine mp_Tb (t := 49) (j_if_eq dX7_collides_44) (by decide) (fun c59 => ?_) (fun c59 => mpp 47 rfl ?_)
          · have c59 : x56.toInt = 0 := ti_eq c59
            obtain ⟨z60, h61⟩ := ti_ex (v2 + 1 : Int32)
            have wz60 := ti_full z60
            refine mp_a (a_iinc (v := z60) (L' := [(2, .int z60), (0, .ref 301), (1, .int t1)]) dX7_collides_49 (by decide) rfl h61 rfl) (mpp 52 rfl ?_)
            try have e62 : z60.toInt = v2.toInt + 1 := ti_addz h61 rfl rfl (by omega) (by omega)
            refine mp_a (a_goto (t := 2) dX7_collides_52 (by decide)) ?_
            refine MEvP.less (L := [(0, .ref 301), (1, .int t1), (2, .int z60)]) rfl rfl ⟨rfl, rfl, rfl, trivial⟩ ?_
            have w64_ := g40
            rw [show z29.toInt.toNat = t1.toInt.toNat + 1 from by omega] at w64_
            have i63 : ∀ i : Nat, i < z60.toInt.toNat → ¬ i = t1.toInt.toNat → ¬ i = t1.toInt.toNat + 1 → ¬ PI1 (pM Po) (oM Po) t1.toInt.toNat i := fun i hi h1 h2 => if e : i = v2.toInt.toNat then by subst e; exact (fun q => (g57.2.2.resolve_left (by omega)).2 q.2.2) else i_0 i (by omega) h1 h2
            have i65 : 0 ≤ z60.toInt := by omega
            exact ih _ (by omega) _ i63 i65 rfl
          · have c59 : x56.toInt ≠ 0 := ti_eq_n c59
            refine mp_a (a_iconst (v := 1) dX7_collides_47 rfl) (mpp 48 rfl ?_)
            have w67_ := g40
            rw [show z29.toInt.toNat = t1.toInt.toNat + 1 from by omega] at w67_
            have u66 : 0 ≤ (1 : Int) ∧ (1 : Int) ≤ 1 ∧ (((1 : Int) = 1 ∧ (PIm (nM Po) (pM Po) (oM Po) t1.toInt.toNat ∨ CRm (nM Po) (pM Po) (oM Po) t1.toInt.toNat)) ∨ ((1 : Int) = 0 ∧ ¬ (PIm (nM Po) (pM Po) (oM Po) t1.toInt.toNat ∨ CRm (nM Po) (pM Po) (oM Po) t1.toInt.toNat))) := ⟨by omega, by omega, Or.inl ⟨rfl, Or.inl ⟨v2.toInt.toNat, (show v2.toInt.toNat < (fv Po 301 20).toInt.toNat from by omega), by omega, by omega, (w67_.2.2.resolve_right (by omega)).2.1, (w67_.2.2.resolve_right (by omega)).2.2, (g57.2.2.resolve_right (by omega)).2⟩⟩⟩
            exact mp_iret ⟨⟨_, rfl, u66⟩, rfl⟩ dX7_collides_48 (Or.inr ⟨rfl, by decide⟩)

set_option maxHeartbeats 4000000 in
theorem c_M_collides {Po : mP} {t1 : Int32} (hT : Typ Po)  (hp0 : 0 ≤ t1.toInt) (hp1 : t1.toInt + 2 ≤ (fv Po 301 20).toInt) (hp2 : (fv Po 301 20).toInt ≤ 7)  : EvP 3 203 [.ref 301, .int t1] Po (fun r P' => (∃ x : Int32, r = some (.int x) ∧ (0 ≤ x.toInt ∧ x.toInt ≤ 1 ∧ ((x.toInt = 1 ∧ (PIm (nM Po) (pM Po) (oM Po) t1.toInt.toNat ∨ CRm (nM Po) (pM Po) (oM Po) t1.toInt.toNat)) ∨ (x.toInt = 0 ∧ ¬ (PIm (nM Po) (pM Po) (oM Po) t1.toInt.toNat ∨ CRm (nM Po) (pM Po) (oM Po) t1.toInt.toNat))))) ∧ P' = Po) := by
  refine EvP.of qm_203 (Nat.le_of_ble_eq_true rfl) rfl ?_
  show MEvP _ none q_203 0 [(0, .ref 301), (1, .int t1)] [] _ 0 0 _
  have w_t1 := ti_full t1
  have g1 : (0 : Int) ≤ (fv Po 301 20).toInt ∧ (fv Po 301 20).toInt ≤ 8 := Typ.rng hT rl_301 (by decide) (by decide) rfl
  refine mp_a (a_iconst (v := 0) dX7_collides_0 rfl) (mpp 1 rfl ?_)
  refine mp_a (a_istore_n (L' := [(2, .int 0), (0, .ref 301), (1, .int t1)]) dX7_collides_1 (by decide) rfl) (mpp 2 rfl ?_)
  refine MEvP.less (L := [(0, .ref 301), (1, .int t1), (2, .int 0)]) rfl rfl ⟨rfl, rfl, rfl, trivial⟩ ?_
  have i2 : ∀ i : Nat, i < (0 : Int).toNat → ¬ i = t1.toInt.toNat → ¬ i = t1.toInt.toNat + 1 → ¬ PI1 (pM Po) (oM Po) t1.toInt.toNat i := fun i hi => absurd hi (Nat.not_lt_zero i)
  have i3 : 0 ≤ (0 : Int) := by omega
  exact c_M_collides_l2 hT  hp0 hp1 hp2 _ _ i2 i3 rfl

set_option maxHeartbeats 4000000 in
theorem c_M_isPossible_l2 {Po : mP}  (hT : Typ Po)  (hp0 : (fv Po 301 20).toInt ≤ 7)  : ∀ (n : Nat) (v1 : Int32), (∀ c : Nat, c < v1.toInt.toNat → ¬ (PIm (nM Po) (pM Po) (oM Po) c ∨ CRm (nM Po) (pM Po) (oM Po) c)) → (v1.toInt ≤ 8) → (0 ≤ v1.toInt) → (2147483647 - v1.toInt).toNat = n → MEvP 3 none q_202 2 [(0, .ref 301), (1, .int v1)] [] Po 0 0 (fun r P' => (∃ x : Int32, r = some (.int x) ∧ (0 ≤ x.toInt ∧ x.toInt ≤ 1 ∧ ((x.toInt = 1 ∧ psM Po (oM Po)) ∨ (x.toInt = 0 ∧ ¬ psM Po (oM Po))))) ∧ P' = Po) := by
  intro n
  induction n using Nat.strongRecOn with | _ n ih => ?_
  intro v1 i_0 i_1 i_2 hm
  have w_v1 := ti_full v1
  have g1 : (0 : Int) ≤ (fv Po 301 20).toInt ∧ (fv Po 301 20).toInt ≤ 8 := Typ.rng hT rl_301 (by decide) (by decide) rfl
  refine mp_a (a_iload_n dX7_isPossible_2 rfl) (mpp 3 rfl ?_)
  refine mp_a (a_aload_n dX7_isPossible_3 rfl) (mpp 4 rfl ?_)
  refine mt_getI (i := 255) (k := 20) hT dX7_isPossible_4 rfl rl_301 (by decide) rfl (by decide) rfl (fun g2 g3 => mpp 7 rfl ?_)
  refine mp_a (a_iconst (v := 1) dX7_isPossible_7 rfl) (mpp 8 rfl ?_)
  obtain ⟨z4, h5⟩ := ti_ex ((fv Po 301 20) - 1 : Int32)
  have wz4 := ti_full z4
  refine mp_t (s_isub (v := z4) dX7_isPossible_8 h5) (mpp 9 rfl ?_)
  try have e6 : z4.toInt = (fv Po 301 20).toInt - 1 := ti_subz h5 rfl rfl (by omega) (by omega)
  refine mp_Tb (t := 28) (j_icmp_ge dX7_isPossible_9) (by decide) (fun c7 => ?_) (fun c7 => mpp 12 rfl ?_)
  · have c7 : v1.toInt ≥ z4.toInt := ti_ge c7
    refine mp_a (a_iconst (v := 1) dX7_isPossible_28 rfl) (mpp 29 rfl ?_)
    have u8 : 0 ≤ (1 : Int) ∧ (1 : Int) ≤ 1 ∧ (((1 : Int) = 1 ∧ psM Po (oM Po)) ∨ ((1 : Int) = 0 ∧ ¬ psM Po (oM Po))) := ⟨by omega, by omega, Or.inl ⟨rfl, fun c hc => i_0 c (by have hc : c + 1 < (fv Po 301 20).toInt.toNat := hc; omega)⟩⟩
    exact mp_iret ⟨⟨_, rfl, u8⟩, rfl⟩ dX7_isPossible_29 (Or.inr ⟨rfl, by decide⟩)
  · have c7 : v1.toInt < z4.toInt := ti_ge_n c7
    refine mp_a (a_aload_n dX7_isPossible_12 rfl) (mpp 13 rfl ?_)
    refine mp_a (a_iload_n dX7_isPossible_13 rfl) (mpp 14 rfl ?_)
    have p9 : 0 ≤ v1.toInt := by omega
    have p10 : v1.toInt + 2 ≤ (fv Po 301 20).toInt := by omega
    have p11 : (fv Po 301 20).toInt ≤ 7 := by omega
    refine mt_callv (i := 264) (q' := q_203) (As := [.int v1]) (rest := []) hT dX7_isPossible_14 rfl qm_203 (by decide) rfl rl_301 (by decide) rfl (Nat.le_of_ble_eq_true rfl) rfl ⟨rfl, rfl⟩ ⟨Nat.le_of_ble_eq_true rfl, Nat.le_of_ble_eq_true rfl⟩ (EvP.mono (by decide) (c_M_collides hT p9 p10 p11 )) (fun r12 P13 g14 => mpp 17 rfl ?_)
    obtain ⟨⟨x15, rfl, g16⟩, e17⟩ := g14
    have e17 := e17.symm
    subst e17
    have wx15 := ti_full x15
    replace g16 : 0 ≤ x15.toInt ∧ x15.toInt ≤ 1 ∧ ((x15.toInt = 1 ∧ (PIm (nM Po) (pM Po) (oM Po) v1.toInt.toNat ∨ CRm (nM Po) (pM Po) (oM Po) v1.toInt.toNat)) ∨ (x15.toInt = 0 ∧ ¬ (PIm (nM Po) (pM Po) (oM Po) v1.toInt.toNat ∨ CRm (nM Po) (pM Po) (oM Po) v1.toInt.toNat))) := g16
    show MEvP _ none q_202 17 [(0, .ref 301), (1, .int v1)] [.int x15] _ _ _ _
    refine mp_Tb (t := 22) (j_if_eq dX7_isPossible_17) (by decide) (fun c18 => ?_) (fun c18 => mpp 20 rfl ?_)
    · have c18 : x15.toInt = 0 := ti_eq c18
      obtain ⟨z19, h20⟩ := ti_ex (v1 + 1 : Int32)
      have wz19 := ti_full z19
      refine mp_a (a_iinc (v := z19) (L' := [(1, .int z19), (0, .ref 301)]) dX7_isPossible_22 (by decide) rfl h20 rfl) (mpp 25 rfl ?_)
      try have e21 : z19.toInt = v1.toInt + 1 := ti_addz h20 rfl rfl (by omega) (by omega)
      refine mp_a (a_goto (t := 2) dX7_isPossible_25 (by decide)) ?_
      refine MEvP.less (L := [(0, .ref 301), (1, .int z19)]) rfl rfl ⟨rfl, rfl, trivial⟩ ?_
      have i22 : ∀ c : Nat, c < z19.toInt.toNat → ¬ (PIm (nM Po) (pM Po) (oM Po) c ∨ CRm (nM Po) (pM Po) (oM Po) c) := fun c hc => if e : c = v1.toInt.toNat then by subst e; exact (g16.2.2.resolve_left (by omega)).2 else i_0 c (by omega)
      have i23 : z19.toInt ≤ 8 := by omega
      have i24 : 0 ≤ z19.toInt := by omega
      exact ih _ (by omega) _ i22 i23 i24 rfl
    · have c18 : x15.toInt ≠ 0 := ti_eq_n c18
      refine mp_a (a_iconst (v := 0) dX7_isPossible_20 rfl) (mpp 21 rfl ?_)
      have u25 : 0 ≤ (0 : Int) ∧ (0 : Int) ≤ 1 ∧ (((0 : Int) = 1 ∧ psM Po (oM Po)) ∨ ((0 : Int) = 0 ∧ ¬ psM Po (oM Po))) := ⟨by omega, by omega, Or.inr ⟨rfl, fun h => h v1.toInt.toNat (by show v1.toInt.toNat + 1 < (fv Po 301 20).toInt.toNat; omega) (g16.2.2.resolve_right (by omega)).2⟩⟩
      exact mp_iret ⟨⟨_, rfl, u25⟩, rfl⟩ dX7_isPossible_21 (Or.inr ⟨rfl, by decide⟩)

set_option maxHeartbeats 4000000 in
theorem c_M_isPossible {Po : mP}  (hT : Typ Po)  (hp0 : (fv Po 301 20).toInt ≤ 7)  : EvP 4 202 [.ref 301] Po (fun r P' => (∃ x : Int32, r = some (.int x) ∧ (0 ≤ x.toInt ∧ x.toInt ≤ 1 ∧ ((x.toInt = 1 ∧ psM Po (oM Po)) ∨ (x.toInt = 0 ∧ ¬ psM Po (oM Po))))) ∧ P' = Po) := by
  refine EvP.of qm_202 (Nat.le_of_ble_eq_true rfl) rfl ?_
  show MEvP _ none q_202 0 [(0, .ref 301)] [] _ 0 0 _
  have g1 : (0 : Int) ≤ (fv Po 301 20).toInt ∧ (fv Po 301 20).toInt ≤ 8 := Typ.rng hT rl_301 (by decide) (by decide) rfl
  refine mp_a (a_iconst (v := 0) dX7_isPossible_0 rfl) (mpp 1 rfl ?_)
  refine mp_a (a_istore_n (L' := [(1, .int 0), (0, .ref 301)]) dX7_isPossible_1 (by decide) rfl) (mpp 2 rfl ?_)
  refine MEvP.less (L := [(0, .ref 301), (1, .int 0)]) rfl rfl ⟨rfl, rfl, trivial⟩ ?_
  have i2 : ∀ c : Nat, c < (0 : Int).toNat → ¬ (PIm (nM Po) (pM Po) (oM Po) c ∨ CRm (nM Po) (pM Po) (oM Po) c) := fun c hc => absurd hc (Nat.not_lt_zero c)
  have i3 : (0 : Int) ≤ 8 := by omega
  have i4 : 0 ≤ (0 : Int) := by omega
  exact c_M_isPossible_l2 hT  hp0 _ _ i2 i3 i4 rfl

set_option maxHeartbeats 4000000 in
theorem c_M_gives_r0_l17 {Po : mP} {t1 : Int32} (hp0 : 0 ≤ t1.toInt) (hp1 : (fv Po 301 20).toInt = t1.toInt + 0) (hp2 : (fv Po 301 20).toInt ≤ 7) (hp3 : TKN Po t1.toInt.toNat) (hp4 : 0 ≤ (fv Po 301 21).toInt) (hp5 : (fv Po 301 21).toInt + gMc Po 0 (oM Po) ≤ 2000000)  : ∀ (n : Nat) (v2 : Int32), ∀ (P : mP), Typ P → KW [1109, 1728] Po P → (∀ j : Nat, j < v2.toInt.toNat → fv P 311 j = fv Po 310 j) → (v2.toInt = 0 ∨ (fv Po 301 21).toInt = 0) → (v2.toInt = 0 → ∀ j : Nat, fv P 311 j = fv Po 311 j) → (psM Po (oM Po)) → ((fv P 301 21).toInt = (fv Po 301 21).toInt ∧ (fv P 301 20).toInt = (fv Po 301 20).toInt) → (∀ j : Nat, fv P 310 j = fv Po 310 j) → (v2.toInt ≤ (fv Po 301 20).toInt) → (0 ≤ v2.toInt) → (2147483647 - v2.toInt).toNat = n → MEvP 4 none q_201 17 [(0, .ref 301), (1, .int t1), (2, .int v2)] [] P 0 0 (fun r P' => (r = none ∧ (GVP Po P' t1.toInt.toNat 0)) ∧ Typ P' ∧ KW [1109, 1728] Po P' ∧ True) := by
  intro n
  induction n using Nat.strongRecOn with | _ n ih => ?_
  intro v2 P hT hK i_0 i_1 i_2 i_3 i_4 i_5 i_6 i_7 hm
  have w_t1 := ti_full t1
  have w_v2 := ti_full v2
  refine mp_a (a_iload_n dX7_gives_17 rfl) (mpp 18 rfl ?_)
  refine mp_a (a_aload_n dX7_gives_18 rfl) (mpp 19 rfl ?_)
  have e1 : (fv P 301 20).toInt = (fv Po 301 20).toInt := congrArg Int32.toInt (KW.at hK 20 rl_301 rfl)
  refine mt_getI (i := 255) (k := 20) hT dX7_gives_19 rfl rl_301 (by decide) rfl (by decide) rfl (fun g2 g3 => mpp 22 rfl ?_)
  refine mp_Tb (t := 50) (j_icmp_ge dX7_gives_22) (by decide) (fun c4 => ?_) (fun c4 => mpp 25 rfl ?_)
  · have c4 : v2.toInt ≥ (fv P 301 20).toInt := ti_ge c4
    refine mp_a (a_aload_n dX7_gives_50 rfl) (mpp 51 rfl ?_)
    refine mp_t (s_dup dX7_gives_51 rfl) (mpp 52 rfl ?_)
    have g5 := ti_full (fv P 301 21)
    refine mt_getI (i := 270) (k := 21) hT dX7_gives_52 rfl rl_301 (by decide) rfl (by decide) rfl (fun g6 g7 => mpp 55 rfl ?_)
    refine mp_a (a_iconst (v := 1) dX7_gives_55 rfl) (mpp 56 rfl ?_)
    obtain ⟨z8, h9⟩ := ti_ex ((fv P 301 21) + 1 : Int32)
    have wz8 := ti_full z8
    refine mp_t (s_iadd (v := z8) dX7_gives_56 h9) (mpp 57 rfl ?_)
    try have e10 : z8.toInt = (fv P 301 21).toInt + 1 := ti_addz h9 rfl rfl (by omega) (by omega)
    refine mt_putI (i := 270) (k := 21) (x := z8) hT dX7_gives_57 rfl rl_301 (by decide) rfl (by decide) rfl (ti_full z8) rfl rfl (fun P11 hT12 f13 f14 f15 => mpp 60 rfl ?_)
    have k16 : KW [1109, 1728] Po P11 := KW.step hK rl_301 rfl f14 f15
    have e17 : (fv P11 301 21).toInt = z8.toInt := congrArg Int32.toInt f13
    have w19_ : (fv P11 301 21).toInt = (fv Po 301 21).toInt + 1 := by omega
    have u18 : GVP Po P11 t1.toInt.toNat 0 := GVP.leaf1 i_3 w19_ (fun j => (f14 310 j (by omega)).trans (i_5 j)) (fun l => (f14 313 l (by omega)).trans (KW.at hK l rl_313 rfl)) (if z : (fv Po 301 21).toInt = 0 then Or.inl ⟨z, fun j hj => (f14 311 j (by omega)).trans (i_0 j (by have hj : j < (fv Po 301 20).toInt.toNat := hj; omega))⟩ else Or.inr ⟨z, fun j => (f14 311 j (by omega)).trans (i_2 (by omega) j)⟩)
    exact mp_ret ⟨⟨rfl, u18⟩, hT12, k16, trivial⟩ dX7_gives_60 rfl
  · have c4 : v2.toInt < (fv P 301 20).toInt := ti_ge_n c4
    refine mp_a (a_aload_n dX7_gives_25 rfl) (mpp 26 rfl ?_)
    have g20 := ti_full (fv P 301 21)
    refine mt_getI (i := 270) (k := 21) hT dX7_gives_26 rfl rl_301 (by decide) rfl (by decide) rfl (fun g21 g22 => mpp 29 rfl ?_)
    refine mp_Tb (t := 50) (j_if_ne dX7_gives_29) (by decide) (fun c23 => ?_) (fun c23 => mpp 32 rfl ?_)
    · have c23 : (fv P 301 21).toInt ≠ 0 := ti_ne c23
      refine mp_a (a_aload_n dX7_gives_50 rfl) (mpp 51 rfl ?_)
      refine mp_t (s_dup dX7_gives_51 rfl) (mpp 52 rfl ?_)
      refine mt_getI (i := 270) (k := 21) hT dX7_gives_52 rfl rl_301 (by decide) rfl (by decide) rfl (fun g24 g25 => mpp 55 rfl ?_)
      refine mp_a (a_iconst (v := 1) dX7_gives_55 rfl) (mpp 56 rfl ?_)
      obtain ⟨z26, h27⟩ := ti_ex ((fv P 301 21) + 1 : Int32)
      have wz26 := ti_full z26
      refine mp_t (s_iadd (v := z26) dX7_gives_56 h27) (mpp 57 rfl ?_)
      try have e28 : z26.toInt = (fv P 301 21).toInt + 1 := ti_addz h27 rfl rfl (by omega) (by omega)
      refine mt_putI (i := 270) (k := 21) (x := z26) hT dX7_gives_57 rfl rl_301 (by decide) rfl (by decide) rfl (ti_full z26) rfl rfl (fun P29 hT30 f31 f32 f33 => mpp 60 rfl ?_)
      have k34 : KW [1109, 1728] Po P29 := KW.step hK rl_301 rfl f32 f33
      have e35 : (fv P29 301 21).toInt = z26.toInt := congrArg Int32.toInt f31
      have w37_ : (fv P29 301 21).toInt = (fv Po 301 21).toInt + 1 := by omega
      have u36 : GVP Po P29 t1.toInt.toNat 0 := GVP.leaf1 i_3 w37_ (fun j => (f32 310 j (by omega)).trans (i_5 j)) (fun l => (f32 313 l (by omega)).trans (KW.at hK l rl_313 rfl)) (if z : (fv Po 301 21).toInt = 0 then Or.inl ⟨z, fun j hj => (f32 311 j (by omega)).trans (i_0 j (by have hj : j < (fv Po 301 20).toInt.toNat := hj; omega))⟩ else Or.inr ⟨z, fun j => (f32 311 j (by omega)).trans (i_2 (by omega) j)⟩)
      exact mp_ret ⟨⟨rfl, u36⟩, hT30, k34, trivial⟩ dX7_gives_60 rfl
    · have c23 : (fv P 301 21).toInt = 0 := ti_ne_n c23
      refine mp_a (a_aload_n dX7_gives_32 rfl) (mpp 33 rfl ?_)
      refine mt_getU (i := 37) (k := 16) (A := 311) hT dX7_gives_33 rfl rl_301 (by decide) rfl (by decide) rfl un_27 (mpp 36 rfl ?_)
      refine mp_a (a_iload_n dX7_gives_36 rfl) (mpp 37 rfl ?_)
      refine mp_a (a_aload_n dX7_gives_37 rfl) (mpp 38 rfl ?_)
      refine mt_getU (i := 34) (k := 15) (A := 310) hT dX7_gives_38 rfl rl_301 (by decide) rfl (by decide) rfl un_26 (mpp 41 rfl ?_)
      refine mp_a (a_iload_n dX7_gives_41 rfl) (mpp 42 rfl ?_)
      refine mt_ial (n := 7) hT dX7_gives_42 rl_310 (by decide) rfl rfl (by omega) (by omega) rfl (fun g38 g39 => mpp 43 rfl ?_)
      refine mt_ias (n := 7) hT dX7_gives_43 rl_311 (by decide) rfl rfl (by omega) (by omega) rfl (ti_full (fv P 310 v2.toInt.toNat)) (fun P40 hT41 f42 f43 f44 => mpp 44 rfl ?_)
      have k45 : KW [1109, 1728] Po P40 := KW.step hK rl_311 rfl f43 f44
      obtain ⟨z46, h47⟩ := ti_ex (v2 + 1 : Int32)
      have wz46 := ti_full z46
      refine mp_a (a_iinc (v := z46) (L' := [(2, .int z46), (0, .ref 301), (1, .int t1)]) dX7_gives_44 (by decide) rfl h47 rfl) (mpp 47 rfl ?_)
      try have e48 : z46.toInt = v2.toInt + 1 := ti_addz h47 rfl rfl (by omega) (by omega)
      refine mp_a (a_goto (t := 17) dX7_gives_47 (by decide)) ?_
      refine MEvP.less (L := [(0, .ref 301), (1, .int t1), (2, .int z46)]) rfl rfl ⟨rfl, rfl, rfl, trivial⟩ ?_
      have i49 : ∀ j : Nat, j < z46.toInt.toNat → fv P40 311 j = fv Po 310 j := fun j hj => if e : j = v2.toInt.toNat then by subst e; exact f42.trans (i_5 v2.toInt.toNat) else (f43 311 j (by omega)).trans (i_0 j (by omega))
      have i50 : z46.toInt = 0 ∨ (fv Po 301 21).toInt = 0 := by omega
      have i51 : z46.toInt = 0 → ∀ j : Nat, fv P40 311 j = fv Po 311 j := fun h => by omega
      have i52 : psM Po (oM Po) := i_3
      have i53 : (fv P40 301 21).toInt = (fv Po 301 21).toInt ∧ (fv P40 301 20).toInt = (fv Po 301 20).toInt := ⟨(congrArg Int32.toInt (f43 301 21 (by omega))).trans i_4.1, (congrArg Int32.toInt (f43 301 20 (by omega))).trans i_4.2⟩
      have i54 : ∀ j : Nat, fv P40 310 j = fv Po 310 j := fun j => (f43 310 j (by omega)).trans (i_5 j)
      have i55 : z46.toInt ≤ (fv Po 301 20).toInt := by omega
      have i56 : 0 ≤ z46.toInt := by omega
      exact ih _ (by omega) _ P40 hT41 k45 i49 i50 i51 i52 i53 i54 i55 i56 rfl

set_option maxHeartbeats 4000000 in
theorem c_M_gives_r0 {Po : mP} {t1 : Int32} (hT : Typ Po)  (hp0 : 0 ≤ t1.toInt) (hp1 : (fv Po 301 20).toInt = t1.toInt + 0) (hp2 : (fv Po 301 20).toInt ≤ 7) (hp3 : TKN Po t1.toInt.toNat) (hp4 : 0 ≤ (fv Po 301 21).toInt) (hp5 : (fv Po 301 21).toInt + gMc Po 0 (oM Po) ≤ 2000000)  : EvP 5 201 [.ref 301, .int t1] Po (fun r P' => (r = none ∧ (GVP Po P' t1.toInt.toNat 0)) ∧ Typ P' ∧ KW [1109, 1728] Po P' ∧ True) := by
  refine EvP.of qm_201 (Nat.le_of_ble_eq_true rfl) rfl ?_
  show MEvP _ none q_201 0 [(0, .ref 301), (1, .int t1)] [] _ 0 0 _
  have w_t1 := ti_full t1
  have g1 : (0 : Int) ≤ (fv Po 301 20).toInt ∧ (fv Po 301 20).toInt ≤ 8 := Typ.rng hT rl_301 (by decide) (by decide) rfl
  have g2 := ti_full (fv Po 301 21)
  refine mp_a (a_iload_n dX7_gives_0 rfl) (mpp 1 rfl ?_)
  refine mp_a (a_aload_n dX7_gives_1 rfl) (mpp 2 rfl ?_)
  refine mt_getI (i := 255) (k := 20) hT dX7_gives_2 rfl rl_301 (by decide) rfl (by decide) rfl (fun g3 g4 => mpp 5 rfl ?_)
  refine mp_Tb (t := 61) (j_icmp_ne dX7_gives_5) (by decide) (fun c5 => ?_) (fun c5 => mpp 8 rfl ?_)
  · have c5 : t1.toInt ≠ (fv Po 301 20).toInt := ti_ne c5
    exfalso
    omega
  · have c5 : t1.toInt = (fv Po 301 20).toInt := ti_ne_n c5
    refine mp_a (a_aload_n dX7_gives_8 rfl) (mpp 9 rfl ?_)
    have p6 : (fv Po 301 20).toInt ≤ 7 := by omega
    refine mt_callv (i := 267) (q' := q_202) (As := []) (rest := []) hT dX7_gives_9 rfl qm_202 (by decide) rfl rl_301 (by decide) rfl (Nat.le_of_ble_eq_true rfl) rfl ⟨rfl, rfl⟩ ⟨Nat.le_of_ble_eq_true rfl, Nat.le_of_ble_eq_true rfl⟩ (EvP.mono (by decide) (c_M_isPossible hT p6 )) (fun r7 P8 g9 => mpp 12 rfl ?_)
    obtain ⟨⟨x10, rfl, g11⟩, e12⟩ := g9
    have e12 := e12.symm
    subst e12
    have wx10 := ti_full x10
    replace g11 : 0 ≤ x10.toInt ∧ x10.toInt ≤ 1 ∧ ((x10.toInt = 1 ∧ psM Po (oM Po)) ∨ (x10.toInt = 0 ∧ ¬ psM Po (oM Po))) := g11
    show MEvP _ none q_201 12 [(0, .ref 301), (1, .int t1)] [.int x10] _ _ _ _
    refine mp_Tb (t := 60) (j_if_eq dX7_gives_12) (by decide) (fun c13 => ?_) (fun c13 => mpp 15 rfl ?_)
    · have c13 : x10.toInt = 0 := ti_eq c13
      have u14 : GVP Po Po t1.toInt.toNat 0 := GVP.leaf0 (g11.2.2.resolve_left (by omega)).2
      exact mp_ret ⟨⟨rfl, u14⟩, hT, KW.refl, trivial⟩ dX7_gives_60 rfl
    · have c13 : x10.toInt ≠ 0 := ti_eq_n c13
      refine mp_a (a_iconst (v := 0) dX7_gives_15 rfl) (mpp 16 rfl ?_)
      refine mp_a (a_istore_n (L' := [(2, .int 0), (0, .ref 301), (1, .int t1)]) dX7_gives_16 (by decide) rfl) (mpp 17 rfl ?_)
      refine MEvP.less (L := [(0, .ref 301), (1, .int t1), (2, .int 0)]) rfl rfl ⟨rfl, rfl, rfl, trivial⟩ ?_
      have i15 : ∀ j : Nat, j < (0 : Int).toNat → fv Po 311 j = fv Po 310 j := fun j hj => absurd hj (Nat.not_lt_zero j)
      have i16 : (0 : Int) = 0 ∨ (fv Po 301 21).toInt = 0 := Or.inl rfl
      have i17 : (0 : Int) = 0 → ∀ j : Nat, fv Po 311 j = fv Po 311 j := fun _ _ => rfl
      have i18 : psM Po (oM Po) := (g11.2.2.resolve_right (by omega)).2
      have i19 : (fv Po 301 21).toInt = (fv Po 301 21).toInt ∧ (fv Po 301 20).toInt = (fv Po 301 20).toInt := ⟨rfl, rfl⟩
      have i20 : ∀ j : Nat, fv Po 310 j = fv Po 310 j := fun _ => rfl
      have i21 : (0 : Int) ≤ (fv Po 301 20).toInt := by omega
      have i22 : 0 ≤ (0 : Int) := by omega
      exact c_M_gives_r0_l17   hp0 hp1 hp2 hp3 hp4 hp5 _ _ Po hT KW.refl i15 i16 i17 i18 i19 i20 i21 i22 rfl

set_option maxHeartbeats 4000000 in
theorem c_M_isAbove {Po : mP} {t1 : Int32} (hT : Typ Po)  (hp0 : 0 ≤ t1.toInt) (hp1 : t1.toInt ≤ 7)  : EvP 4 206 [.ref 301, .int t1] Po (fun r P' => (∃ x : Int32, r = some (.int x) ∧ (0 ≤ x.toInt ∧ x.toInt ≤ 1 ∧ ((x.toInt = 1 ∧ abv (crM Po) t1.toInt.toNat) ∨ (x.toInt = 0 ∧ ¬ abv (crM Po) t1.toInt.toNat)))) ∧ P' = Po) := by
  refine EvP.of qm_206 (Nat.le_of_ble_eq_true rfl) rfl ?_
  show MEvP _ none q_206 0 [(0, .ref 301), (1, .int t1)] [] _ 0 0 _
  have w_t1 := ti_full t1
  refine mp_a (a_aload_n dX7_isAbove_0 rfl) (mpp 1 rfl ?_)
  refine mp_a (a_aload_n dX7_isAbove_1 rfl) (mpp 2 rfl ?_)
  have g1 : (0 : Int) ≤ (fv Po 301 19).toInt ∧ (fv Po 301 19).toInt ≤ 7 := Typ.rng hT rl_301 (by decide) (by decide) rfl
  refine mt_getI (i := 252) (k := 19) hT dX7_isAbove_2 rfl rl_301 (by decide) rfl (by decide) rfl (fun g2 g3 => mpp 5 rfl ?_)
  refine mp_a (a_iload_n dX7_isAbove_5 rfl) (mpp 6 rfl ?_)
  have p4 : 0 ≤ (fv Po 301 19).toInt := by omega
  have p5 : (fv Po 301 19).toInt ≤ 7 := by omega
  have p6 : 0 ≤ t1.toInt := by omega
  have p7 : t1.toInt ≤ 7 := by omega
  refine mt_callv (i := 92) (q' := q_146) (As := [.int (fv Po 301 19), .int t1]) (rest := []) hT dX7_isAbove_6 rfl qm_146 (by decide) rfl rl_301 (by decide) rfl (Nat.le_of_ble_eq_true rfl) rfl ⟨rfl, rfl⟩ ⟨Nat.le_of_ble_eq_true rfl, Nat.le_of_ble_eq_true rfl⟩ (EvP.mono (by decide) (c_M_creaseOf hT p4 p5 p6 p7 )) (fun r8 P9 g10 => mpp 9 rfl ?_)
  obtain ⟨⟨x11, rfl, g12⟩, e13⟩ := g10
  have e13 := e13.symm
  subst e13
  have wx11 := ti_full x11
  replace g12 : x11.toInt = (fv Po 302 (14 + 19 * (fv Po 301 19).toInt.toNat + t1.toInt.toNat)).toInt := g12
  show MEvP _ none q_206 9 [(0, .ref 301), (1, .int t1)] [.int x11] _ _ _ _
  refine mp_a (a_iconst (v := 2) dX7_isAbove_9 rfl) (mpp 10 rfl ?_)
  refine mp_Tb (t := 17) (j_icmp_ne dX7_isAbove_10) (by decide) (fun c14 => ?_) (fun c14 => mpp 13 rfl ?_)
  · have c14 : x11.toInt ≠ 2 := ti_ne c14
    refine mp_a (a_iconst (v := 0) dX7_isAbove_17 rfl) (mpp 18 rfl ?_)
    refine mp_a (a_iload_n dX7_isAbove_18 rfl) (mpp 19 rfl ?_)
    refine mp_a (a_iconst (v := 2) dX7_isAbove_19 rfl) (mpp 20 rfl ?_)
    obtain ⟨z15, h16⟩ := ti_ex (t1 - t1 / 2 * 2 : Int32)
    have wz15 := ti_full z15
    try have e18 : z15.toInt = t1.toInt % 2 := ti_remx h16 (show (0 : Int) ≤ t1.toInt by omega) (show (0 : Int) < 2 by omega)
    try have e17 : 0 ≤ z15.toInt ∧ z15.toInt < 2 := ti_rem h16 (show (0 : Int) ≤ t1.toInt by omega) (show (0 : Int) < 2 by omega)
    refine mp_t (s_irem (v := z15) dX7_isAbove_20 (by decide) h16) (mpp 21 rfl ?_)
    refine mp_Tb (t := 28) (j_if_ne dX7_isAbove_21) (by decide) (fun c19 => ?_) (fun c19 => mpp 24 rfl ?_)
    · have c19 : z15.toInt ≠ 0 := ti_ne c19
      refine mp_a (a_iconst (v := 0) dX7_isAbove_28 rfl) (mpp 29 rfl ?_)
      refine mp_Tf (t := 36) (j_icmp_ne dX7_isAbove_29) (by decide) (by decide) (mpp 32 rfl ?_)
      refine mp_a (a_iconst (v := 1) dX7_isAbove_32 rfl) (mpp 33 rfl ?_)
      refine mp_a (a_goto (t := 37) dX7_isAbove_33 (by decide)) ?_
      have u20 : 0 ≤ (1 : Int) ∧ (1 : Int) ≤ 1 ∧ (((1 : Int) = 1 ∧ abv (crM Po) t1.toInt.toNat) ∨ ((1 : Int) = 0 ∧ ¬ abv (crM Po) t1.toInt.toNat)) := ⟨by omega, by omega, Or.inl ⟨rfl, (show ((fv Po 302 (14 + 19 * (fv Po 301 19).toInt.toNat + t1.toInt.toNat)).toInt = 2 ↔ t1.toInt.toNat % 2 = 0) from by omega)⟩⟩
      exact mp_iret ⟨⟨_, rfl, u20⟩, rfl⟩ dX7_isAbove_37 (Or.inr ⟨rfl, by decide⟩)
    · have c19 : z15.toInt = 0 := ti_ne_n c19
      refine mp_a (a_iconst (v := 1) dX7_isAbove_24 rfl) (mpp 25 rfl ?_)
      refine mp_a (a_goto (t := 29) dX7_isAbove_25 (by decide)) ?_
      refine mp_Tt (t := 36) (j_icmp_ne dX7_isAbove_29) (by decide) (by decide) ?_
      refine mp_a (a_iconst (v := 0) dX7_isAbove_36 rfl) (mpp 37 rfl ?_)
      have u21 : 0 ≤ (0 : Int) ∧ (0 : Int) ≤ 1 ∧ (((0 : Int) = 1 ∧ abv (crM Po) t1.toInt.toNat) ∨ ((0 : Int) = 0 ∧ ¬ abv (crM Po) t1.toInt.toNat)) := ⟨by omega, by omega, Or.inr ⟨rfl, fun h => by have h : ((fv Po 302 (14 + 19 * (fv Po 301 19).toInt.toNat + t1.toInt.toNat)).toInt = 2 ↔ t1.toInt.toNat % 2 = 0) := h; omega⟩⟩
      exact mp_iret ⟨⟨_, rfl, u21⟩, rfl⟩ dX7_isAbove_37 (Or.inr ⟨rfl, by decide⟩)
  · have c14 : x11.toInt = 2 := ti_ne_n c14
    refine mp_a (a_iconst (v := 1) dX7_isAbove_13 rfl) (mpp 14 rfl ?_)
    refine mp_a (a_goto (t := 18) dX7_isAbove_14 (by decide)) ?_
    refine mp_a (a_iload_n dX7_isAbove_18 rfl) (mpp 19 rfl ?_)
    refine mp_a (a_iconst (v := 2) dX7_isAbove_19 rfl) (mpp 20 rfl ?_)
    obtain ⟨z22, h23⟩ := ti_ex (t1 - t1 / 2 * 2 : Int32)
    have wz22 := ti_full z22
    try have e25 : z22.toInt = t1.toInt % 2 := ti_remx h23 (show (0 : Int) ≤ t1.toInt by omega) (show (0 : Int) < 2 by omega)
    try have e24 : 0 ≤ z22.toInt ∧ z22.toInt < 2 := ti_rem h23 (show (0 : Int) ≤ t1.toInt by omega) (show (0 : Int) < 2 by omega)
    refine mp_t (s_irem (v := z22) dX7_isAbove_20 (by decide) h23) (mpp 21 rfl ?_)
    refine mp_Tb (t := 28) (j_if_ne dX7_isAbove_21) (by decide) (fun c26 => ?_) (fun c26 => mpp 24 rfl ?_)
    · have c26 : z22.toInt ≠ 0 := ti_ne c26
      refine mp_a (a_iconst (v := 0) dX7_isAbove_28 rfl) (mpp 29 rfl ?_)
      refine mp_Tt (t := 36) (j_icmp_ne dX7_isAbove_29) (by decide) (by decide) ?_
      refine mp_a (a_iconst (v := 0) dX7_isAbove_36 rfl) (mpp 37 rfl ?_)
      have u27 : 0 ≤ (0 : Int) ∧ (0 : Int) ≤ 1 ∧ (((0 : Int) = 1 ∧ abv (crM Po) t1.toInt.toNat) ∨ ((0 : Int) = 0 ∧ ¬ abv (crM Po) t1.toInt.toNat)) := ⟨by omega, by omega, Or.inr ⟨rfl, fun h => by have h : ((fv Po 302 (14 + 19 * (fv Po 301 19).toInt.toNat + t1.toInt.toNat)).toInt = 2 ↔ t1.toInt.toNat % 2 = 0) := h; omega⟩⟩
      exact mp_iret ⟨⟨_, rfl, u27⟩, rfl⟩ dX7_isAbove_37 (Or.inr ⟨rfl, by decide⟩)
    · have c26 : z22.toInt = 0 := ti_ne_n c26
      refine mp_a (a_iconst (v := 1) dX7_isAbove_24 rfl) (mpp 25 rfl ?_)
      refine mp_a (a_goto (t := 29) dX7_isAbove_25 (by decide)) ?_
      refine mp_Tf (t := 36) (j_icmp_ne dX7_isAbove_29) (by decide) (by decide) (mpp 32 rfl ?_)
      refine mp_a (a_iconst (v := 1) dX7_isAbove_32 rfl) (mpp 33 rfl ?_)
      refine mp_a (a_goto (t := 37) dX7_isAbove_33 (by decide)) ?_
      have u28 : 0 ≤ (1 : Int) ∧ (1 : Int) ≤ 1 ∧ (((1 : Int) = 1 ∧ abv (crM Po) t1.toInt.toNat) ∨ ((1 : Int) = 0 ∧ ¬ abv (crM Po) t1.toInt.toNat)) := ⟨by omega, by omega, Or.inl ⟨rfl, (show ((fv Po 302 (14 + 19 * (fv Po 301 19).toInt.toNat + t1.toInt.toNat)).toInt = 2 ↔ t1.toInt.toNat % 2 = 0) from by omega)⟩⟩
      exact mp_iret ⟨⟨_, rfl, u28⟩, rfl⟩ dX7_isAbove_37 (Or.inr ⟨rfl, by decide⟩)

