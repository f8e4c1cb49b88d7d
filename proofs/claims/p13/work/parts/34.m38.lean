/-! methods on typed pools, 38 (written by a program) -/
set_option maxHeartbeats 4000000 in
theorem c_M_collides_l2 {Po : mP} {t1 : Int32} (hT : Typ Po)  (hp0 : 0 ≤ t1.toInt) (hp1 : t1.toInt + 2 ≤ (fv Po 301 20).toInt) (hp2 : (fv Po 301 20).toInt ≤ 7)  : ∀ (n : Nat) (v2 : Int32), (0 ≤ v2.toInt) → (2147483647 - v2.toInt).toNat = n → MEvP 2 none q_203 2 [(0, .ref 301), (1, .int t1), (2, .int v2)] [] Po 0 0 (fun r P' => (∃ x : Int32, r = some (.int x) ∧ (0 ≤ x.toInt ∧ x.toInt ≤ 1)) ∧ P' = Po) := by
  intro n
  induction n using Nat.strongRecOn with | _ n ih => ?_
  intro v2 i_0 hm
  have w_t1 := ti_full t1
  have w_v2 := ti_full v2
  have g1 : (0 : Int) ≤ (fv Po 301 20).toInt ∧ (fv Po 301 20).toInt ≤ 8 := Typ.rng hT rl_301 (by decide) (by decide) rfl
  refine mp_a (a_iload_n dX7_collides_2 rfl) (mpp 3 rfl ?_)
  refine mp_a (a_aload_n dX7_collides_3 rfl) (mpp 4 rfl ?_)
  refine mt_getI (i := 255) (k := 20) hT dX7_collides_4 rfl rl_301 (by decide) rfl (by decide) rfl (fun g2 g3 => mpp 7 rfl ?_)
  refine mp_Tb (t := 55) (j_icmp_ge dX7_collides_7) (by decide) (fun c4 => ?_) (fun c4 => mpp 10 rfl ?_)
  · have c4 : v2.toInt ≥ (fv Po 301 20).toInt := ti_ge c4
    refine mp_a (a_iload_n dX7_collides_55 rfl) (mpp 56 rfl ?_)
    refine mp_a (a_iconst (v := 2) dX7_collides_56 rfl) (mpp 57 rfl ?_)
    obtain ⟨z5, h6⟩ := ti_ex (t1 - t1 / 2 * 2 : Int32)
    have wz5 := ti_full z5
    try have e8 : z5.toInt = t1.toInt % 2 := ti_remx h6 (show (0 : Int) ≤ t1.toInt by omega) (show (0 : Int) < 2 by omega)
    try have e7 : 0 ≤ z5.toInt ∧ z5.toInt < 2 := ti_rem h6 (show (0 : Int) ≤ t1.toInt by omega) (show (0 : Int) < 2 by omega)
    refine mp_t (s_irem (v := z5) dX7_collides_57 (by decide) h6) (mpp 58 rfl ?_)
    refine mp_a (a_istore_n (L' := [(2, .int z5), (0, .ref 301), (1, .int t1)]) dX7_collides_58 (by decide) rfl) (mpp 59 rfl ?_)
    refine MEvP.less (L := [(0, .ref 301), (1, .int t1), (2, .int z5)]) rfl rfl ⟨rfl, rfl, rfl, trivial⟩ ?_
    have i9 : 0 ≤ z5.toInt := by omega
    exact c_M_collides_l59 hT  hp0 hp1 hp2 _ _ i9 rfl
  · have c4 : v2.toInt < (fv Po 301 20).toInt := ti_ge_n c4
    refine mp_a (a_iload_n dX7_collides_10 rfl) (mpp 11 rfl ?_)
    refine mp_a (a_iload_n dX7_collides_11 rfl) (mpp 12 rfl ?_)
    refine mp_Tb (t := 49) (j_icmp_eq dX7_collides_12) (by decide) (fun c10 => ?_) (fun c10 => mpp 15 rfl ?_)
    · have c10 : v2.toInt = t1.toInt := ti_eq c10
      obtain ⟨z11, h12⟩ := ti_ex (v2 + 1 : Int32)
      have wz11 := ti_full z11
      refine mp_a (a_iinc (v := z11) (L' := [(2, .int z11), (0, .ref 301), (1, .int t1)]) dX7_collides_49 (by decide) rfl h12 rfl) (mpp 52 rfl ?_)
      try have e13 : z11.toInt = v2.toInt + 1 := ti_addz h12 rfl rfl (by omega) (by omega)
      refine mp_a (a_goto (t := 2) dX7_collides_52 (by decide)) ?_
      refine MEvP.less (L := [(0, .ref 301), (1, .int t1), (2, .int z11)]) rfl rfl ⟨rfl, rfl, rfl, trivial⟩ ?_
      have i14 : 0 ≤ z11.toInt := by omega
      exact ih _ (by omega) _ i14 rfl
    · have c10 : v2.toInt ≠ t1.toInt := ti_eq_n c10
      refine mp_a (a_iload_n dX7_collides_15 rfl) (mpp 16 rfl ?_)
      refine mp_a (a_iload_n dX7_collides_16 rfl) (mpp 17 rfl ?_)
      refine mp_a (a_iconst (v := 1) dX7_collides_17 rfl) (mpp 18 rfl ?_)
      obtain ⟨z15, h16⟩ := ti_ex (t1 + 1 : Int32)
      have wz15 := ti_full z15
      refine mp_t (s_iadd (v := z15) dX7_collides_18 h16) (mpp 19 rfl ?_)
      try have e17 : z15.toInt = t1.toInt + 1 := ti_addz h16 rfl rfl (by omega) (by omega)
      refine mp_Tb (t := 49) (j_icmp_eq dX7_collides_19) (by decide) (fun c18 => ?_) (fun c18 => mpp 22 rfl ?_)
      · have c18 : v2.toInt = z15.toInt := ti_eq c18
        obtain ⟨z19, h20⟩ := ti_ex (v2 + 1 : Int32)
        have wz19 := ti_full z19
        refine mp_a (a_iinc (v := z19) (L' := [(2, .int z19), (0, .ref 301), (1, .int t1)]) dX7_collides_49 (by decide) rfl h20 rfl) (mpp 52 rfl ?_)
        try have e21 : z19.toInt = v2.toInt + 1 := ti_addz h20 rfl rfl (by omega) (by omega)
        refine mp_a (a_goto (t := 2) dX7_collides_52 (by decide)) ?_
        refine MEvP.less (L := [(0, .ref 301), (1, .int t1), (2, .int z19)]) rfl rfl ⟨rfl, rfl, rfl, trivial⟩ ?_
        have i22 : 0 ≤ z19.toInt := by omega
        exact ih _ (by omega) _ i22 rfl
      · have c18 : v2.toInt ≠ z15.toInt := ti_eq_n c18
        refine mp_a (a_aload_n dX7_collides_22 rfl) (mpp 23 rfl ?_)
        refine mp_a (a_iload_n dX7_collides_23 rfl) (mpp 24 rfl ?_)
        refine mp_a (a_aload_n dX7_collides_24 rfl) (mpp 25 rfl ?_)
        refine mt_getU (i := 40) (k := 17) (A := 312) hT dX7_collides_25 rfl rl_301 (by decide) rfl (by decide) rfl un_28 (mpp 28 rfl ?_)
        refine mp_a (a_iload_n dX7_collides_28 rfl) (mpp 29 rfl ?_)
        refine mp_a (a_iconst (v := 1) dX7_collides_29 rfl) (mpp 30 rfl ?_)
        obtain ⟨z23, h24⟩ := ti_ex (t1 + 1 : Int32)
        have wz23 := ti_full z23
        refine mp_t (s_iadd (v := z23) dX7_collides_30 h24) (mpp 31 rfl ?_)
        try have e25 : z23.toInt = t1.toInt + 1 := ti_addz h24 rfl rfl (by omega) (by omega)
        refine mt_ial (n := 8) hT dX7_collides_31 rl_312 (by decide) rfl rfl (by omega) (by omega) rfl (fun g26 g27 => mpp 32 rfl ?_)
        have p28 : 0 ≤ v2.toInt := by omega
        have p29 : v2.toInt ≤ 6 := by omega
        refine mt_callv (i := 258) (q' := q_204) (As := [.int v2, .int (fv Po 312 z23.toInt.toNat)]) (rest := []) hT dX7_collides_32 rfl qm_204 (by decide) rfl rl_301 (by decide) rfl (Nat.le_of_ble_eq_true rfl) rfl ⟨rfl, rfl⟩ ⟨Nat.le_of_ble_eq_true rfl, Nat.le_of_ble_eq_true rfl⟩ (EvP.mono (by decide) (c_M_reachesOver hT p28 p29 )) (fun r30 P31 g32 => mpp 35 rfl ?_)
        obtain ⟨⟨x33, rfl, g34⟩, e35⟩ := g32
        have e35 := e35.symm
        subst e35
        have wx33 := ti_full x33
        replace g34 : 0 ≤ x33.toInt ∧ x33.toInt ≤ 1 := g34
        show MEvP _ none q_203 35 [(0, .ref 301), (1, .int t1), (2, .int v2)] [.int x33] _ _ _ _
        refine mp_Tb (t := 49) (j_if_eq dX7_collides_35) (by decide) (fun c36 => ?_) (fun c36 => mpp 38 rfl ?_)
        · have c36 : x33.toInt = 0 := ti_eq c36
          obtain ⟨z37, h38⟩ := ti_ex (v2 + 1 : Int32)
          have wz37 := ti_full z37
          refine mp_a (a_iinc (v := z37) (L' := [(2, .int z37), (0, .ref 301), (1, .int t1)]) dX7_collides_49 (by decide) rfl h38 rfl) (mpp 52 rfl ?_)
          try have e39 : z37.toInt = v2.toInt + 1 := ti_addz h38 rfl rfl (by omega) (by omega)
          refine mp_a (a_goto (t := 2) dX7_collides_52 (by decide)) ?_
          refine MEvP.less (L := [(0, .ref 301), (1, .int t1), (2, .int z37)]) rfl rfl ⟨rfl, rfl, rfl, trivial⟩ ?_
          have i40 : 0 ≤ z37.toInt := by omega
          exact ih _ (by omega) _ i40 rfl
        · have c36 : x33.toInt ≠ 0 := ti_eq_n c36
          refine mp_a (a_aload_n dX7_collides_38 rfl) (mpp 39 rfl ?_)
          refine mp_a (a_iload_n dX7_collides_39 rfl) (mpp 40 rfl ?_)
          refine mp_a (a_iload_n dX7_collides_40 rfl) (mpp 41 rfl ?_)
          have p41 : 0 ≤ v2.toInt := by omega
          have p42 : v2.toInt ≤ 6 := by omega
          have p43 : 0 ≤ t1.toInt := by omega
          have p44 : t1.toInt ≤ 5 := by omega
          refine mt_callv (i := 261) (q' := q_205) (As := [.int v2, .int t1]) (rest := []) hT dX7_collides_41 rfl qm_205 (by decide) rfl rl_301 (by decide) rfl (Nat.le_of_ble_eq_true rfl) rfl ⟨rfl, rfl⟩ ⟨Nat.le_of_ble_eq_true rfl, Nat.le_of_ble_eq_true rfl⟩ (EvP.mono (by decide) (c_M_isBetween hT p41 p42 p43 p44 )) (fun r45 P46 g47 => mpp 44 rfl ?_)
          obtain ⟨⟨x48, rfl, g49⟩, e50⟩ := g47
          have e50 := e50.symm
          subst e50
          have wx48 := ti_full x48
          replace g49 : 0 ≤ x48.toInt ∧ x48.toInt ≤ 1 := g49
          show MEvP _ none q_203 44 [(0, .ref 301), (1, .int t1), (2, .int v2)] [.int x48] _ _ _ _
          refine mp_Tb (t := 49) (j_if_eq dX7_collides_44) (by decide) (fun c51 => ?_) (fun c51 => mpp 47 rfl ?_)
          · have c51 : x48.toInt = 0 := ti_eq c51
            obtain ⟨z52, h53⟩ := ti_ex (v2 + 1 : Int32)
            have wz52 := ti_full z52
            refine mp_a (a_iinc (v := z52) (L' := [(2, .int z52), (0, .ref 301), (1, .int t1)]) dX7_collides_49 (by decide) rfl h53 rfl) (mpp 52 rfl ?_)
            try have e54 : z52.toInt = v2.toInt + 1 := ti_addz h53 rfl rfl (by omega) (by omega)
            refine mp_a (a_goto (t := 2) dX7_collides_52 (by decide)) ?_
            refine MEvP.less (L := [(0, .ref 301), (1, .int t1), (2, .int z52)]) rfl rfl ⟨rfl, rfl, rfl, trivial⟩ ?_
            have i55 : 0 ≤ z52.toInt := by omega
            exact ih _ (by omega) _ i55 rfl
          · have c51 : x48.toInt ≠ 0 := ti_eq_n c51
            refine mp_a (a_iconst (v := 1) dX7_collides_47 rfl) (mpp 48 rfl ?_)
            have u56 : 0 ≤ (1 : Int) ∧ (1 : Int) ≤ 1 := by omega
            exact mp_iret ⟨⟨_, rfl, u56⟩, rfl⟩ dX7_collides_48 (Or.inr ⟨rfl, by decide⟩)

set_option maxHeartbeats 4000000 in
theorem c_M_collides {Po : mP} {t1 : Int32} (hT : Typ Po)  (hp0 : 0 ≤ t1.toInt) (hp1 : t1.toInt + 2 ≤ (fv Po 301 20).toInt) (hp2 : (fv Po 301 20).toInt ≤ 7)  : EvP 3 203 [.ref 301, .int t1] Po (fun r P' => (∃ x : Int32, r = some (.int x) ∧ (0 ≤ x.toInt ∧ x.toInt ≤ 1)) ∧ P' = Po) := by
  refine EvP.of qm_203 (Nat.le_of_ble_eq_true rfl) rfl ?_
  show MEvP _ none q_203 0 [(0, .ref 301), (1, .int t1)] [] _ 0 0 _
  have w_t1 := ti_full t1
  have g1 : (0 : Int) ≤ (fv Po 301 20).toInt ∧ (fv Po 301 20).toInt ≤ 8 := Typ.rng hT rl_301 (by decide) (by decide) rfl
  refine mp_a (a_iconst (v := 0) dX7_collides_0 rfl) (mpp 1 rfl ?_)
  refine mp_a (a_istore_n (L' := [(2, .int 0), (0, .ref 301), (1, .int t1)]) dX7_collides_1 (by decide) rfl) (mpp 2 rfl ?_)
  refine MEvP.less (L := [(0, .ref 301), (1, .int t1), (2, .int 0)]) rfl rfl ⟨rfl, rfl, rfl, trivial⟩ ?_
  have i2 : 0 ≤ (0 : Int) := by omega
  exact c_M_collides_l2 hT  hp0 hp1 hp2 _ _ i2 rfl

set_option maxHeartbeats 4000000 in
theorem c_M_isPossible_l2 {Po : mP}  (hT : Typ Po)  (hp0 : (fv Po 301 20).toInt ≤ 7)  : ∀ (n : Nat) (v1 : Int32), (0 ≤ v1.toInt) → (2147483647 - v1.toInt).toNat = n → MEvP 3 none q_202 2 [(0, .ref 301), (1, .int v1)] [] Po 0 0 (fun r P' => (∃ x : Int32, r = some (.int x) ∧ (0 ≤ x.toInt ∧ x.toInt ≤ 1)) ∧ P' = Po) := by
  intro n
  induction n using Nat.strongRecOn with | _ n ih => ?_
  intro v1 i_0 hm
  have w_v1 := ti_full v1
  have g1 : (0 : Int) ≤ (fv Po 301 20).toInt ∧ (fv Po 301 20).toInt ≤ 8 := Typ.rng hT rl_301 (by decide) (by decide) rfl
  refine mp_a (a_iload_n dX7_isPossible_2 rfl) (mpp 3 rfl ?_)
  refine mp_a (a_aload_n dX7_isPossible_3 rfl) (mpp 4 rfl ?_)
  refine mt_getI (i := 255) (k := 20) hT dX7_isPossible_4 rfl rl_301 (by decide) rfl (by decide) rfl (fun g2 g3 => mpp 7 rfl ?_)
  refine mp_a (a_iconst (v := 1) dX7_isPossible_7 rfl) (mpp 8 rfl ?_)
  obtain ⟨z4, h5⟩ := ti_ex ((fv Po 301 20) - 1 : Int32)
  have wz4 := ti_full z4
  refine mp_t (s_isub (v := z4) dX7_isPossible_8 h5) (mpp 9 rfl ?_)
  try have e6 : z4.toInt = (fv Po 301 20).toInt - 1 := ti_subz h5 rfl rfl (by omega) (by omega)
  refine mp_Tb (t := 28) (j_icmp_ge dX7_isPossible_9) (by decide) (fun c7 => ?_) (fun c7 => mpp 12 rfl ?_)
  · have c7 : v1.toInt ≥ z4.toInt := ti_ge c7
    refine mp_a (a_iconst (v := 1) dX7_isPossible_28 rfl) (mpp 29 rfl ?_)
    have u8 : 0 ≤ (1 : Int) ∧ (1 : Int) ≤ 1 := by omega
    exact mp_iret ⟨⟨_, rfl, u8⟩, rfl⟩ dX7_isPossible_29 (Or.inr ⟨rfl, by decide⟩)
  · have c7 : v1.toInt < z4.toInt := ti_ge_n c7
    refine mp_a (a_aload_n dX7_isPossible_12 rfl) (mpp 13 rfl ?_)
    refine mp_a (a_iload_n dX7_isPossible_13 rfl) (mpp 14 rfl ?_)
    have p9 : 0 ≤ v1.toInt := by omega
    have p10 : v1.toInt + 2 ≤ (fv Po 301 20).toInt := by omega
    have p11 : (fv Po 301 20).toInt ≤ 7 := by omega
    refine mt_callv (i := 264) (q' := q_203) (As := [.int v1]) (rest := []) hT dX7_isPossible_14 rfl qm_203 (by decide) rfl rl_301 (by decide) rfl (Nat.le_of_ble_eq_true rfl) rfl ⟨rfl, rfl⟩ ⟨Nat.le_of_ble_eq_true rfl, Nat.le_of_ble_eq_true rfl⟩ (EvP.mono (by decide) (c_M_collides hT p9 p10 p11 )) (fun r12 P13 g14 => mpp 17 rfl ?_)
    obtain ⟨⟨x15, rfl, g16⟩, e17⟩ := g14
    have e17 := e17.symm
    subst e17
    have wx15 := ti_full x15
    replace g16 : 0 ≤ x15.toInt ∧ x15.toInt ≤ 1 := g16
    show MEvP _ none q_202 17 [(0, .ref 301), (1, .int v1)] [.int x15] _ _ _ _
    refine mp_Tb (t := 22) (j_if_eq dX7_isPossible_17) (by decide) (fun c18 => ?_) (fun c18 => mpp 20 rfl ?_)
    · have c18 : x15.toInt = 0 := ti_eq c18
      obtain ⟨z19, h20⟩ := ti_ex (v1 + 1 : Int32)
      have wz19 := ti_full z19
      refine mp_a (a_iinc (v := z19) (L' := [(1, .int z19), (0, .ref 301)]) dX7_isPossible_22 (by decide) rfl h20 rfl) (mpp 25 rfl ?_)
      try have e21 : z19.toInt = v1.toInt + 1 := ti_addz h20 rfl rfl (by omega) (by omega)
      refine mp_a (a_goto (t := 2) dX7_isPossible_25 (by decide)) ?_
      refine MEvP.less (L := [(0, .ref 301), (1, .int z19)]) rfl rfl ⟨rfl, rfl, trivial⟩ ?_
      have i22 : 0 ≤ z19.toInt := by omega
      exact ih _ (by omega) _ i22 rfl
    · have c18 : x15.toInt ≠ 0 := ti_eq_n c18
      refine mp_a (a_iconst (v := 0) dX7_isPossible_20 rfl) (mpp 21 rfl ?_)
      have u23 : 0 ≤ (0 : Int) ∧ (0 : Int) ≤ 1 := by omega
      exact mp_iret ⟨⟨_, rfl, u23⟩, rfl⟩ dX7_isPossible_21 (Or.inr ⟨rfl, by decide⟩)

set_option maxHeartbeats 4000000 in
theorem c_M_isPossible {Po : mP}  (hT : Typ Po)  (hp0 : (fv Po 301 20).toInt ≤ 7)  : EvP 4 202 [.ref 301] Po (fun r P' => (∃ x : Int32, r = some (.int x) ∧ (0 ≤ x.toInt ∧ x.toInt ≤ 1)) ∧ P' = Po) := by
  refine EvP.of qm_202 (Nat.le_of_ble_eq_true rfl) rfl ?_
  show MEvP _ none q_202 0 [(0, .ref 301)] [] _ 0 0 _
  have g1 : (0 : Int) ≤ (fv Po 301 20).toInt ∧ (fv Po 301 20).toInt ≤ 8 := Typ.rng hT rl_301 (by decide) (by decide) rfl
  refine mp_a (a_iconst (v := 0) dX7_isPossible_0 rfl) (mpp 1 rfl ?_)
  refine mp_a (a_istore_n (L' := [(1, .int 0), (0, .ref 301)]) dX7_isPossible_1 (by decide) rfl) (mpp 2 rfl ?_)
  refine MEvP.less (L := [(0, .ref 301), (1, .int 0)]) rfl rfl ⟨rfl, rfl, trivial⟩ ?_
  have i2 : 0 ≤ (0 : Int) := by omega
  exact c_M_isPossible_l2 hT  hp0 _ _ i2 rfl

set_option maxHeartbeats 4000000 in
theorem c_M_gives_r0_l17 {Po : mP} {t1 : Int32} (hp0 : 0 ≤ t1.toInt) (hp1 : (fv Po 301 20).toInt = t1.toInt + 0) (hp2 : (fv Po 301 20).toInt ≤ 7)  : ∀ (n : Nat) (v2 : Int32), ∀ (P : mP), Typ P → KW [1109, 1728] Po P → (0 ≤ v2.toInt) → (2147483647 - v2.toInt).toNat = n → MEvP 4 none q_201 17 [(0, .ref 301), (1, .int t1), (2, .int v2)] [] P 0 0 (fun r P' => (r = none ∧ (True)) ∧ Typ P' ∧ KW [1109, 1728] Po P' ∧ True) := by
  intro n
  induction n using Nat.strongRecOn with | _ n ih => ?_
  intro v2 P hT hK i_0 hm
  have w_t1 := ti_full t1
  have w_v2 := ti_full v2
  refine mp_a (a_iload_n dX7_gives_17 rfl) (mpp 18 rfl ?_)
  refine mp_a (a_aload_n dX7_gives_18 rfl) (mpp 19 rfl ?_)
  have e1 : (fv P 301 20).toInt = (fv Po 301 20).toInt := congrArg Int32.toInt (KW.at hK 20 rl_301 rfl)
  refine mt_getI (i := 255) (k := 20) hT dX7_gives_19 rfl rl_301 (by decide) rfl (by decide) rfl (fun g2 g3 => mpp 22 rfl ?_)
  refine mp_Tb (t := 50) (j_icmp_ge dX7_gives_22) (by decide) (fun c4 => ?_) (fun c4 => mpp 25 rfl ?_)
  · have c4 : v2.toInt ≥ (fv P 301 20).toInt := ti_ge c4
    refine mp_a (a_aload_n dX7_gives_50 rfl) (mpp 51 rfl ?_)
    refine mp_t (s_dup dX7_gives_51 rfl) (mpp 52 rfl ?_)
    have g5 := ti_full (fv P 301 21)
    refine mt_getI (i := 270) (k := 21) hT dX7_gives_52 rfl rl_301 (by decide) rfl (by decide) rfl (fun g6 g7 => mpp 55 rfl ?_)
    refine mp_a (a_iconst (v := 1) dX7_gives_55 rfl) (mpp 56 rfl ?_)
    obtain ⟨z8, h9⟩ := ti_ex ((fv P 301 21) + 1 : Int32)
    have wz8 := ti_full z8
    refine mp_t (s_iadd (v := z8) dX7_gives_56 h9) (mpp 57 rfl ?_)
    try have e10 : z8.toInt = (fv P 301 21).toInt + 1 := ti_addz h9 rfl rfl (by omega) (by omega)
    refine mt_putI (i := 270) (k := 21) (x := z8) hT dX7_gives_57 rfl rl_301 (by decide) rfl (by decide) rfl (ti_full z8) rfl rfl (fun P11 hT12 f13 f14 f15 => mpp 60 rfl ?_)
    have k16 : KW [1109, 1728] Po P11 := KW.step hK rl_301 rfl f14 f15
    have e17 : (fv P11 301 21).toInt = z8.toInt := congrArg Int32.toInt f13
    exact mp_ret ⟨⟨rfl, trivial⟩, hT12, k16, trivial⟩ dX7_gives_60 rfl
  · have c4 : v2.toInt < (fv P 301 20).toInt := ti_ge_n c4
    refine mp_a (a_aload_n dX7_gives_25 rfl) (mpp 26 rfl ?_)
    have g18 := ti_full (fv P 301 21)
    refine mt_getI (i := 270) (k := 21) hT dX7_gives_26 rfl rl_301 (by decide) rfl (by decide) rfl (fun g19 g20 => mpp 29 rfl ?_)
    refine mp_Tb (t := 50) (j_if_ne dX7_gives_29) (by decide) (fun c21 => ?_) (fun c21 => mpp 32 rfl ?_)
    · have c21 : (fv P 301 21).toInt ≠ 0 := ti_ne c21
      refine mp_a (a_aload_n dX7_gives_50 rfl) (mpp 51 rfl ?_)
      refine mp_t (s_dup dX7_gives_51 rfl) (mpp 52 rfl ?_)
      refine mt_getI (i := 270) (k := 21) hT dX7_gives_52 rfl rl_301 (by decide) rfl (by decide) rfl (fun g22 g23 => mpp 55 rfl ?_)
      refine mp_a (a_iconst (v := 1) dX7_gives_55 rfl) (mpp 56 rfl ?_)
      obtain ⟨z24, h25⟩ := ti_ex ((fv P 301 21) + 1 : Int32)
      have wz24 := ti_full z24
      refine mp_t (s_iadd (v := z24) dX7_gives_56 h25) (mpp 57 rfl ?_)
      try have e26 : z24.toInt = (fv P 301 21).toInt + 1 := ti_addz h25 rfl rfl (by omega) (by omega)
      refine mt_putI (i := 270) (k := 21) (x := z24) hT dX7_gives_57 rfl rl_301 (by decide) rfl (by decide) rfl (ti_full z24) rfl rfl (fun P27 hT28 f29 f30 f31 => mpp 60 rfl ?_)
      have k32 : KW [1109, 1728] Po P27 := KW.step hK rl_301 rfl f30 f31
      have e33 : (fv P27 301 21).toInt = z24.toInt := congrArg Int32.toInt f29
      exact mp_ret ⟨⟨rfl, trivial⟩, hT28, k32, trivial⟩ dX7_gives_60 rfl
    · have c21 : (fv P 301 21).toInt = 0 := ti_ne_n c21
      refine mp_a (a_aload_n dX7_gives_32 rfl) (mpp 33 rfl ?_)
      refine mt_getU (i := 37) (k := 16) (A := 311) hT dX7_gives_33 rfl rl_301 (by decide) rfl (by decide) rfl un_27 (mpp 36 rfl ?_)
      refine mp_a (a_iload_n dX7_gives_36 rfl) (mpp 37 rfl ?_)
      refine mp_a (a_aload_n dX7_gives_37 rfl) (mpp 38 rfl ?_)
      refine mt_getU (i := 34) (k := 15) (A := 310) hT dX7_gives_38 rfl rl_301 (by decide) rfl (by decide) rfl un_26 (mpp 41 rfl ?_)
      refine mp_a (a_iload_n dX7_gives_41 rfl) (mpp 42 rfl ?_)
      refine mt_ial (n := 7) hT dX7_gives_42 rl_310 (by decide) rfl rfl (by omega) (by omega) rfl (fun g34 g35 => mpp 43 rfl ?_)
      refine mt_ias (n := 7) hT dX7_gives_43 rl_311 (by decide) rfl rfl (by omega) (by omega) rfl (ti_full (fv P 310 v2.toInt.toNat)) (fun P36 hT37 f38 f39 f40 => mpp 44 rfl ?_)
      have k41 : KW [1109, 1728] Po P36 := KW.step hK rl_311 rfl f39 f40
      obtain ⟨z42, h43⟩ := ti_ex (v2 + 1 : Int32)
      have wz42 := ti_full z42
      refine mp_a (a_iinc (v := z42) (L' := [(2, .int z42), (0, .ref 301), (1, .int t1)]) dX7_gives_44 (by decide) rfl h43 rfl) (mpp 47 rfl ?_)
      try have e44 : z42.toInt = v2.toInt + 1 := ti_addz h43 rfl rfl (by omega) (by omega)
      refine mp_a (a_goto (t := 17) dX7_gives_47 (by decide)) ?_
      refine MEvP.less (L := [(0, .ref 301), (1, .int t1), (2, .int z42)]) rfl rfl ⟨rfl, rfl, rfl, trivial⟩ ?_
      have i45 : 0 ≤ z42.toInt := by omega
      exact ih _ (by omega) _ P36 hT37 k41 i45 rfl

set_option maxHeartbeats 4000000 in
theorem c_M_gives_r0 {Po : mP} {t1 : Int32} (hT : Typ Po)  (hp0 : 0 ≤ t1.toInt) (hp1 : (fv Po 301 20).toInt = t1.toInt + 0) (hp2 : (fv Po 301 20).toInt ≤ 7)  : EvP 5 201 [.ref 301, .int t1] Po (fun r P' => (r = none ∧ (True)) ∧ Typ P' ∧ KW [1109, 1728] Po P' ∧ True) := by
  refine EvP.of qm_201 (Nat.le_of_ble_eq_true rfl) rfl ?_
  show MEvP _ none q_201 0 [(0, .ref 301), (1, .int t1)] [] _ 0 0 _
  have w_t1 := ti_full t1
  have g1 : (0 : Int) ≤ (fv Po 301 20).toInt ∧ (fv Po 301 20).toInt ≤ 8 := Typ.rng hT rl_301 (by decide) (by decide) rfl
  refine mp_a (a_iload_n dX7_gives_0 rfl) (mpp 1 rfl ?_)
  refine mp_a (a_aload_n dX7_gives_1 rfl) (mpp 2 rfl ?_)
  refine mt_getI (i := 255) (k := 20) hT dX7_gives_2 rfl rl_301 (by decide) rfl (by decide) rfl (fun g2 g3 => mpp 5 rfl ?_)
  refine mp_Tb (t := 61) (j_icmp_ne dX7_gives_5) (by decide) (fun c4 => ?_) (fun c4 => mpp 8 rfl ?_)
  · have c4 : t1.toInt ≠ (fv Po 301 20).toInt := ti_ne c4
    exfalso
    omega
  · have c4 : t1.toInt = (fv Po 301 20).toInt := ti_ne_n c4
    refine mp_a (a_aload_n dX7_gives_8 rfl) (mpp 9 rfl ?_)
    have p5 : (fv Po 301 20).toInt ≤ 7 := by omega
    refine mt_callv (i := 267) (q' := q_202) (As := []) (rest := []) hT dX7_gives_9 rfl qm_202 (by decide) rfl rl_301 (by decide) rfl (Nat.le_of_ble_eq_true rfl) rfl ⟨rfl, rfl⟩ ⟨Nat.le_of_ble_eq_true rfl, Nat.le_of_ble_eq_true rfl⟩ (EvP.mono (by decide) (c_M_isPossible hT p5 )) (fun r6 P7 g8 => mpp 12 rfl ?_)
    obtain ⟨⟨x9, rfl, g10⟩, e11⟩ := g8
    have e11 := e11.symm
    subst e11
    have wx9 := ti_full x9
    replace g10 : 0 ≤ x9.toInt ∧ x9.toInt ≤ 1 := g10
    show MEvP _ none q_201 12 [(0, .ref 301), (1, .int t1)] [.int x9] _ _ _ _
    refine mp_Tb (t := 60) (j_if_eq dX7_gives_12) (by decide) (fun c12 => ?_) (fun c12 => mpp 15 rfl ?_)
    · have c12 : x9.toInt = 0 := ti_eq c12
      exact mp_ret ⟨⟨rfl, trivial⟩, hT, KW.refl, trivial⟩ dX7_gives_60 rfl
    · have c12 : x9.toInt ≠ 0 := ti_eq_n c12
      refine mp_a (a_iconst (v := 0) dX7_gives_15 rfl) (mpp 16 rfl ?_)
      refine mp_a (a_istore_n (L' := [(2, .int 0), (0, .ref 301), (1, .int t1)]) dX7_gives_16 (by decide) rfl) (mpp 17 rfl ?_)
      refine MEvP.less (L := [(0, .ref 301), (1, .int t1), (2, .int 0)]) rfl rfl ⟨rfl, rfl, rfl, trivial⟩ ?_
      have i13 : 0 ≤ (0 : Int) := by omega
      exact c_M_gives_r0_l17   hp0 hp1 hp2 _ _ Po hT KW.refl i13 rfl

set_option maxHeartbeats 4000000 in
theorem c_M_isAbove {Po : mP} {t1 : Int32} (hT : Typ Po)  (hp0 : 0 ≤ t1.toInt) (hp1 : t1.toInt ≤ 7)  : EvP 4 206 [.ref 301, .int t1] Po (fun r P' => (∃ x : Int32, r = some (.int x) ∧ (0 ≤ x.toInt ∧ x.toInt ≤ 1)) ∧ P' = Po) := by
  refine EvP.of qm_206 (Nat.le_of_ble_eq_true rfl) rfl ?_
  show MEvP _ none q_206 0 [(0, .ref 301), (1, .int t1)] [] _ 0 0 _
  have w_t1 := ti_full t1
  refine mp_a (a_aload_n dX7_isAbove_0 rfl) (mpp 1 rfl ?_)
  refine mp_a (a_aload_n dX7_isAbove_1 rfl) (mpp 2 rfl ?_)
  have g1 : (0 : Int) ≤ (fv Po 301 19).toInt ∧ (fv Po 301 19).toInt ≤ 7 := Typ.rng hT rl_301 (by decide) (by decide) rfl
  refine mt_getI (i := 252) (k := 19) hT dX7_isAbove_2 rfl rl_301 (by decide) rfl (by decide) rfl (fun g2 g3 => mpp 5 rfl ?_)
  refine mp_a (a_iload_n dX7_isAbove_5 rfl) (mpp 6 rfl ?_)
  have p4 : 0 ≤ (fv Po 301 19).toInt := by omega
  have p5 : (fv Po 301 19).toInt ≤ 7 := by omega
  have p6 : 0 ≤ t1.toInt := by omega
  have p7 : t1.toInt ≤ 7 := by omega
  refine mt_callv (i := 92) (q' := q_146) (As := [.int (fv Po 301 19), .int t1]) (rest := []) hT dX7_isAbove_6 rfl qm_146 (by decide) rfl rl_301 (by decide) rfl (Nat.le_of_ble_eq_true rfl) rfl ⟨rfl, rfl⟩ ⟨Nat.le_of_ble_eq_true rfl, Nat.le_of_ble_eq_true rfl⟩ (EvP.mono (by decide) (c_M_creaseOf hT p4 p5 p6 p7 )) (fun r8 P9 g10 => mpp 9 rfl ?_)
  obtain ⟨⟨x11, rfl, g12⟩, e13⟩ := g10
  have e13 := e13.symm
  subst e13
  have wx11 := ti_full x11
  replace g12 : x11.toInt = (fv Po 302 (14 + 19 * (fv Po 301 19).toInt.toNat + t1.toInt.toNat)).toInt := g12
  show MEvP _ none q_206 9 [(0, .ref 301), (1, .int t1)] [.int x11] _ _ _ _
  refine mp_a (a_iconst (v := 2) dX7_isAbove_9 rfl) (mpp 10 rfl ?_)
  refine mp_Tb (t := 17) (j_icmp_ne dX7_isAbove_10) (by decide) (fun c14 => ?_) (fun c14 => mpp 13 rfl ?_)
  · have c14 : x11.toInt ≠ 2 := ti_ne c14
    refine mp_a (a_iconst (v := 0) dX7_isAbove_17 rfl) (mpp 18 rfl ?_)
    refine mp_a (a_iload_n dX7_isAbove_18 rfl) (mpp 19 rfl ?_)
    refine mp_a (a_iconst (v := 2) dX7_isAbove_19 rfl) (mpp 20 rfl ?_)
    obtain ⟨z15, h16⟩ := ti_ex (t1 - t1 / 2 * 2 : Int32)
    have wz15 := ti_full z15
    try have e18 : z15.toInt = t1.toInt % 2 := ti_remx h16 (show (0 : Int) ≤ t1.toInt by omega) (show (0 : Int) < 2 by omega)
    try have e17 : 0 ≤ z15.toInt ∧ z15.toInt < 2 := ti_rem h16 (show (0 : Int) ≤ t1.toInt by omega) (show (0 : Int) < 2 by omega)
    refine mp_t (s_irem (v := z15) dX7_isAbove_20 (by decide) h16) (mpp 21 rfl ?_)
    refine mp_Tb (t := 28) (j_if_ne dX7_isAbove_21) (by decide) (fun c19 => ?_) (fun c19 => mpp 24 rfl ?_)
    · have c19 : z15.toInt ≠ 0 := ti_ne c19
      refine mp_a (a_iconst (v := 0) dX7_isAbove_28 rfl) (mpp 29 rfl ?_)
      refine mp_Tf (t := 36) (j_icmp_ne dX7_isAbove_29) (by decide) (by decide) (mpp 32 rfl ?_)
      refine mp_a (a_iconst (v := 1) dX7_isAbove_32 rfl) (mpp 33 rfl ?_)
      refine mp_a (a_goto (t := 37) dX7_isAbove_33 (by decide)) ?_
      have u20 : 0 ≤ (1 : Int) ∧ (1 : Int) ≤ 1 := by omega
      exact mp_iret ⟨⟨_, rfl, u20⟩, rfl⟩ dX7_isAbove_37 (Or.inr ⟨rfl, by decide⟩)
    · have c19 : z15.toInt = 0 := ti_ne_n c19
      refine mp_a (a_iconst (v := 1) dX7_isAbove_24 rfl) (mpp 25 rfl ?_)
      refine mp_a (a_goto (t := 29) dX7_isAbove_25 (by decide)) ?_
      refine mp_Tt (t := 36) (j_icmp_ne dX7_isAbove_29) (by decide) (by decide) ?_
      refine mp_a (a_iconst (v := 0) dX7_isAbove_36 rfl) (mpp 37 rfl ?_)
      have u21 : 0 ≤ (0 : Int) ∧ (0 : Int) ≤ 1 := by omega
      exact mp_iret ⟨⟨_, rfl, u21⟩, rfl⟩ dX7_isAbove_37 (Or.inr ⟨rfl, by decide⟩)
  · have c14 : x11.toInt = 2 := ti_ne_n c14
    refine mp_a (a_iconst (v := 1) dX7_isAbove_13 rfl) (mpp 14 rfl ?_)
    refine mp_a (a_goto (t := 18) dX7_isAbove_14 (by decide)) ?_
    refine mp_a (a_iload_n dX7_isAbove_18 rfl) (mpp 19 rfl ?_)
    refine mp_a (a_iconst (v := 2) dX7_isAbove_19 rfl) (mpp 20 rfl ?_)
    obtain ⟨z22, h23⟩ := ti_ex (t1 - t1 / 2 * 2 : Int32)
    have wz22 := ti_full z22
    try have e25 : z22.toInt = t1.toInt % 2 := ti_remx h23 (show (0 : Int) ≤ t1.toInt by omega) (show (0 : Int) < 2 by omega)
    try have e24 : 0 ≤ z22.toInt ∧ z22.toInt < 2 := ti_rem h23 (show (0 : Int) ≤ t1.toInt by omega) (show (0 : Int) < 2 by omega)
    refine mp_t (s_irem (v := z22) dX7_isAbove_20 (by decide) h23) (mpp 21 rfl ?_)
    refine mp_Tb (t := 28) (j_if_ne dX7_isAbove_21) (by decide) (fun c26 => ?_) (fun c26 => mpp 24 rfl ?_)
    · have c26 : z22.toInt ≠ 0 := ti_ne c26
      refine mp_a (a_iconst (v := 0) dX7_isAbove_28 rfl) (mpp 29 rfl ?_)
      refine mp_Tt (t := 36) (j_icmp_ne dX7_isAbove_29) (by decide) (by decide) ?_
      refine mp_a (a_iconst (v := 0) dX7_isAbove_36 rfl) (mpp 37 rfl ?_)
      have u27 : 0 ≤ (0 : Int) ∧ (0 : Int) ≤ 1 := by omega
      exact mp_iret ⟨⟨_, rfl, u27⟩, rfl⟩ dX7_isAbove_37 (Or.inr ⟨rfl, by decide⟩)
    · have c26 : z22.toInt = 0 := ti_ne_n c26
      refine mp_a (a_iconst (v := 1) dX7_isAbove_24 rfl) (mpp 25 rfl ?_)
      refine mp_a (a_goto (t := 29) dX7_isAbove_25 (by decide)) ?_
      refine mp_Tf (t := 36) (j_icmp_ne dX7_isAbove_29) (by decide) (by decide) (mpp 32 rfl ?_)
      refine mp_a (a_iconst (v := 1) dX7_isAbove_32 rfl) (mpp 33 rfl ?_)
      refine mp_a (a_goto (t := 37) dX7_isAbove_33 (by decide)) ?_
      have u28 : 0 ≤ (1 : Int) ∧ (1 : Int) ≤ 1 := by omega
      exact mp_iret ⟨⟨_, rfl, u28⟩, rfl⟩ dX7_isAbove_37 (Or.inr ⟨rfl, by decide⟩)

set_option maxHeartbeats 4000000 in
theorem c_M_gives_r1_l63 {Po : mP} {t1 : Int32} (hp0 : 0 ≤ t1.toInt) (hp1 : (fv Po 301 20).toInt = t1.toInt + 1) (hp2 : (fv Po 301 20).toInt ≤ 7)  : ∀ (n : Nat) (v2 : Int32), ∀ (P : mP), Typ P → KW [1109, 1664, 1728, 1856] Po P → (0 ≤ v2.toInt) → (2147483647 - v2.toInt).toNat = n → MEvP 5 none q_201 63 [(0, .ref 301), (1, .int t1), (2, .int v2)] [] P 0 0 (fun r P' => (r = none ∧ (True)) ∧ Typ P' ∧ KW [1109, 1664, 1728, 1856] Po P' ∧ True) := by
  intro n
  induction n using Nat.strongRecOn with | _ n ih => ?_
  intro v2 P hT hK i_0 hm
  have w_t1 := ti_full t1
  have w_v2 := ti_full v2
  refine mp_a (a_iload_n dX7_gives_63 rfl) (mpp 64 rfl ?_)
  refine mp_a (a_aload_n dX7_gives_64 rfl) (mpp 65 rfl ?_)
  have e1 : (fv P 301 20).toInt = (fv Po 301 20).toInt := congrArg Int32.toInt (KW.at hK 20 rl_301 rfl)
  refine mt_getI (i := 255) (k := 20) hT dX7_gives_65 rfl rl_301 (by decide) rfl (by decide) rfl (fun g2 g3 => mpp 68 rfl ?_)
  refine mp_Tb (t := 148) (j_icmp_ge dX7_gives_68) (by decide) (fun c4 => ?_) (fun c4 => mpp 71 rfl ?_)
  · have c4 : v2.toInt ≥ (fv P 301 20).toInt := ti_ge c4
    exact mp_ret ⟨⟨rfl, trivial⟩, hT, hK, trivial⟩ dX7_gives_148 rfl
  · have c4 : v2.toInt < (fv P 301 20).toInt := ti_ge_n c4
    refine mp_a (a_aload_n dX7_gives_71 rfl) (mpp 72 rfl ?_)
    refine mt_getU (i := 43) (k := 18) (A := 313) hT dX7_gives_72 rfl rl_301 (by decide) rfl (by decide) rfl un_29 (mpp 75 rfl ?_)
    refine mp_a (a_iload_n dX7_gives_75 rfl) (mpp 76 rfl ?_)
    refine mt_bal (n := 7) hT dX7_gives_76 rl_313 (by decide) rfl rfl (by omega) (by omega) rfl (fun g5 g6 => mpp 77 rfl ?_)
    refine mp_Tb (t := 142) (j_if_ne dX7_gives_77) (by decide) (fun c7 => ?_) (fun c7 => mpp 80 rfl ?_)
    · have c7 : (fv P 313 v2.toInt.toNat).toInt ≠ 0 := ti_ne c7
      obtain ⟨z8, h9⟩ := ti_ex (v2 + 1 : Int32)
      have wz8 := ti_full z8
      refine mp_a (a_iinc (v := z8) (L' := [(2, .int z8), (0, .ref 301), (1, .int t1)]) dX7_gives_142 (by decide) rfl h9 rfl) (mpp 145 rfl ?_)
      try have e10 : z8.toInt = v2.toInt + 1 := ti_addz h9 rfl rfl (by omega) (by omega)
      refine mp_a (a_goto (t := 63) dX7_gives_145 (by decide)) ?_
      refine MEvP.less (L := [(0, .ref 301), (1, .int t1), (2, .int z8)]) rfl rfl ⟨rfl, rfl, rfl, trivial⟩ ?_
      have i11 : 0 ≤ z8.toInt := by omega
      exact ih _ (by omega) _ P hT hK i11 rfl
    · have c7 : (fv P 313 v2.toInt.toNat).toInt = 0 := ti_ne_n c7
      refine mp_a (a_iload_n dX7_gives_80 rfl) (mpp 81 rfl ?_)
      refine mp_Tb (t := 114) (j_if_le dX7_gives_81) (by decide) (fun c12 => ?_) (fun c12 => mpp 84 rfl ?_)
      · have c12 : t1.toInt ≤ 0 := ti_le c12
        refine mp_a (a_aload_n dX7_gives_114 rfl) (mpp 115 rfl ?_)
        refine mt_getU (i := 43) (k := 18) (A := 313) hT dX7_gives_115 rfl rl_301 (by decide) rfl (by decide) rfl un_29 (mpp 118 rfl ?_)
        refine mp_a (a_iload_n dX7_gives_118 rfl) (mpp 119 rfl ?_)
        refine mp_a (a_iconst (v := 1) dX7_gives_119 rfl) (mpp 120 rfl ?_)
        refine mt_bas (n := 7) hT dX7_gives_120 rl_313 (by decide) rfl rfl (by omega) (by omega) rfl (by decide) (fun P13 hT14 f15 f16 f17 => mpp 121 rfl ?_)
        have k18 : KW [1109, 1664, 1728, 1856] Po P13 := KW.step hK rl_313 rfl f16 f17
        refine mp_a (a_aload_n dX7_gives_121 rfl) (mpp 122 rfl ?_)
        refine mt_getU (i := 34) (k := 15) (A := 310) hT14 dX7_gives_122 rfl rl_301 (by decide) rfl (by decide) rfl un_26 (mpp 125 rfl ?_)
        refine mp_a (a_iload_n dX7_gives_125 rfl) (mpp 126 rfl ?_)
        refine mp_a (a_iload_n dX7_gives_126 rfl) (mpp 127 rfl ?_)
        refine mt_ias (n := 7) hT14 dX7_gives_127 rl_310 (by decide) rfl rfl (by omega) (by omega) rfl (ti_full v2) (fun P19 hT20 f21 f22 f23 => mpp 128 rfl ?_)
        have k24 : KW [1109, 1664, 1728, 1856] Po P19 := KW.step k18 rl_310 rfl f22 f23
        refine mp_a (a_aload_n dX7_gives_128 rfl) (mpp 129 rfl ?_)
        refine mp_a (a_iload_n dX7_gives_129 rfl) (mpp 130 rfl ?_)
        refine mp_a (a_iconst (v := 1) dX7_gives_130 rfl) (mpp 131 rfl ?_)
        obtain ⟨z25, h26⟩ := ti_ex (t1 + 1 : Int32)
        have wz25 := ti_full z25
        refine mp_t (s_iadd (v := z25) dX7_gives_131 h26) (mpp 132 rfl ?_)
        try have e27 : z25.toInt = t1.toInt + 1 := ti_addz h26 rfl rfl (by omega) (by omega)
        have e28 : (fv P19 301 20).toInt = (fv P 301 20).toInt := congrArg Int32.toInt ((f22 301 20 (ne_r rl_301 rl_310 rfl)).trans (f16 301 20 (ne_r rl_301 rl_313 rfl)))
        have p29 : 0 ≤ z25.toInt := by omega
        have p30 : (fv P19 301 20).toInt = z25.toInt + 0 := by omega
        have p31 : (fv P19 301 20).toInt ≤ 7 := by omega
        refine mt_callv (i := 276) (q' := q_201) (As := [.int z25]) (rest := []) hT20 dX7_gives_132 rfl qm_201 (by decide) rfl rl_301 (by decide) rfl (Nat.le_of_ble_eq_true rfl) rfl ⟨rfl, rfl⟩ ⟨Nat.le_of_ble_eq_true rfl, Nat.le_of_ble_eq_true rfl⟩ (EvP.mono (by decide) (c_M_gives_r0 hT20 p29 p30 p31 )) (fun r32 P33 g34 => mpp 135 rfl ?_)
        obtain ⟨⟨rfl, g36⟩, hT37, k38, R39⟩ := g34
        have k40 : KW [1109, 1664, 1728, 1856] Po P33 := KW.trans k24 k38 rfl
        show MEvP _ none q_201 135 [(0, .ref 301), (1, .int t1), (2, .int v2)] [] _ _ _ _
        refine mp_a (a_aload_n dX7_gives_135 rfl) (mpp 136 rfl ?_)
        refine mt_getU (i := 43) (k := 18) (A := 313) hT37 dX7_gives_136 rfl rl_301 (by decide) rfl (by decide) rfl un_29 (mpp 139 rfl ?_)
        refine mp_a (a_iload_n dX7_gives_139 rfl) (mpp 140 rfl ?_)
        refine mp_a (a_iconst (v := 0) dX7_gives_140 rfl) (mpp 141 rfl ?_)
        refine mt_bas (n := 7) hT37 dX7_gives_141 rl_313 (by decide) rfl rfl (by omega) (by omega) rfl (by decide) (fun P42 hT43 f44 f45 f46 => mpp 142 rfl ?_)
        have k47 : KW [1109, 1664, 1728, 1856] Po P42 := KW.step k40 rl_313 rfl f45 f46
        obtain ⟨z48, h49⟩ := ti_ex (v2 + 1 : Int32)
        have wz48 := ti_full z48
        refine mp_a (a_iinc (v := z48) (L' := [(2, .int z48), (0, .ref 301), (1, .int t1)]) dX7_gives_142 (by decide) rfl h49 rfl) (mpp 145 rfl ?_)
        try have e50 : z48.toInt = v2.toInt + 1 := ti_addz h49 rfl rfl (by omega) (by omega)
        refine mp_a (a_goto (t := 63) dX7_gives_145 (by decide)) ?_
        refine MEvP.less (L := [(0, .ref 301), (1, .int t1), (2, .int z48)]) rfl rfl ⟨rfl, rfl, rfl, trivial⟩ ?_
        have i51 : 0 ≤ z48.toInt := by omega
        exact ih _ (by omega) _ P42 hT43 k47 i51 rfl
      · have c12 : t1.toInt > 0 := ti_le_n c12
        refine mp_a (a_iload_n dX7_gives_84 rfl) (mpp 85 rfl ?_)
        refine mp_a (a_aload_n dX7_gives_85 rfl) (mpp 86 rfl ?_)
        refine mt_getU (i := 34) (k := 15) (A := 310) hT dX7_gives_86 rfl rl_301 (by decide) rfl (by decide) rfl un_26 (mpp 89 rfl ?_)
        refine mp_a (a_iload_n dX7_gives_89 rfl) (mpp 90 rfl ?_)
        refine mp_a (a_iconst (v := 1) dX7_gives_90 rfl) (mpp 91 rfl ?_)
        obtain ⟨z52, h53⟩ := ti_ex (t1 - 1 : Int32)
        have wz52 := ti_full z52
        refine mp_t (s_isub (v := z52) dX7_gives_91 h53) (mpp 92 rfl ?_)
        try have e54 : z52.toInt = t1.toInt - 1 := ti_subz h53 rfl rfl (by omega) (by omega)
        refine mt_ial (n := 7) hT dX7_gives_92 rl_310 (by decide) rfl rfl (by omega) (by omega) rfl (fun g55 g56 => mpp 93 rfl ?_)
        refine mp_Tb (t := 100) (j_icmp_le dX7_gives_93) (by decide) (fun c57 => ?_) (fun c57 => mpp 96 rfl ?_)
        · have c57 : v2.toInt ≤ (fv P 310 z52.toInt.toNat).toInt := ti_le c57
          refine mp_a (a_iconst (v := 0) dX7_gives_100 rfl) (mpp 101 rfl ?_)
          refine mp_a (a_aload_n dX7_gives_101 rfl) (mpp 102 rfl ?_)
          refine mp_a (a_iload_n dX7_gives_102 rfl) (mpp 103 rfl ?_)
          refine mp_a (a_iconst (v := 1) dX7_gives_103 rfl) (mpp 104 rfl ?_)
          obtain ⟨z58, h59⟩ := ti_ex (t1 - 1 : Int32)
          have wz58 := ti_full z58
          refine mp_t (s_isub (v := z58) dX7_gives_104 h59) (mpp 105 rfl ?_)
          try have e60 : z58.toInt = t1.toInt - 1 := ti_subz h59 rfl rfl (by omega) (by omega)
          have p61 : 0 ≤ z58.toInt := by omega
          have p62 : z58.toInt ≤ 7 := by omega
          refine mt_callv (i := 273) (q' := q_206) (As := [.int z58]) (rest := [.int 0]) hT dX7_gives_105 rfl qm_206 (by decide) rfl rl_301 (by decide) rfl (Nat.le_of_ble_eq_true rfl) rfl ⟨rfl, rfl⟩ ⟨Nat.le_of_ble_eq_true rfl, Nat.le_of_ble_eq_true rfl⟩ (EvP.mono (by decide) (c_M_isAbove hT p61 p62 )) (fun r63 P64 g65 => mpp 108 rfl ?_)
          obtain ⟨⟨x66, rfl, g67⟩, e68⟩ := g65
          have e68 := e68.symm
          subst e68
          have wx66 := ti_full x66
          replace g67 : 0 ≤ x66.toInt ∧ x66.toInt ≤ 1 := g67
          show MEvP _ none q_201 108 [(0, .ref 301), (1, .int t1), (2, .int v2)] [.int x66, .int 0] _ _ _ _
          refine mp_Tb (t := 114) (j_icmp_eq dX7_gives_108) (by decide) (fun c69 => ?_) (fun c69 => mpp 111 rfl ?_)
          · have c69 : 0 = x66.toInt := ti_eq c69
            refine mp_a (a_aload_n dX7_gives_114 rfl) (mpp 115 rfl ?_)
            refine mt_getU (i := 43) (k := 18) (A := 313) hT dX7_gives_115 rfl rl_301 (by decide) rfl (by decide) rfl un_29 (mpp 118 rfl ?_)
            refine mp_a (a_iload_n dX7_gives_118 rfl) (mpp 119 rfl ?_)
            refine mp_a (a_iconst (v := 1) dX7_gives_119 rfl) (mpp 120 rfl ?_)
            refine mt_bas (n := 7) hT dX7_gives_120 rl_313 (by decide) rfl rfl (by omega) (by omega) rfl (by decide) (fun P70 hT71 f72 f73 f74 => mpp 121 rfl ?_)
            have k75 : KW [1109, 1664, 1728, 1856] Po P70 := KW.step hK rl_313 rfl f73 f74
            refine mp_a (a_aload_n dX7_gives_121 rfl) (mpp 122 rfl ?_)
            refine mt_getU (i := 34) (k := 15) (A := 310) hT71 dX7_gives_122 rfl rl_301 (by decide) rfl (by decide) rfl un_26 (mpp 125 rfl ?_)
            refine mp_a (a_iload_n dX7_gives_125 rfl) (mpp 126 rfl ?_)
            refine mp_a (a_iload_n dX7_gives_126 rfl) (mpp 127 rfl ?_)
            refine mt_ias (n := 7) hT71 dX7_gives_127 rl_310 (by decide) rfl rfl (by omega) (by omega) rfl (ti_full v2) (fun P76 hT77 f78 f79 f80 => mpp 128 rfl ?_)
            have k81 : KW [1109, 1664, 1728, 1856] Po P76 := KW.step k75 rl_310 rfl f79 f80
            refine mp_a (a_aload_n dX7_gives_128 rfl) (mpp 129 rfl ?_)
            refine mp_a (a_iload_n dX7_gives_129 rfl) (mpp 130 rfl ?_)
            refine mp_a (a_iconst (v := 1) dX7_gives_130 rfl) (mpp 131 rfl ?_)
            obtain ⟨z82, h83⟩ := ti_ex (t1 + 1 : Int32)
            have wz82 := ti_full z82
            refine mp_t (s_iadd (v := z82) dX7_gives_131 h83) (mpp 132 rfl ?_)
            try have e84 : z82.toInt = t1.toInt + 1 := ti_addz h83 rfl rfl (by omega) (by omega)
            have e85 : (fv P76 301 20).toInt = (fv P 301 20).toInt := congrArg Int32.toInt ((f79 301 20 (ne_r rl_301 rl_310 rfl)).trans (f73 301 20 (ne_r rl_301 rl_313 rfl)))
            have p86 : 0 ≤ z82.toInt := by omega
            have p87 : (fv P76 301 20).toInt = z82.toInt + 0 := by omega
            have p88 : (fv P76 301 20).toInt ≤ 7 := by omega
            refine mt_callv (i := 276) (q' := q_201) (As := [.int z82]) (rest := []) hT77 dX7_gives_132 rfl qm_201 (by decide) rfl rl_301 (by decide) rfl (Nat.le_of_ble_eq_true rfl) rfl ⟨rfl, rfl⟩ ⟨Nat.le_of_ble_eq_true rfl, Nat.le_of_ble_eq_true rfl⟩ (EvP.mono (by decide) (c_M_gives_r0 hT77 p86 p87 p88 )) (fun r89 P90 g91 => mpp 135 rfl ?_)
            obtain ⟨⟨rfl, g93⟩, hT94, k95, R96⟩ := g91
            have k97 : KW [1109, 1664, 1728, 1856] Po P90 := KW.trans k81 k95 rfl
            show MEvP _ none q_201 135 [(0, .ref 301), (1, .int t1), (2, .int v2)] [] _ _ _ _
            refine mp_a (a_aload_n dX7_gives_135 rfl) (mpp 136 rfl ?_)
            refine mt_getU (i := 43) (k := 18) (A := 313) hT94 dX7_gives_136 rfl rl_301 (by decide) rfl (by decide) rfl un_29 (mpp 139 rfl ?_)
            refine mp_a (a_iload_n dX7_gives_139 rfl) (mpp 140 rfl ?_)
            refine mp_a (a_iconst (v := 0) dX7_gives_140 rfl) (mpp 141 rfl ?_)
            refine mt_bas (n := 7) hT94 dX7_gives_141 rl_313 (by decide) rfl rfl (by omega) (by omega) rfl (by decide) (fun P99 hT100 f101 f102 f103 => mpp 142 rfl ?_)
            have k104 : KW [1109, 1664, 1728, 1856] Po P99 := KW.step k97 rl_313 rfl f102 f103
            obtain ⟨z105, h106⟩ := ti_ex (v2 + 1 : Int32)
            have wz105 := ti_full z105
            refine mp_a (a_iinc (v := z105) (L' := [(2, .int z105), (0, .ref 301), (1, .int t1)]) dX7_gives_142 (by decide) rfl h106 rfl) (mpp 145 rfl ?_)
            try have e107 : z105.toInt = v2.toInt + 1 := ti_addz h106 rfl rfl (by omega) (by omega)
            refine mp_a (a_goto (t := 63) dX7_gives_145 (by decide)) ?_
            refine MEvP.less (L := [(0, .ref 301), (1, .int t1), (2, .int z105)]) rfl rfl ⟨rfl, rfl, rfl, trivial⟩ ?_
            have i108 : 0 ≤ z105.toInt := by omega
            exact ih _ (by omega) _ P99 hT100 k104 i108 rfl
          · have c69 : 0 ≠ x66.toInt := ti_eq_n c69
            refine mp_a (a_goto (t := 142) dX7_gives_111 (by decide)) ?_
            obtain ⟨z109, h110⟩ := ti_ex (v2 + 1 : Int32)
            have wz109 := ti_full z109
            refine mp_a (a_iinc (v := z109) (L' := [(2, .int z109), (0, .ref 301), (1, .int t1)]) dX7_gives_142 (by decide) rfl h110 rfl) (mpp 145 rfl ?_)
            try have e111 : z109.toInt = v2.toInt + 1 := ti_addz h110 rfl rfl (by omega) (by omega)
            refine mp_a (a_goto (t := 63) dX7_gives_145 (by decide)) ?_
            refine MEvP.less (L := [(0, .ref 301), (1, .int t1), (2, .int z109)]) rfl rfl ⟨rfl, rfl, rfl, trivial⟩ ?_
            have i112 : 0 ≤ z109.toInt := by omega
            exact ih _ (by omega) _ P hT hK i112 rfl
        · have c57 : v2.toInt > (fv P 310 z52.toInt.toNat).toInt := ti_le_n c57
          refine mp_a (a_iconst (v := 1) dX7_gives_96 rfl) (mpp 97 rfl ?_)
          refine mp_a (a_goto (t := 101) dX7_gives_97 (by decide)) ?_
          refine mp_a (a_aload_n dX7_gives_101 rfl) (mpp 102 rfl ?_)
          refine mp_a (a_iload_n dX7_gives_102 rfl) (mpp 103 rfl ?_)
          refine mp_a (a_iconst (v := 1) dX7_gives_103 rfl) (mpp 104 rfl ?_)
          obtain ⟨z113, h114⟩ := ti_ex (t1 - 1 : Int32)
          have wz113 := ti_full z113
          refine mp_t (s_isub (v := z113) dX7_gives_104 h114) (mpp 105 rfl ?_)
          try have e115 : z113.toInt = t1.toInt - 1 := ti_subz h114 rfl rfl (by omega) (by omega)
          have p116 : 0 ≤ z113.toInt := by omega
          have p117 : z113.toInt ≤ 7 := by omega
          refine mt_callv (i := 273) (q' := q_206) (As := [.int z113]) (rest := [.int 1]) hT dX7_gives_105 rfl qm_206 (by decide) rfl rl_301 (by decide) rfl (Nat.le_of_ble_eq_true rfl) rfl ⟨rfl, rfl⟩ ⟨Nat.le_of_ble_eq_true rfl, Nat.le_of_ble_eq_true rfl⟩ (EvP.mono (by decide) (c_M_isAbove hT p116 p117 )) (fun r118 P119 g120 => mpp 108 rfl ?_)
          obtain ⟨⟨x121, rfl, g122⟩, e123⟩ := g120
          have e123 := e123.symm
          subst e123
          have wx121 := ti_full x121
          replace g122 : 0 ≤ x121.toInt ∧ x121.toInt ≤ 1 := g122
          show MEvP _ none q_201 108 [(0, .ref 301), (1, .int t1), (2, .int v2)] [.int x121, .int 1] _ _ _ _
          refine mp_Tb (t := 114) (j_icmp_eq dX7_gives_108) (by decide) (fun c124 => ?_) (fun c124 => mpp 111 rfl ?_)
          · have c124 : 1 = x121.toInt := ti_eq c124
            refine mp_a (a_aload_n dX7_gives_114 rfl) (mpp 115 rfl ?_)
            refine mt_getU (i := 43) (k := 18) (A := 313) hT dX7_gives_115 rfl rl_301 (by decide) rfl (by decide) rfl un_29 (mpp 118 rfl ?_)
            refine mp_a (a_iload_n dX7_gives_118 rfl) (mpp 119 rfl ?_)
            refine mp_a (a_iconst (v := 1) dX7_gives_119 rfl) (mpp 120 rfl ?_)
            refine mt_bas (n := 7) hT dX7_gives_120 rl_313 (by decide) rfl rfl (by omega) (by omega) rfl (by decide) (fun P125 hT126 f127 f128 f129 => mpp 121 rfl ?_)
            have k130 : KW [1109, 1664, 1728, 1856] Po P125 := KW.step hK rl_313 rfl f128 f129
            refine mp_a (a_aload_n dX7_gives_121 rfl) (mpp 122 rfl ?_)
            refine mt_getU (i := 34) (k := 15) (A := 310) hT126 dX7_gives_122 rfl rl_301 (by decide) rfl (by decide) rfl un_26 (mpp 125 rfl ?_)
            refine mp_a (a_iload_n dX7_gives_125 rfl) (mpp 126 rfl ?_)
            refine mp_a (a_iload_n dX7_gives_126 rfl) (mpp 127 rfl ?_)
            refine mt_ias (n := 7) hT126 dX7_gives_127 rl_310 (by decide) rfl rfl (by omega) (by omega) rfl (ti_full v2) (fun P131 hT132 f133 f134 f135 => mpp 128 rfl ?_)
            have k136 : KW [1109, 1664, 1728, 1856] Po P131 := KW.step k130 rl_310 rfl f134 f135
            refine mp_a (a_aload_n dX7_gives_128 rfl) (mpp 129 rfl ?_)
            refine mp_a (a_iload_n dX7_gives_129 rfl) (mpp 130 rfl ?_)
            refine mp_a (a_iconst (v := 1) dX7_gives_130 rfl) (mpp 131 rfl ?_)
            obtain ⟨z137, h138⟩ := ti_ex (t1 + 1 : Int32)
            have wz137 := ti_full z137
            refine mp_t (s_iadd (v := z137) dX7_gives_131 h138) (mpp 132 rfl ?_)
            try have e139 : z137.toInt = t1.toInt + 1 := ti_addz h138 rfl rfl (by omega) (by omega)
            have e140 : (fv P131 301 20).toInt = (fv P 301 20).toInt := congrArg Int32.toInt ((f134 301 20 (ne_r rl_301 rl_310 rfl)).trans (f128 301 20 (ne_r rl_301 rl_313 rfl)))
            have p141 : 0 ≤ z137.toInt := by omega
            have p142 : (fv P131 301 20).toInt = z137.toInt + 0 := by omega
            have p143 : (fv P131 301 20).toInt ≤ 7 := by omega
            refine mt_callv (i := 276) (q' := q_201) (As := [.int z137]) (rest := []) hT132 dX7_gives_132 rfl qm_201 (by decide) rfl rl_301 (by decide) rfl (Nat.le_of_ble_eq_true rfl) rfl ⟨rfl, rfl⟩ ⟨Nat.le_of_ble_eq_true rfl, Nat.le_of_ble_eq_true rfl⟩ (EvP.mono (by decide) (c_M_gives_r0 hT132 p141 p142 p143 )) (fun r144 P145 g146 => mpp 135 rfl ?_)
            obtain ⟨⟨rfl, g148⟩, hT149, k150, R151⟩ := g146
            have k152 : KW [1109, 1664, 1728, 1856] Po P145 := KW.trans k136 k150 rfl
            show MEvP _ none q_201 135 [(0, .ref 301), (1, .int t1), (2, .int v2)] [] _ _ _ _
            refine mp_a (a_aload_n dX7_gives_135 rfl) (mpp 136 rfl ?_)
            refine mt_getU (i := 43) (k := 18) (A := 313) hT149 dX7_gives_136 rfl rl_301 (by decide) rfl (by decide) rfl un_29 (mpp 139 rfl ?_)
            refine mp_a (a_iload_n dX7_gives_139 rfl) (mpp 140 rfl ?_)
            refine mp_a (a_iconst (v := 0) dX7_gives_140 rfl) (mpp 141 rfl ?_)
            refine mt_bas (n := 7) hT149 dX7_gives_141 rl_313 (by decide) rfl rfl (by omega) (by omega) rfl (by decide) (fun P154 hT155 f156 f157 f158 => mpp 142 rfl ?_)
            have k159 : KW [1109, 1664, 1728, 1856] Po P154 := KW.step k152 rl_313 rfl f157 f158
            obtain ⟨z160, h161⟩ := ti_ex (v2 + 1 : Int32)
            have wz160 := ti_full z160
            refine mp_a (a_iinc (v := z160) (L' := [(2, .int z160), (0, .ref 301), (1, .int t1)]) dX7_gives_142 (by decide) rfl h161 rfl) (mpp 145 rfl ?_)
            try have e162 : z160.toInt = v2.toInt + 1 := ti_addz h161 rfl rfl (by omega) (by omega)
            refine mp_a (a_goto (t := 63) dX7_gives_145 (by decide)) ?_
            refine MEvP.less (L := [(0, .ref 301), (1, .int t1), (2, .int z160)]) rfl rfl ⟨rfl, rfl, rfl, trivial⟩ ?_
            have i163 : 0 ≤ z160.toInt := by omega
            exact ih _ (by omega) _ P154 hT155 k159 i163 rfl
          · have c124 : 1 ≠ x121.toInt := ti_eq_n c124
            refine mp_a (a_goto (t := 142) dX7_gives_111 (by decide)) ?_
            obtain ⟨z164, h165⟩ := ti_ex (v2 + 1 : Int32)
            have wz164 := ti_full z164
            refine mp_a (a_iinc (v := z164) (L' := [(2, .int z164), (0, .ref 301), (1, .int t1)]) dX7_gives_142 (by decide) rfl h165 rfl) (mpp 145 rfl ?_)
            try have e166 : z164.toInt = v2.toInt + 1 := ti_addz h165 rfl rfl (by omega) (by omega)
            refine mp_a (a_goto (t := 63) dX7_gives_145 (by decide)) ?_
            refine MEvP.less (L := [(0, .ref 301), (1, .int t1), (2, .int z164)]) rfl rfl ⟨rfl, rfl, rfl, trivial⟩ ?_
            have i167 : 0 ≤ z164.toInt := by omega
            exact ih _ (by omega) _ P hT hK i167 rfl

set_option maxHeartbeats 4000000 in
theorem c_M_gives_r1 {Po : mP} {t1 : Int32} (hT : Typ Po)  (hp0 : 0 ≤ t1.toInt) (hp1 : (fv Po 301 20).toInt = t1.toInt + 1) (hp2 : (fv Po 301 20).toInt ≤ 7)  : EvP 6 201 [.ref 301, .int t1] Po (fun r P' => (r = none ∧ (True)) ∧ Typ P' ∧ KW [1109, 1664, 1728, 1856] Po P' ∧ True) := by
  refine EvP.of qm_201 (Nat.le_of_ble_eq_true rfl) rfl ?_
  show MEvP _ none q_201 0 [(0, .ref 301), (1, .int t1)] [] _ 0 0 _
  have w_t1 := ti_full t1
  have g1 : (0 : Int) ≤ (fv Po 301 20).toInt ∧ (fv Po 301 20).toInt ≤ 8 := Typ.rng hT rl_301 (by decide) (by decide) rfl
  refine mp_a (a_iload_n dX7_gives_0 rfl) (mpp 1 rfl ?_)
  refine mp_a (a_aload_n dX7_gives_1 rfl) (mpp 2 rfl ?_)
  refine mt_getI (i := 255) (k := 20) hT dX7_gives_2 rfl rl_301 (by decide) rfl (by decide) rfl (fun g2 g3 => mpp 5 rfl ?_)
  refine mp_Tb (t := 61) (j_icmp_ne dX7_gives_5) (by decide) (fun c4 => ?_) (fun c4 => mpp 8 rfl ?_)
  · have c4 : t1.toInt ≠ (fv Po 301 20).toInt := ti_ne c4
    refine mp_a (a_iconst (v := 0) dX7_gives_61 rfl) (mpp 62 rfl ?_)
    refine mp_a (a_istore_n (L' := [(2, .int 0), (0, .ref 301), (1, .int t1)]) dX7_gives_62 (by decide) rfl) (mpp 63 rfl ?_)
    refine MEvP.less (L := [(0, .ref 301), (1, .int t1), (2, .int 0)]) rfl rfl ⟨rfl, rfl, rfl, trivial⟩ ?_
    have i5 : 0 ≤ (0 : Int) := by omega
    exact c_M_gives_r1_l63   hp0 hp1 hp2 _ _ Po hT KW.refl i5 rfl
  · have c4 : t1.toInt = (fv Po 301 20).toInt := ti_ne_n c4
    exfalso
    omega

