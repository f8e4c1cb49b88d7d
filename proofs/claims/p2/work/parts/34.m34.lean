/-! methods on typed pools, 34 (written by a program) -/
set_option maxHeartbeats 4000000 in
theorem c_M_collides_l59 {Po : mP} {t1 : Int32} (hT : Typ Po)  (hp0 : 0 ≤ t1.toInt) (hp1 : t1.toInt + 2 ≤ (fv Po 301 20).toInt) (hp2 : (fv Po 301 20).toInt ≤ 7)  : ∀ (n : Nat) (v2 : Int32), (0 ≤ v2.toInt) → (2147483647 - v2.toInt).toNat = n → MEvP 2 none q_203 59 [(0, .ref 301), (1, .int t1), (2, .int v2)] [] Po 0 0 (fun r P' => (∃ x : Int32, r = some (.int x) ∧ (0 ≤ x.toInt ∧ x.toInt ≤ 1)) ∧ P' = Po) := by
  intro n
  induction n using Nat.strongRecOn with | _ n ih => ?_
  intro v2 i_0 hm
  have w_t1 := ti_full t1
  have w_v2 := ti_full v2
  have g1 : (0 : Int) ≤ (fv Po 301 20).toInt ∧ (fv Po 301 20).toInt ≤ 8 := Typ.rng hT rl_301 (by decide) (by decide) rfl
  refine mp_a (a_iload_n dX7_collides_59 rfl) (mpp 60 rfl ?_)
  refine mp_a (a_aload_n dX7_collides_60 rfl) (mpp 61 rfl ?_)
  refine mt_getI (i := 255) (k := 20) hT dX7_collides_61 rfl rl_301 (by decide) rfl (by decide) rfl (fun g2 g3 => mpp 64 rfl ?_)
  refine mp_a (a_iconst (v := 1) dX7_collides_64 rfl) (mpp 65 rfl ?_)
  obtain ⟨z4, h5⟩ := ti_ex ((fv Po 301 20) - 1 : Int32)
  have wz4 := ti_full z4
  refine mp_t (s_isub (v := z4) dX7_collides_65 h5) (mpp 66 rfl ?_)
  try have e6 : z4.toInt = (fv Po 301 20).toInt - 1 := ti_subz h5 rfl rfl (by omega) (by omega)
  refine mp_Tb (t := 128) (j_icmp_ge dX7_collides_66) (by decide) (fun c7 => ?_) (fun c7 => mpp 69 rfl ?_)
  · have c7 : v2.toInt ≥ z4.toInt := ti_ge c7
    refine mp_a (a_iconst (v := 0) dX7_collides_128 rfl) (mpp 129 rfl ?_)
    have u8 : 0 ≤ (0 : Int) ∧ (0 : Int) ≤ 1 := by omega
    exact mp_iret ⟨⟨_, rfl, u8⟩, rfl⟩ dX7_collides_129 (Or.inr ⟨rfl, by decide⟩)
  · have c7 : v2.toInt < z4.toInt := ti_ge_n c7
    refine mp_a (a_iload_n dX7_collides_69 rfl) (mpp 70 rfl ?_)
    refine mp_a (a_iload_n dX7_collides_70 rfl) (mpp 71 rfl ?_)
    refine mp_Tb (t := 97) (j_icmp_eq dX7_collides_71) (by decide) (fun c9 => ?_) (fun c9 => mpp 74 rfl ?_)
    · have c9 : v2.toInt = t1.toInt := ti_eq c9
      refine mp_a (a_iconst (v := 0) dX7_collides_97 rfl) (mpp 98 rfl ?_)
      refine mp_a (a_istore_n (L' := [(3, .int 0), (0, .ref 301), (1, .int t1), (2, .int v2)]) dX7_collides_98 (by decide) rfl) (mpp 99 rfl ?_)
      refine mp_a (a_iload_n dX7_collides_99 rfl) (mpp 100 rfl ?_)
      refine mp_Tt (t := 122) (j_if_eq dX7_collides_100) (by decide) (by decide) ?_
      obtain ⟨z10, h11⟩ := ti_ex (v2 + 2 : Int32)
      have wz10 := ti_full z10
      refine mp_a (a_iinc (v := z10) (L' := [(2, .int z10), (3, .int 0), (0, .ref 301), (1, .int t1)]) dX7_collides_122 (by decide) rfl h11 rfl) (mpp 125 rfl ?_)
      try have e12 : z10.toInt = v2.toInt + 2 := ti_addz h11 rfl rfl (by omega) (by omega)
      refine mp_a (a_goto (t := 59) dX7_collides_125 (by decide)) ?_
      refine MEvP.less (L := [(0, .ref 301), (1, .int t1), (2, .int z10)]) rfl rfl ⟨rfl, rfl, rfl, trivial⟩ ?_
      have i13 : 0 ≤ z10.toInt := by omega
      exact ih _ (by omega) _ i13 rfl
    · have c9 : v2.toInt ≠ t1.toInt := ti_eq_n c9
      refine mp_a (a_aload_n dX7_collides_74 rfl) (mpp 75 rfl ?_)
      refine mt_getU (i := 40) (k := 17) (A := 312) hT dX7_collides_75 rfl rl_301 (by decide) rfl (by decide) rfl un_28 (mpp 78 rfl ?_)
      refine mp_a (a_iload_n dX7_collides_78 rfl) (mpp 79 rfl ?_)
      refine mp_a (a_iconst (v := 1) dX7_collides_79 rfl) (mpp 80 rfl ?_)
      obtain ⟨z14, h15⟩ := ti_ex (v2 + 1 : Int32)
      have wz14 := ti_full z14
      refine mp_t (s_iadd (v := z14) dX7_collides_80 h15) (mpp 81 rfl ?_)
      try have e16 : z14.toInt = v2.toInt + 1 := ti_addz h15 rfl rfl (by omega) (by omega)
      refine mt_ial (n := 8) hT dX7_collides_81 rl_312 (by decide) rfl rfl (by omega) (by omega) rfl (fun g17 g18 => mpp 82 rfl ?_)
      refine mp_a (a_aload_n dX7_collides_82 rfl) (mpp 83 rfl ?_)
      refine mt_getU (i := 40) (k := 17) (A := 312) hT dX7_collides_83 rfl rl_301 (by decide) rfl (by decide) rfl un_28 (mpp 86 rfl ?_)
      refine mp_a (a_iload_n dX7_collides_86 rfl) (mpp 87 rfl ?_)
      refine mp_a (a_iconst (v := 1) dX7_collides_87 rfl) (mpp 88 rfl ?_)
      obtain ⟨z19, h20⟩ := ti_ex (t1 + 1 : Int32)
      have wz19 := ti_full z19
      refine mp_t (s_iadd (v := z19) dX7_collides_88 h20) (mpp 89 rfl ?_)
      try have e21 : z19.toInt = t1.toInt + 1 := ti_addz h20 rfl rfl (by omega) (by omega)
      refine mt_ial (n := 8) hT dX7_collides_89 rl_312 (by decide) rfl rfl (by omega) (by omega) rfl (fun g22 g23 => mpp 90 rfl ?_)
      refine mp_Tb (t := 97) (j_icmp_ne dX7_collides_90) (by decide) (fun c24 => ?_) (fun c24 => mpp 93 rfl ?_)
      · have c24 : (fv Po 312 z14.toInt.toNat).toInt ≠ (fv Po 312 z19.toInt.toNat).toInt := ti_ne c24
        refine mp_a (a_iconst (v := 0) dX7_collides_97 rfl) (mpp 98 rfl ?_)
        refine mp_a (a_istore_n (L' := [(3, .int 0), (0, .ref 301), (1, .int t1), (2, .int v2)]) dX7_collides_98 (by decide) rfl) (mpp 99 rfl ?_)
        refine mp_a (a_iload_n dX7_collides_99 rfl) (mpp 100 rfl ?_)
        refine mp_Tt (t := 122) (j_if_eq dX7_collides_100) (by decide) (by decide) ?_
        obtain ⟨z25, h26⟩ := ti_ex (v2 + 2 : Int32)
        have wz25 := ti_full z25
        refine mp_a (a_iinc (v := z25) (L' := [(2, .int z25), (3, .int 0), (0, .ref 301), (1, .int t1)]) dX7_collides_122 (by decide) rfl h26 rfl) (mpp 125 rfl ?_)
        try have e27 : z25.toInt = v2.toInt + 2 := ti_addz h26 rfl rfl (by omega) (by omega)
        refine mp_a (a_goto (t := 59) dX7_collides_125 (by decide)) ?_
        refine MEvP.less (L := [(0, .ref 301), (1, .int t1), (2, .int z25)]) rfl rfl ⟨rfl, rfl, rfl, trivial⟩ ?_
        have i28 : 0 ≤ z25.toInt := by omega
        exact ih _ (by omega) _ i28 rfl
      · have c24 : (fv Po 312 z14.toInt.toNat).toInt = (fv Po 312 z19.toInt.toNat).toInt := ti_ne_n c24
        refine mp_a (a_iconst (v := 1) dX7_collides_93 rfl) (mpp 94 rfl ?_)
        refine mp_a (a_goto (t := 98) dX7_collides_94 (by decide)) ?_
        refine mp_a (a_istore_n (L' := [(3, .int 1), (0, .ref 301), (1, .int t1), (2, .int v2)]) dX7_collides_98 (by decide) rfl) (mpp 99 rfl ?_)
        refine mp_a (a_iload_n dX7_collides_99 rfl) (mpp 100 rfl ?_)
        refine mp_Tf (t := 122) (j_if_eq dX7_collides_100) (by decide) (by decide) (mpp 103 rfl ?_)
        refine mp_a (a_aload_n dX7_collides_103 rfl) (mpp 104 rfl ?_)
        refine mp_a (a_iload_n dX7_collides_104 rfl) (mpp 105 rfl ?_)
        refine mp_a (a_iload_n dX7_collides_105 rfl) (mpp 106 rfl ?_)
        have p29 : 0 ≤ v2.toInt := by omega
        have p30 : v2.toInt ≤ 6 := by omega
        have p31 : 0 ≤ t1.toInt := by omega
        have p32 : t1.toInt ≤ 5 := by omega
        refine mt_callv (i := 261) (q' := q_205) (As := [.int v2, .int t1]) (rest := []) hT dX7_collides_106 rfl qm_205 (by decide) rfl rl_301 (by decide) rfl (Nat.le_of_ble_eq_true rfl) rfl ⟨rfl, rfl⟩ ⟨Nat.le_of_ble_eq_true rfl, Nat.le_of_ble_eq_true rfl⟩ (EvP.mono (by decide) (c_M_isBetween hT p29 p30 p31 p32 )) (fun r33 P34 g35 => mpp 109 rfl ?_)
        obtain ⟨⟨x36, rfl, g37⟩, e38⟩ := g35
        have e38 := e38.symm
        subst e38
        have wx36 := ti_full x36
        replace g37 : 0 ≤ x36.toInt ∧ x36.toInt ≤ 1 := g37
        show MEvP _ none q_203 109 [(3, .int 1), (0, .ref 301), (1, .int t1), (2, .int v2)] [.int x36] _ _ _ _
        refine mp_a (a_aload_n dX7_collides_109 rfl) (mpp 110 rfl ?_)
        refine mp_a (a_iload_n dX7_collides_110 rfl) (mpp 111 rfl ?_)
        refine mp_a (a_iconst (v := 1) dX7_collides_111 rfl) (mpp 112 rfl ?_)
        obtain ⟨z39, h40⟩ := ti_ex (v2 + 1 : Int32)
        have wz39 := ti_full z39
        refine mp_t (s_iadd (v := z39) dX7_collides_112 h40) (mpp 113 rfl ?_)
        try have e41 : z39.toInt = v2.toInt + 1 := ti_addz h40 rfl rfl (by omega) (by omega)
        refine mp_a (a_iload_n dX7_collides_113 rfl) (mpp 114 rfl ?_)
        have p42 : 0 ≤ z39.toInt := by omega
        have p43 : z39.toInt ≤ 6 := by omega
        have p44 : 0 ≤ t1.toInt := by omega
        have p45 : t1.toInt ≤ 5 := by omega
        refine mt_callv (i := 261) (q' := q_205) (As := [.int z39, .int t1]) (rest := [.int x36]) hT dX7_collides_114 rfl qm_205 (by decide) rfl rl_301 (by decide) rfl (Nat.le_of_ble_eq_true rfl) rfl ⟨rfl, rfl⟩ ⟨Nat.le_of_ble_eq_true rfl, Nat.le_of_ble_eq_true rfl⟩ (EvP.mono (by decide) (c_M_isBetween hT p42 p43 p44 p45 )) (fun r46 P47 g48 => mpp 117 rfl ?_)
        obtain ⟨⟨x49, rfl, g50⟩, e51⟩ := g48
        have e51 := e51.symm
        subst e51
        have wx49 := ti_full x49
        replace g50 : 0 ≤ x49.toInt ∧ x49.toInt ≤ 1 := g50
        show MEvP _ none q_203 117 [(3, .int 1), (0, .ref 301), (1, .int t1), (2, .int v2)] [.int x49, .int x36] _ _ _ _
        refine mp_Tb (t := 122) (j_icmp_eq dX7_collides_117) (by decide) (fun c52 => ?_) (fun c52 => mpp 120 rfl ?_)
        · have c52 : x36.toInt = x49.toInt := ti_eq c52
          obtain ⟨z53, h54⟩ := ti_ex (v2 + 2 : Int32)
          have wz53 := ti_full z53
          refine mp_a (a_iinc (v := z53) (L' := [(2, .int z53), (3, .int 1), (0, .ref 301), (1, .int t1)]) dX7_collides_122 (by decide) rfl h54 rfl) (mpp 125 rfl ?_)
          try have e55 : z53.toInt = v2.toInt + 2 := ti_addz h54 rfl rfl (by omega) (by omega)
          refine mp_a (a_goto (t := 59) dX7_collides_125 (by decide)) ?_
          refine MEvP.less (L := [(0, .ref 301), (1, .int t1), (2, .int z53)]) rfl rfl ⟨rfl, rfl, rfl, trivial⟩ ?_
          have i56 : 0 ≤ z53.toInt := by omega
          exact ih _ (by omega) _ i56 rfl
        · have c52 : x36.toInt ≠ x49.toInt := ti_eq_n c52
          refine mp_a (a_iconst (v := 1) dX7_collides_120 rfl) (mpp 121 rfl ?_)
          have u57 : 0 ≤ (1 : Int) ∧ (1 : Int) ≤ 1 := by omega
          exact mp_iret ⟨⟨_, rfl, u57⟩, rfl⟩ dX7_collides_121 (Or.inr ⟨rfl, by decide⟩)

set_option maxHeartbeats 4000000 in
theorem c_M_collides_l2 {Po : mP} {t1 : Int32} (hT : Typ Po)  (hp0 : 0 ≤ t1.toInt) (hp1 : t1.toInt + 2 ≤ (fv Po 301 20).toInt) (hp2 : (fv Po 301 20).toInt ≤ 7)  : ∀ (n : Nat) (v2 : Int32), (0 ≤ v2.toInt) → (2147483647 - v2.toInt).toNat = n → MEvP 2 none q_203 2 [(0, .ref 301), (1, .int t1), (2, .int v2)] [] Po 0 0 (fun r P' => (∃ x : Int32, r = some (.int x) ∧ (0 ≤ x.toInt ∧ x.toInt ≤ 1)) ∧ P' = Po) := by
  intro n
  induction n using Nat.strongRecOn with | _ n ih => ?_
  intro v2 i_0 hm
  have w_t1 := ti_full t1
  have w_v2 := ti_full v2
  have g1 : (0 : Int) ≤ (fv Po 301 20).toInt ∧ (fv Po 301 20).toInt ≤ 8 := Typ.rng hT rl_301 (by decide) (by decide) rfl
  refine mp_a (a_iload_n dX7_collides_2 rfl) (mpp 3 rfl ?_)
  refine mp_a (a_aload_n dX7_collides_3 rfl) (mpp 4 rfl ?_)
  refine mt_getI (i := 255) (k := 20) hT dX7_collides_4 rfl rl_301 (by decide) rfl (by decide) rfl (fun g2 g3 => mpp 7 rfl ?_)
  refine mp_Tb (t := 55) (j_icmp_ge dX7_collides_7) (by decide) (fun c4 => ?_) (fun c4 => mpp 10 rfl ?_)
  · have c4 : v2.toInt ≥ (fv Po 301 20).toInt := ti_ge c4
    refine mp_a (a_iload_n dX7_collides_55 rfl) (mpp 56 rfl ?_)
    refine mp_a (a_iconst (v := 2) dX7_collides_56 rfl) (mpp 57 rfl ?_)
    obtain ⟨z5, h6⟩ := ti_ex (t1 - t1 / 2 * 2 : Int32)
    have wz5 := ti_full z5
    try have e8 : z5.toInt = t1.toInt % 2 := ti_remx h6 (show (0 : Int) ≤ t1.toInt by omega) (show (0 : Int) < 2 by omega)
    try have e7 : 0 ≤ z5.toInt ∧ z5.toInt < 2 := ti_rem h6 (show (0 : Int) ≤ t1.toInt by omega) (show (0 : Int) < 2 by omega)
    refine mp_t (s_irem (v := z5) dX7_collides_57 (by decide) h6) (mpp 58 rfl ?_)
    refine mp_a (a_istore_n (L' := [(2, .int z5), (0, .ref 301), (1, .int t1)]) dX7_collides_58 (by decide) rfl) (mpp 59 rfl ?_)
    refine MEvP.less (L := [(0, .ref 301), (1, .int t1), (2, .int z5)]) rfl rfl ⟨rfl, rfl, rfl, trivial⟩ ?_
    have i9 : 0 ≤ z5.toInt := by omega
    exact c_M_collides_l59 hT  hp0 hp1 hp2 _ _ i9 rfl
  · have c4 : v2.toInt < (fv Po 301 20).toInt := ti_ge_n c4
    refine mp_a (a_iload_n dX7_collides_10 rfl) (mpp 11 rfl ?_)
    refine mp_a (a_iload_n dX7_collides_11 rfl) (mpp 12 rfl ?_)
    refine mp_Tb (t := 49) (j_icmp_eq dX7_collides_12) (by decide) (fun c10 => ?_) (fun c10 => mpp 15 rfl ?_)
    · have c10 : v2.toInt = t1.toInt := ti_eq c10
      obtain ⟨z11, h12⟩ := ti_ex (v2 + 1 : Int32)
      have wz11 := ti_full z11
      refine mp_a (a_iinc (v := z11) (L' := [(2, .int z11), (0, .ref 301), (1, .int t1)]) dX7_collides_49 (by decide) rfl h12 rfl) (mpp 52 rfl ?_)
      try have e13 : z11.toInt = v2.toInt + 1 := ti_addz h12 rfl rfl (by omega) (by omega)
      refine mp_a (a_goto (t := 2) dX7_collides_52 (by decide)) ?_
      refine MEvP.less (L := [(0, .ref 301), (1, .int t1), (2, .int z11)]) rfl rfl ⟨rfl, rfl, rfl, trivial⟩ ?_
      have i14 : 0 ≤ z11.toInt := by omega
      exact ih _ (by omega) _ i14 rfl
    · have c10 : v2.toInt ≠ t1.toInt := ti_eq_n c10
      refine mp_a (a_iload_n dX7_collides_15 rfl) (mpp 16 rfl ?_)
      refine mp_a (a_iload_n dX7_collides_16 rfl) (mpp 17 rfl ?_)
      refine mp_a (a_iconst (v := 1) dX7_collides_17 rfl) (mpp 18 rfl ?_)
      obtain ⟨z15, h16⟩ := ti_ex (t1 + 1 : Int32)
      have wz15 := ti_full z15
      refine mp_t (s_iadd (v := z15) dX7_collides_18 h16) (mpp 19 rfl ?_)
      try have e17 : z15.toInt = t1.toInt + 1 := ti_addz h16 rfl rfl (by omega) (by omega)
      refine mp_Tb (t := 49) (j_icmp_eq dX7_collides_19) (by decide) (fun c18 => ?_) (fun c18 => mpp 22 rfl ?_)
      · have c18 : v2.toInt = z15.toInt := ti_eq c18
        obtain ⟨z19, h20⟩ := ti_ex (v2 + 1 : Int32)
        have wz19 := ti_full z19
        refine mp_a (a_iinc (v := z19) (L' := [(2, .int z19), (0, .ref 301), (1, .int t1)]) dX7_collides_49 (by decide) rfl h20 rfl) (mpp 52 rfl ?_)
        try have e21 : z19.toInt = v2.toInt + 1 := ti_addz h20 rfl rfl (by omega) (by omega)
        refine mp_a (a_goto (t := 2) dX7_collides_52 (by decide)) ?_
        refine MEvP.less (L := [(0, .ref 301), (1, .int t1), (2, .int z19)]) rfl rfl ⟨rfl, rfl, rfl, trivial⟩ ?_
        have i22 : 0 ≤ z19.toInt := by omega
        exact ih _ (by omega) _ i22 rfl
      · have c18 : v2.toInt ≠ z15.toInt := ti_eq_n c18
        refine mp_a (a_aload_n dX7_collides_22 rfl) (mpp 23 rfl ?_)
        refine mp_a (a_iload_n dX7_collides_23 rfl) (mpp 24 rfl ?_)
        refine mp_a (a_aload_n dX7_collides_24 rfl) (mpp 25 rfl ?_)
        refine mt_getU (i := 40) (k := 17) (A := 312) hT dX7_collides_25 rfl rl_301 (by decide) rfl (by decide) rfl un_28 (mpp 28 rfl ?_)
        refine mp_a (a_iload_n dX7_collides_28 rfl) (mpp 29 rfl ?_)
        refine mp_a (a_iconst (v := 1) dX7_collides_29 rfl) (mpp 30 rfl ?_)
        obtain ⟨z23, h24⟩ := ti_ex (t1 + 1 : Int32)
        have wz23 := ti_full z23
        refine mp_t (s_iadd (v := z23) dX7_collides_30 h24) (mpp 31 rfl ?_)
        try have e25 : z23.toInt = t1.toInt + 1 := ti_addz h24 rfl rfl (by omega) (by omega)
        refine mt_ial (n := 8) hT dX7_collides_31 rl_312 (by decide) rfl rfl (by omega) (by omega) rfl (fun g26 g27 => mpp 32 rfl ?_)
        have p28 : 0 ≤ v2.toInt := by omega
        have p29 : v2.toInt ≤ 6 := by omega
        refine mt_callv (i := 258) (q' := q_204) (As := [.int v2, .int (fv Po 312 z23.toInt.toNat)]) (rest := []) hT dX7_collides_32 rfl qm_204 (by decide) rfl rl_301 (by decide) rfl (Nat.le_of_ble_eq_true rfl) rfl ⟨rfl, rfl⟩ ⟨Nat.le_of_ble_eq_true rfl, Nat.le_of_ble_eq_true rfl⟩ (EvP.mono (by decide) (c_M_reachesOver hT p28 p29 )) (fun r30 P31 g32 => mpp 35 rfl ?_)
        obtain ⟨⟨x33, rfl, g34⟩, e35⟩ := g32
        have e35 := e35.symm
        subst e35
        have wx33 := ti_full x33
        replace g34 : 0 ≤ x33.toInt ∧ x33.toInt ≤ 1 := g34
        show MEvP _ none q_203 35 [(0, .ref 301), (1, .int t1), (2, .int v2)] [.int x33] _ _ _ _
        refine mp_Tb (t := 49) (j_if_eq dX7_collides_35) (by decide) (fun c36 => ?_) (fun c36 => mpp 38 rfl ?_)
        · have c36 : x33.toInt = 0 := ti_eq c36
          obtain ⟨z37, h38⟩ := ti_ex (v2 + 1 : Int32)
          have wz37 := ti_full z37
          refine mp_a (a_iinc (v := z37) (L' := [(2, .int z37), (0, .ref 301), (1, .int t1)]) dX7_collides_49 (by decide) rfl h38 rfl) (mpp 52 rfl ?_)
          try have e39 : z37.toInt = v2.toInt + 1 := ti_addz h38 rfl rfl (by omega) (by omega)
          refine mp_a (a_goto (t := 2) dX7_collides_52 (by decide)) ?_
          refine MEvP.less (L := [(0, .ref 301), (1, .int t1), (2, .int z37)]) rfl rfl ⟨rfl, rfl, rfl, trivial⟩ ?_
          have i40 : 0 ≤ z37.toInt := by omega
          exact ih _ (by omega) _ i40 rfl
        · have c36 : x33.toInt ≠ 0 := ti_eq_n c36
          refine mp_a (a_aload_n dX7_collides_38 rfl) (mpp 39 rfl ?_)
          refine mp_a (a_iload_n dX7_collides_39 rfl) (mpp 40 rfl ?_)
          refine mp_a (a_iload_n dX7_collides_40 rfl) (mpp 41 rfl ?_)
          have p41 : 0 ≤ v2.toInt := by omega
          have p42 : v2.toInt ≤ 6 := by omega
          have p43 : 0 ≤ t1.toInt := by omega
          have p44 : t1.toInt ≤ 5 := by omega
          refine mt_callv (i := 261) (q' := q_205) (As := [.int v2, .int t1]) (rest := []) hT dX7_collides_41 rfl qm_205 (by decide) rfl rl_301 (by decide) rfl (Nat.le_of_ble_eq_true rfl) rfl ⟨rfl, rfl⟩ ⟨Nat.le_of_ble_eq_true rfl, Nat.le_of_ble_eq_true rfl⟩ (EvP.mono (by decide) (c_M_isBetween hT p41 p42 p43 p44 )) (fun r45 P46 g47 => mpp 44 rfl ?_)
          obtain ⟨⟨x48, rfl, g49⟩, e50⟩ := g47
          have e50 := e50.symm
          subst e50
          have wx48 := ti_full x48
          replace g49 : 0 ≤ x48.toInt ∧ x48.toInt ≤ 1 := g49
          show MEvP _ none q_203 44 [(0, .ref 301), (1, .int t1), (2, .int v2)] [.int x48] _ _ _ _
          refine mp_Tb (t := 49) (j_if_eq dX7_collides_44) (by decide) (fun c51 => ?_) (fun c51 => mpp 47 rfl ?_)
          · have c51 : x48.toInt = 0 := ti_eq c51
            obtain ⟨z52, h53⟩ := ti_ex (v2 + 1 : Int32)
            have wz52 := ti_full z52
            refine mp_a (a_iinc (v := z52) (L' := [(2, .int z52), (0, .ref 301), (1, .int t1)]) dX7_collides_49 (by decide) rfl h53 rfl) (mpp 52 rfl ?_)
            try have e54 : z52.toInt = v2.toInt + 1 := ti_addz h53 rfl rfl (by omega) (by omega)
            refine mp_a (a_goto (t := 2) dX7_collides_52 (by decide)) ?_
            refine MEvP.less (L := [(0, .ref 301), (1, .int t1), (2, .int z52)]) rfl rfl ⟨rfl, rfl, rfl, trivial⟩ ?_
            have i55 : 0 ≤ z52.toInt := by omega
            exact ih _ (by omega) _ i55 rfl
          · have c51 : x48.toInt ≠ 0 := ti_eq_n c51
            refine mp_a (a_iconst (v := 1) dX7_collides_47 rfl) (mpp 48 rfl ?_)
            have u56 : 0 ≤ (1 : Int) ∧ (1 : Int) ≤ 1 := by omega
            exact mp_iret ⟨⟨_, rfl, u56⟩, rfl⟩ dX7_collides_48 (Or.inr ⟨rfl, by decide⟩)

set_option maxHeartbeats 4000000 in
theorem c_M_collides {Po : mP} {t1 : Int32} (hT : Typ Po)  (hp0 : 0 ≤ t1.toInt) (hp1 : t1.toInt + 2 ≤ (fv Po 301 20).toInt) (hp2 : (fv Po 301 20).toInt ≤ 7)  : EvP 3 203 [.ref 301, .int t1] Po (fun r P' => (∃ x : Int32, r = some (.int x) ∧ (0 ≤ x.toInt ∧ x.toInt ≤ 1)) ∧ P' = Po) := by
  refine EvP.of qm_203 (Nat.le_of_ble_eq_true rfl) rfl ?_
  show MEvP _ none q_203 0 [(0, .ref 301), (1, .int t1)] [] _ 0 0 _
  have w_t1 := ti_full t1
  have g1 : (0 : Int) ≤ (fv Po 301 20).toInt ∧ (fv Po 301 20).toInt ≤ 8 := Typ.rng hT rl_301 (by decide) (by decide) rfl
  refine mp_a (a_iconst (v := 0) dX7_collides_0 rfl) (mpp 1 rfl ?_)
  refine mp_a (a_istore_n (L' := [(2, .int 0), (0, .ref 301), (1, .int t1)]) dX7_collides_1 (by decide) rfl) (mpp 2 rfl ?_)
  refine MEvP.less (L := [(0, .ref 301), (1, .int t1), (2, .int 0)]) rfl rfl ⟨rfl, rfl, rfl, trivial⟩ ?_
  have i2 : 0 ≤ (0 : Int) := by omega
  exact c_M_collides_l2 hT  hp0 hp1 hp2 _ _ i2 rfl

set_option maxHeartbeats 4000000 in
theorem c_M_isPossible_l2 {Po : mP}  (hT : Typ Po)  (hp0 : (fv Po 301 20).toInt ≤ 7)  : ∀ (n : Nat) (v1 : Int32), (0 ≤ v1.toInt) → (2147483647 - v1.toInt).toNat = n → MEvP 3 none q_202 2 [(0, .ref 301), (1, .int v1)] [] Po 0 0 (fun r P' => (∃ x : Int32, r = some (.int x) ∧ (0 ≤ x.toInt ∧ x.toInt ≤ 1)) ∧ P' = Po) := by
  intro n
  induction n using Nat.strongRecOn with | _ n ih => ?_
  intro v1 i_0 hm
  have w_v1 := ti_full v1
  have g1 : (0 : Int) ≤ (fv Po 301 20).toInt ∧ (fv Po 301 20).toInt ≤ 8 := Typ.rng hT rl_301 (by decide) (by decide) rfl
  refine mp_a (a_iload_n dX7_isPossible_2 rfl) (mpp 3 rfl ?_)
  refine mp_a (a_aload_n dX7_isPossible_3 rfl) (mpp 4 rfl ?_)
  refine mt_getI (i := 255) (k := 20) hT dX7_isPossible_4 rfl rl_301 (by decide) rfl (by decide) rfl (fun g2 g3 => mpp 7 rfl ?_)
  refine mp_a (a_iconst (v := 1) dX7_isPossible_7 rfl) (mpp 8 rfl ?_)
  obtain ⟨z4, h5⟩ := ti_ex ((fv Po 301 20) - 1 : Int32)
  have wz4 := ti_full z4
  refine mp_t (s_isub (v := z4) dX7_isPossible_8 h5) (mpp 9 rfl ?_)
  try have e6 : z4.toInt = (fv Po 301 20).toInt - 1 := ti_subz h5 rfl rfl (by omega) (by omega)
  refine mp_Tb (t := 28) (j_icmp_ge dX7_isPossible_9) (by decide) (fun c7 => ?_) (fun c7 => mpp 12 rfl ?_)
  · have c7 : v1.toInt ≥ z4.toInt := ti_ge c7
    refine mp_a (a_iconst (v := 1) dX7_isPossible_28 rfl) (mpp 29 rfl ?_)
    have u8 : 0 ≤ (1 : Int) ∧ (1 : Int) ≤ 1 := by omega
    exact mp_iret ⟨⟨_, rfl, u8⟩, rfl⟩ dX7_isPossible_29 (Or.inr ⟨rfl, by decide⟩)
  · have c7 : v1.toInt < z4.toInt := ti_ge_n c7
    refine mp_a (a_aload_n dX7_isPossible_12 rfl) (mpp 13 rfl ?_)
    refine mp_a (a_iload_n dX7_isPossible_13 rfl) (mpp 14 rfl ?_)
    have p9 : 0 ≤ v1.toInt := by omega
    have p10 : v1.toInt + 2 ≤ (fv Po 301 20).toInt := by omega
    have p11 : (fv Po 301 20).toInt ≤ 7 := by omega
    refine mt_callv (i := 264) (q' := q_203) (As := [.int v1]) (rest := []) hT dX7_isPossible_14 rfl qm_203 (by decide) rfl rl_301 (by decide) rfl (Nat.le_of_ble_eq_true rfl) rfl ⟨rfl, rfl⟩ ⟨Nat.le_of_ble_eq_true rfl, Nat.le_of_ble_eq_true rfl⟩ (EvP.mono (by decide) (c_M_collides hT p9 p10 p11 )) (fun r12 P13 g14 => mpp 17 rfl ?_)
    obtain ⟨⟨x15, rfl, g16⟩, e17⟩ := g14
    have e17 := e17.symm
    subst e17
    have wx15 := ti_full x15
    replace g16 : 0 ≤ x15.toInt ∧ x15.toInt ≤ 1 := g16
    show MEvP _ none q_202 17 [(0, .ref 301), (1, .int v1)] [.int x15] _ _ _ _
    refine mp_Tb (t := 22) (j_if_eq dX7_isPossible_17) (by decide) (fun c18 => ?_) (fun c18 => mpp 20 rfl ?_)
    · have c18 : x15.toInt = 0 := ti_eq c18
      obtain ⟨z19, h20⟩ := ti_ex (v1 + 1 : Int32)
      have wz19 := ti_full z19
      refine mp_a (a_iinc (v := z19) (L' := [(1, .int z19), (0, .ref 301)]) dX7_isPossible_22 (by decide) rfl h20 rfl) (mpp 25 rfl ?_)
      try have e21 : z19.toInt = v1.toInt + 1 := ti_addz h20 rfl rfl (by omega) (by omega)
      refine mp_a (a_goto (t := 2) dX7_isPossible_25 (by decide)) ?_
      refine MEvP.less (L := [(0, .ref 301), (1, .int z19)]) rfl rfl ⟨rfl, rfl, trivial⟩ ?_
      have i22 : 0 ≤ z19.toInt := by omega
      exact ih _ (by omega) _ i22 rfl
    · have c18 : x15.toInt ≠ 0 := ti_eq_n c18
      refine mp_a (a_iconst (v := 0) dX7_isPossible_20 rfl) (mpp 21 rfl ?_)
      have u23 : 0 ≤ (0 : Int) ∧ (0 : Int) ≤ 1 := by omega
      exact mp_iret ⟨⟨_, rfl, u23⟩, rfl⟩ dX7_isPossible_21 (Or.inr ⟨rfl, by decide⟩)

set_option maxHeartbeats 4000000 in
theorem c_M_isPossible {Po : mP}  (hT : Typ Po)  (hp0 : (fv Po 301 20).toInt ≤ 7)  : EvP 4 202 [.ref 301] Po (fun r P' => (∃ x : Int32, r = some (.int x) ∧ (0 ≤ x.toInt ∧ x.toInt ≤ 1)) ∧ P' = Po) := by
  refine EvP.of qm_202 (Nat.le_of_ble_eq_true rfl) rfl ?_
  show MEvP _ none q_202 0 [(0, .ref 301)] [] _ 0 0 _
  have g1 : (0 : Int) ≤ (fv Po 301 20).toInt ∧ (fv Po 301 20).toInt ≤ 8 := Typ.rng hT rl_301 (by decide) (by decide) rfl
  refine mp_a (a_iconst (v := 0) dX7_isPossible_0 rfl) (mpp 1 rfl ?_)
  refine mp_a (a_istore_n (L' := [(1, .int 0), (0, .ref 301)]) dX7_isPossible_1 (by decide) rfl) (mpp 2 rfl ?_)
  refine MEvP.less (L := [(0, .ref 301), (1, .int 0)]) rfl rfl ⟨rfl, rfl, trivial⟩ ?_
  have i2 : 0 ≤ (0 : Int) := by omega
  exact c_M_isPossible_l2 hT  hp0 _ _ i2 rfl

set_option maxHeartbeats 4000000 in
theorem c_M_gives_r0_l17 {Po : mP} {t1 : Int32} (hp0 : 0 ≤ t1.toInt) (hp1 : (fv Po 301 20).toInt = t1.toInt + 0) (hp2 : (fv Po 301 20).toInt ≤ 7)  : ∀ (n : Nat) (v2 : Int32), ∀ (P : mP), Typ P → KW [1109, 1728] Po P → (0 ≤ v2.toInt) → (2147483647 - v2.toInt).toNat = n → MEvP 4 none q_201 17 [(0, .ref 301), (1, .int t1), (2, .int v2)] [] P 0 0 (fun r P' => (r = none ∧ (True)) ∧ Typ P' ∧ KW [1109, 1728] Po P' ∧ True) := by
  intro n
  induction n using Nat.strongRecOn with | _ n ih => ?_
  intro v2 P hT hK i_0 hm
  have w_t1 := ti_full t1
  have w_v2 := ti_full v2
  refine mp_a (a_iload_n dX7_gives_17 rfl) (mpp 18 rfl ?_)
  refine mp_a (a_aload_n dX7_gives_18 rfl) (mpp 19 rfl ?_)
  have e1 : (fv P 301 20).toInt = (fv Po 301 20).toInt := congrArg Int32.toInt (KW.at hK 20 rl_301 rfl)
  refine mt_getI (i := 255) (k := 20) hT dX7_gives_19 rfl rl_301 (by decide) rfl (by decide) rfl (fun g2 g3 => mpp 22 rfl ?_)
  refine mp_Tb (t := 50) (j_icmp_ge dX7_gives_22) (by decide) (fun c4 => ?_) (fun c4 => mpp 25 rfl ?_)
  · have c4 : v2.toInt ≥ (fv P 301 20).toInt := ti_ge c4
    refine mp_a (a_aload_n dX7_gives_50 rfl) (mpp 51 rfl ?_)
    refine mp_t (s_dup dX7_gives_51 rfl) (mpp 52 rfl ?_)
    have g5 := ti_full (fv P 301 21)
    refine mt_getI (i := 270) (k := 21) hT dX7_gives_52 rfl rl_301 (by decide) rfl (by decide) rfl (fun g6 g7 => mpp 55 rfl ?_)
    refine mp_a (a_iconst (v := 1) dX7_gives_55 rfl) (mpp 56 rfl ?_)
    obtain ⟨z8, h9⟩ := ti_ex ((fv P 301 21) + 1 : Int32)
    have wz8 := ti_full z8
    refine mp_t (s_iadd (v := z8) dX7_gives_56 h9) (mpp 57 rfl ?_)
    try have e10 : z8.toInt = (fv P 301 21).toInt + 1 := ti_addz h9 rfl rfl (by omega) (by omega)
    refine mt_putI (i := 270) (k := 21) (x := z8) hT dX7_gives_57 rfl rl_301 (by decide) rfl (by decide) rfl (ti_full z8) rfl rfl (fun P11 hT12 f13 f14 f15 => mpp 60 rfl ?_)
    have k16 : KW [1109, 1728] Po P11 := KW.step hK rl_301 rfl f14 f15
    have e17 : (fv P11 301 21).toInt = z8.toInt := congrArg Int32.toInt f13
    exact mp_ret ⟨⟨rfl, trivial⟩, hT12, k16, trivial⟩ dX7_gives_60 rfl
  · have c4 : v2.toInt < (fv P 301 20).toInt := ti_ge_n c4
    refine mp_a (a_aload_n dX7_gives_25 rfl) (mpp 26 rfl ?_)
    have g18 := ti_full (fv P 301 21)
    refine mt_getI (i := 270) (k := 21) hT dX7_gives_26 rfl rl_301 (by decide) rfl (by decide) rfl (fun g19 g20 => mpp 29 rfl ?_)
    refine mp_Tb (t := 50) (j_if_ne dX7_gives_29) (by decide) (fun c21 => ?_) (fun c21 => mpp 32 rfl ?_)
    · have c21 : (fv P 301 21).toInt ≠ 0 := ti_ne c21
      refine mp_a (a_aload_n dX7_gives_50 rfl) (mpp 51 rfl ?_)
      refine mp_t (s_dup dX7_gives_51 rfl) (mpp 52 rfl ?_)
      refine mt_getI (i := 270) (k := 21) hT dX7_gives_52 rfl rl_301 (by decide) rfl (by decide) rfl (fun g22 g23 => mpp 55 rfl ?_)
      refine mp_a (a_iconst (v := 1) dX7_gives_55 rfl) (mpp 56 rfl ?_)
      obtain ⟨z24, h25⟩ := ti_ex ((fv P 301 21) + 1 : Int32)
      have wz24 := ti_full z24
      refine mp_t (s_iadd (v := z24) dX7_gives_56 h25) (mpp 57 rfl ?_)
      try have e26 : z24.toInt = (fv P 301 21).toInt + 1 := ti_addz h25 rfl rfl (by omega) (by omega)
      refine mt_putI (i := 270) (k := 21) (x := z24) hT dX7_gives_57 rfl rl_301 (by decide) rfl (by decide) rfl (ti_full z24) rfl rfl (fun P27 hT28 f29 f30 f31 => mpp 60 rfl ?_)
      have k32 : KW [1109, 1728] Po P27 := KW.step hK rl_301 rfl f30 f31
      have e33 : (fv P27 301 21).toInt = z24.toInt := congrArg Int32.toInt f29
      exact mp_ret ⟨⟨rfl, trivial⟩, hT28, k32, trivial⟩ dX7_gives_60 rfl
    · have c21 : (fv P 301 21).toInt = 0 := ti_ne_n c21
      refine mp_a (a_aload_n dX7_gives_32 rfl) (mpp 33 rfl ?_)
      refine mt_getU (i := 37) (k := 16) (A := 311) hT dX7_gives_33 rfl rl_301 (by decide) rfl (by decide) rfl un_27 (mpp 36 rfl ?_)
      refine mp_a (a_iload_n dX7_gives_36 rfl) (mpp 37 rfl ?_)
      refine mp_a (a_aload_n dX7_gives_37 rfl) (mpp 38 rfl ?_)
      refine mt_getU (i := 34) (k := 15) (A := 310) hT dX7_gives_38 rfl rl_301 (by decide) rfl (by decide) rfl un_26 (mpp 41 rfl ?_)
      refine mp_a (a_iload_n dX7_gives_41 rfl) (mpp 42 rfl ?_)
      refine mt_ial (n := 7) hT dX7_gives_42 rl_310 (by decide) rfl rfl (by omega) (by omega) rfl (fun g34 g35 => mpp 43 rfl ?_)
      refine mt_ias (n := 7) hT dX7_gives_43 rl_311 (by decide) rfl rfl (by omega) (by omega) rfl (ti_full (fv P 310 v2.toInt.toNat)) (fun P36 hT37 f38 f39 f40 => mpp 44 rfl ?_)
      have k41 : KW [1109, 1728] Po P36 := KW.step hK rl_311 rfl f39 f40
      obtain ⟨z42, h43⟩ := ti_ex (v2 + 1 : Int32)
      have wz42 := ti_full z42
      refine mp_a (a_iinc (v := z42) (L' := [(2, .int z42), (0, .ref 301), (1, .int t1)]) dX7_gives_44 (by decide) rfl h43 rfl) (mpp 47 rfl ?_)
      try have e44 : z42.toInt = v2.toInt + 1 := ti_addz h43 rfl rfl (by omega) (by omega)
      refine mp_a (a_goto (t := 17) dX7_gives_47 (by decide)) ?_
      refine MEvP.less (L := [(0, .ref 301), (1, .int t1), (2, .int z42)]) rfl rfl ⟨rfl, rfl, rfl, trivial⟩ ?_
      have i45 : 0 ≤ z42.toInt := by omega
      exact ih _ (by omega) _ P36 hT37 k41 i45 rfl

set_option maxHeartbeats 4000000 in
theorem c_M_gives_r0 {Po : mP} {t1 : Int32} (hT : Typ Po)  (hp0 : 0 ≤ t1.toInt) (hp1 : (fv Po 301 20).toInt = t1.toInt + 0) (hp2 : (fv Po 301 20).toInt ≤ 7)  : EvP 5 201 [.ref 301, .int t1] Po (fun r P' => (r = none ∧ (True)) ∧ Typ P' ∧ KW [1109, 1728] Po P' ∧ True) := by
  refine EvP.of qm_201 (Nat.le_of_ble_eq_true rfl) rfl ?_
  show MEvP _ none q_201 0 [(0, .ref 301), (1, .int t1)] [] _ 0 0 _
  have w_t1 := ti_full t1
  have g1 : (0 : Int) ≤ (fv Po 301 20).toInt ∧ (fv Po 301 20).toInt ≤ 8 := Typ.rng hT rl_301 (by decide) (by decide) rfl
  refine mp_a (a_iload_n dX7_gives_0 rfl) (mpp 1 rfl ?_)
  refine mp_a (a_aload_n dX7_gives_1 rfl) (mpp 2 rfl ?_)
  refine mt_getI (i := 255) (k := 20) hT dX7_gives_2 rfl rl_301 (by decide) rfl (by decide) rfl (fun g2 g3 => mpp 5 rfl ?_)
  refine mp_Tb (t := 61) (j_icmp_ne dX7_gives_5) (by decide) (fun c4 => ?_) (fun c4 => mpp 8 rfl ?_)
  · have c4 : t1.toInt ≠ (fv Po 301 20).toInt := ti_ne c4
    exfalso
    omega
  · have c4 : t1.toInt = (fv Po 301 20).toInt := ti_ne_n c4
    refine mp_a (a_aload_n dX7_gives_8 rfl) (mpp 9 rfl ?_)
    have p5 : (fv Po 301 20).toInt ≤ 7 := by omega
    refine mt_callv (i := 267) (q' := q_202) (As := []) (rest := []) hT dX7_gives_9 rfl qm_202 (by decide) rfl rl_301 (by decide) rfl (Nat.le_of_ble_eq_true rfl) rfl ⟨rfl, rfl⟩ ⟨Nat.le_of_ble_eq_true rfl, Nat.le_of_ble_eq_true rfl⟩ (EvP.mono (by decide) (c_M_isPossible hT p5 )) (fun r6 P7 g8 => mpp 12 rfl ?_)
    obtain ⟨⟨x9, rfl, g10⟩, e11⟩ := g8
    have e11 := e11.symm
    subst e11
    have wx9 := ti_full x9
    replace g10 : 0 ≤ x9.toInt ∧ x9.toInt ≤ 1 := g10
    show MEvP _ none q_201 12 [(0, .ref 301), (1, .int t1)] [.int x9] _ _ _ _
    refine mp_Tb (t := 60) (j_if_eq dX7_gives_12) (by decide) (fun c12 => ?_) (fun c12 => mpp 15 rfl ?_)
    · have c12 : x9.toInt = 0 := ti_eq c12
      exact mp_ret ⟨⟨rfl, trivial⟩, hT, KW.refl, trivial⟩ dX7_gives_60 rfl
    · have c12 : x9.toInt ≠ 0 := ti_eq_n c12
      refine mp_a (a_iconst (v := 0) dX7_gives_15 rfl) (mpp 16 rfl ?_)
      refine mp_a (a_istore_n (L' := [(2, .int 0), (0, .ref 301), (1, .int t1)]) dX7_gives_16 (by decide) rfl) (mpp 17 rfl ?_)
      refine MEvP.less (L := [(0, .ref 301), (1, .int t1), (2, .int 0)]) rfl rfl ⟨rfl, rfl, rfl, trivial⟩ ?_
      have i13 : 0 ≤ (0 : Int) := by omega
      exact c_M_gives_r0_l17   hp0 hp1 hp2 _ _ Po hT KW.refl i13 rfl

set_option maxHeartbeats 4000000 in
theorem c_M_isAbove {Po : mP} {t1 : Int32} (hT : Typ Po)  (hp0 : 0 ≤ t1.toInt) (hp1 : t1.toInt ≤ 7)  : EvP 4 206 [.ref 301, .int t1] Po (fun r P' => (∃ x : Int32, r = some (.int x) ∧ (0 ≤ x.toInt ∧ x.toInt ≤ 1)) ∧ P' = Po) := by
  refine EvP.of qm_206 (Nat.le_of_ble_eq_true rfl) rfl ?_
  show MEvP _ none q_206 0 [(0, .ref 301), (1, .int t1)] [] _ 0 0 _
  have w_t1 := ti_full t1
  refine mp_a (a_aload_n dX7_isAbove_0 rfl) (mpp 1 rfl ?_)
  refine mp_a (a_aload_n dX7_isAbove_1 rfl) (mpp 2 rfl ?_)
  have g1 : (0 : Int) ≤ (fv Po 301 19).toInt ∧ (fv Po 301 19).toInt ≤ 7 := Typ.rng hT rl_301 (by decide) (by decide) rfl
  refine mt_getI (i := 252) (k := 19) hT dX7_isAbove_2 rfl rl_301 (by decide) rfl (by decide) rfl (fun g2 g3 => mpp 5 rfl ?_)
  refine mp_a (a_iload_n dX7_isAbove_5 rfl) (mpp 6 rfl ?_)
  have p4 : 0 ≤ (fv Po 301 19).toInt := by omega
  have p5 : (fv Po 301 19).toInt ≤ 7 := by omega
  have p6 : 0 ≤ t1.toInt := by omega
  have p7 : t1.toInt ≤ 7 := by omega
  refine mt_callv (i := 92) (q' := q_146) (As := [.int (fv Po 301 19), .int t1]) (rest := []) hT dX7_isAbove_6 rfl qm_146 (by decide) rfl rl_301 (by decide) rfl (Nat.le_of_ble_eq_true rfl) rfl ⟨rfl, rfl⟩ ⟨Nat.le_of_ble_eq_true rfl, Nat.le_of_ble_eq_true rfl⟩ (EvP.mono (by decide) (c_M_creaseOf hT p4 p5 p6 p7 )) (fun r8 P9 g10 => mpp 9 rfl ?_)
  obtain ⟨⟨x11, rfl, g12⟩, e13⟩ := g10
  have e13 := e13.symm
  subst e13
  have wx11 := ti_full x11
  replace g12 : x11.toInt = (fv Po 302 (14 + 19 * (fv Po 301 19).toInt.toNat + t1.toInt.toNat)).toInt := g12
  show MEvP _ none q_206 9 [(0, .ref 301), (1, .int t1)] [.int x11] _ _ _ _
  refine mp_a (a_iconst (v := 2) dX7_isAbove_9 rfl) (mpp 10 rfl ?_)
  refine mp_Tb (t := 17) (j_icmp_ne dX7_isAbove_10) (by decide) (fun c14 => ?_) (fun c14 => mpp 13 rfl ?_)
  · have c14 : x11.toInt ≠ 2 := ti_ne c14
    refine mp_a (a_iconst (v := 0) dX7_isAbove_17 rfl) (mpp 18 rfl ?_)
    refine mp_a (a_iload_n dX7_isAbove_18 rfl) (mpp 19 rfl ?_)
    refine mp_a (a_iconst (v := 2) dX7_isAbove_19 rfl) (mpp 20 rfl ?_)
    obtain ⟨z15, h16⟩ := ti_ex (t1 - t1 / 2 * 2 : Int32)
    have wz15 := ti_full z15
    try have e18 : z15.toInt = t1.toInt % 2 := ti_remx h16 (show (0 : Int) ≤ t1.toInt by omega) (show (0 : Int) < 2 by omega)
    try have e17 : 0 ≤ z15.toInt ∧ z15.toInt < 2 := ti_rem h16 (show (0 : Int) ≤ t1.toInt by omega) (show (0 : Int) < 2 by omega)
    refine mp_t (s_irem (v := z15) dX7_isAbove_20 (by decide) h16) (mpp 21 rfl ?_)
    refine mp_Tb (t := 28) (j_if_ne dX7_isAbove_21) (by decide) (fun c19 => ?_) (fun c19 => mpp 24 rfl ?_)
    · have c19 : z15.toInt ≠ 0 := ti_ne c19
      refine mp_a (a_iconst (v := 0) dX7_isAbove_28 rfl) (mpp 29 rfl ?_)
      refine mp_Tf (t := 36) (j_icmp_ne dX7_isAbove_29) (by decide) (by decide) (mpp 32 rfl ?_)
      refine mp_a (a_iconst (v := 1) dX7_isAbove_32 rfl) (mpp 33 rfl ?_)
      refine mp_a (a_goto (t := 37) dX7_isAbove_33 (by decide)) ?_
      have u20 : 0 ≤ (1 : Int) ∧ (1 : Int) ≤ 1 := by omega
      exact mp_iret ⟨⟨_, rfl, u20⟩, rfl⟩ dX7_isAbove_37 (Or.inr ⟨rfl, by decide⟩)
    · have c19 : z15.toInt = 0 := ti_ne_n c19
      refine mp_a (a_iconst (v := 1) dX7_isAbove_24 rfl) (mpp 25 rfl ?_)
      refine mp_a (a_goto (t := 29) dX7_isAbove_25 (by decide)) ?_
      refine mp_Tt (t := 36) (j_icmp_ne dX7_isAbove_29) (by decide) (by decide) ?_
      refine mp_a (a_iconst (v := 0) dX7_isAbove_36 rfl) (mpp 37 rfl ?_)
      have u21 : 0 ≤ (0 : Int) ∧ (0 : Int) ≤ 1 := by omega
      exact mp_iret ⟨⟨_, rfl, u21⟩, rfl⟩ dX7_isAbove_37 (Or.inr ⟨rfl, by decide⟩)
  · have c14 : x11.toInt = 2 := ti_ne_n c14
    refine mp_a (a_iconst (v := 1) dX7_isAbove_13 rfl) (mpp 14 rfl ?_)
    refine mp_a (a_goto (t := 18) dX7_isAbove_14 (by decide)) ?_
    refine mp_a (a_iload_n dX7_isAbove_18 rfl) (mpp 19 rfl ?_)
    refine mp_a (a_iconst (v := 2) dX7_isAbove_19 rfl) (mpp 20 rfl ?_)
    obtain ⟨z22, h23⟩ := ti_ex (t1 - t1 / 2 * 2 : Int32)
    have wz22 := ti_full z22
    try have e25 : z22.toInt = t1.toInt % 2 := ti_remx h23 (show (0 : Int) ≤ t1.toInt by omega) (show (0 : Int) < 2 by omega)
    try have e24 : 0 ≤ z22.toInt ∧ z22.toInt < 2 := ti_rem h23 (show (0 : Int) ≤ t1.toInt by omega) (show (0 : Int) < 2 by omega)
    refine mp_t (s_irem (v := z22) dX7_isAbove_20 (by decide) h23) (mpp 21 rfl ?_)
    refine mp_Tb (t := 28) (j_if_ne dX7_isAbove_21) (by decide) (fun c26 => ?_) (fun c26 => mpp 24 rfl ?_)
    · have c26 : z22.toInt ≠ 0 := ti_ne c26
      refine mp_a (a_iconst (v := 0) dX7_isAbove_28 rfl) (mpp 29 rfl ?_)
      refine mp_Tt (t := 36) (j_icmp_ne dX7_isAbove_29) (by decide) (by decide) ?_
      refine mp_a (a_iconst (v := 0) dX7_isAbove_36 rfl) (mpp 37 rfl ?_)
      have u27 : 0 ≤ (0 : Int) ∧ (0 : Int) ≤ 1 := by omega
      exact mp_iret ⟨⟨_, rfl, u27⟩, rfl⟩ dX7_isAbove_37 (Or.inr ⟨rfl, by decide⟩)
    · have c26 : z22.toInt = 0 := ti_ne_n c26
      refine mp_a (a_iconst (v := 1) dX7_isAbove_24 rfl) (mpp 25 rfl ?_)
      refine mp_a (a_goto (t := 29) dX7_isAbove_25 (by decide)) ?_
      refine mp_Tf (t := 36) (j_icmp_ne dX7_isAbove_29) (by decide) (by decide) (mpp 32 rfl ?_)
      refine mp_a (a_iconst (v := 1) dX7_isAbove_32 rfl) (mpp 33 rfl ?_)
      refine mp_a (a_goto (t := 37) dX7_isAbove_33 (by decide)) ?_
      have u28 : 0 ≤ (1 : Int) ∧ (1 : Int) ≤ 1 := by omega
      exact mp_iret ⟨⟨_, rfl, u28⟩, rfl⟩ dX7_isAbove_37 (Or.inr ⟨rfl, by decide⟩)

