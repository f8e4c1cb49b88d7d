/-! methods on typed pools, 12 (written by a program) -/
set_option maxHeartbeats 4000000 in
theorem c_CP_reflection_NPiece_l6 {Po : mP} {a0_ : Nat} (hT : Typ Po)  (ha0 : rl a0_ = 33) : ∀ (n : Nat) (v1 : Int32) (v2 : Int32) (v3 : Int32), (0 ≤ v3.toInt) → (2147483647 - v3.toInt).toNat = n → MEvP 1 none q_91 6 [(0, .ref a0_), (1, .int v1), (2, .int v2), (3, .int v3)] [] Po 0 0 (fun r P' => (∃ x : Int32, r = some (.int x) ∧ (True)) ∧ P' = Po) := by
  intro n
  induction n using Nat.strongRecOn with | _ n ih => ?_
  intro v1 v2 v3 i_0 hm
  have w_v1 := ti_full v1
  have w_v2 := ti_full v2
  have w_v3 := ti_full v3
  refine mp_a (a_iload_n dX2_reflection_6 rfl) (mpp 7 rfl ?_)
  refine mp_a (a_aload_n dX2_reflection_7 rfl) (mpp 8 rfl ?_)
  have g1 : (0 : Int) ≤ (fv Po a0_ 1).toInt ∧ (fv Po a0_ 1).toInt ≤ 8 := Typ.rng hT ha0 (by decide) (by decide) rfl
  refine mt_getI (i := 26) (k := 1) hT dX2_reflection_8 rfl ha0 (by decide) rfl (by decide) rfl (fun g2 g3 => mpp 11 rfl ?_)
  refine mp_Tb (t := 42) (j_icmp_ge dX2_reflection_11) (by decide) (fun c4 => ?_) (fun c4 => mpp 14 rfl ?_)
  · have c4 : v3.toInt ≥ (fv Po a0_ 1).toInt := ti_ge c4
    refine mp_a (a_iload_n dX2_reflection_42 rfl) (mpp 43 rfl ?_)
    exact mp_iret ⟨⟨_, rfl, trivial⟩, rfl⟩ dX2_reflection_43 (Or.inl rfl)
  · have c4 : v3.toInt < (fv Po a0_ 1).toInt := ti_ge_n c4
    refine mp_a (a_iconst (v := 2) dX2_reflection_14 rfl) (mpp 15 rfl ?_)
    refine mp_a (a_iload_n dX2_reflection_15 rfl) (mpp 16 rfl ?_)
    obtain ⟨z5, h6⟩ := ti_ex (2 * v2 : Int32)
    have wz5 := ti_full z5
    refine mp_t (s_imul (v := z5) dX2_reflection_16 h6) (mpp 17 rfl ?_)
    try have e7 : z5.toInt = 2 * v2.toInt := ti_mulz h6 rfl rfl (by omega) (by omega)
    refine mp_a (a_iload_n dX2_reflection_17 rfl) (mpp 18 rfl ?_)
    obtain ⟨z8, h9⟩ := ti_ex (z5 - v1 : Int32)
    have wz8 := ti_full z8
    refine mp_t (s_isub (v := z8) dX2_reflection_18 h9) (mpp 19 rfl ?_)
    try have e10 : z8.toInt = z5.toInt - v1.toInt := ti_subz h9 rfl rfl (by omega) (by omega)
    refine mp_a (a_bipush (v := 24) dX2_reflection_19 rfl) (mpp 21 rfl ?_)
    have p11 : 1 ≤ (24 : Int) := by omega
    refine mp_calls (i := 80) (q' := q_236) (As := [.int z8, .int 24]) (rest := []) dX2_reflection_21 rfl qm_236 (by decide) rfl (Nat.le_of_ble_eq_true rfl) rfl ⟨rfl, rfl⟩ ⟨Nat.le_of_ble_eq_true rfl, Nat.le_of_ble_eq_true rfl⟩ (EvP.mono (by decide) (c_F_floorMod hT p11 )) (fun r12 P13 g14 => mpp 24 rfl ?_)
    obtain ⟨⟨x15, rfl, g16⟩, e17⟩ := g14
    have e17 := e17.symm
    subst e17
    have wx15 := ti_full x15
    show MEvP _ none q_91 24 [(0, .ref a0_), (1, .int v1), (2, .int v2), (3, .int v3)] [.int x15] _ _ _ _
    refine mp_a (a_istore_n (L' := [(1, .int x15), (0, .ref a0_), (2, .int v2), (3, .int v3)]) dX2_reflection_24 (by decide) rfl) (mpp 25 rfl ?_)
    refine mp_a (a_iload_n dX2_reflection_25 rfl) (mpp 26 rfl ?_)
    refine mp_a (a_aload_n dX2_reflection_26 rfl) (mpp 27 rfl ?_)
    refine mt_getR (i := 9) (k := 3) hT dX2_reflection_27 rfl ha0 (by decide) rfl (by decide) rfl (fun q18 => mpp 30 rfl ?_)
    generalize rv Po a0_ 3 = b19 at q18 ⊢
    refine mp_a (a_iload_n dX2_reflection_30 rfl) (mpp 31 rfl ?_)
    refine mp_calls (i := 48) (q' := q_12) (As := [.ref b19, .int v3]) (rest := [.int v2]) dX2_reflection_31 rfl qm_12 (by decide) rfl (Nat.le_of_ble_eq_true rfl) rfl ⟨rfl, rfl⟩ ⟨Nat.le_of_ble_eq_true rfl, Nat.le_of_ble_eq_true rfl⟩ (EvP.mono (by decide) (c_F_at_sizes hT q18)) (fun r20 P21 g22 => mpp 34 rfl ?_)
    obtain ⟨⟨x23, rfl, g24⟩, e25⟩ := g22
    have e25 := e25.symm
    subst e25
    have wx23 := ti_full x23
    show MEvP _ none q_91 34 [(1, .int x15), (0, .ref a0_), (2, .int v2), (3, .int v3)] [.int x23, .int v2] _ _ _ _
    obtain ⟨z26, h27⟩ := ti_ex (v2 + x23 : Int32)
    have wz26 := ti_full z26
    refine mp_t (s_iadd (v := z26) dX2_reflection_34 h27) (mpp 35 rfl ?_)
    try have e28 : z26.toInt = v2.toInt + x23.toInt := ti_addz h27 rfl rfl (by omega) (by omega)
    refine mp_a (a_istore_n (L' := [(2, .int z26), (1, .int x15), (0, .ref a0_), (3, .int v3)]) dX2_reflection_35 (by decide) rfl) (mpp 36 rfl ?_)
    obtain ⟨z29, h30⟩ := ti_ex (v3 + 1 : Int32)
    have wz29 := ti_full z29
    refine mp_a (a_iinc (v := z29) (L' := [(3, .int z29), (2, .int z26), (1, .int x15), (0, .ref a0_)]) dX2_reflection_36 (by decide) rfl h30 rfl) (mpp 39 rfl ?_)
    try have e31 : z29.toInt = v3.toInt + 1 := ti_addz h30 rfl rfl (by omega) (by omega)
    refine mp_a (a_goto (t := 6) dX2_reflection_39 (by decide)) ?_
    refine MEvP.less (L := [(0, .ref a0_), (1, .int x15), (2, .int z26), (3, .int z29)]) rfl rfl ⟨rfl, rfl, rfl, rfl, trivial⟩ ?_
    have i32 : 0 ≤ z29.toInt := by omega
    exact ih _ (by omega) _ _ _ i32 rfl

set_option maxHeartbeats 4000000 in
theorem c_CP_reflection_NPiece {Po : mP} {a0_ : Nat} (hT : Typ Po)  (ha0 : rl a0_ = 33) : EvP 2 91 [.ref a0_] Po (fun r P' => (∃ x : Int32, r = some (.int x) ∧ (True)) ∧ P' = Po) := by
  refine EvP.of qm_91 (Nat.le_of_ble_eq_true rfl) rfl ?_
  show MEvP _ none q_91 0 [(0, .ref a0_)] [] _ 0 0 _
  refine mp_a (a_iconst (v := 0) dX2_reflection_0 rfl) (mpp 1 rfl ?_)
  refine mp_a (a_istore_n (L' := [(1, .int 0), (0, .ref a0_)]) dX2_reflection_1 (by decide) rfl) (mpp 2 rfl ?_)
  refine mp_a (a_iconst (v := 0) dX2_reflection_2 rfl) (mpp 3 rfl ?_)
  refine mp_a (a_istore_n (L' := [(2, .int 0), (1, .int 0), (0, .ref a0_)]) dX2_reflection_3 (by decide) rfl) (mpp 4 rfl ?_)
  refine mp_a (a_iconst (v := 0) dX2_reflection_4 rfl) (mpp 5 rfl ?_)
  refine mp_a (a_istore_n (L' := [(3, .int 0), (2, .int 0), (1, .int 0), (0, .ref a0_)]) dX2_reflection_5 (by decide) rfl) (mpp 6 rfl ?_)
  refine MEvP.less (L := [(0, .ref a0_), (1, .int 0), (2, .int 0), (3, .int 0)]) rfl rfl ⟨rfl, rfl, rfl, rfl, trivial⟩ ?_
  have i1 : 0 ≤ (0 : Int) := by omega
  exact c_CP_reflection_NPiece_l6 hT  ha0 _ _ _ _ i1 rfl

set_option maxHeartbeats 4000000 in
theorem c_F_reflected {Po : mP} {t1 : Int32} (hT : Typ Po)   : EvP 3 90 [.ref 0, .int t1] Po (fun r P' => (∃ x : Int32, r = some (.int x) ∧ (True)) ∧ P' = Po) := by
  refine EvP.of qm_90 (Nat.le_of_ble_eq_true rfl) rfl ?_
  show MEvP _ none q_90 0 [(0, .ref 0), (1, .int t1)] [] _ 0 0 _
  refine mp_a (a_aload_n dX6_reflected_0 rfl) (mpp 1 rfl ?_)
  refine mt_getU (i := 10) (k := 0) (A := 1) hT dX6_reflected_1 rfl rl_0 (by decide) rfl (by decide) rfl un_31 (mpp 4 rfl ?_)
  refine mp_a (a_iload_n dX6_reflected_4 rfl) (mpp 5 rfl ?_)
  refine mt_callv (i := 94) (q' := q_9) (As := [.int t1]) (rest := []) hT dX6_reflected_5 rfl qm_9 (by decide) rfl rl_1 (by decide) rfl (Nat.le_of_ble_eq_true rfl) rfl ⟨rfl, rfl⟩ ⟨Nat.le_of_ble_eq_true rfl, Nat.le_of_ble_eq_true rfl⟩ (EvP.mono (by decide) (c_CS_pieceAt_NState hT )) (fun r1 P2 g3 => mpp 8 rfl ?_)
  obtain ⟨g3, e4⟩ := g3
  have e4 := e4.symm
  subst e4
  rcases g3 with rfl | ⟨b5, rfl, q6, q6r⟩
  · show MEvP _ none q_90 8 [(0, .ref 0), (1, .int t1)] [.null] _ _ _ _
    refine mp_a (a_astore_nN (L' := [(2, .null), (0, .ref 0), (1, .int t1)]) dX6_reflected_8 (by decide) rfl) (mpp 9 rfl ?_)
    refine mp_a (a_aload_nN dX6_reflected_9 rfl) (mpp 10 rfl ?_)
    refine mp_t (s_ifnonnullN dX6_reflected_10) (mpp 13 rfl ?_)
    refine mp_a (a_sipush (v := -1001) dX6_reflected_13 rfl) (mpp 16 rfl ?_)
    exact mp_iret ⟨⟨_, rfl, trivial⟩, rfl⟩ dX6_reflected_16 (Or.inl rfl)
  · show MEvP _ none q_90 8 [(0, .ref 0), (1, .int t1)] [.ref b5] _ _ _ _
    refine mp_a (a_astore_n (L' := [(2, .ref b5), (0, .ref 0), (1, .int t1)]) dX6_reflected_8 (by decide) rfl) (mpp 9 rfl ?_)
    refine mp_a (a_aload_n dX6_reflected_9 rfl) (mpp 10 rfl ?_)
    refine mp_t (s_ifnonnullR (t := 17) dX6_reflected_10 (by decide)) ?_
    refine mp_a (a_aload_n dX6_reflected_17 rfl) (mpp 18 rfl ?_)
    have g7 := ti_full (fv Po b5 0)
    refine mt_getI (i := 130) (k := 0) hT dX6_reflected_18 rfl q6 (by decide) rfl (by decide) rfl (fun g8 g9 => mpp 21 rfl ?_)
    refine mp_a (a_iconst (v := 1) dX6_reflected_21 rfl) (mpp 22 rfl ?_)
    refine mp_Tb (t := 31) (j_icmp_eq dX6_reflected_22) (by decide) (fun c10 => ?_) (fun c10 => mpp 25 rfl ?_)
    · have c10 : (fv Po b5 0).toInt = 1 := ti_eq c10
      refine mp_a (a_aload_n dX6_reflected_31 rfl) (mpp 32 rfl ?_)
      refine mt_callv (i := 213) (q' := q_91) (As := []) (rest := []) hT dX6_reflected_32 rfl qm_91 (by decide) rfl q6 (by decide) rfl (Nat.le_of_ble_eq_true rfl) rfl ⟨rfl, rfl⟩ ⟨Nat.le_of_ble_eq_true rfl, Nat.le_of_ble_eq_true rfl⟩ (EvP.mono (by decide) (c_CP_reflection_NPiece hT q6)) (fun r11 P12 g13 => mpp 35 rfl ?_)
      obtain ⟨⟨x14, rfl, g15⟩, e16⟩ := g13
      have e16 := e16.symm
      subst e16
      have wx14 := ti_full x14
      show MEvP _ none q_90 35 [(2, .ref b5), (0, .ref 0), (1, .int t1)] [.int x14] _ _ _ _
      exact mp_iret ⟨⟨_, rfl, trivial⟩, rfl⟩ dX6_reflected_35 (Or.inl rfl)
    · have c10 : (fv Po b5 0).toInt ≠ 1 := ti_eq_n c10
      refine mp_a (a_sipush (v := -1002) dX6_reflected_25 rfl) (mpp 28 rfl ?_)
      refine mp_a (a_goto (t := 35) dX6_reflected_28 (by decide)) ?_
      exact mp_iret ⟨⟨_, rfl, trivial⟩, rfl⟩ dX6_reflected_35 (Or.inl rfl)

set_option maxHeartbeats 4000000 in
theorem c_F_put_codes {Po : mP} {t1 : Int32} {t2 : Int32} (hT : Typ Po)   : EvP 1 22 [.ref 290, .int t1, .int t2] Po (fun r P' => (r = none ∧ (True)) ∧ Typ P' ∧ KW [576] Po P' ∧ True) := by
  refine EvP.of qm_22 (Nat.le_of_ble_eq_true rfl) rfl ?_
  show MEvP _ none q_22 0 [(0, .ref 290), (1, .int t1), (2, .int t2)] [] _ 0 0 _
  refine mp_a (a_iload_n dX6_put_0 rfl) (mpp 1 rfl ?_)
  refine mp_Tb (t := 14) (j_if_lt dX6_put_1) (by decide) (fun c1 => ?_) (fun c1 => mpp 4 rfl ?_)
  · have c1 : t1.toInt < 0 := ti_lt c1
    exact mp_ret ⟨⟨rfl, trivial⟩, hT, KW.refl, trivial⟩ dX6_put_14 rfl
  · have c1 : t1.toInt ≥ 0 := ti_lt_n c1
    refine mp_a (a_iload_n dX6_put_4 rfl) (mpp 5 rfl ?_)
    refine mp_a (a_aload_n dX6_put_5 rfl) (mpp 6 rfl ?_)
    refine mt_len (n := 80) hT dX6_put_6 rl_290 (by decide) (by decide) rfl (mpp 7 rfl ?_)
    refine mp_Tb (t := 14) (j_icmp_ge dX6_put_7) (by decide) (fun c2 => ?_) (fun c2 => mpp 10 rfl ?_)
    · have c2 : t1.toInt ≥ 80 := ti_ge c2
      exact mp_ret ⟨⟨rfl, trivial⟩, hT, KW.refl, trivial⟩ dX6_put_14 rfl
    · have c2 : t1.toInt < 80 := ti_ge_n c2
      refine mp_a (a_aload_n dX6_put_10 rfl) (mpp 11 rfl ?_)
      refine mp_a (a_iload_n dX6_put_11 rfl) (mpp 12 rfl ?_)
      refine mp_a (a_iload_n dX6_put_12 rfl) (mpp 13 rfl ?_)
      refine mt_ias (n := 80) hT dX6_put_13 rl_290 (by decide) rfl rfl (by omega) (by omega) rfl (ti_full t2) (fun P3 hT4 f5 f6 => mpp 14 rfl ?_)
      have k7 : KW [576] Po P3 := KW.step KW.refl rl_290 rfl f6
      exact mp_ret ⟨⟨rfl, trivial⟩, hT4, k7, trivial⟩ dX6_put_14 rfl

set_option maxHeartbeats 4000000 in
theorem c_CS_write_Script {Po : mP} {t1 : Int32} (hT : Typ Po)  (hp0 : (fv Po 289 1).toInt ≤ 79)  : EvP 2 93 [.ref 289, .int t1] Po (fun r P' => (r = none ∧ ((fv P' 289 1).toInt = (fv Po 289 1).toInt + 1)) ∧ Typ P' ∧ KW [513, 576] Po P' ∧ True) := by
  refine EvP.of qm_93 (Nat.le_of_ble_eq_true rfl) rfl ?_
  show MEvP _ none q_93 0 [(0, .ref 289), (1, .int t1)] [] _ 0 0 _
  have g1 : (0 : Int) ≤ (fv Po 289 1).toInt ∧ (fv Po 289 1).toInt ≤ 80 := Typ.rng hT rl_289 (by decide) (by decide) rfl
  refine mp_a (a_aload_n dX4_write_0 rfl) (mpp 1 rfl ?_)
  refine mt_getU (i := 9) (k := 0) (A := 290) hT dX4_write_1 rfl rl_289 (by decide) rfl (by decide) rfl un_9 (mpp 4 rfl ?_)
  refine mp_a (a_aload_n dX4_write_4 rfl) (mpp 5 rfl ?_)
  refine mt_getI (i := 15) (k := 1) hT dX4_write_5 rfl rl_289 (by decide) rfl (by decide) rfl (fun g2 g3 => mpp 8 rfl ?_)
  refine mp_a (a_iload_n dX4_write_8 rfl) (mpp 9 rfl ?_)
  refine mp_calls (i := 19) (q' := q_22) (As := [.ref 290, .int (fv Po 289 1), .int t1]) (rest := []) dX4_write_9 rfl qm_22 (by decide) rfl (Nat.le_of_ble_eq_true rfl) rfl ⟨rfl, rfl⟩ ⟨Nat.le_of_ble_eq_true rfl, Nat.le_of_ble_eq_true rfl⟩ (EvP.mono (by decide) (c_F_put_codes hT )) (fun r4 P5 g6 => mpp 12 rfl ?_)
  obtain ⟨⟨rfl, g8⟩, hT9, k10, R11⟩ := g6
  have k12 : KW [513, 576] Po P5 := KW.trans KW.refl k10 rfl
  show MEvP _ none q_93 12 [(0, .ref 289), (1, .int t1)] [] _ _ _ _
  refine mp_a (a_aload_n dX4_write_12 rfl) (mpp 13 rfl ?_)
  refine mp_t (s_dup dX4_write_13 rfl) (mpp 14 rfl ?_)
  have e13 : (fv P5 289 1).toInt = (fv Po 289 1).toInt := congrArg Int32.toInt (KW.at k10 1 rl_289 rfl)
  refine mt_getI (i := 15) (k := 1) hT9 dX4_write_14 rfl rl_289 (by decide) rfl (by decide) rfl (fun g14 g15 => mpp 17 rfl ?_)
  refine mp_a (a_iconst (v := 1) dX4_write_17 rfl) (mpp 18 rfl ?_)
  obtain ⟨z16, h17⟩ := ti_ex ((fv P5 289 1) + 1 : Int32)
  have wz16 := ti_full z16
  refine mp_t (s_iadd (v := z16) dX4_write_18 h17) (mpp 19 rfl ?_)
  try have e18 : z16.toInt = (fv P5 289 1).toInt + 1 := ti_addz h17 rfl rfl (by omega) (by omega)
  refine mt_putI (i := 15) (k := 1) (x := z16) hT9 dX4_write_19 rfl rl_289 (by decide) rfl (by decide) rfl ⟨by omega, by omega⟩ rfl rfl (fun P19 hT20 f21 f22 => mpp 22 rfl ?_)
  have k23 : KW [513, 576] Po P19 := KW.step k12 rl_289 rfl f22
  have e24 : (fv P19 289 1).toInt = z16.toInt := congrArg Int32.toInt f21
  have u25 : (fv P19 289 1).toInt = (fv Po 289 1).toInt + 1 := by omega
  exact mp_ret ⟨⟨rfl, u25⟩, hT20, k23, trivial⟩ dX4_write_22 rfl

set_option maxHeartbeats 4000000 in
theorem c_F_append {Po : mP} {t1 : Int32} (hT : Typ Po)   : EvP 3 92 [.ref 0, .int t1] Po (fun r P' => (∃ x : Int32, r = some (.int x) ∧ ((x.toInt = -1002 ∧ (t1.toInt < 32 ∨ 126 < t1.toInt ∨ 80 ≤ (fv Po 289 1).toInt) ∧ (fv P' 289 1).toInt = (fv Po 289 1).toInt) ∨ (x.toInt = (fv Po 289 1).toInt + 1 ∧ 32 ≤ t1.toInt ∧ t1.toInt ≤ 126 ∧ (fv Po 289 1).toInt < 80 ∧ (fv P' 289 1).toInt = (fv Po 289 1).toInt + 1))) ∧ Typ P' ∧ KW [513, 576] Po P' ∧ True) := by
  refine EvP.of qm_92 (Nat.le_of_ble_eq_true rfl) rfl ?_
  show MEvP _ none q_92 0 [(0, .ref 0), (1, .int t1)] [] _ 0 0 _
  have g1 : (0 : Int) ≤ (fv Po 289 1).toInt ∧ (fv Po 289 1).toInt ≤ 80 := Typ.rng hT rl_289 (by decide) (by decide) rfl
  refine mp_a (a_iload_n dX6_append_0 rfl) (mpp 1 rfl ?_)
  refine mp_a (a_bipush (v := 32) dX6_append_1 rfl) (mpp 3 rfl ?_)
  refine mp_Tb (t := 24) (j_icmp_lt dX6_append_3) (by decide) (fun c2 => ?_) (fun c2 => mpp 6 rfl ?_)
  · have c2 : t1.toInt < 32 := ti_lt c2
    refine mp_a (a_sipush (v := -1002) dX6_append_24 rfl) (mpp 27 rfl ?_)
    have u3 : ((-1002 : Int) = -1002 ∧ (t1.toInt < 32 ∨ 126 < t1.toInt ∨ 80 ≤ (fv Po 289 1).toInt) ∧ (fv Po 289 1).toInt = (fv Po 289 1).toInt) ∨ ((-1002 : Int) = (fv Po 289 1).toInt + 1 ∧ 32 ≤ t1.toInt ∧ t1.toInt ≤ 126 ∧ (fv Po 289 1).toInt < 80 ∧ (fv Po 289 1).toInt = (fv Po 289 1).toInt + 1) := by omega
    exact mp_iret ⟨⟨_, rfl, u3⟩, hT, KW.refl, trivial⟩ dX6_append_27 (Or.inl rfl)
  · have c2 : t1.toInt ≥ 32 := ti_lt_n c2
    refine mp_a (a_iload_n dX6_append_6 rfl) (mpp 7 rfl ?_)
    refine mp_a (a_bipush (v := 126) dX6_append_7 rfl) (mpp 9 rfl ?_)
    refine mp_Tb (t := 24) (j_icmp_gt dX6_append_9) (by decide) (fun c4 => ?_) (fun c4 => mpp 12 rfl ?_)
    · have c4 : t1.toInt > 126 := ti_gt c4
      refine mp_a (a_sipush (v := -1002) dX6_append_24 rfl) (mpp 27 rfl ?_)
      have u5 : ((-1002 : Int) = -1002 ∧ (t1.toInt < 32 ∨ 126 < t1.toInt ∨ 80 ≤ (fv Po 289 1).toInt) ∧ (fv Po 289 1).toInt = (fv Po 289 1).toInt) ∨ ((-1002 : Int) = (fv Po 289 1).toInt + 1 ∧ 32 ≤ t1.toInt ∧ t1.toInt ≤ 126 ∧ (fv Po 289 1).toInt < 80 ∧ (fv Po 289 1).toInt = (fv Po 289 1).toInt + 1) := by omega
      exact mp_iret ⟨⟨_, rfl, u5⟩, hT, KW.refl, trivial⟩ dX6_append_27 (Or.inl rfl)
    · have c4 : t1.toInt ≤ 126 := ti_gt_n c4
      refine mp_a (a_aload_n dX6_append_12 rfl) (mpp 13 rfl ?_)
      refine mt_getU (i := 32) (k := 4) (A := 289) hT dX6_append_13 rfl rl_0 (by decide) rfl (by decide) rfl un_8 (mpp 16 rfl ?_)
      refine mt_getI (i := 216) (k := 1) hT dX6_append_16 rfl rl_289 (by decide) rfl (by decide) rfl (fun g6 g7 => mpp 19 rfl ?_)
      refine mp_a (a_bipush (v := 80) dX6_append_19 rfl) (mpp 21 rfl ?_)
      refine mp_Tb (t := 28) (j_icmp_lt dX6_append_21) (by decide) (fun c8 => ?_) (fun c8 => mpp 24 rfl ?_)
      · have c8 : (fv Po 289 1).toInt < 80 := ti_lt c8
        refine mp_a (a_aload_n dX6_append_28 rfl) (mpp 29 rfl ?_)
        refine mt_getU (i := 32) (k := 4) (A := 289) hT dX6_append_29 rfl rl_0 (by decide) rfl (by decide) rfl un_8 (mpp 32 rfl ?_)
        refine mp_a (a_iload_n dX6_append_32 rfl) (mpp 33 rfl ?_)
        have p9 : (fv Po 289 1).toInt ≤ 79 := by omega
        refine mt_callv (i := 219) (q' := q_93) (As := [.int t1]) (rest := []) hT dX6_append_33 rfl qm_93 (by decide) rfl rl_289 (by decide) rfl (Nat.le_of_ble_eq_true rfl) rfl ⟨rfl, rfl⟩ ⟨Nat.le_of_ble_eq_true rfl, Nat.le_of_ble_eq_true rfl⟩ (EvP.mono (by decide) (c_CS_write_Script hT p9 )) (fun r10 P11 g12 => mpp 36 rfl ?_)
        obtain ⟨⟨rfl, g14⟩, hT15, k16, R17⟩ := g12
        have k18 : KW [513, 576] Po P11 := KW.trans KW.refl k16 rfl
        have g14 : (fv P11 289 1).toInt = (fv Po 289 1).toInt + 1 := g14
        have g19 : (0 : Int) ≤ (fv P11 289 1).toInt ∧ (fv P11 289 1).toInt ≤ 80 := Typ.rng hT15 rl_289 (by decide) (by decide) rfl
        show MEvP _ none q_92 36 [(0, .ref 0), (1, .int t1)] [] _ _ _ _
        refine mp_a (a_aload_n dX6_append_36 rfl) (mpp 37 rfl ?_)
        refine mt_getU (i := 32) (k := 4) (A := 289) hT15 dX6_append_37 rfl rl_0 (by decide) rfl (by decide) rfl un_8 (mpp 40 rfl ?_)
        refine mt_getI (i := 216) (k := 1) hT15 dX6_append_40 rfl rl_289 (by decide) rfl (by decide) rfl (fun g20 g21 => mpp 43 rfl ?_)
        have u22 : ((fv P11 289 1).toInt = -1002 ∧ (t1.toInt < 32 ∨ 126 < t1.toInt ∨ 80 ≤ (fv Po 289 1).toInt) ∧ (fv P11 289 1).toInt = (fv Po 289 1).toInt) ∨ ((fv P11 289 1).toInt = (fv Po 289 1).toInt + 1 ∧ 32 ≤ t1.toInt ∧ t1.toInt ≤ 126 ∧ (fv Po 289 1).toInt < 80 ∧ (fv P11 289 1).toInt = (fv Po 289 1).toInt + 1) := by omega
        exact mp_iret ⟨⟨_, rfl, u22⟩, hT15, k18, trivial⟩ dX6_append_43 (Or.inl rfl)
      · have c8 : (fv Po 289 1).toInt ≥ 80 := ti_lt_n c8
        refine mp_a (a_sipush (v := -1002) dX6_append_24 rfl) (mpp 27 rfl ?_)
        have u23 : ((-1002 : Int) = -1002 ∧ (t1.toInt < 32 ∨ 126 < t1.toInt ∨ 80 ≤ (fv Po 289 1).toInt) ∧ (fv Po 289 1).toInt = (fv Po 289 1).toInt) ∨ ((-1002 : Int) = (fv Po 289 1).toInt + 1 ∧ 32 ≤ t1.toInt ∧ t1.toInt ≤ 126 ∧ (fv Po 289 1).toInt < 80 ∧ (fv Po 289 1).toInt = (fv Po 289 1).toInt + 1) := by omega
        exact mp_iret ⟨⟨_, rfl, u23⟩, hT, KW.refl, trivial⟩ dX6_append_27 (Or.inl rfl)

set_option maxHeartbeats 4000000 in
theorem c_CS_rewind_Script {Po : mP}  (hT : Typ Po)   : EvP 1 96 [.ref 289] Po (fun r P' => (r = none ∧ (True)) ∧ Typ P' ∧ KW [514] Po P' ∧ True) := by
  refine EvP.of qm_96 (Nat.le_of_ble_eq_true rfl) rfl ?_
  show MEvP _ none q_96 0 [(0, .ref 289)] [] _ 0 0 _
  refine mp_a (a_aload_n dX4_rewind_0 rfl) (mpp 1 rfl ?_)
  refine mp_a (a_iconst (v := 0) dX4_rewind_1 rfl) (mpp 2 rfl ?_)
  refine mt_putI (i := 23) (k := 2) (x := 0) hT dX4_rewind_2 rfl rl_289 (by decide) rfl (by decide) rfl (by decide) rfl rfl (fun P1 hT2 f3 f4 => mpp 5 rfl ?_)
  have k5 : KW [514] Po P1 := KW.step KW.refl rl_289 rfl f4
  have e6 : (fv P1 289 2).toInt = 0 := congrArg Int32.toInt f3
  exact mp_ret ⟨⟨rfl, trivial⟩, hT2, k5, trivial⟩ dX4_rewind_5 rfl

set_option maxHeartbeats 4000000 in
theorem c_F_at_codes {Po : mP} {t1 : Int32} (hT : Typ Po)   : EvP 1 12 [.ref 290, .int t1] Po (fun r P' => (∃ x : Int32, r = some (.int x) ∧ (True)) ∧ P' = Po) := by
  refine EvP.of qm_12 (Nat.le_of_ble_eq_true rfl) rfl ?_
  show MEvP _ none q_12 0 [(0, .ref 290), (1, .int t1)] [] _ 0 0 _
  refine mp_a (a_iload_n dX6_at_0 rfl) (mpp 1 rfl ?_)
  refine mp_Tb (t := 16) (j_if_lt dX6_at_1) (by decide) (fun c1 => ?_) (fun c1 => mpp 4 rfl ?_)
  · have c1 : t1.toInt < 0 := ti_lt c1
    refine mp_a (a_iconst (v := 0) dX6_at_16 rfl) (mpp 17 rfl ?_)
    exact mp_iret ⟨⟨_, rfl, trivial⟩, rfl⟩ dX6_at_17 (Or.inl rfl)
  · have c1 : t1.toInt ≥ 0 := ti_lt_n c1
    refine mp_a (a_iload_n dX6_at_4 rfl) (mpp 5 rfl ?_)
    refine mp_a (a_aload_n dX6_at_5 rfl) (mpp 6 rfl ?_)
    refine mt_len (n := 80) hT dX6_at_6 rl_290 (by decide) (by decide) rfl (mpp 7 rfl ?_)
    refine mp_Tb (t := 16) (j_icmp_ge dX6_at_7) (by decide) (fun c2 => ?_) (fun c2 => mpp 10 rfl ?_)
    · have c2 : t1.toInt ≥ 80 := ti_ge c2
      refine mp_a (a_iconst (v := 0) dX6_at_16 rfl) (mpp 17 rfl ?_)
      exact mp_iret ⟨⟨_, rfl, trivial⟩, rfl⟩ dX6_at_17 (Or.inl rfl)
    · have c2 : t1.toInt < 80 := ti_ge_n c2
      refine mp_a (a_aload_n dX6_at_10 rfl) (mpp 11 rfl ?_)
      refine mp_a (a_iload_n dX6_at_11 rfl) (mpp 12 rfl ?_)
      refine mt_ial (n := 80) hT dX6_at_12 rl_290 (by decide) rfl rfl (by omega) (by omega) rfl (fun g3 g4 => mpp 13 rfl ?_)
      refine mp_a (a_goto (t := 17) dX6_at_13 (by decide)) ?_
      exact mp_iret ⟨⟨_, rfl, trivial⟩, rfl⟩ dX6_at_17 (Or.inl rfl)

set_option maxHeartbeats 4000000 in
theorem c_CS_codeHere_Script {Po : mP}  (hT : Typ Po)   : EvP 2 98 [.ref 289] Po (fun r P' => (∃ x : Int32, r = some (.int x) ∧ (True)) ∧ P' = Po) := by
  refine EvP.of qm_98 (Nat.le_of_ble_eq_true rfl) rfl ?_
  show MEvP _ none q_98 0 [(0, .ref 289)] [] _ 0 0 _
  refine mp_a (a_aload_n dX4_codeHere_0 rfl) (mpp 1 rfl ?_)
  have g1 := ti_full (fv Po 289 2)
  refine mt_getI (i := 23) (k := 2) hT dX4_codeHere_1 rfl rl_289 (by decide) rfl (by decide) rfl (fun g2 g3 => mpp 4 rfl ?_)
  refine mp_a (a_aload_n dX4_codeHere_4 rfl) (mpp 5 rfl ?_)
  have g4 : (0 : Int) ≤ (fv Po 289 1).toInt ∧ (fv Po 289 1).toInt ≤ 80 := Typ.rng hT rl_289 (by decide) (by decide) rfl
  refine mt_getI (i := 15) (k := 1) hT dX4_codeHere_5 rfl rl_289 (by decide) rfl (by decide) rfl (fun g5 g6 => mpp 8 rfl ?_)
  refine mp_Tb (t := 25) (j_icmp_ge dX4_codeHere_8) (by decide) (fun c7 => ?_) (fun c7 => mpp 11 rfl ?_)
  · have c7 : (fv Po 289 2).toInt ≥ (fv Po 289 1).toInt := ti_ge c7
    refine mp_a (a_iconst (v := 0) dX4_codeHere_25 rfl) (mpp 26 rfl ?_)
    exact mp_iret ⟨⟨_, rfl, trivial⟩, rfl⟩ dX4_codeHere_26 (Or.inl rfl)
  · have c7 : (fv Po 289 2).toInt < (fv Po 289 1).toInt := ti_ge_n c7
    refine mp_a (a_aload_n dX4_codeHere_11 rfl) (mpp 12 rfl ?_)
    refine mt_getU (i := 9) (k := 0) (A := 290) hT dX4_codeHere_12 rfl rl_289 (by decide) rfl (by decide) rfl un_9 (mpp 15 rfl ?_)
    refine mp_a (a_aload_n dX4_codeHere_15 rfl) (mpp 16 rfl ?_)
    refine mt_getI (i := 23) (k := 2) hT dX4_codeHere_16 rfl rl_289 (by decide) rfl (by decide) rfl (fun g8 g9 => mpp 19 rfl ?_)
    refine mp_calls (i := 59) (q' := q_12) (As := [.ref 290, .int (fv Po 289 2)]) (rest := []) dX4_codeHere_19 rfl qm_12 (by decide) rfl (Nat.le_of_ble_eq_true rfl) rfl ⟨rfl, rfl⟩ ⟨Nat.le_of_ble_eq_true rfl, Nat.le_of_ble_eq_true rfl⟩ (EvP.mono (by decide) (c_F_at_codes hT )) (fun r10 P11 g12 => mpp 22 rfl ?_)
    obtain ⟨⟨x13, rfl, g14⟩, e15⟩ := g12
    have e15 := e15.symm
    subst e15
    have wx13 := ti_full x13
    show MEvP _ none q_98 22 [(0, .ref 289)] [.int x13] _ _ _ _
    refine mp_a (a_goto (t := 26) dX4_codeHere_22 (by decide)) ?_
    exact mp_iret ⟨⟨_, rfl, trivial⟩, rfl⟩ dX4_codeHere_26 (Or.inl rfl)

set_option maxHeartbeats 4000000 in
theorem c_CS_takeSizes_Script_l7 {Po : mP}   : ∀ (n : Nat) (v1 : Int32), ∀ (P : mP), Typ P → KW [514, 516] Po P → (0 ≤ v1.toInt) → (2147483647 - v1.toInt).toNat = n → MEvP 2 none q_99 7 [(0, .ref 289), (1, .int v1)] [] P 0 0 (fun r P' => (∃ x : Int32, r = some (.int x) ∧ (0 ≤ x.toInt ∧ x.toInt ≤ 1)) ∧ Typ P' ∧ KW [514, 516] Po P' ∧ True) := by
  intro n
  induction n using Nat.strongRecOn with | _ n ih => ?_
  intro v1 P hT hK i_0 hm
  have w_v1 := ti_full v1
  refine mp_a (a_iload_n dX4_takeSizes_7 rfl) (mpp 8 rfl ?_)
  refine mp_a (a_bipush (v := 8) dX4_takeSizes_8 rfl) (mpp 10 rfl ?_)
  refine mp_Tb (t := 66) (j_icmp_ge dX4_takeSizes_10) (by decide) (fun c1 => ?_) (fun c1 => mpp 13 rfl ?_)
  · have c1 : v1.toInt ≥ 8 := ti_ge c1
    refine mp_a (a_aload_n dX4_takeSizes_66 rfl) (mpp 67 rfl ?_)
    have g2 := ti_full (fv P 289 4)
    refine mt_getI (i := 63) (k := 4) hT dX4_takeSizes_67 rfl rl_289 (by decide) rfl (by decide) rfl (fun g3 g4 => mpp 70 rfl ?_)
    refine mp_Tb (t := 77) (j_if_le dX4_takeSizes_70) (by decide) (fun c5 => ?_) (fun c5 => mpp 73 rfl ?_)
    · have c5 : (fv P 289 4).toInt ≤ 0 := ti_le c5
      refine mp_a (a_iconst (v := 0) dX4_takeSizes_77 rfl) (mpp 78 rfl ?_)
      have u6 : 0 ≤ (0 : Int) ∧ (0 : Int) ≤ 1 := by omega
      exact mp_iret ⟨⟨_, rfl, u6⟩, hT, hK, trivial⟩ dX4_takeSizes_78 (Or.inr ⟨rfl, by decide⟩)
    · have c5 : (fv P 289 4).toInt > 0 := ti_le_n c5
      refine mp_a (a_iconst (v := 1) dX4_takeSizes_73 rfl) (mpp 74 rfl ?_)
      refine mp_a (a_goto (t := 78) dX4_takeSizes_74 (by decide)) ?_
      have u7 : 0 ≤ (1 : Int) ∧ (1 : Int) ≤ 1 := by omega
      exact mp_iret ⟨⟨_, rfl, u7⟩, hT, hK, trivial⟩ dX4_takeSizes_78 (Or.inr ⟨rfl, by decide⟩)
  · have c1 : v1.toInt < 8 := ti_ge_n c1
    refine mp_a (a_aload_n dX4_takeSizes_13 rfl) (mpp 14 rfl ?_)
    refine mt_callv (i := 37) (q' := q_98) (As := []) (rest := []) hT dX4_takeSizes_14 rfl qm_98 (by decide) rfl rl_289 (by decide) rfl (Nat.le_of_ble_eq_true rfl) rfl ⟨rfl, rfl⟩ ⟨Nat.le_of_ble_eq_true rfl, Nat.le_of_ble_eq_true rfl⟩ (EvP.mono (by decide) (c_CS_codeHere_Script hT )) (fun r8 P9 g10 => mpp 17 rfl ?_)
    obtain ⟨⟨x11, rfl, g12⟩, e13⟩ := g10
    have e13 := e13.symm
    subst e13
    have wx11 := ti_full x11
    show MEvP _ none q_99 17 [(0, .ref 289), (1, .int v1)] [.int x11] _ _ _ _
    refine mp_a (a_bipush (v := 49) dX4_takeSizes_17 rfl) (mpp 19 rfl ?_)
    refine mp_Tb (t := 66) (j_icmp_lt dX4_takeSizes_19) (by decide) (fun c14 => ?_) (fun c14 => mpp 22 rfl ?_)
    · have c14 : x11.toInt < 49 := ti_lt c14
      refine mp_a (a_aload_n dX4_takeSizes_66 rfl) (mpp 67 rfl ?_)
      have g15 := ti_full (fv P 289 4)
      refine mt_getI (i := 63) (k := 4) hT dX4_takeSizes_67 rfl rl_289 (by decide) rfl (by decide) rfl (fun g16 g17 => mpp 70 rfl ?_)
      refine mp_Tb (t := 77) (j_if_le dX4_takeSizes_70) (by decide) (fun c18 => ?_) (fun c18 => mpp 73 rfl ?_)
      · have c18 : (fv P 289 4).toInt ≤ 0 := ti_le c18
        refine mp_a (a_iconst (v := 0) dX4_takeSizes_77 rfl) (mpp 78 rfl ?_)
        have u19 : 0 ≤ (0 : Int) ∧ (0 : Int) ≤ 1 := by omega
        exact mp_iret ⟨⟨_, rfl, u19⟩, hT, hK, trivial⟩ dX4_takeSizes_78 (Or.inr ⟨rfl, by decide⟩)
      · have c18 : (fv P 289 4).toInt > 0 := ti_le_n c18
        refine mp_a (a_iconst (v := 1) dX4_takeSizes_73 rfl) (mpp 74 rfl ?_)
        refine mp_a (a_goto (t := 78) dX4_takeSizes_74 (by decide)) ?_
        have u20 : 0 ≤ (1 : Int) ∧ (1 : Int) ≤ 1 := by omega
        exact mp_iret ⟨⟨_, rfl, u20⟩, hT, hK, trivial⟩ dX4_takeSizes_78 (Or.inr ⟨rfl, by decide⟩)
    · have c14 : x11.toInt ≥ 49 := ti_lt_n c14
      refine mp_a (a_aload_n dX4_takeSizes_22 rfl) (mpp 23 rfl ?_)
      refine mt_callv (i := 37) (q' := q_98) (As := []) (rest := []) hT dX4_takeSizes_23 rfl qm_98 (by decide) rfl rl_289 (by decide) rfl (Nat.le_of_ble_eq_true rfl) rfl ⟨rfl, rfl⟩ ⟨Nat.le_of_ble_eq_true rfl, Nat.le_of_ble_eq_true rfl⟩ (EvP.mono (by decide) (c_CS_codeHere_Script hT )) (fun r21 P22 g23 => mpp 26 rfl ?_)
      obtain ⟨⟨x24, rfl, g25⟩, e26⟩ := g23
      have e26 := e26.symm
      subst e26
      have wx24 := ti_full x24
      show MEvP _ none q_99 26 [(0, .ref 289), (1, .int v1)] [.int x24] _ _ _ _
      refine mp_a (a_bipush (v := 57) dX4_takeSizes_26 rfl) (mpp 28 rfl ?_)
      refine mp_Tb (t := 66) (j_icmp_gt dX4_takeSizes_28) (by decide) (fun c27 => ?_) (fun c27 => mpp 31 rfl ?_)
      · have c27 : x24.toInt > 57 := ti_gt c27
        refine mp_a (a_aload_n dX4_takeSizes_66 rfl) (mpp 67 rfl ?_)
        have g28 := ti_full (fv P 289 4)
        refine mt_getI (i := 63) (k := 4) hT dX4_takeSizes_67 rfl rl_289 (by decide) rfl (by decide) rfl (fun g29 g30 => mpp 70 rfl ?_)
        refine mp_Tb (t := 77) (j_if_le dX4_takeSizes_70) (by decide) (fun c31 => ?_) (fun c31 => mpp 73 rfl ?_)
        · have c31 : (fv P 289 4).toInt ≤ 0 := ti_le c31
          refine mp_a (a_iconst (v := 0) dX4_takeSizes_77 rfl) (mpp 78 rfl ?_)
          have u32 : 0 ≤ (0 : Int) ∧ (0 : Int) ≤ 1 := by omega
          exact mp_iret ⟨⟨_, rfl, u32⟩, hT, hK, trivial⟩ dX4_takeSizes_78 (Or.inr ⟨rfl, by decide⟩)
        · have c31 : (fv P 289 4).toInt > 0 := ti_le_n c31
          refine mp_a (a_iconst (v := 1) dX4_takeSizes_73 rfl) (mpp 74 rfl ?_)
          refine mp_a (a_goto (t := 78) dX4_takeSizes_74 (by decide)) ?_
          have u33 : 0 ≤ (1 : Int) ∧ (1 : Int) ≤ 1 := by omega
          exact mp_iret ⟨⟨_, rfl, u33⟩, hT, hK, trivial⟩ dX4_takeSizes_78 (Or.inr ⟨rfl, by decide⟩)
      · have c27 : x24.toInt ≤ 57 := ti_gt_n c27
        refine mp_a (a_aload_n dX4_takeSizes_31 rfl) (mpp 32 rfl ?_)
        refine mp_a (a_aload_n dX4_takeSizes_32 rfl) (mpp 33 rfl ?_)
        have g34 := ti_full (fv P 289 4)
        refine mt_getI (i := 63) (k := 4) hT dX4_takeSizes_33 rfl rl_289 (by decide) rfl (by decide) rfl (fun g35 g36 => mpp 36 rfl ?_)
        refine mp_a (a_bipush (v := 10) dX4_takeSizes_36 rfl) (mpp 38 rfl ?_)
        obtain ⟨z37, h38⟩ := ti_ex ((fv P 289 4) * 10 : Int32)
        have wz37 := ti_full z37
        refine mp_t (s_imul (v := z37) dX4_takeSizes_38 h38) (mpp 39 rfl ?_)
        try have e39 : z37.toInt = (fv P 289 4).toInt * 10 := ti_mulz h38 rfl rfl (by omega) (by omega)
        refine mp_a (a_aload_n dX4_takeSizes_39 rfl) (mpp 40 rfl ?_)
        refine mt_callv (i := 37) (q' := q_98) (As := []) (rest := [.int z37, .ref 289]) hT dX4_takeSizes_40 rfl qm_98 (by decide) rfl rl_289 (by decide) rfl (Nat.le_of_ble_eq_true rfl) rfl ⟨rfl, rfl⟩ ⟨Nat.le_of_ble_eq_true rfl, Nat.le_of_ble_eq_true rfl⟩ (EvP.mono (by decide) (c_CS_codeHere_Script hT )) (fun r40 P41 g42 => mpp 43 rfl ?_)
        obtain ⟨⟨x43, rfl, g44⟩, e45⟩ := g42
        have e45 := e45.symm
        subst e45
        have wx43 := ti_full x43
        show MEvP _ none q_99 43 [(0, .ref 289), (1, .int v1)] [.int x43, .int z37, .ref 289] _ _ _ _
        obtain ⟨z46, h47⟩ := ti_ex (z37 + x43 : Int32)
        have wz46 := ti_full z46
        refine mp_t (s_iadd (v := z46) dX4_takeSizes_43 h47) (mpp 44 rfl ?_)
        try have e48 : z46.toInt = z37.toInt + x43.toInt := ti_addz h47 rfl rfl (by omega) (by omega)
        refine mp_a (a_bipush (v := 48) dX4_takeSizes_44 rfl) (mpp 46 rfl ?_)
        obtain ⟨z49, h50⟩ := ti_ex (z46 - 48 : Int32)
        have wz49 := ti_full z49
        refine mp_t (s_isub (v := z49) dX4_takeSizes_46 h50) (mpp 47 rfl ?_)
        try have e51 : z49.toInt = z46.toInt - 48 := ti_subz h50 rfl rfl (by omega) (by omega)
        refine mt_putI (i := 63) (k := 4) (x := z49) hT dX4_takeSizes_47 rfl rl_289 (by decide) rfl (by decide) rfl (ti_full z49) rfl rfl (fun P52 hT53 f54 f55 => mpp 50 rfl ?_)
        have k56 : KW [514, 516] Po P52 := KW.step hK rl_289 rfl f55
        have e57 : (fv P52 289 4).toInt = z49.toInt := congrArg Int32.toInt f54
        refine mp_a (a_aload_n dX4_takeSizes_50 rfl) (mpp 51 rfl ?_)
        refine mp_t (s_dup dX4_takeSizes_51 rfl) (mpp 52 rfl ?_)
        have g58 := ti_full (fv P52 289 2)
        refine mt_getI (i := 23) (k := 2) hT53 dX4_takeSizes_52 rfl rl_289 (by decide) rfl (by decide) rfl (fun g59 g60 => mpp 55 rfl ?_)
        refine mp_a (a_iconst (v := 1) dX4_takeSizes_55 rfl) (mpp 56 rfl ?_)
        obtain ⟨z61, h62⟩ := ti_ex ((fv P52 289 2) + 1 : Int32)
        have wz61 := ti_full z61
        refine mp_t (s_iadd (v := z61) dX4_takeSizes_56 h62) (mpp 57 rfl ?_)
        try have e63 : z61.toInt = (fv P52 289 2).toInt + 1 := ti_addz h62 rfl rfl (by omega) (by omega)
        refine mt_putI (i := 23) (k := 2) (x := z61) hT53 dX4_takeSizes_57 rfl rl_289 (by decide) rfl (by decide) rfl (ti_full z61) rfl rfl (fun P64 hT65 f66 f67 => mpp 60 rfl ?_)
        have k68 : KW [514, 516] Po P64 := KW.step k56 rl_289 rfl f67
        have e69 : (fv P64 289 2).toInt = z61.toInt := congrArg Int32.toInt f66
        obtain ⟨z70, h71⟩ := ti_ex (v1 + 1 : Int32)
        have wz70 := ti_full z70
        refine mp_a (a_iinc (v := z70) (L' := [(1, .int z70), (0, .ref 289)]) dX4_takeSizes_60 (by decide) rfl h71 rfl) (mpp 63 rfl ?_)
        try have e72 : z70.toInt = v1.toInt + 1 := ti_addz h71 rfl rfl (by omega) (by omega)
        refine mp_a (a_goto (t := 7) dX4_takeSizes_63 (by decide)) ?_
        refine MEvP.less (L := [(0, .ref 289), (1, .int z70)]) rfl rfl ⟨rfl, rfl, trivial⟩ ?_
        have i73 : 0 ≤ z70.toInt := by omega
        exact ih _ (by omega) _ P64 hT65 k68 i73 rfl

set_option maxHeartbeats 4000000 in
theorem c_CS_takeSizes_Script {Po : mP}  (hT : Typ Po)   : EvP 3 99 [.ref 289] Po (fun r P' => (∃ x : Int32, r = some (.int x) ∧ (0 ≤ x.toInt ∧ x.toInt ≤ 1)) ∧ Typ P' ∧ KW [514, 516] Po P' ∧ True) := by
  refine EvP.of qm_99 (Nat.le_of_ble_eq_true rfl) rfl ?_
  show MEvP _ none q_99 0 [(0, .ref 289)] [] _ 0 0 _
  refine mp_a (a_aload_n dX4_takeSizes_0 rfl) (mpp 1 rfl ?_)
  refine mp_a (a_iconst (v := 0) dX4_takeSizes_1 rfl) (mpp 2 rfl ?_)
  refine mt_putI (i := 63) (k := 4) (x := 0) hT dX4_takeSizes_2 rfl rl_289 (by decide) rfl (by decide) rfl (by decide) rfl rfl (fun P1 hT2 f3 f4 => mpp 5 rfl ?_)
  have k5 : KW [514, 516] Po P1 := KW.step KW.refl rl_289 rfl f4
  have e6 : (fv P1 289 4).toInt = 0 := congrArg Int32.toInt f3
  refine mp_a (a_iconst (v := 0) dX4_takeSizes_5 rfl) (mpp 6 rfl ?_)
  refine mp_a (a_istore_n (L' := [(1, .int 0), (0, .ref 289)]) dX4_takeSizes_6 (by decide) rfl) (mpp 7 rfl ?_)
  refine MEvP.less (L := [(0, .ref 289), (1, .int 0)]) rfl rfl ⟨rfl, rfl, trivial⟩ ?_
  have i7 : 0 ≤ (0 : Int) := by omega
  exact c_CS_takeSizes_Script_l7   _ _ P1 hT2 k5 i7 rfl

set_option maxHeartbeats 4000000 in
theorem c_CS_takeSign_Script {Po : mP} {t1 : Int32} (hT : Typ Po)   : EvP 3 100 [.ref 289, .int t1] Po (fun r P' => (∃ x : Int32, r = some (.int x) ∧ (0 ≤ x.toInt ∧ x.toInt ≤ 1)) ∧ Typ P' ∧ KW [514] Po P' ∧ True) := by
  refine EvP.of qm_100 (Nat.le_of_ble_eq_true rfl) rfl ?_
  show MEvP _ none q_100 0 [(0, .ref 289), (1, .int t1)] [] _ 0 0 _
  refine mp_a (a_aload_n dX4_takeSign_0 rfl) (mpp 1 rfl ?_)
  refine mt_callv (i := 37) (q' := q_98) (As := []) (rest := []) hT dX4_takeSign_1 rfl qm_98 (by decide) rfl rl_289 (by decide) rfl (Nat.le_of_ble_eq_true rfl) rfl ⟨rfl, rfl⟩ ⟨Nat.le_of_ble_eq_true rfl, Nat.le_of_ble_eq_true rfl⟩ (EvP.mono (by decide) (c_CS_codeHere_Script hT )) (fun r1 P2 g3 => mpp 4 rfl ?_)
  obtain ⟨⟨x4, rfl, g5⟩, e6⟩ := g3
  have e6 := e6.symm
  subst e6
  have wx4 := ti_full x4
  show MEvP _ none q_100 4 [(0, .ref 289), (1, .int t1)] [.int x4] _ _ _ _
  refine mp_a (a_iload_n dX4_takeSign_4 rfl) (mpp 5 rfl ?_)
  refine mp_Tb (t := 10) (j_icmp_eq dX4_takeSign_5) (by decide) (fun c7 => ?_) (fun c7 => mpp 8 rfl ?_)
  · have c7 : x4.toInt = t1.toInt := ti_eq c7
    refine mp_a (a_aload_n dX4_takeSign_10 rfl) (mpp 11 rfl ?_)
    refine mp_t (s_dup dX4_takeSign_11 rfl) (mpp 12 rfl ?_)
    have g8 := ti_full (fv Po 289 2)
    refine mt_getI (i := 23) (k := 2) hT dX4_takeSign_12 rfl rl_289 (by decide) rfl (by decide) rfl (fun g9 g10 => mpp 15 rfl ?_)
    refine mp_a (a_iconst (v := 1) dX4_takeSign_15 rfl) (mpp 16 rfl ?_)
    obtain ⟨z11, h12⟩ := ti_ex ((fv Po 289 2) + 1 : Int32)
    have wz11 := ti_full z11
    refine mp_t (s_iadd (v := z11) dX4_takeSign_16 h12) (mpp 17 rfl ?_)
    try have e13 : z11.toInt = (fv Po 289 2).toInt + 1 := ti_addz h12 rfl rfl (by omega) (by omega)
    refine mt_putI (i := 23) (k := 2) (x := z11) hT dX4_takeSign_17 rfl rl_289 (by decide) rfl (by decide) rfl (ti_full z11) rfl rfl (fun P14 hT15 f16 f17 => mpp 20 rfl ?_)
    have k18 : KW [514] Po P14 := KW.step KW.refl rl_289 rfl f17
    have e19 : (fv P14 289 2).toInt = z11.toInt := congrArg Int32.toInt f16
    refine mp_a (a_iconst (v := 1) dX4_takeSign_20 rfl) (mpp 21 rfl ?_)
    have u20 : 0 ≤ (1 : Int) ∧ (1 : Int) ≤ 1 := by omega
    exact mp_iret ⟨⟨_, rfl, u20⟩, hT15, k18, trivial⟩ dX4_takeSign_21 (Or.inr ⟨rfl, by decide⟩)
  · have c7 : x4.toInt ≠ t1.toInt := ti_eq_n c7
    refine mp_a (a_iconst (v := 0) dX4_takeSign_8 rfl) (mpp 9 rfl ?_)
    have u21 : 0 ≤ (0 : Int) ∧ (0 : Int) ≤ 1 := by omega
    exact mp_iret ⟨⟨_, rfl, u21⟩, hT, KW.refl, trivial⟩ dX4_takeSign_9 (Or.inr ⟨rfl, by decide⟩)

set_option maxHeartbeats 4000000 in
theorem c_CS_takeKind_Script {Po : mP}  (hT : Typ Po)   : EvP 3 102 [.ref 289] Po (fun r P' => (∃ x : Int32, r = some (.int x) ∧ (0 ≤ x.toInt ∧ x.toInt ≤ 1)) ∧ Typ P' ∧ KW [514, 519] Po P' ∧ True) := by
  refine EvP.of qm_102 (Nat.le_of_ble_eq_true rfl) rfl ?_
  show MEvP _ none q_102 0 [(0, .ref 289)] [] _ 0 0 _
  refine mp_a (a_aload_n dX4_takeKind_0 rfl) (mpp 1 rfl ?_)
  refine mt_callv (i := 37) (q' := q_98) (As := []) (rest := []) hT dX4_takeKind_1 rfl qm_98 (by decide) rfl rl_289 (by decide) rfl (Nat.le_of_ble_eq_true rfl) rfl ⟨rfl, rfl⟩ ⟨Nat.le_of_ble_eq_true rfl, Nat.le_of_ble_eq_true rfl⟩ (EvP.mono (by decide) (c_CS_codeHere_Script hT )) (fun r1 P2 g3 => mpp 4 rfl ?_)
  obtain ⟨⟨x4, rfl, g5⟩, e6⟩ := g3
  have e6 := e6.symm
  subst e6
  have wx4 := ti_full x4
  show MEvP _ none q_102 4 [(0, .ref 289)] [.int x4] _ _ _ _
  refine mp_a (a_istore_n (L' := [(1, .int x4), (0, .ref 289)]) dX4_takeKind_4 (by decide) rfl) (mpp 5 rfl ?_)
  refine mp_a (a_iload_n dX4_takeKind_5 rfl) (mpp 6 rfl ?_)
  refine mp_a (a_bipush (v := 111) dX4_takeKind_6 rfl) (mpp 8 rfl ?_)
  refine mp_Tb (t := 25) (j_icmp_eq dX4_takeKind_8) (by decide) (fun c7 => ?_) (fun c7 => mpp 11 rfl ?_)
  · have c7 : x4.toInt = 111 := ti_eq c7
    refine mp_a (a_aload_n dX4_takeKind_25 rfl) (mpp 26 rfl ?_)
    refine mp_a (a_iload_n dX4_takeKind_26 rfl) (mpp 27 rfl ?_)
    refine mp_a (a_bipush (v := 111) dX4_takeKind_27 rfl) (mpp 29 rfl ?_)
    refine mp_Tb (t := 36) (j_icmp_ne dX4_takeKind_29) (by decide) (fun c8 => ?_) (fun c8 => mpp 32 rfl ?_)
    · have c8 : x4.toInt ≠ 111 := ti_ne c8
      refine mp_a (a_iload_n dX4_takeKind_36 rfl) (mpp 37 rfl ?_)
      refine mp_a (a_bipush (v := 109) dX4_takeKind_37 rfl) (mpp 39 rfl ?_)
      refine mp_Tb (t := 46) (j_icmp_ne dX4_takeKind_39) (by decide) (fun c9 => ?_) (fun c9 => mpp 42 rfl ?_)
      · have c9 : x4.toInt ≠ 109 := ti_ne c9
        refine mp_a (a_iconst (v := 2) dX4_takeKind_46 rfl) (mpp 47 rfl ?_)
        refine mt_putI (i := 72) (k := 7) (x := 2) hT dX4_takeKind_47 rfl rl_289 (by decide) rfl (by decide) rfl (by decide) rfl rfl (fun P10 hT11 f12 f13 => mpp 50 rfl ?_)
        have k14 : KW [514, 519] Po P10 := KW.step KW.refl rl_289 rfl f13
        have e15 : (fv P10 289 7).toInt = 2 := congrArg Int32.toInt f12
        refine mp_a (a_aload_n dX4_takeKind_50 rfl) (mpp 51 rfl ?_)
        refine mp_t (s_dup dX4_takeKind_51 rfl) (mpp 52 rfl ?_)
        have g16 := ti_full (fv P10 289 2)
        refine mt_getI (i := 23) (k := 2) hT11 dX4_takeKind_52 rfl rl_289 (by decide) rfl (by decide) rfl (fun g17 g18 => mpp 55 rfl ?_)
        refine mp_a (a_iconst (v := 1) dX4_takeKind_55 rfl) (mpp 56 rfl ?_)
        obtain ⟨z19, h20⟩ := ti_ex ((fv P10 289 2) + 1 : Int32)
        have wz19 := ti_full z19
        refine mp_t (s_iadd (v := z19) dX4_takeKind_56 h20) (mpp 57 rfl ?_)
        try have e21 : z19.toInt = (fv P10 289 2).toInt + 1 := ti_addz h20 rfl rfl (by omega) (by omega)
        refine mt_putI (i := 23) (k := 2) (x := z19) hT11 dX4_takeKind_57 rfl rl_289 (by decide) rfl (by decide) rfl (ti_full z19) rfl rfl (fun P22 hT23 f24 f25 => mpp 60 rfl ?_)
        have k26 : KW [514, 519] Po P22 := KW.step k14 rl_289 rfl f25
        have e27 : (fv P22 289 2).toInt = z19.toInt := congrArg Int32.toInt f24
        refine mp_a (a_iconst (v := 1) dX4_takeKind_60 rfl) (mpp 61 rfl ?_)
        have u28 : 0 ≤ (1 : Int) ∧ (1 : Int) ≤ 1 := by omega
        exact mp_iret ⟨⟨_, rfl, u28⟩, hT23, k26, trivial⟩ dX4_takeKind_61 (Or.inr ⟨rfl, by decide⟩)
      · have c9 : x4.toInt = 109 := ti_ne_n c9
        refine mp_a (a_iconst (v := 1) dX4_takeKind_42 rfl) (mpp 43 rfl ?_)
        refine mp_a (a_goto (t := 47) dX4_takeKind_43 (by decide)) ?_
        refine mt_putI (i := 72) (k := 7) (x := 1) hT dX4_takeKind_47 rfl rl_289 (by decide) rfl (by decide) rfl (by decide) rfl rfl (fun P29 hT30 f31 f32 => mpp 50 rfl ?_)
        have k33 : KW [514, 519] Po P29 := KW.step KW.refl rl_289 rfl f32
        have e34 : (fv P29 289 7).toInt = 1 := congrArg Int32.toInt f31
        refine mp_a (a_aload_n dX4_takeKind_50 rfl) (mpp 51 rfl ?_)
        refine mp_t (s_dup dX4_takeKind_51 rfl) (mpp 52 rfl ?_)
        have g35 := ti_full (fv P29 289 2)
        refine mt_getI (i := 23) (k := 2) hT30 dX4_takeKind_52 rfl rl_289 (by decide) rfl (by decide) rfl (fun g36 g37 => mpp 55 rfl ?_)
        refine mp_a (a_iconst (v := 1) dX4_takeKind_55 rfl) (mpp 56 rfl ?_)
        obtain ⟨z38, h39⟩ := ti_ex ((fv P29 289 2) + 1 : Int32)
        have wz38 := ti_full z38
        refine mp_t (s_iadd (v := z38) dX4_takeKind_56 h39) (mpp 57 rfl ?_)
        try have e40 : z38.toInt = (fv P29 289 2).toInt + 1 := ti_addz h39 rfl rfl (by omega) (by omega)
        refine mt_putI (i := 23) (k := 2) (x := z38) hT30 dX4_takeKind_57 rfl rl_289 (by decide) rfl (by decide) rfl (ti_full z38) rfl rfl (fun P41 hT42 f43 f44 => mpp 60 rfl ?_)
        have k45 : KW [514, 519] Po P41 := KW.step k33 rl_289 rfl f44
        have e46 : (fv P41 289 2).toInt = z38.toInt := congrArg Int32.toInt f43
        refine mp_a (a_iconst (v := 1) dX4_takeKind_60 rfl) (mpp 61 rfl ?_)
        have u47 : 0 ≤ (1 : Int) ∧ (1 : Int) ≤ 1 := by omega
        exact mp_iret ⟨⟨_, rfl, u47⟩, hT42, k45, trivial⟩ dX4_takeKind_61 (Or.inr ⟨rfl, by decide⟩)
    · have c8 : x4.toInt = 111 := ti_ne_n c8
      refine mp_a (a_iconst (v := 0) dX4_takeKind_32 rfl) (mpp 33 rfl ?_)
      refine mp_a (a_goto (t := 47) dX4_takeKind_33 (by decide)) ?_
      refine mt_putI (i := 72) (k := 7) (x := 0) hT dX4_takeKind_47 rfl rl_289 (by decide) rfl (by decide) rfl (by decide) rfl rfl (fun P48 hT49 f50 f51 => mpp 50 rfl ?_)
      have k52 : KW [514, 519] Po P48 := KW.step KW.refl rl_289 rfl f51
      have e53 : (fv P48 289 7).toInt = 0 := congrArg Int32.toInt f50
      refine mp_a (a_aload_n dX4_takeKind_50 rfl) (mpp 51 rfl ?_)
      refine mp_t (s_dup dX4_takeKind_51 rfl) (mpp 52 rfl ?_)
      have g54 := ti_full (fv P48 289 2)
      refine mt_getI (i := 23) (k := 2) hT49 dX4_takeKind_52 rfl rl_289 (by decide) rfl (by decide) rfl (fun g55 g56 => mpp 55 rfl ?_)
      refine mp_a (a_iconst (v := 1) dX4_takeKind_55 rfl) (mpp 56 rfl ?_)
      obtain ⟨z57, h58⟩ := ti_ex ((fv P48 289 2) + 1 : Int32)
      have wz57 := ti_full z57
      refine mp_t (s_iadd (v := z57) dX4_takeKind_56 h58) (mpp 57 rfl ?_)
      try have e59 : z57.toInt = (fv P48 289 2).toInt + 1 := ti_addz h58 rfl rfl (by omega) (by omega)
      refine mt_putI (i := 23) (k := 2) (x := z57) hT49 dX4_takeKind_57 rfl rl_289 (by decide) rfl (by decide) rfl (ti_full z57) rfl rfl (fun P60 hT61 f62 f63 => mpp 60 rfl ?_)
      have k64 : KW [514, 519] Po P60 := KW.step k52 rl_289 rfl f63
      have e65 : (fv P60 289 2).toInt = z57.toInt := congrArg Int32.toInt f62
      refine mp_a (a_iconst (v := 1) dX4_takeKind_60 rfl) (mpp 61 rfl ?_)
      have u66 : 0 ≤ (1 : Int) ∧ (1 : Int) ≤ 1 := by omega
      exact mp_iret ⟨⟨_, rfl, u66⟩, hT61, k64, trivial⟩ dX4_takeKind_61 (Or.inr ⟨rfl, by decide⟩)
  · have c7 : x4.toInt ≠ 111 := ti_eq_n c7
    refine mp_a (a_iload_n dX4_takeKind_11 rfl) (mpp 12 rfl ?_)
    refine mp_a (a_bipush (v := 109) dX4_takeKind_12 rfl) (mpp 14 rfl ?_)
    refine mp_Tb (t := 25) (j_icmp_eq dX4_takeKind_14) (by decide) (fun c67 => ?_) (fun c67 => mpp 17 rfl ?_)
    · have c67 : x4.toInt = 109 := ti_eq c67
      refine mp_a (a_aload_n dX4_takeKind_25 rfl) (mpp 26 rfl ?_)
      refine mp_a (a_iload_n dX4_takeKind_26 rfl) (mpp 27 rfl ?_)
      refine mp_a (a_bipush (v := 111) dX4_takeKind_27 rfl) (mpp 29 rfl ?_)
      refine mp_Tb (t := 36) (j_icmp_ne dX4_takeKind_29) (by decide) (fun c68 => ?_) (fun c68 => mpp 32 rfl ?_)
      · have c68 : x4.toInt ≠ 111 := ti_ne c68
        refine mp_a (a_iload_n dX4_takeKind_36 rfl) (mpp 37 rfl ?_)
        refine mp_a (a_bipush (v := 109) dX4_takeKind_37 rfl) (mpp 39 rfl ?_)
        refine mp_Tb (t := 46) (j_icmp_ne dX4_takeKind_39) (by decide) (fun c69 => ?_) (fun c69 => mpp 42 rfl ?_)
        · have c69 : x4.toInt ≠ 109 := ti_ne c69
          refine mp_a (a_iconst (v := 2) dX4_takeKind_46 rfl) (mpp 47 rfl ?_)
          refine mt_putI (i := 72) (k := 7) (x := 2) hT dX4_takeKind_47 rfl rl_289 (by decide) rfl (by decide) rfl (by decide) rfl rfl (fun P70 hT71 f72 f73 => mpp 50 rfl ?_)
          have k74 : KW [514, 519] Po P70 := KW.step KW.refl rl_289 rfl f73
          have e75 : (fv P70 289 7).toInt = 2 := congrArg Int32.toInt f72
          refine mp_a (a_aload_n dX4_takeKind_50 rfl) (mpp 51 rfl ?_)
          refine mp_t (s_dup dX4_takeKind_51 rfl) (mpp 52 rfl ?_)
          have g76 := ti_full (fv P70 289 2)
          refine mt_getI (i := 23) (k := 2) hT71 dX4_takeKind_52 rfl rl_289 (by decide) rfl (by decide) rfl (fun g77 g78 => mpp 55 rfl ?_)
          refine mp_a (a_iconst (v := 1) dX4_takeKind_55 rfl) (mpp 56 rfl ?_)
          obtain ⟨z79, h80⟩ := ti_ex ((fv P70 289 2) + 1 : Int32)
          have wz79 := ti_full z79
          refine mp_t (s_iadd (v := z79) dX4_takeKind_56 h80) (mpp 57 rfl ?_)
          try have e81 : z79.toInt = (fv P70 289 2).toInt + 1 := ti_addz h80 rfl rfl (by omega) (by omega)
          refine mt_putI (i := 23) (k := 2) (x := z79) hT71 dX4_takeKind_57 rfl rl_289 (by decide) rfl (by decide) rfl (ti_full z79) rfl rfl (fun P82 hT83 f84 f85 => mpp 60 rfl ?_)
          have k86 : KW [514, 519] Po P82 := KW.step k74 rl_289 rfl f85
          have e87 : (fv P82 289 2).toInt = z79.toInt := congrArg Int32.toInt f84
          refine mp_a (a_iconst (v := 1) dX4_takeKind_60 rfl) (mpp 61 rfl ?_)
          have u88 : 0 ≤ (1 : Int) ∧ (1 : Int) ≤ 1 := by omega
          exact mp_iret ⟨⟨_, rfl, u88⟩, hT83, k86, trivial⟩ dX4_takeKind_61 (Or.inr ⟨rfl, by decide⟩)
        · have c69 : x4.toInt = 109 := ti_ne_n c69
          refine mp_a (a_iconst (v := 1) dX4_takeKind_42 rfl) (mpp 43 rfl ?_)
          refine mp_a (a_goto (t := 47) dX4_takeKind_43 (by decide)) ?_
          refine mt_putI (i := 72) (k := 7) (x := 1) hT dX4_takeKind_47 rfl rl_289 (by decide) rfl (by decide) rfl (by decide) rfl rfl (fun P89 hT90 f91 f92 => mpp 50 rfl ?_)
          have k93 : KW [514, 519] Po P89 := KW.step KW.refl rl_289 rfl f92
          have e94 : (fv P89 289 7).toInt = 1 := congrArg Int32.toInt f91
          refine mp_a (a_aload_n dX4_takeKind_50 rfl) (mpp 51 rfl ?_)
          refine mp_t (s_dup dX4_takeKind_51 rfl) (mpp 52 rfl ?_)
          have g95 := ti_full (fv P89 289 2)
          refine mt_getI (i := 23) (k := 2) hT90 dX4_takeKind_52 rfl rl_289 (by decide) rfl (by decide) rfl (fun g96 g97 => mpp 55 rfl ?_)
          refine mp_a (a_iconst (v := 1) dX4_takeKind_55 rfl) (mpp 56 rfl ?_)
          obtain ⟨z98, h99⟩ := ti_ex ((fv P89 289 2) + 1 : Int32)
          have wz98 := ti_full z98
          refine mp_t (s_iadd (v := z98) dX4_takeKind_56 h99) (mpp 57 rfl ?_)
          try have e100 : z98.toInt = (fv P89 289 2).toInt + 1 := ti_addz h99 rfl rfl (by omega) (by omega)
          refine mt_putI (i := 23) (k := 2) (x := z98) hT90 dX4_takeKind_57 rfl rl_289 (by decide) rfl (by decide) rfl (ti_full z98) rfl rfl (fun P101 hT102 f103 f104 => mpp 60 rfl ?_)
          have k105 : KW [514, 519] Po P101 := KW.step k93 rl_289 rfl f104
          have e106 : (fv P101 289 2).toInt = z98.toInt := congrArg Int32.toInt f103
          refine mp_a (a_iconst (v := 1) dX4_takeKind_60 rfl) (mpp 61 rfl ?_)
          have u107 : 0 ≤ (1 : Int) ∧ (1 : Int) ≤ 1 := by omega
          exact mp_iret ⟨⟨_, rfl, u107⟩, hT102, k105, trivial⟩ dX4_takeKind_61 (Or.inr ⟨rfl, by decide⟩)
      · have c68 : x4.toInt = 111 := ti_ne_n c68
        refine mp_a (a_iconst (v := 0) dX4_takeKind_32 rfl) (mpp 33 rfl ?_)
        refine mp_a (a_goto (t := 47) dX4_takeKind_33 (by decide)) ?_
        refine mt_putI (i := 72) (k := 7) (x := 0) hT dX4_takeKind_47 rfl rl_289 (by decide) rfl (by decide) rfl (by decide) rfl rfl (fun P108 hT109 f110 f111 => mpp 50 rfl ?_)
        have k112 : KW [514, 519] Po P108 := KW.step KW.refl rl_289 rfl f111
        have e113 : (fv P108 289 7).toInt = 0 := congrArg Int32.toInt f110
        refine mp_a (a_aload_n dX4_takeKind_50 rfl) (mpp 51 rfl ?_)
        refine mp_t (s_dup dX4_takeKind_51 rfl) (mpp 52 rfl ?_)
        have g114 := ti_full (fv P108 289 2)
        refine mt_getI (i := 23) (k := 2) hT109 dX4_takeKind_52 rfl rl_289 (by decide) rfl (by decide) rfl (fun g115 g116 => mpp 55 rfl ?_)
        refine mp_a (a_iconst (v := 1) dX4_takeKind_55 rfl) (mpp 56 rfl ?_)
        obtain ⟨z117, h118⟩ := ti_ex ((fv P108 289 2) + 1 : Int32)
        have wz117 := ti_full z117
        refine mp_t (s_iadd (v := z117) dX4_takeKind_56 h118) (mpp 57 rfl ?_)
        try have e119 : z117.toInt = (fv P108 289 2).toInt + 1 := ti_addz h118 rfl rfl (by omega) (by omega)
        refine mt_putI (i := 23) (k := 2) (x := z117) hT109 dX4_takeKind_57 rfl rl_289 (by decide) rfl (by decide) rfl (ti_full z117) rfl rfl (fun P120 hT121 f122 f123 => mpp 60 rfl ?_)
        have k124 : KW [514, 519] Po P120 := KW.step k112 rl_289 rfl f123
        have e125 : (fv P120 289 2).toInt = z117.toInt := congrArg Int32.toInt f122
        refine mp_a (a_iconst (v := 1) dX4_takeKind_60 rfl) (mpp 61 rfl ?_)
        have u126 : 0 ≤ (1 : Int) ∧ (1 : Int) ≤ 1 := by omega
        exact mp_iret ⟨⟨_, rfl, u126⟩, hT121, k124, trivial⟩ dX4_takeKind_61 (Or.inr ⟨rfl, by decide⟩)
    · have c67 : x4.toInt ≠ 109 := ti_eq_n c67
      refine mp_a (a_iload_n dX4_takeKind_17 rfl) (mpp 18 rfl ?_)
      refine mp_a (a_bipush (v := 118) dX4_takeKind_18 rfl) (mpp 20 rfl ?_)
      refine mp_Tb (t := 25) (j_icmp_eq dX4_takeKind_20) (by decide) (fun c127 => ?_) (fun c127 => mpp 23 rfl ?_)
      · have c127 : x4.toInt = 118 := ti_eq c127
        refine mp_a (a_aload_n dX4_takeKind_25 rfl) (mpp 26 rfl ?_)
        refine mp_a (a_iload_n dX4_takeKind_26 rfl) (mpp 27 rfl ?_)
        refine mp_a (a_bipush (v := 111) dX4_takeKind_27 rfl) (mpp 29 rfl ?_)
        refine mp_Tb (t := 36) (j_icmp_ne dX4_takeKind_29) (by decide) (fun c128 => ?_) (fun c128 => mpp 32 rfl ?_)
        · have c128 : x4.toInt ≠ 111 := ti_ne c128
          refine mp_a (a_iload_n dX4_takeKind_36 rfl) (mpp 37 rfl ?_)
          refine mp_a (a_bipush (v := 109) dX4_takeKind_37 rfl) (mpp 39 rfl ?_)
          refine mp_Tb (t := 46) (j_icmp_ne dX4_takeKind_39) (by decide) (fun c129 => ?_) (fun c129 => mpp 42 rfl ?_)
          · have c129 : x4.toInt ≠ 109 := ti_ne c129
            refine mp_a (a_iconst (v := 2) dX4_takeKind_46 rfl) (mpp 47 rfl ?_)
            refine mt_putI (i := 72) (k := 7) (x := 2) hT dX4_takeKind_47 rfl rl_289 (by decide) rfl (by decide) rfl (by decide) rfl rfl (fun P130 hT131 f132 f133 => mpp 50 rfl ?_)
            have k134 : KW [514, 519] Po P130 := KW.step KW.refl rl_289 rfl f133
            have e135 : (fv P130 289 7).toInt = 2 := congrArg Int32.toInt f132
            refine mp_a (a_aload_n dX4_takeKind_50 rfl) (mpp 51 rfl ?_)
            refine mp_t (s_dup dX4_takeKind_51 rfl) (mpp 52 rfl ?_)
            have g136 := ti_full (fv P130 289 2)
            refine mt_getI (i := 23) (k := 2) hT131 dX4_takeKind_52 rfl rl_289 (by decide) rfl (by decide) rfl (fun g137 g138 => mpp 55 rfl ?_)
            refine mp_a (a_iconst (v := 1) dX4_takeKind_55 rfl) (mpp 56 rfl ?_)
            obtain ⟨z139, h140⟩ := ti_ex ((fv P130 289 2) + 1 : Int32)
            have wz139 := ti_full z139
            refine mp_t (s_iadd (v := z139) dX4_takeKind_56 h140) (mpp 57 rfl ?_)
            try have e141 : z139.toInt = (fv P130 289 2).toInt + 1 := ti_addz h140 rfl rfl (by omega) (by omega)
            refine mt_putI (i := 23) (k := 2) (x := z139) hT131 dX4_takeKind_57 rfl rl_289 (by decide) rfl (by decide) rfl (ti_full z139) rfl rfl (fun P142 hT143 f144 f145 => mpp 60 rfl ?_)
            have k146 : KW [514, 519] Po P142 := KW.step k134 rl_289 rfl f145
            have e147 : (fv P142 289 2).toInt = z139.toInt := congrArg Int32.toInt f144
            refine mp_a (a_iconst (v := 1) dX4_takeKind_60 rfl) (mpp 61 rfl ?_)
            have u148 : 0 ≤ (1 : Int) ∧ (1 : Int) ≤ 1 := by omega
            exact mp_iret ⟨⟨_, rfl, u148⟩, hT143, k146, trivial⟩ dX4_takeKind_61 (Or.inr ⟨rfl, by decide⟩)
          · have c129 : x4.toInt = 109 := ti_ne_n c129
            refine mp_a (a_iconst (v := 1) dX4_takeKind_42 rfl) (mpp 43 rfl ?_)
            refine mp_a (a_goto (t := 47) dX4_takeKind_43 (by decide)) ?_
            refine mt_putI (i := 72) (k := 7) (x := 1) hT dX4_takeKind_47 rfl rl_289 (by decide) rfl (by decide) rfl (by decide) rfl rfl (fun P149 hT150 f151 f152 => mpp 50 rfl ?_)
            have k153 : KW [514, 519] Po P149 := KW.step KW.refl rl_289 rfl f152
            have e154 : (fv P149 289 7).toInt = 1 := congrArg Int32.toInt f151
            refine mp_a (a_aload_n dX4_takeKind_50 rfl) (mpp 51 rfl ?_)
            refine mp_t (s_dup dX4_takeKind_51 rfl) (mpp 52 rfl ?_)
            have g155 := ti_full (fv P149 289 2)
            refine mt_getI (i := 23) (k := 2) hT150 dX4_takeKind_52 rfl rl_289 (by decide) rfl (by decide) rfl (fun g156 g157 => mpp 55 rfl ?_)
            refine mp_a (a_iconst (v := 1) dX4_takeKind_55 rfl) (mpp 56 rfl ?_)
            obtain ⟨z158, h159⟩ := ti_ex ((fv P149 289 2) + 1 : Int32)
            have wz158 := ti_full z158
            refine mp_t (s_iadd (v := z158) dX4_takeKind_56 h159) (mpp 57 rfl ?_)
            try have e160 : z158.toInt = (fv P149 289 2).toInt + 1 := ti_addz h159 rfl rfl (by omega) (by omega)
            refine mt_putI (i := 23) (k := 2) (x := z158) hT150 dX4_takeKind_57 rfl rl_289 (by decide) rfl (by decide) rfl (ti_full z158) rfl rfl (fun P161 hT162 f163 f164 => mpp 60 rfl ?_)
            have k165 : KW [514, 519] Po P161 := KW.step k153 rl_289 rfl f164
            have e166 : (fv P161 289 2).toInt = z158.toInt := congrArg Int32.toInt f163
            refine mp_a (a_iconst (v := 1) dX4_takeKind_60 rfl) (mpp 61 rfl ?_)
            have u167 : 0 ≤ (1 : Int) ∧ (1 : Int) ≤ 1 := by omega
            exact mp_iret ⟨⟨_, rfl, u167⟩, hT162, k165, trivial⟩ dX4_takeKind_61 (Or.inr ⟨rfl, by decide⟩)
        · have c128 : x4.toInt = 111 := ti_ne_n c128
          refine mp_a (a_iconst (v := 0) dX4_takeKind_32 rfl) (mpp 33 rfl ?_)
          refine mp_a (a_goto (t := 47) dX4_takeKind_33 (by decide)) ?_
          refine mt_putI (i := 72) (k := 7) (x := 0) hT dX4_takeKind_47 rfl rl_289 (by decide) rfl (by decide) rfl (by decide) rfl rfl (fun P168 hT169 f170 f171 => mpp 50 rfl ?_)
          have k172 : KW [514, 519] Po P168 := KW.step KW.refl rl_289 rfl f171
          have e173 : (fv P168 289 7).toInt = 0 := congrArg Int32.toInt f170
          refine mp_a (a_aload_n dX4_takeKind_50 rfl) (mpp 51 rfl ?_)
          refine mp_t (s_dup dX4_takeKind_51 rfl) (mpp 52 rfl ?_)
          have g174 := ti_full (fv P168 289 2)
          refine mt_getI (i := 23) (k := 2) hT169 dX4_takeKind_52 rfl rl_289 (by decide) rfl (by decide) rfl (fun g175 g176 => mpp 55 rfl ?_)
          refine mp_a (a_iconst (v := 1) dX4_takeKind_55 rfl) (mpp 56 rfl ?_)
          obtain ⟨z177, h178⟩ := ti_ex ((fv P168 289 2) + 1 : Int32)
          have wz177 := ti_full z177
          refine mp_t (s_iadd (v := z177) dX4_takeKind_56 h178) (mpp 57 rfl ?_)
          try have e179 : z177.toInt = (fv P168 289 2).toInt + 1 := ti_addz h178 rfl rfl (by omega) (by omega)
          refine mt_putI (i := 23) (k := 2) (x := z177) hT169 dX4_takeKind_57 rfl rl_289 (by decide) rfl (by decide) rfl (ti_full z177) rfl rfl (fun P180 hT181 f182 f183 => mpp 60 rfl ?_)
          have k184 : KW [514, 519] Po P180 := KW.step k172 rl_289 rfl f183
          have e185 : (fv P180 289 2).toInt = z177.toInt := congrArg Int32.toInt f182
          refine mp_a (a_iconst (v := 1) dX4_takeKind_60 rfl) (mpp 61 rfl ?_)
          have u186 : 0 ≤ (1 : Int) ∧ (1 : Int) ≤ 1 := by omega
          exact mp_iret ⟨⟨_, rfl, u186⟩, hT181, k184, trivial⟩ dX4_takeKind_61 (Or.inr ⟨rfl, by decide⟩)
      · have c127 : x4.toInt ≠ 118 := ti_eq_n c127
        refine mp_a (a_iconst (v := 0) dX4_takeKind_23 rfl) (mpp 24 rfl ?_)
        have u187 : 0 ≤ (0 : Int) ∧ (0 : Int) ≤ 1 := by omega
        exact mp_iret ⟨⟨_, rfl, u187⟩, hT, KW.refl, trivial⟩ dX4_takeKind_24 (Or.inr ⟨rfl, by decide⟩)

