/-! methods on typed pools, 11 (written by a program) -/
set_option maxHeartbeats 4000000 in
theorem c_F_steps {Po : mP} {t1 : Int32} (hT : Typ Po) (hX : XR Po)   : EvP 4 74 [.ref 0, .int t1] Po (fun r P' => (∃ x : Int32, r = some (.int x) ∧ (True)) ∧ Typ P' ∧ KW [640, 641, 704, 768] Po P' ∧ True) := by
  refine EvP.of qm_74 (Nat.le_of_ble_eq_true rfl) rfl ?_
  show MEvP _ none q_74 0 [(0, .ref 0), (1, .int t1)] [] _ 0 0 _
  refine mp_a (a_aload_n dX6_steps_0 rfl) (mpp 1 rfl ?_)
  refine mt_getU (i := 10) (k := 0) (A := 1) hT dX6_steps_1 rfl rl_0 (by decide) rfl (by decide) rfl un_31 (mpp 4 rfl ?_)
  refine mp_a (a_iload_n dX6_steps_4 rfl) (mpp 5 rfl ?_)
  refine mt_callv (i := 94) (q' := q_9) (As := [.int t1]) (rest := []) hT dX6_steps_5 rfl qm_9 (by decide) rfl rl_1 (by decide) rfl (Nat.le_of_ble_eq_true rfl) rfl ⟨rfl, rfl⟩ ⟨Nat.le_of_ble_eq_true rfl, Nat.le_of_ble_eq_true rfl⟩ (EvP.mono (by decide) (c_CS_pieceAt_NState hT hX )) (fun r1 P2 g3 => mpp 8 rfl ?_)
  obtain ⟨g3, e4⟩ := g3
  have e4 := e4.symm
  subst e4
  rcases g3 with ⟨rfl, q6n⟩ | ⟨b5, rfl, q6, q6r⟩
  · show MEvP _ none q_74 8 [(0, .ref 0), (1, .int t1)] [.null] _ _ _ _
    have q6n : t1.toInt < 0 ∨ (fv Po 1 1).toInt ≤ t1.toInt ∨ 8 ≤ t1.toInt := q6n
    have g7 : (0 : Int) ≤ (fv Po 1 1).toInt ∧ (fv Po 1 1).toInt ≤ 8 := Typ.rng hT rl_1 (by decide) (by decide) rfl
    refine mp_a (a_astore_nN (L' := [(2, .null), (0, .ref 0), (1, .int t1)]) dX6_steps_8 (by decide) rfl) (mpp 9 rfl ?_)
    refine mp_a (a_aload_nN dX6_steps_9 rfl) (mpp 10 rfl ?_)
    refine mp_t (s_ifnonnullN dX6_steps_10) (mpp 13 rfl ?_)
    refine mp_a (a_sipush (v := -1001) dX6_steps_13 rfl) (mpp 16 rfl ?_)
    exact mp_iret ⟨⟨_, rfl, trivial⟩, hT, KW.refl, trivial⟩ dX6_steps_16 (Or.inl rfl)
  · show MEvP _ none q_74 8 [(0, .ref 0), (1, .int t1)] [.ref b5] _ _ _ _
    have q6r : 0 ≤ t1.toInt ∧ t1.toInt ≤ 7 ∧ t1.toInt + 1 ≤ (fv Po 1 1).toInt ∧ rv Po 2 t1.toInt.toNat = b5 := q6r
    have g8 : (0 : Int) ≤ (fv Po 1 1).toInt ∧ (fv Po 1 1).toInt ≤ 8 := Typ.rng hT rl_1 (by decide) (by decide) rfl
    have w9 := np_ar q6
    refine mp_a (a_astore_n (L' := [(2, .ref b5), (0, .ref 0), (1, .int t1)]) dX6_steps_8 (by decide) rfl) (mpp 9 rfl ?_)
    refine mp_a (a_aload_n dX6_steps_9 rfl) (mpp 10 rfl ?_)
    refine mp_t (s_ifnonnullR (t := 17) dX6_steps_10 (by decide)) ?_
    refine mp_a (a_aload_n dX6_steps_17 rfl) (mpp 18 rfl ?_)
    refine mt_callv (i := 159) (q' := q_42) (As := []) (rest := []) hT dX6_steps_18 rfl qm_42 (by decide) rfl q6 (by decide) rfl (Nat.le_of_ble_eq_true rfl) rfl ⟨rfl, rfl⟩ ⟨Nat.le_of_ble_eq_true rfl, Nat.le_of_ble_eq_true rfl⟩ (EvP.mono (by decide) (c_CP_isUndecided_NPiece hT hX q6)) (fun r10 P11 g12 => mpp 21 rfl ?_)
    obtain ⟨⟨x13, rfl, g14⟩, e15⟩ := g12
    have e15 := e15.symm
    subst e15
    have wx13 := ti_full x13
    have g14 : 0 ≤ x13.toInt ∧ x13.toInt ≤ 1 := g14
    show MEvP _ none q_74 21 [(2, .ref b5), (0, .ref 0), (1, .int t1)] [.int x13] _ _ _ _
    refine mp_Tb (t := 28) (j_if_eq dX6_steps_21) (by decide) (fun c16 => ?_) (fun c16 => mpp 24 rfl ?_)
    · have c16 : x13.toInt = 0 := ti_eq c16
      refine mp_a (a_aload_n dX6_steps_28 rfl) (mpp 29 rfl ?_)
      refine mt_getU (i := 39) (k := 5) (A := 291) hT dX6_steps_29 rfl rl_0 (by decide) rfl (by decide) rfl un_10 (mpp 32 rfl ?_)
      refine mp_a (a_aload_n dX6_steps_32 rfl) (mpp 33 rfl ?_)
      refine mt_callv (i := 188) (q' := q_45) (As := [.ref b5]) (rest := []) hT dX6_steps_33 rfl qm_45 (by decide) rfl rl_291 (by decide) rfl (Nat.le_of_ble_eq_true rfl) rfl ⟨rfl, rfl⟩ ⟨Nat.le_of_ble_eq_true rfl, Nat.le_of_ble_eq_true rfl⟩ (EvP.mono (by decide) (c_CR_load_Reducer_NPiece hT hX q6)) (fun r17 P18 g19 => mpp 36 rfl ?_)
      obtain ⟨⟨rfl, g21⟩, hT22, k23, R24⟩ := g19
      have k25 : KW [640, 641, 704, 768] Po P18 := KW.trans KW.refl k23 rfl
      show MEvP _ none q_74 36 [(2, .ref b5), (0, .ref 0), (1, .int t1)] [] _ _ _ _
      refine mp_a (a_aload_n dX6_steps_36 rfl) (mpp 37 rfl ?_)
      refine mt_getU (i := 39) (k := 5) (A := 291) hT22 dX6_steps_37 rfl rl_0 (by decide) rfl (by decide) rfl un_10 (mpp 40 rfl ?_)
      refine mt_callv (i := 194) (q' := q_51) (As := []) (rest := []) hT22 dX6_steps_40 rfl qm_51 (by decide) rfl rl_291 (by decide) rfl (Nat.le_of_ble_eq_true rfl) rfl ⟨rfl, rfl⟩ ⟨Nat.le_of_ble_eq_true rfl, Nat.le_of_ble_eq_true rfl⟩ (EvP.mono (by decide) (c_CR_reduce_Reducer hT22 (KW.xr k25 hX) )) (fun r27 P28 g29 => mpp 43 rfl ?_)
      obtain ⟨⟨x30, rfl, g31⟩, hT32, k33, R34⟩ := g29
      have k35 : KW [640, 641, 704, 768] Po P28 := KW.trans k25 k33 rfl
      have wx30 := ti_full x30
      show MEvP _ none q_74 43 [(2, .ref b5), (0, .ref 0), (1, .int t1)] [.int x30] _ _ _ _
      exact mp_iret ⟨⟨_, rfl, trivial⟩, hT32, k35, trivial⟩ dX6_steps_43 (Or.inl rfl)
    · have c16 : x13.toInt ≠ 0 := ti_eq_n c16
      refine mp_a (a_sipush (v := -1004) dX6_steps_24 rfl) (mpp 27 rfl ?_)
      exact mp_iret ⟨⟨_, rfl, trivial⟩, hT, KW.refl, trivial⟩ dX6_steps_27 (Or.inl rfl)

set_option maxHeartbeats 4000000 in
theorem c_CR_kindIn {Po : mP} {t0 : Int32} {t1 : Int32} (hT : Typ Po) (hX : XR Po)   : EvP 1 78 [.int t0, .int t1] Po (fun r P' => (∃ x : Int32, r = some (.int x) ∧ (True)) ∧ P' = Po) := by
  refine EvP.of qm_78 (Nat.le_of_ble_eq_true rfl) rfl ?_
  show MEvP _ none q_78 0 [(0, .int t0), (1, .int t1)] [] _ 0 0 _
  refine mp_a (a_iload_n dX3_kindIn_0 rfl) (mpp 1 rfl ?_)
  refine mp_a (a_iload_n dX3_kindIn_1 rfl) (mpp 2 rfl ?_)
  obtain ⟨z1, h2⟩ := ti_ex (t0 >>> (t1 &&& 31) : Int32)
  have wz1 := ti_full z1
  refine mp_t (s_ishr (v := z1) dX3_kindIn_2 h2) (mpp 3 rfl ?_)
  refine mp_a (a_iconst (v := 1) dX3_kindIn_3 rfl) (mpp 4 rfl ?_)
  obtain ⟨z3, h4⟩ := ti_ex (z1 &&& 1 : Int32)
  have wz3 := ti_full z3
  refine mp_t (s_iand (v := z3) dX3_kindIn_4 h4) (mpp 5 rfl ?_)
  refine mp_Tb (t := 12) (j_if_ne dX3_kindIn_5) (by decide) (fun c5 => ?_) (fun c5 => mpp 8 rfl ?_)
  · have c5 : z3.toInt ≠ 0 := ti_ne c5
    refine mp_a (a_iconst (v := 2) dX3_kindIn_12 rfl) (mpp 13 rfl ?_)
    exact mp_iret ⟨⟨_, rfl, trivial⟩, rfl⟩ dX3_kindIn_13 (Or.inl rfl)
  · have c5 : z3.toInt = 0 := ti_ne_n c5
    refine mp_a (a_iconst (v := 1) dX3_kindIn_8 rfl) (mpp 9 rfl ?_)
    refine mp_a (a_goto (t := 13) dX3_kindIn_9 (by decide)) ?_
    exact mp_iret ⟨⟨_, rfl, trivial⟩, rfl⟩ dX3_kindIn_13 (Or.inl rfl)

set_option maxHeartbeats 4000000 in
theorem c_CR_changesTo_NPiece_l4 {Po : mP} {a0_ : Nat} {t1 : Int32} (hT : Typ Po) (hX : XR Po)  (ha0 : rl a0_ = 33) : ∀ (n : Nat) (v2 : Int32) (v3 : Int32), (0 ≤ v3.toInt) → (2147483647 - v3.toInt).toNat = n → MEvP 1 none q_77 4 [(0, .ref a0_), (1, .int t1), (2, .int v2), (3, .int v3)] [] Po 0 0 (fun r P' => (∃ x : Int32, r = some (.int x) ∧ (True)) ∧ P' = Po) := by
  intro n
  induction n using Nat.strongRecOn with | _ n ih => ?_
  intro v2 v3 i_0 hm
  have w1 := np_ar ha0
  have w_t1 := ti_full t1
  have w_v2 := ti_full v2
  have w_v3 := ti_full v3
  refine mp_a (a_iload_n dX3_changesTo_4 rfl) (mpp 5 rfl ?_)
  refine mp_a (a_aload_n dX3_changesTo_5 rfl) (mpp 6 rfl ?_)
  refine mt_callv (i := 34) (q' := q_25) (As := []) (rest := [.int v3]) hT dX3_changesTo_6 rfl qm_25 (by decide) rfl ha0 (by decide) rfl (Nat.le_of_ble_eq_true rfl) rfl ⟨rfl, rfl⟩ ⟨Nat.le_of_ble_eq_true rfl, Nat.le_of_ble_eq_true rfl⟩ (EvP.mono (by decide) (c_CP_creaseCount_NPiece hT hX ha0)) (fun r2 P3 g4 => mpp 9 rfl ?_)
  obtain ⟨⟨x5, rfl, g6⟩, e7⟩ := g4
  have e7 := e7.symm
  subst e7
  have wx5 := ti_full x5
  have g6 : -1 ≤ x5.toInt ∧ x5.toInt ≤ (fv Po a0_ 1).toInt := g6
  have g8 : (0 : Int) ≤ (fv Po a0_ 1).toInt ∧ (fv Po a0_ 1).toInt ≤ 8 := Typ.rng hT ha0 (by decide) (by decide) rfl
  show MEvP _ none q_77 9 [(0, .ref a0_), (1, .int t1), (2, .int v2), (3, .int v3)] [.int x5, .int v3] _ _ _ _
  refine mp_Tb (t := 46) (j_icmp_ge dX3_changesTo_9) (by decide) (fun c9 => ?_) (fun c9 => mpp 12 rfl ?_)
  · have c9 : v3.toInt ≥ x5.toInt := ti_ge c9
    refine mp_a (a_iload_n dX3_changesTo_46 rfl) (mpp 47 rfl ?_)
    exact mp_iret ⟨⟨_, rfl, trivial⟩, rfl⟩ dX3_changesTo_47 (Or.inl rfl)
  · have c9 : v3.toInt < x5.toInt := ti_ge_n c9
    refine mp_a (a_aload_n dX3_changesTo_12 rfl) (mpp 13 rfl ?_)
    refine mt_getE (i := 38) (k := 4) hT dX3_changesTo_13 rfl ha0 (by decide) rfl (by decide) rfl (hX.1 a0_ (Or.inr ha0)).2 (fun q10 => mpp 16 rfl ?_)
    refine mp_a (a_iload_n dX3_changesTo_16 rfl) (mpp 17 rfl ?_)
    refine mp_calls (i := 39) (q' := q_12) (As := [.ref (a0_ + 2), .int v3]) (rest := []) dX3_changesTo_17 rfl qm_12 (by decide) rfl (Nat.le_of_ble_eq_true rfl) rfl ⟨rfl, rfl⟩ ⟨Nat.le_of_ble_eq_true rfl, Nat.le_of_ble_eq_true rfl⟩ (EvP.mono (by decide) (c_F_at_creases hT hX q10)) (fun r11 P12 g13 => mpp 20 rfl ?_)
    obtain ⟨⟨x14, rfl, g15⟩, e16⟩ := g13
    have e16 := e16.symm
    subst e16
    have wx14 := ti_full x14
    show MEvP _ none q_77 20 [(0, .ref a0_), (1, .int t1), (2, .int v2), (3, .int v3)] [.int x14] _ _ _ _
    refine mp_a (a_istore (L' := [(4, .int x14), (0, .ref a0_), (1, .int t1), (2, .int v2), (3, .int v3)]) dX3_changesTo_20 (by decide) rfl) (mpp 22 rfl ?_)
    refine mp_a (a_iload dX3_changesTo_22 rfl) (mpp 24 rfl ?_)
    refine mp_Tb (t := 40) (j_if_eq dX3_changesTo_24) (by decide) (fun c17 => ?_) (fun c17 => mpp 27 rfl ?_)
    · have c17 : x14.toInt = 0 := ti_eq c17
      obtain ⟨z18, h19⟩ := ti_ex (v3 + 1 : Int32)
      have wz18 := ti_full z18
      refine mp_a (a_iinc (v := z18) (L' := [(3, .int z18), (4, .int x14), (0, .ref a0_), (1, .int t1), (2, .int v2)]) dX3_changesTo_40 (by decide) rfl h19 rfl) (mpp 43 rfl ?_)
      try have e20 : z18.toInt = v3.toInt + 1 := ti_addz h19 rfl rfl (by omega) (by omega)
      refine mp_a (a_goto (t := 4) dX3_changesTo_43 (by decide)) ?_
      refine MEvP.less (L := [(0, .ref a0_), (1, .int t1), (2, .int v2), (3, .int z18)]) rfl rfl ⟨rfl, rfl, rfl, rfl, trivial⟩ ?_
      have i21 : 0 ≤ z18.toInt := by omega
      exact ih _ (by omega) _ _ i21 rfl
    · have c17 : x14.toInt ≠ 0 := ti_eq_n c17
      refine mp_a (a_iload dX3_changesTo_27 rfl) (mpp 29 rfl ?_)
      refine mp_a (a_iload_n dX3_changesTo_29 rfl) (mpp 30 rfl ?_)
      refine mp_a (a_iload_n dX3_changesTo_30 rfl) (mpp 31 rfl ?_)
      refine mp_calls (i := 94) (q' := q_78) (As := [.int t1, .int v3]) (rest := [.int x14]) dX3_changesTo_31 rfl qm_78 (by decide) rfl (Nat.le_of_ble_eq_true rfl) rfl ⟨rfl, rfl⟩ ⟨Nat.le_of_ble_eq_true rfl, Nat.le_of_ble_eq_true rfl⟩ (EvP.mono (by decide) (c_CR_kindIn hT hX )) (fun r22 P23 g24 => mpp 34 rfl ?_)
      obtain ⟨⟨x25, rfl, g26⟩, e27⟩ := g24
      have e27 := e27.symm
      subst e27
      have wx25 := ti_full x25
      show MEvP _ none q_77 34 [(4, .int x14), (0, .ref a0_), (1, .int t1), (2, .int v2), (3, .int v3)] [.int x25, .int x14] _ _ _ _
      refine mp_Tb (t := 40) (j_icmp_eq dX3_changesTo_34) (by decide) (fun c28 => ?_) (fun c28 => mpp 37 rfl ?_)
      · have c28 : x14.toInt = x25.toInt := ti_eq c28
        obtain ⟨z29, h30⟩ := ti_ex (v3 + 1 : Int32)
        have wz29 := ti_full z29
        refine mp_a (a_iinc (v := z29) (L' := [(3, .int z29), (4, .int x14), (0, .ref a0_), (1, .int t1), (2, .int v2)]) dX3_changesTo_40 (by decide) rfl h30 rfl) (mpp 43 rfl ?_)
        try have e31 : z29.toInt = v3.toInt + 1 := ti_addz h30 rfl rfl (by omega) (by omega)
        refine mp_a (a_goto (t := 4) dX3_changesTo_43 (by decide)) ?_
        refine MEvP.less (L := [(0, .ref a0_), (1, .int t1), (2, .int v2), (3, .int z29)]) rfl rfl ⟨rfl, rfl, rfl, rfl, trivial⟩ ?_
        have i32 : 0 ≤ z29.toInt := by omega
        exact ih _ (by omega) _ _ i32 rfl
      · have c28 : x14.toInt ≠ x25.toInt := ti_eq_n c28
        obtain ⟨z33, h34⟩ := ti_ex (v2 + 1 : Int32)
        have wz33 := ti_full z33
        refine mp_a (a_iinc (v := z33) (L' := [(2, .int z33), (4, .int x14), (0, .ref a0_), (1, .int t1), (3, .int v3)]) dX3_changesTo_37 (by decide) rfl h34 rfl) (mpp 40 rfl ?_)
        try have e35 : z33.toInt = v2.toInt + 1 := ti_addz h34 rfl rfl (by omega) (by omega)
        obtain ⟨z36, h37⟩ := ti_ex (v3 + 1 : Int32)
        have wz36 := ti_full z36
        refine mp_a (a_iinc (v := z36) (L' := [(3, .int z36), (2, .int z33), (4, .int x14), (0, .ref a0_), (1, .int t1)]) dX3_changesTo_40 (by decide) rfl h37 rfl) (mpp 43 rfl ?_)
        try have e38 : z36.toInt = v3.toInt + 1 := ti_addz h37 rfl rfl (by omega) (by omega)
        refine mp_a (a_goto (t := 4) dX3_changesTo_43 (by decide)) ?_
        refine MEvP.less (L := [(0, .ref a0_), (1, .int t1), (2, .int z33), (3, .int z36)]) rfl rfl ⟨rfl, rfl, rfl, rfl, trivial⟩ ?_
        have i39 : 0 ≤ z36.toInt := by omega
        exact ih _ (by omega) _ _ i39 rfl

set_option maxHeartbeats 4000000 in
theorem c_CR_changesTo_NPiece {Po : mP} {a0_ : Nat} {t1 : Int32} (hT : Typ Po) (hX : XR Po)  (ha0 : rl a0_ = 33) : EvP 2 77 [.ref a0_, .int t1] Po (fun r P' => (∃ x : Int32, r = some (.int x) ∧ (True)) ∧ P' = Po) := by
  refine EvP.of qm_77 (Nat.le_of_ble_eq_true rfl) rfl ?_
  show MEvP _ none q_77 0 [(0, .ref a0_), (1, .int t1)] [] _ 0 0 _
  have w1 := np_ar ha0
  refine mp_a (a_iconst (v := 0) dX3_changesTo_0 rfl) (mpp 1 rfl ?_)
  refine mp_a (a_istore_n (L' := [(2, .int 0), (0, .ref a0_), (1, .int t1)]) dX3_changesTo_1 (by decide) rfl) (mpp 2 rfl ?_)
  refine mp_a (a_iconst (v := 0) dX3_changesTo_2 rfl) (mpp 3 rfl ?_)
  refine mp_a (a_istore_n (L' := [(3, .int 0), (2, .int 0), (0, .ref a0_), (1, .int t1)]) dX3_changesTo_3 (by decide) rfl) (mpp 4 rfl ?_)
  refine MEvP.less (L := [(0, .ref a0_), (1, .int t1), (2, .int 0), (3, .int 0)]) rfl rfl ⟨rfl, rfl, rfl, rfl, trivial⟩ ?_
  have i2 : 0 ≤ (0 : Int) := by omega
  exact c_CR_changesTo_NPiece_l4 hT hX  ha0 _ _ _ i2 rfl

set_option maxHeartbeats 4000000 in
theorem c_CR_foldsWith_Reducer_NPiece_l7 {Po : mP} {a1_ : Nat} {t2 : Int32} (hTo : Typ Po) (hX : XR Po) (ha1 : rl a1_ = 33) : ∀ (n : Nat) (v3 : Int32), ∀ (P : mP), Typ P → KW [640, 641, 704, 768] Po P → (0 ≤ v3.toInt) → (2147483647 - v3.toInt).toNat = n → MEvP 3 none q_79 7 [(0, .ref 291), (1, .ref a1_), (2, .int t2), (3, .int v3)] [] P 0 0 (fun r P' => (∃ x : Int32, r = some (.int x) ∧ (0 ≤ x.toInt ∧ x.toInt ≤ 1)) ∧ Typ P' ∧ KW [640, 641, 704, 768] Po P' ∧ True) := by
  intro n
  induction n using Nat.strongRecOn with | _ n ih => ?_
  intro v3 P hT hK i_0 hm
  have w1 := np_ar ha1
  have w_t2 := ti_full t2
  have w_v3 := ti_full v3
  refine mp_a (a_iload_n dX3_foldsWith_7 rfl) (mpp 8 rfl ?_)
  refine mp_a (a_aload_n dX3_foldsWith_8 rfl) (mpp 9 rfl ?_)
  refine mt_callv (i := 34) (q' := q_25) (As := []) (rest := [.int v3]) hT dX3_foldsWith_9 rfl qm_25 (by decide) rfl ha1 (by decide) rfl (Nat.le_of_ble_eq_true rfl) rfl ⟨rfl, rfl⟩ ⟨Nat.le_of_ble_eq_true rfl, Nat.le_of_ble_eq_true rfl⟩ (EvP.mono (by decide) (c_CP_creaseCount_NPiece hT (KW.xr hK hX) ha1)) (fun r2 P3 g4 => mpp 12 rfl ?_)
  obtain ⟨⟨x5, rfl, g6⟩, e7⟩ := g4
  have e7 := e7.symm
  subst e7
  have wx5 := ti_full x5
  have g6 : -1 ≤ x5.toInt ∧ x5.toInt ≤ (fv P a1_ 1).toInt := g6
  have g8 : (0 : Int) ≤ (fv P a1_ 1).toInt ∧ (fv P a1_ 1).toInt ≤ 8 := Typ.rng hT ha1 (by decide) (by decide) rfl
  show MEvP _ none q_79 12 [(0, .ref 291), (1, .ref a1_), (2, .int t2), (3, .int v3)] [.int x5, .int v3] _ _ _ _
  refine mp_Tb (t := 31) (j_icmp_ge dX3_foldsWith_12) (by decide) (fun c9 => ?_) (fun c9 => mpp 15 rfl ?_)
  · have c9 : v3.toInt ≥ x5.toInt := ti_ge c9
    refine mp_a (a_aload_n dX3_foldsWith_31 rfl) (mpp 32 rfl ?_)
    refine mt_callv (i := 74) (q' := q_51) (As := []) (rest := []) hT dX3_foldsWith_32 rfl qm_51 (by decide) rfl rl_291 (by decide) rfl (Nat.le_of_ble_eq_true rfl) rfl ⟨rfl, rfl⟩ ⟨Nat.le_of_ble_eq_true rfl, Nat.le_of_ble_eq_true rfl⟩ (EvP.mono (by decide) (c_CR_reduce_Reducer hT (KW.xr hK hX) )) (fun r10 P11 g12 => mpp 35 rfl ?_)
    obtain ⟨⟨x13, rfl, g14⟩, hT15, k16, R17⟩ := g12
    have k18 : KW [640, 641, 704, 768] Po P11 := KW.trans hK k16 rfl
    have wx13 := ti_full x13
    show MEvP _ none q_79 35 [(0, .ref 291), (1, .ref a1_), (2, .int t2), (3, .int v3)] [.int x13] _ _ _ _
    refine mp_t (s_pop dX3_foldsWith_35 rfl) (mpp 36 rfl ?_)
    refine mp_a (a_aload_n dX3_foldsWith_36 rfl) (mpp 37 rfl ?_)
    refine mt_callv (i := 77) (q' := q_55) (As := []) (rest := []) hT15 dX3_foldsWith_37 rfl qm_55 (by decide) rfl rl_291 (by decide) rfl (Nat.le_of_ble_eq_true rfl) rfl ⟨rfl, rfl⟩ ⟨Nat.le_of_ble_eq_true rfl, Nat.le_of_ble_eq_true rfl⟩ (EvP.mono (by decide) (c_CR_isReduced_Reducer hT15 (KW.xr k18 hX) )) (fun r20 P21 g22 => mpp 40 rfl ?_)
    obtain ⟨⟨x23, rfl, g24⟩, e25⟩ := g22
    have e25 := e25.symm
    subst e25
    have wx23 := ti_full x23
    have g24 : 0 ≤ x23.toInt ∧ x23.toInt ≤ 1 := g24
    show MEvP _ none q_79 40 [(0, .ref 291), (1, .ref a1_), (2, .int t2), (3, .int v3)] [.int x23] _ _ _ _
    have u26 : 0 ≤ x23.toInt ∧ x23.toInt ≤ 1 := by omega
    exact mp_iret ⟨⟨_, rfl, u26⟩, hT15, k18, trivial⟩ dX3_foldsWith_40 (Or.inr ⟨rfl, ti_01 (by omega)⟩)
  · have c9 : v3.toInt < x5.toInt := ti_ge_n c9
    refine mp_a (a_aload_n dX3_foldsWith_15 rfl) (mpp 16 rfl ?_)
    refine mp_a (a_iload_n dX3_foldsWith_16 rfl) (mpp 17 rfl ?_)
    refine mp_a (a_iload_n dX3_foldsWith_17 rfl) (mpp 18 rfl ?_)
    refine mp_a (a_iload_n dX3_foldsWith_18 rfl) (mpp 19 rfl ?_)
    refine mp_calls (i := 94) (q' := q_78) (As := [.int t2, .int v3]) (rest := [.int v3, .ref 291]) dX3_foldsWith_19 rfl qm_78 (by decide) rfl (Nat.le_of_ble_eq_true rfl) rfl ⟨rfl, rfl⟩ ⟨Nat.le_of_ble_eq_true rfl, Nat.le_of_ble_eq_true rfl⟩ (EvP.mono (by decide) (c_CR_kindIn hT (KW.xr hK hX) )) (fun r27 P28 g29 => mpp 22 rfl ?_)
    obtain ⟨⟨x30, rfl, g31⟩, e32⟩ := g29
    have e32 := e32.symm
    subst e32
    have wx30 := ti_full x30
    show MEvP _ none q_79 22 [(0, .ref 291), (1, .ref a1_), (2, .int t2), (3, .int v3)] [.int x30, .int v3, .ref 291] _ _ _ _
    refine mt_callv (i := 43) (q' := q_46) (As := [.int v3, .int x30]) (rest := []) hT dX3_foldsWith_22 rfl qm_46 (by decide) rfl rl_291 (by decide) rfl (Nat.le_of_ble_eq_true rfl) rfl ⟨rfl, rfl⟩ ⟨Nat.le_of_ble_eq_true rfl, Nat.le_of_ble_eq_true rfl⟩ (EvP.mono (by decide) (c_CR_putCrease_Reducer hT (KW.xr hK hX) )) (fun r33 P34 g35 => mpp 25 rfl ?_)
    obtain ⟨⟨rfl, g37⟩, hT38, k39, R40⟩ := g35
    have k41 : KW [640, 641, 704, 768] Po P34 := KW.trans hK k39 rfl
    show MEvP _ none q_79 25 [(0, .ref 291), (1, .ref a1_), (2, .int t2), (3, .int v3)] [] _ _ _ _
    obtain ⟨z43, h44⟩ := ti_ex (v3 + 1 : Int32)
    have wz43 := ti_full z43
    refine mp_a (a_iinc (v := z43) (L' := [(3, .int z43), (0, .ref 291), (1, .ref a1_), (2, .int t2)]) dX3_foldsWith_25 (by decide) rfl h44 rfl) (mpp 28 rfl ?_)
    try have e45 : z43.toInt = v3.toInt + 1 := ti_addz h44 rfl rfl (by omega) (by omega)
    refine mp_a (a_goto (t := 7) dX3_foldsWith_28 (by decide)) ?_
    refine MEvP.less (L := [(0, .ref 291), (1, .ref a1_), (2, .int t2), (3, .int z43)]) rfl rfl ⟨rfl, rfl, rfl, rfl, trivial⟩ ?_
    have i46 : 0 ≤ z43.toInt := by omega
    exact ih _ (by omega) _ P34 hT38 k41 i46 rfl

set_option maxHeartbeats 4000000 in
theorem c_CR_foldsWith_Reducer_NPiece {Po : mP} {a1_ : Nat} {t2 : Int32} (hT : Typ Po) (hX : XR Po)  (ha1 : rl a1_ = 33) : EvP 4 79 [.ref 291, .ref a1_, .int t2] Po (fun r P' => (∃ x : Int32, r = some (.int x) ∧ (0 ≤ x.toInt ∧ x.toInt ≤ 1)) ∧ Typ P' ∧ KW [640, 641, 704, 768] Po P' ∧ True) := by
  refine EvP.of qm_79 (Nat.le_of_ble_eq_true rfl) rfl ?_
  show MEvP _ none q_79 0 [(0, .ref 291), (1, .ref a1_), (2, .int t2)] [] _ 0 0 _
  have w1 := np_ar ha1
  refine mp_a (a_aload_n dX3_foldsWith_0 rfl) (mpp 1 rfl ?_)
  refine mp_a (a_aload_n dX3_foldsWith_1 rfl) (mpp 2 rfl ?_)
  refine mt_callv (i := 55) (q' := q_45) (As := [.ref a1_]) (rest := []) hT dX3_foldsWith_2 rfl qm_45 (by decide) rfl rl_291 (by decide) rfl (Nat.le_of_ble_eq_true rfl) rfl ⟨rfl, rfl⟩ ⟨Nat.le_of_ble_eq_true rfl, Nat.le_of_ble_eq_true rfl⟩ (EvP.mono (by decide) (c_CR_load_Reducer_NPiece hT hX ha1)) (fun r2 P3 g4 => mpp 5 rfl ?_)
  obtain ⟨⟨rfl, g6⟩, hT7, k8, R9⟩ := g4
  have k10 : KW [640, 641, 704, 768] Po P3 := KW.trans KW.refl k8 rfl
  show MEvP _ none q_79 5 [(0, .ref 291), (1, .ref a1_), (2, .int t2)] [] _ _ _ _
  refine mp_a (a_iconst (v := 0) dX3_foldsWith_5 rfl) (mpp 6 rfl ?_)
  refine mp_a (a_istore_n (L' := [(3, .int 0), (0, .ref 291), (1, .ref a1_), (2, .int t2)]) dX3_foldsWith_6 (by decide) rfl) (mpp 7 rfl ?_)
  refine MEvP.less (L := [(0, .ref 291), (1, .ref a1_), (2, .int t2), (3, .int 0)]) rfl rfl ⟨rfl, rfl, rfl, rfl, trivial⟩ ?_
  have i12 : 0 ≤ (0 : Int) := by omega
  exact c_CR_foldsWith_Reducer_NPiece_l7 hT hX  ha1 _ _ P3 hT7 k10 i12 rfl

set_option maxHeartbeats 4000000 in
theorem c_CR_countWays_Reducer_NPiece_l4 {Po : mP} {a1_ : Nat} (hTo : Typ Po) (hX : XR Po) (ha1 : rl a1_ = 33) : ∀ (n : Nat) (v2 : Int32) (v3 : Int32), ∀ (P : mP), Typ P → KW [640, 641, 704, 768] Po P → (0 ≤ v3.toInt) → (2147483647 - v3.toInt).toNat = n → MEvP 4 none q_76 4 [(0, .ref 291), (1, .ref a1_), (2, .int v2), (3, .int v3)] [] P 0 0 (fun r P' => (∃ x : Int32, r = some (.int x) ∧ (True)) ∧ Typ P' ∧ KW [640, 641, 704, 768] Po P' ∧ True) := by
  intro n
  induction n using Nat.strongRecOn with | _ n ih => ?_
  intro v2 v3 P hT hK i_0 hm
  have w1 := np_ar ha1
  have w_v2 := ti_full v2
  have w_v3 := ti_full v3
  refine mp_a (a_iload_n dX3_countWays_4 rfl) (mpp 5 rfl ?_)
  refine mp_a (a_iconst (v := 1) dX3_countWays_5 rfl) (mpp 6 rfl ?_)
  refine mp_a (a_aload_n dX3_countWays_6 rfl) (mpp 7 rfl ?_)
  refine mt_callv (i := 34) (q' := q_25) (As := []) (rest := [.int 1, .int v3]) hT dX3_countWays_7 rfl qm_25 (by decide) rfl ha1 (by decide) rfl (Nat.le_of_ble_eq_true rfl) rfl ⟨rfl, rfl⟩ ⟨Nat.le_of_ble_eq_true rfl, Nat.le_of_ble_eq_true rfl⟩ (EvP.mono (by decide) (c_CP_creaseCount_NPiece hT (KW.xr hK hX) ha1)) (fun r2 P3 g4 => mpp 10 rfl ?_)
  obtain ⟨⟨x5, rfl, g6⟩, e7⟩ := g4
  have e7 := e7.symm
  subst e7
  have wx5 := ti_full x5
  have g6 : -1 ≤ x5.toInt ∧ x5.toInt ≤ (fv P a1_ 1).toInt := g6
  have g8 : (0 : Int) ≤ (fv P a1_ 1).toInt ∧ (fv P a1_ 1).toInt ≤ 8 := Typ.rng hT ha1 (by decide) (by decide) rfl
  show MEvP _ none q_76 10 [(0, .ref 291), (1, .ref a1_), (2, .int v2), (3, .int v3)] [.int x5, .int 1, .int v3] _ _ _ _
  obtain ⟨z9, h10⟩ := ti_ex (1 <<< (x5 &&& 31) : Int32)
  have wz9 := ti_full z9
  refine mp_t (s_ishl (v := z9) dX3_countWays_10 h10) (mpp 11 rfl ?_)
  refine mp_Tb (t := 40) (j_icmp_ge dX3_countWays_11) (by decide) (fun c11 => ?_) (fun c11 => mpp 14 rfl ?_)
  · have c11 : v3.toInt ≥ z9.toInt := ti_ge c11
    refine mp_a (a_iload_n dX3_countWays_40 rfl) (mpp 41 rfl ?_)
    exact mp_iret ⟨⟨_, rfl, trivial⟩, hT, hK, trivial⟩ dX3_countWays_41 (Or.inl rfl)
  · have c11 : v3.toInt < z9.toInt := ti_ge_n c11
    refine mp_a (a_aload_n dX3_countWays_14 rfl) (mpp 15 rfl ?_)
    refine mp_a (a_iload_n dX3_countWays_15 rfl) (mpp 16 rfl ?_)
    refine mp_calls (i := 86) (q' := q_77) (As := [.ref a1_, .int v3]) (rest := []) dX3_countWays_16 rfl qm_77 (by decide) rfl (Nat.le_of_ble_eq_true rfl) rfl ⟨rfl, rfl⟩ ⟨Nat.le_of_ble_eq_true rfl, Nat.le_of_ble_eq_true rfl⟩ (EvP.mono (by decide) (c_CR_changesTo_NPiece hT (KW.xr hK hX) ha1)) (fun r12 P13 g14 => mpp 19 rfl ?_)
    obtain ⟨⟨x15, rfl, g16⟩, e17⟩ := g14
    have e17 := e17.symm
    subst e17
    have wx15 := ti_full x15
    show MEvP _ none q_76 19 [(0, .ref 291), (1, .ref a1_), (2, .int v2), (3, .int v3)] [.int x15] _ _ _ _
    refine mp_Tb (t := 34) (j_if_ne dX3_countWays_19) (by decide) (fun c18 => ?_) (fun c18 => mpp 22 rfl ?_)
    · have c18 : x15.toInt ≠ 0 := ti_ne c18
      obtain ⟨z19, h20⟩ := ti_ex (v3 + 1 : Int32)
      have wz19 := ti_full z19
      refine mp_a (a_iinc (v := z19) (L' := [(3, .int z19), (0, .ref 291), (1, .ref a1_), (2, .int v2)]) dX3_countWays_34 (by decide) rfl h20 rfl) (mpp 37 rfl ?_)
      try have e21 : z19.toInt = v3.toInt + 1 := ti_addz h20 rfl rfl (by omega) (by omega)
      refine mp_a (a_goto (t := 4) dX3_countWays_37 (by decide)) ?_
      refine MEvP.less (L := [(0, .ref 291), (1, .ref a1_), (2, .int v2), (3, .int z19)]) rfl rfl ⟨rfl, rfl, rfl, rfl, trivial⟩ ?_
      have i22 : 0 ≤ z19.toInt := by omega
      exact ih _ (by omega) _ _ P hT hK i22 rfl
    · have c18 : x15.toInt = 0 := ti_ne_n c18
      refine mp_a (a_aload_n dX3_countWays_22 rfl) (mpp 23 rfl ?_)
      refine mp_a (a_aload_n dX3_countWays_23 rfl) (mpp 24 rfl ?_)
      refine mp_a (a_iload_n dX3_countWays_24 rfl) (mpp 25 rfl ?_)
      refine mt_callv (i := 90) (q' := q_79) (As := [.ref a1_, .int v3]) (rest := []) hT dX3_countWays_25 rfl qm_79 (by decide) rfl rl_291 (by decide) rfl (Nat.le_of_ble_eq_true rfl) rfl ⟨rfl, rfl⟩ ⟨Nat.le_of_ble_eq_true rfl, Nat.le_of_ble_eq_true rfl⟩ (EvP.mono (by decide) (c_CR_foldsWith_Reducer_NPiece hT (KW.xr hK hX) ha1)) (fun r23 P24 g25 => mpp 28 rfl ?_)
      obtain ⟨⟨x26, rfl, g27⟩, hT28, k29, R30⟩ := g25
      have k31 : KW [640, 641, 704, 768] Po P24 := KW.trans hK k29 rfl
      have wx26 := ti_full x26
      have g27 : 0 ≤ x26.toInt ∧ x26.toInt ≤ 1 := g27
      show MEvP _ none q_76 28 [(0, .ref 291), (1, .ref a1_), (2, .int v2), (3, .int v3)] [.int x26] _ _ _ _
      refine mp_Tb (t := 34) (j_if_eq dX3_countWays_28) (by decide) (fun c33 => ?_) (fun c33 => mpp 31 rfl ?_)
      · have c33 : x26.toInt = 0 := ti_eq c33
        obtain ⟨z34, h35⟩ := ti_ex (v3 + 1 : Int32)
        have wz34 := ti_full z34
        refine mp_a (a_iinc (v := z34) (L' := [(3, .int z34), (0, .ref 291), (1, .ref a1_), (2, .int v2)]) dX3_countWays_34 (by decide) rfl h35 rfl) (mpp 37 rfl ?_)
        try have e36 : z34.toInt = v3.toInt + 1 := ti_addz h35 rfl rfl (by omega) (by omega)
        refine mp_a (a_goto (t := 4) dX3_countWays_37 (by decide)) ?_
        refine MEvP.less (L := [(0, .ref 291), (1, .ref a1_), (2, .int v2), (3, .int z34)]) rfl rfl ⟨rfl, rfl, rfl, rfl, trivial⟩ ?_
        have i37 : 0 ≤ z34.toInt := by omega
        exact ih _ (by omega) _ _ P24 hT28 k31 i37 rfl
      · have c33 : x26.toInt ≠ 0 := ti_eq_n c33
        obtain ⟨z38, h39⟩ := ti_ex (v2 + 1 : Int32)
        have wz38 := ti_full z38
        refine mp_a (a_iinc (v := z38) (L' := [(2, .int z38), (0, .ref 291), (1, .ref a1_), (3, .int v3)]) dX3_countWays_31 (by decide) rfl h39 rfl) (mpp 34 rfl ?_)
        try have e40 : z38.toInt = v2.toInt + 1 := ti_addz h39 rfl rfl (by omega) (by omega)
        obtain ⟨z41, h42⟩ := ti_ex (v3 + 1 : Int32)
        have wz41 := ti_full z41
        refine mp_a (a_iinc (v := z41) (L' := [(3, .int z41), (2, .int z38), (0, .ref 291), (1, .ref a1_)]) dX3_countWays_34 (by decide) rfl h42 rfl) (mpp 37 rfl ?_)
        try have e43 : z41.toInt = v3.toInt + 1 := ti_addz h42 rfl rfl (by omega) (by omega)
        refine mp_a (a_goto (t := 4) dX3_countWays_37 (by decide)) ?_
        refine MEvP.less (L := [(0, .ref 291), (1, .ref a1_), (2, .int z38), (3, .int z41)]) rfl rfl ⟨rfl, rfl, rfl, rfl, trivial⟩ ?_
        have i44 : 0 ≤ z41.toInt := by omega
        exact ih _ (by omega) _ _ P24 hT28 k31 i44 rfl

set_option maxHeartbeats 4000000 in
theorem c_CR_countWays_Reducer_NPiece {Po : mP} {a1_ : Nat} (hT : Typ Po) (hX : XR Po)  (ha1 : rl a1_ = 33) : EvP 5 76 [.ref 291, .ref a1_] Po (fun r P' => (∃ x : Int32, r = some (.int x) ∧ (True)) ∧ Typ P' ∧ KW [640, 641, 704, 768] Po P' ∧ True) := by
  refine EvP.of qm_76 (Nat.le_of_ble_eq_true rfl) rfl ?_
  show MEvP _ none q_76 0 [(0, .ref 291), (1, .ref a1_)] [] _ 0 0 _
  have w1 := np_ar ha1
  refine mp_a (a_iconst (v := 0) dX3_countWays_0 rfl) (mpp 1 rfl ?_)
  refine mp_a (a_istore_n (L' := [(2, .int 0), (0, .ref 291), (1, .ref a1_)]) dX3_countWays_1 (by decide) rfl) (mpp 2 rfl ?_)
  refine mp_a (a_iconst (v := 0) dX3_countWays_2 rfl) (mpp 3 rfl ?_)
  refine mp_a (a_istore_n (L' := [(3, .int 0), (2, .int 0), (0, .ref 291), (1, .ref a1_)]) dX3_countWays_3 (by decide) rfl) (mpp 4 rfl ?_)
  refine MEvP.less (L := [(0, .ref 291), (1, .ref a1_), (2, .int 0), (3, .int 0)]) rfl rfl ⟨rfl, rfl, rfl, rfl, trivial⟩ ?_
  have i2 : 0 ≤ (0 : Int) := by omega
  exact c_CR_countWays_Reducer_NPiece_l4 hT hX  ha1 _ _ _ Po hT KW.refl i2 rfl

set_option maxHeartbeats 4000000 in
theorem c_F_ways {Po : mP} {t1 : Int32} (hT : Typ Po) (hX : XR Po)   : EvP 6 75 [.ref 0, .int t1] Po (fun r P' => (∃ x : Int32, r = some (.int x) ∧ (True)) ∧ Typ P' ∧ KW [640, 641, 704, 768] Po P' ∧ True) := by
  refine EvP.of qm_75 (Nat.le_of_ble_eq_true rfl) rfl ?_
  show MEvP _ none q_75 0 [(0, .ref 0), (1, .int t1)] [] _ 0 0 _
  refine mp_a (a_aload_n dX6_ways_0 rfl) (mpp 1 rfl ?_)
  refine mt_getU (i := 10) (k := 0) (A := 1) hT dX6_ways_1 rfl rl_0 (by decide) rfl (by decide) rfl un_31 (mpp 4 rfl ?_)
  refine mp_a (a_iload_n dX6_ways_4 rfl) (mpp 5 rfl ?_)
  refine mt_callv (i := 94) (q' := q_9) (As := [.int t1]) (rest := []) hT dX6_ways_5 rfl qm_9 (by decide) rfl rl_1 (by decide) rfl (Nat.le_of_ble_eq_true rfl) rfl ⟨rfl, rfl⟩ ⟨Nat.le_of_ble_eq_true rfl, Nat.le_of_ble_eq_true rfl⟩ (EvP.mono (by decide) (c_CS_pieceAt_NState hT hX )) (fun r1 P2 g3 => mpp 8 rfl ?_)
  obtain ⟨g3, e4⟩ := g3
  have e4 := e4.symm
  subst e4
  rcases g3 with ⟨rfl, q6n⟩ | ⟨b5, rfl, q6, q6r⟩
  · show MEvP _ none q_75 8 [(0, .ref 0), (1, .int t1)] [.null] _ _ _ _
    have q6n : t1.toInt < 0 ∨ (fv Po 1 1).toInt ≤ t1.toInt ∨ 8 ≤ t1.toInt := q6n
    have g7 : (0 : Int) ≤ (fv Po 1 1).toInt ∧ (fv Po 1 1).toInt ≤ 8 := Typ.rng hT rl_1 (by decide) (by decide) rfl
    refine mp_a (a_astore_nN (L' := [(2, .null), (0, .ref 0), (1, .int t1)]) dX6_ways_8 (by decide) rfl) (mpp 9 rfl ?_)
    refine mp_a (a_aload_nN dX6_ways_9 rfl) (mpp 10 rfl ?_)
    refine mp_t (s_ifnonnullN dX6_ways_10) (mpp 13 rfl ?_)
    refine mp_a (a_sipush (v := -1001) dX6_ways_13 rfl) (mpp 16 rfl ?_)
    refine mp_a (a_goto (t := 27) dX6_ways_16 (by decide)) ?_
    exact mp_iret ⟨⟨_, rfl, trivial⟩, hT, KW.refl, trivial⟩ dX6_ways_27 (Or.inl rfl)
  · show MEvP _ none q_75 8 [(0, .ref 0), (1, .int t1)] [.ref b5] _ _ _ _
    have q6r : 0 ≤ t1.toInt ∧ t1.toInt ≤ 7 ∧ t1.toInt + 1 ≤ (fv Po 1 1).toInt ∧ rv Po 2 t1.toInt.toNat = b5 := q6r
    have g8 : (0 : Int) ≤ (fv Po 1 1).toInt ∧ (fv Po 1 1).toInt ≤ 8 := Typ.rng hT rl_1 (by decide) (by decide) rfl
    have w9 := np_ar q6
    refine mp_a (a_astore_n (L' := [(2, .ref b5), (0, .ref 0), (1, .int t1)]) dX6_ways_8 (by decide) rfl) (mpp 9 rfl ?_)
    refine mp_a (a_aload_n dX6_ways_9 rfl) (mpp 10 rfl ?_)
    refine mp_t (s_ifnonnullR (t := 19) dX6_ways_10 (by decide)) ?_
    refine mp_a (a_aload_n dX6_ways_19 rfl) (mpp 20 rfl ?_)
    refine mt_getU (i := 39) (k := 5) (A := 291) hT dX6_ways_20 rfl rl_0 (by decide) rfl (by decide) rfl un_10 (mpp 23 rfl ?_)
    refine mp_a (a_aload_n dX6_ways_23 rfl) (mpp 24 rfl ?_)
    refine mt_callv (i := 197) (q' := q_76) (As := [.ref b5]) (rest := []) hT dX6_ways_24 rfl qm_76 (by decide) rfl rl_291 (by decide) rfl (Nat.le_of_ble_eq_true rfl) rfl ⟨rfl, rfl⟩ ⟨Nat.le_of_ble_eq_true rfl, Nat.le_of_ble_eq_true rfl⟩ (EvP.mono (by decide) (c_CR_countWays_Reducer_NPiece hT hX q6)) (fun r10 P11 g12 => mpp 27 rfl ?_)
    obtain ⟨⟨x13, rfl, g14⟩, hT15, k16, R17⟩ := g12
    have k18 : KW [640, 641, 704, 768] Po P11 := KW.trans KW.refl k16 rfl
    have wx13 := ti_full x13
    show MEvP _ none q_75 27 [(2, .ref b5), (0, .ref 0), (1, .int t1)] [.int x13] _ _ _ _
    exact mp_iret ⟨⟨_, rfl, trivial⟩, hT15, k18, trivial⟩ dX6_ways_27 (Or.inl rfl)

set_option maxHeartbeats 4000000 in
theorem c_CR_fewestChanges_Reducer_NPiece_l6 {Po : mP} {a1_ : Nat} (hTo : Typ Po) (hX : XR Po) (ha1 : rl a1_ = 33) : ∀ (n : Nat) (v2 : Int32) (v3 : Int32), ∀ (P : mP), Typ P → KW [640, 641, 704, 768] Po P → (0 ≤ v3.toInt) → (2147483647 - v3.toInt).toNat = n → MEvP 4 none q_81 6 [(0, .ref 291), (1, .ref a1_), (2, .int v2), (3, .int v3)] [] P 0 0 (fun r P' => (∃ x : Int32, r = some (.int x) ∧ (True)) ∧ Typ P' ∧ KW [640, 641, 704, 768] Po P' ∧ True) := by
  intro n
  induction n using Nat.strongRecOn with | _ n ih => ?_
  intro v2 v3 P hT hK i_0 hm
  have w1 := np_ar ha1
  have w_v2 := ti_full v2
  have w_v3 := ti_full v3
  refine mp_a (a_iload_n dX3_fewestChanges_6 rfl) (mpp 7 rfl ?_)
  refine mp_a (a_iconst (v := 1) dX3_fewestChanges_7 rfl) (mpp 8 rfl ?_)
  refine mp_a (a_aload_n dX3_fewestChanges_8 rfl) (mpp 9 rfl ?_)
  refine mt_callv (i := 34) (q' := q_25) (As := []) (rest := [.int 1, .int v3]) hT dX3_fewestChanges_9 rfl qm_25 (by decide) rfl ha1 (by decide) rfl (Nat.le_of_ble_eq_true rfl) rfl ⟨rfl, rfl⟩ ⟨Nat.le_of_ble_eq_true rfl, Nat.le_of_ble_eq_true rfl⟩ (EvP.mono (by decide) (c_CP_creaseCount_NPiece hT (KW.xr hK hX) ha1)) (fun r2 P3 g4 => mpp 12 rfl ?_)
  obtain ⟨⟨x5, rfl, g6⟩, e7⟩ := g4
  have e7 := e7.symm
  subst e7
  have wx5 := ti_full x5
  have g6 : -1 ≤ x5.toInt ∧ x5.toInt ≤ (fv P a1_ 1).toInt := g6
  have g8 : (0 : Int) ≤ (fv P a1_ 1).toInt ∧ (fv P a1_ 1).toInt ≤ 8 := Typ.rng hT ha1 (by decide) (by decide) rfl
  show MEvP _ none q_81 12 [(0, .ref 291), (1, .ref a1_), (2, .int v2), (3, .int v3)] [.int x5, .int 1, .int v3] _ _ _ _
  obtain ⟨z9, h10⟩ := ti_ex (1 <<< (x5 &&& 31) : Int32)
  have wz9 := ti_full z9
  refine mp_t (s_ishl (v := z9) dX3_fewestChanges_12 h10) (mpp 13 rfl ?_)
  refine mp_Tb (t := 54) (j_icmp_ge dX3_fewestChanges_13) (by decide) (fun c11 => ?_) (fun c11 => mpp 16 rfl ?_)
  · have c11 : v3.toInt ≥ z9.toInt := ti_ge c11
    refine mp_a (a_iload_n dX3_fewestChanges_54 rfl) (mpp 55 rfl ?_)
    exact mp_iret ⟨⟨_, rfl, trivial⟩, hT, hK, trivial⟩ dX3_fewestChanges_55 (Or.inl rfl)
  · have c11 : v3.toInt < z9.toInt := ti_ge_n c11
    refine mp_a (a_aload_n dX3_fewestChanges_16 rfl) (mpp 17 rfl ?_)
    refine mp_a (a_iload_n dX3_fewestChanges_17 rfl) (mpp 18 rfl ?_)
    refine mp_calls (i := 86) (q' := q_77) (As := [.ref a1_, .int v3]) (rest := []) dX3_fewestChanges_18 rfl qm_77 (by decide) rfl (Nat.le_of_ble_eq_true rfl) rfl ⟨rfl, rfl⟩ ⟨Nat.le_of_ble_eq_true rfl, Nat.le_of_ble_eq_true rfl⟩ (EvP.mono (by decide) (c_CR_changesTo_NPiece hT (KW.xr hK hX) ha1)) (fun r12 P13 g14 => mpp 21 rfl ?_)
    obtain ⟨⟨x15, rfl, g16⟩, e17⟩ := g14
    have e17 := e17.symm
    subst e17
    have wx15 := ti_full x15
    show MEvP _ none q_81 21 [(0, .ref 291), (1, .ref a1_), (2, .int v2), (3, .int v3)] [.int x15] _ _ _ _
    refine mp_a (a_istore (L' := [(4, .int x15), (0, .ref 291), (1, .ref a1_), (2, .int v2), (3, .int v3)]) dX3_fewestChanges_21 (by decide) rfl) (mpp 23 rfl ?_)
    refine mp_a (a_iload_n dX3_fewestChanges_23 rfl) (mpp 24 rfl ?_)
    refine mp_a (a_sipush (v := -1004) dX3_fewestChanges_24 rfl) (mpp 27 rfl ?_)
    refine mp_Tb (t := 36) (j_icmp_eq dX3_fewestChanges_27) (by decide) (fun c18 => ?_) (fun c18 => mpp 30 rfl ?_)
    · have c18 : v2.toInt = (-1004) := ti_eq c18
      refine mp_a (a_aload_n dX3_fewestChanges_36 rfl) (mpp 37 rfl ?_)
      refine mp_a (a_aload_n dX3_fewestChanges_37 rfl) (mpp 38 rfl ?_)
      refine mp_a (a_iload_n dX3_fewestChanges_38 rfl) (mpp 39 rfl ?_)
      refine mt_callv (i := 90) (q' := q_79) (As := [.ref a1_, .int v3]) (rest := []) hT dX3_fewestChanges_39 rfl qm_79 (by decide) rfl rl_291 (by decide) rfl (Nat.le_of_ble_eq_true rfl) rfl ⟨rfl, rfl⟩ ⟨Nat.le_of_ble_eq_true rfl, Nat.le_of_ble_eq_true rfl⟩ (EvP.mono (by decide) (c_CR_foldsWith_Reducer_NPiece hT (KW.xr hK hX) ha1)) (fun r19 P20 g21 => mpp 42 rfl ?_)
      obtain ⟨⟨x22, rfl, g23⟩, hT24, k25, R26⟩ := g21
      have k27 : KW [640, 641, 704, 768] Po P20 := KW.trans hK k25 rfl
      have wx22 := ti_full x22
      have g23 : 0 ≤ x22.toInt ∧ x22.toInt ≤ 1 := g23
      show MEvP _ none q_81 42 [(4, .int x15), (0, .ref 291), (1, .ref a1_), (2, .int v2), (3, .int v3)] [.int x22] _ _ _ _
      refine mp_Tb (t := 48) (j_if_eq dX3_fewestChanges_42) (by decide) (fun c29 => ?_) (fun c29 => mpp 45 rfl ?_)
      · have c29 : x22.toInt = 0 := ti_eq c29
        obtain ⟨z30, h31⟩ := ti_ex (v3 + 1 : Int32)
        have wz30 := ti_full z30
        refine mp_a (a_iinc (v := z30) (L' := [(3, .int z30), (4, .int x15), (0, .ref 291), (1, .ref a1_), (2, .int v2)]) dX3_fewestChanges_48 (by decide) rfl h31 rfl) (mpp 51 rfl ?_)
        try have e32 : z30.toInt = v3.toInt + 1 := ti_addz h31 rfl rfl (by omega) (by omega)
        refine mp_a (a_goto (t := 6) dX3_fewestChanges_51 (by decide)) ?_
        refine MEvP.less (L := [(0, .ref 291), (1, .ref a1_), (2, .int v2), (3, .int z30)]) rfl rfl ⟨rfl, rfl, rfl, rfl, trivial⟩ ?_
        have i33 : 0 ≤ z30.toInt := by omega
        exact ih _ (by omega) _ _ P20 hT24 k27 i33 rfl
      · have c29 : x22.toInt ≠ 0 := ti_eq_n c29
        refine mp_a (a_iload dX3_fewestChanges_45 rfl) (mpp 47 rfl ?_)
        refine mp_a (a_istore_n (L' := [(2, .int x15), (4, .int x15), (0, .ref 291), (1, .ref a1_), (3, .int v3)]) dX3_fewestChanges_47 (by decide) rfl) (mpp 48 rfl ?_)
        obtain ⟨z34, h35⟩ := ti_ex (v3 + 1 : Int32)
        have wz34 := ti_full z34
        refine mp_a (a_iinc (v := z34) (L' := [(3, .int z34), (2, .int x15), (4, .int x15), (0, .ref 291), (1, .ref a1_)]) dX3_fewestChanges_48 (by decide) rfl h35 rfl) (mpp 51 rfl ?_)
        try have e36 : z34.toInt = v3.toInt + 1 := ti_addz h35 rfl rfl (by omega) (by omega)
        refine mp_a (a_goto (t := 6) dX3_fewestChanges_51 (by decide)) ?_
        refine MEvP.less (L := [(0, .ref 291), (1, .ref a1_), (2, .int x15), (3, .int z34)]) rfl rfl ⟨rfl, rfl, rfl, rfl, trivial⟩ ?_
        have i37 : 0 ≤ z34.toInt := by omega
        exact ih _ (by omega) _ _ P20 hT24 k27 i37 rfl
    · have c18 : v2.toInt ≠ (-1004) := ti_eq_n c18
      refine mp_a (a_iload dX3_fewestChanges_30 rfl) (mpp 32 rfl ?_)
      refine mp_a (a_iload_n dX3_fewestChanges_32 rfl) (mpp 33 rfl ?_)
      refine mp_Tb (t := 48) (j_icmp_ge dX3_fewestChanges_33) (by decide) (fun c38 => ?_) (fun c38 => mpp 36 rfl ?_)
      · have c38 : x15.toInt ≥ v2.toInt := ti_ge c38
        obtain ⟨z39, h40⟩ := ti_ex (v3 + 1 : Int32)
        have wz39 := ti_full z39
        refine mp_a (a_iinc (v := z39) (L' := [(3, .int z39), (4, .int x15), (0, .ref 291), (1, .ref a1_), (2, .int v2)]) dX3_fewestChanges_48 (by decide) rfl h40 rfl) (mpp 51 rfl ?_)
        try have e41 : z39.toInt = v3.toInt + 1 := ti_addz h40 rfl rfl (by omega) (by omega)
        refine mp_a (a_goto (t := 6) dX3_fewestChanges_51 (by decide)) ?_
        refine MEvP.less (L := [(0, .ref 291), (1, .ref a1_), (2, .int v2), (3, .int z39)]) rfl rfl ⟨rfl, rfl, rfl, rfl, trivial⟩ ?_
        have i42 : 0 ≤ z39.toInt := by omega
        exact ih _ (by omega) _ _ P hT hK i42 rfl
      · have c38 : x15.toInt < v2.toInt := ti_ge_n c38
        refine mp_a (a_aload_n dX3_fewestChanges_36 rfl) (mpp 37 rfl ?_)
        refine mp_a (a_aload_n dX3_fewestChanges_37 rfl) (mpp 38 rfl ?_)
        refine mp_a (a_iload_n dX3_fewestChanges_38 rfl) (mpp 39 rfl ?_)
        refine mt_callv (i := 90) (q' := q_79) (As := [.ref a1_, .int v3]) (rest := []) hT dX3_fewestChanges_39 rfl qm_79 (by decide) rfl rl_291 (by decide) rfl (Nat.le_of_ble_eq_true rfl) rfl ⟨rfl, rfl⟩ ⟨Nat.le_of_ble_eq_true rfl, Nat.le_of_ble_eq_true rfl⟩ (EvP.mono (by decide) (c_CR_foldsWith_Reducer_NPiece hT (KW.xr hK hX) ha1)) (fun r43 P44 g45 => mpp 42 rfl ?_)
        obtain ⟨⟨x46, rfl, g47⟩, hT48, k49, R50⟩ := g45
        have k51 : KW [640, 641, 704, 768] Po P44 := KW.trans hK k49 rfl
        have wx46 := ti_full x46
        have g47 : 0 ≤ x46.toInt ∧ x46.toInt ≤ 1 := g47
        show MEvP _ none q_81 42 [(4, .int x15), (0, .ref 291), (1, .ref a1_), (2, .int v2), (3, .int v3)] [.int x46] _ _ _ _
        refine mp_Tb (t := 48) (j_if_eq dX3_fewestChanges_42) (by decide) (fun c53 => ?_) (fun c53 => mpp 45 rfl ?_)
        · have c53 : x46.toInt = 0 := ti_eq c53
          obtain ⟨z54, h55⟩ := ti_ex (v3 + 1 : Int32)
          have wz54 := ti_full z54
          refine mp_a (a_iinc (v := z54) (L' := [(3, .int z54), (4, .int x15), (0, .ref 291), (1, .ref a1_), (2, .int v2)]) dX3_fewestChanges_48 (by decide) rfl h55 rfl) (mpp 51 rfl ?_)
          try have e56 : z54.toInt = v3.toInt + 1 := ti_addz h55 rfl rfl (by omega) (by omega)
          refine mp_a (a_goto (t := 6) dX3_fewestChanges_51 (by decide)) ?_
          refine MEvP.less (L := [(0, .ref 291), (1, .ref a1_), (2, .int v2), (3, .int z54)]) rfl rfl ⟨rfl, rfl, rfl, rfl, trivial⟩ ?_
          have i57 : 0 ≤ z54.toInt := by omega
          exact ih _ (by omega) _ _ P44 hT48 k51 i57 rfl
        · have c53 : x46.toInt ≠ 0 := ti_eq_n c53
          refine mp_a (a_iload dX3_fewestChanges_45 rfl) (mpp 47 rfl ?_)
          refine mp_a (a_istore_n (L' := [(2, .int x15), (4, .int x15), (0, .ref 291), (1, .ref a1_), (3, .int v3)]) dX3_fewestChanges_47 (by decide) rfl) (mpp 48 rfl ?_)
          obtain ⟨z58, h59⟩ := ti_ex (v3 + 1 : Int32)
          have wz58 := ti_full z58
          refine mp_a (a_iinc (v := z58) (L' := [(3, .int z58), (2, .int x15), (4, .int x15), (0, .ref 291), (1, .ref a1_)]) dX3_fewestChanges_48 (by decide) rfl h59 rfl) (mpp 51 rfl ?_)
          try have e60 : z58.toInt = v3.toInt + 1 := ti_addz h59 rfl rfl (by omega) (by omega)
          refine mp_a (a_goto (t := 6) dX3_fewestChanges_51 (by decide)) ?_
          refine MEvP.less (L := [(0, .ref 291), (1, .ref a1_), (2, .int x15), (3, .int z58)]) rfl rfl ⟨rfl, rfl, rfl, rfl, trivial⟩ ?_
          have i61 : 0 ≤ z58.toInt := by omega
          exact ih _ (by omega) _ _ P44 hT48 k51 i61 rfl

set_option maxHeartbeats 4000000 in
theorem c_CR_fewestChanges_Reducer_NPiece {Po : mP} {a1_ : Nat} (hT : Typ Po) (hX : XR Po)  (ha1 : rl a1_ = 33) : EvP 5 81 [.ref 291, .ref a1_] Po (fun r P' => (∃ x : Int32, r = some (.int x) ∧ (True)) ∧ Typ P' ∧ KW [640, 641, 704, 768] Po P' ∧ True) := by
  refine EvP.of qm_81 (Nat.le_of_ble_eq_true rfl) rfl ?_
  show MEvP _ none q_81 0 [(0, .ref 291), (1, .ref a1_)] [] _ 0 0 _
  have w1 := np_ar ha1
  refine mp_a (a_sipush (v := -1004) dX3_fewestChanges_0 rfl) (mpp 3 rfl ?_)
  refine mp_a (a_istore_n (L' := [(2, .int (-1004)), (0, .ref 291), (1, .ref a1_)]) dX3_fewestChanges_3 (by decide) rfl) (mpp 4 rfl ?_)
  refine mp_a (a_iconst (v := 0) dX3_fewestChanges_4 rfl) (mpp 5 rfl ?_)
  refine mp_a (a_istore_n (L' := [(3, .int 0), (2, .int (-1004)), (0, .ref 291), (1, .ref a1_)]) dX3_fewestChanges_5 (by decide) rfl) (mpp 6 rfl ?_)
  refine MEvP.less (L := [(0, .ref 291), (1, .ref a1_), (2, .int (-1004)), (3, .int 0)]) rfl rfl ⟨rfl, rfl, rfl, rfl, trivial⟩ ?_
  have i2 : 0 ≤ (0 : Int) := by omega
  exact c_CR_fewestChanges_Reducer_NPiece_l6 hT hX  ha1 _ _ _ Po hT KW.refl i2 rfl

set_option maxHeartbeats 4000000 in
theorem c_F_fewest {Po : mP} {t1 : Int32} (hT : Typ Po) (hX : XR Po)   : EvP 6 80 [.ref 0, .int t1] Po (fun r P' => (∃ x : Int32, r = some (.int x) ∧ (True)) ∧ Typ P' ∧ KW [640, 641, 704, 768] Po P' ∧ True) := by
  refine EvP.of qm_80 (Nat.le_of_ble_eq_true rfl) rfl ?_
  show MEvP _ none q_80 0 [(0, .ref 0), (1, .int t1)] [] _ 0 0 _
  refine mp_a (a_aload_n dX6_fewest_0 rfl) (mpp 1 rfl ?_)
  refine mt_getU (i := 10) (k := 0) (A := 1) hT dX6_fewest_1 rfl rl_0 (by decide) rfl (by decide) rfl un_31 (mpp 4 rfl ?_)
  refine mp_a (a_iload_n dX6_fewest_4 rfl) (mpp 5 rfl ?_)
  refine mt_callv (i := 94) (q' := q_9) (As := [.int t1]) (rest := []) hT dX6_fewest_5 rfl qm_9 (by decide) rfl rl_1 (by decide) rfl (Nat.le_of_ble_eq_true rfl) rfl ⟨rfl, rfl⟩ ⟨Nat.le_of_ble_eq_true rfl, Nat.le_of_ble_eq_true rfl⟩ (EvP.mono (by decide) (c_CS_pieceAt_NState hT hX )) (fun r1 P2 g3 => mpp 8 rfl ?_)
  obtain ⟨g3, e4⟩ := g3
  have e4 := e4.symm
  subst e4
  rcases g3 with ⟨rfl, q6n⟩ | ⟨b5, rfl, q6, q6r⟩
  · show MEvP _ none q_80 8 [(0, .ref 0), (1, .int t1)] [.null] _ _ _ _
    have q6n : t1.toInt < 0 ∨ (fv Po 1 1).toInt ≤ t1.toInt ∨ 8 ≤ t1.toInt := q6n
    have g7 : (0 : Int) ≤ (fv Po 1 1).toInt ∧ (fv Po 1 1).toInt ≤ 8 := Typ.rng hT rl_1 (by decide) (by decide) rfl
    refine mp_a (a_astore_nN (L' := [(2, .null), (0, .ref 0), (1, .int t1)]) dX6_fewest_8 (by decide) rfl) (mpp 9 rfl ?_)
    refine mp_a (a_aload_nN dX6_fewest_9 rfl) (mpp 10 rfl ?_)
    refine mp_t (s_ifnonnullN dX6_fewest_10) (mpp 13 rfl ?_)
    refine mp_a (a_sipush (v := -1001) dX6_fewest_13 rfl) (mpp 16 rfl ?_)
    refine mp_a (a_goto (t := 27) dX6_fewest_16 (by decide)) ?_
    exact mp_iret ⟨⟨_, rfl, trivial⟩, hT, KW.refl, trivial⟩ dX6_fewest_27 (Or.inl rfl)
  · show MEvP _ none q_80 8 [(0, .ref 0), (1, .int t1)] [.ref b5] _ _ _ _
    have q6r : 0 ≤ t1.toInt ∧ t1.toInt ≤ 7 ∧ t1.toInt + 1 ≤ (fv Po 1 1).toInt ∧ rv Po 2 t1.toInt.toNat = b5 := q6r
    have g8 : (0 : Int) ≤ (fv Po 1 1).toInt ∧ (fv Po 1 1).toInt ≤ 8 := Typ.rng hT rl_1 (by decide) (by decide) rfl
    have w9 := np_ar q6
    refine mp_a (a_astore_n (L' := [(2, .ref b5), (0, .ref 0), (1, .int t1)]) dX6_fewest_8 (by decide) rfl) (mpp 9 rfl ?_)
    refine mp_a (a_aload_n dX6_fewest_9 rfl) (mpp 10 rfl ?_)
    refine mp_t (s_ifnonnullR (t := 19) dX6_fewest_10 (by decide)) ?_
    refine mp_a (a_aload_n dX6_fewest_19 rfl) (mpp 20 rfl ?_)
    refine mt_getU (i := 39) (k := 5) (A := 291) hT dX6_fewest_20 rfl rl_0 (by decide) rfl (by decide) rfl un_10 (mpp 23 rfl ?_)
    refine mp_a (a_aload_n dX6_fewest_23 rfl) (mpp 24 rfl ?_)
    refine mt_callv (i := 200) (q' := q_81) (As := [.ref b5]) (rest := []) hT dX6_fewest_24 rfl qm_81 (by decide) rfl rl_291 (by decide) rfl (Nat.le_of_ble_eq_true rfl) rfl ⟨rfl, rfl⟩ ⟨Nat.le_of_ble_eq_true rfl, Nat.le_of_ble_eq_true rfl⟩ (EvP.mono (by decide) (c_CR_fewestChanges_Reducer_NPiece hT hX q6)) (fun r10 P11 g12 => mpp 27 rfl ?_)
    obtain ⟨⟨x13, rfl, g14⟩, hT15, k16, R17⟩ := g12
    have k18 : KW [640, 641, 704, 768] Po P11 := KW.trans KW.refl k16 rfl
    have wx13 := ti_full x13
    show MEvP _ none q_80 27 [(2, .ref b5), (0, .ref 0), (1, .int t1)] [.int x13] _ _ _ _
    exact mp_iret ⟨⟨_, rfl, trivial⟩, hT15, k18, trivial⟩ dX6_fewest_27 (Or.inl rfl)

set_option maxHeartbeats 4000000 in
theorem c_F_place {Po : mP} {t1 : Int32} {t2 : Int32} (hT : Typ Po) (hX : XR Po)   : EvP 3 82 [.ref 0, .int t1, .int t2] Po (fun r P' => (∃ x : Int32, r = some (.int x) ∧ (True)) ∧ P' = Po) := by
  refine EvP.of qm_82 (Nat.le_of_ble_eq_true rfl) rfl ?_
  show MEvP _ none q_82 0 [(0, .ref 0), (1, .int t1), (2, .int t2)] [] _ 0 0 _
  refine mp_a (a_aload_n dX6_place_0 rfl) (mpp 1 rfl ?_)
  refine mt_getU (i := 10) (k := 0) (A := 1) hT dX6_place_1 rfl rl_0 (by decide) rfl (by decide) rfl un_31 (mpp 4 rfl ?_)
  refine mp_a (a_iload_n dX6_place_4 rfl) (mpp 5 rfl ?_)
  refine mt_callv (i := 94) (q' := q_9) (As := [.int t1]) (rest := []) hT dX6_place_5 rfl qm_9 (by decide) rfl rl_1 (by decide) rfl (Nat.le_of_ble_eq_true rfl) rfl ⟨rfl, rfl⟩ ⟨Nat.le_of_ble_eq_true rfl, Nat.le_of_ble_eq_true rfl⟩ (EvP.mono (by decide) (c_CS_pieceAt_NState hT hX )) (fun r1 P2 g3 => mpp 8 rfl ?_)
  obtain ⟨g3, e4⟩ := g3
  have e4 := e4.symm
  subst e4
  rcases g3 with ⟨rfl, q6n⟩ | ⟨b5, rfl, q6, q6r⟩
  · show MEvP _ none q_82 8 [(0, .ref 0), (1, .int t1), (2, .int t2)] [.null] _ _ _ _
    have q6n : t1.toInt < 0 ∨ (fv Po 1 1).toInt ≤ t1.toInt ∨ 8 ≤ t1.toInt := q6n
    have g7 : (0 : Int) ≤ (fv Po 1 1).toInt ∧ (fv Po 1 1).toInt ≤ 8 := Typ.rng hT rl_1 (by decide) (by decide) rfl
    refine mp_a (a_astore_nN (L' := [(3, .null), (0, .ref 0), (1, .int t1), (2, .int t2)]) dX6_place_8 (by decide) rfl) (mpp 9 rfl ?_)
    refine mp_a (a_aload_nN dX6_place_9 rfl) (mpp 10 rfl ?_)
    refine mp_t (s_ifnonnullN dX6_place_10) (mpp 13 rfl ?_)
    refine mp_a (a_sipush (v := -1001) dX6_place_13 rfl) (mpp 16 rfl ?_)
    exact mp_iret ⟨⟨_, rfl, trivial⟩, rfl⟩ dX6_place_16 (Or.inl rfl)
  · show MEvP _ none q_82 8 [(0, .ref 0), (1, .int t1), (2, .int t2)] [.ref b5] _ _ _ _
    have q6r : 0 ≤ t1.toInt ∧ t1.toInt ≤ 7 ∧ t1.toInt + 1 ≤ (fv Po 1 1).toInt ∧ rv Po 2 t1.toInt.toNat = b5 := q6r
    have g8 : (0 : Int) ≤ (fv Po 1 1).toInt ∧ (fv Po 1 1).toInt ≤ 8 := Typ.rng hT rl_1 (by decide) (by decide) rfl
    have w9 := np_ar q6
    refine mp_a (a_astore_n (L' := [(3, .ref b5), (0, .ref 0), (1, .int t1), (2, .int t2)]) dX6_place_8 (by decide) rfl) (mpp 9 rfl ?_)
    refine mp_a (a_aload_n dX6_place_9 rfl) (mpp 10 rfl ?_)
    refine mp_t (s_ifnonnullR (t := 17) dX6_place_10 (by decide)) ?_
    refine mp_a (a_aload_n dX6_place_17 rfl) (mpp 18 rfl ?_)
    have g10 := ti_full (fv Po b5 0)
    refine mt_getI (i := 130) (k := 0) hT dX6_place_18 rfl q6 (by decide) rfl (by decide) rfl (fun g11 g12 => mpp 21 rfl ?_)
    refine mp_Tb (t := 28) (j_if_eq dX6_place_21) (by decide) (fun c13 => ?_) (fun c13 => mpp 24 rfl ?_)
    · have c13 : (fv Po b5 0).toInt = 0 := ti_eq c13
      refine mp_a (a_iload_n dX6_place_28 rfl) (mpp 29 rfl ?_)
      refine mp_Tb (t := 40) (j_if_lt dX6_place_29) (by decide) (fun c14 => ?_) (fun c14 => mpp 32 rfl ?_)
      · have c14 : t2.toInt < 0 := ti_lt c14
        refine mp_a (a_sipush (v := -1001) dX6_place_40 rfl) (mpp 43 rfl ?_)
        exact mp_iret ⟨⟨_, rfl, trivial⟩, rfl⟩ dX6_place_43 (Or.inl rfl)
      · have c14 : t2.toInt ≥ 0 := ti_lt_n c14
        refine mp_a (a_iload_n dX6_place_32 rfl) (mpp 33 rfl ?_)
        refine mp_a (a_aload_n dX6_place_33 rfl) (mpp 34 rfl ?_)
        have g15 : (0 : Int) ≤ (fv Po b5 1).toInt ∧ (fv Po b5 1).toInt ≤ 8 := Typ.rng hT q6 (by decide) (by decide) rfl
        refine mt_getI (i := 143) (k := 1) hT dX6_place_34 rfl q6 (by decide) rfl (by decide) rfl (fun g16 g17 => mpp 37 rfl ?_)
        refine mp_Tb (t := 44) (j_icmp_le dX6_place_37) (by decide) (fun c18 => ?_) (fun c18 => mpp 40 rfl ?_)
        · have c18 : t2.toInt ≤ (fv Po b5 1).toInt := ti_le c18
          refine mp_a (a_aload_n dX6_place_44 rfl) (mpp 45 rfl ?_)
          refine mp_a (a_iload_n dX6_place_45 rfl) (mpp 46 rfl ?_)
          refine mt_callv (i := 203) (q' := q_13) (As := [.int t2]) (rest := []) hT dX6_place_46 rfl qm_13 (by decide) rfl q6 (by decide) rfl (Nat.le_of_ble_eq_true rfl) rfl ⟨rfl, rfl⟩ ⟨Nat.le_of_ble_eq_true rfl, Nat.le_of_ble_eq_true rfl⟩ (EvP.mono (by decide) (c_CP_placeOf_NPiece hT hX q6)) (fun r19 P20 g21 => mpp 49 rfl ?_)
          obtain ⟨⟨x22, rfl, g23⟩, e24⟩ := g21
          have e24 := e24.symm
          subst e24
          have wx22 := ti_full x22
          show MEvP _ none q_82 49 [(3, .ref b5), (0, .ref 0), (1, .int t1), (2, .int t2)] [.int x22] _ _ _ _
          exact mp_iret ⟨⟨_, rfl, trivial⟩, rfl⟩ dX6_place_49 (Or.inl rfl)
        · have c18 : t2.toInt > (fv Po b5 1).toInt := ti_le_n c18
          refine mp_a (a_sipush (v := -1001) dX6_place_40 rfl) (mpp 43 rfl ?_)
          exact mp_iret ⟨⟨_, rfl, trivial⟩, rfl⟩ dX6_place_43 (Or.inl rfl)
    · have c13 : (fv Po b5 0).toInt ≠ 0 := ti_eq_n c13
      refine mp_a (a_sipush (v := -1002) dX6_place_24 rfl) (mpp 27 rfl ?_)
      exact mp_iret ⟨⟨_, rfl, trivial⟩, rfl⟩ dX6_place_27 (Or.inl rfl)

