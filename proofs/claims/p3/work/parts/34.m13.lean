/-! methods on typed pools, 13 (written by a program) -/
set_option maxHeartbeats 4000000 in
theorem c_F_step {Po : mP} {t1 : Int32} (hT : Typ Po) (hX : XR Po)   : EvP 4 73 [.ref 0, .int t1] Po (fun r P' => (∃ x : Int32, r = some (.int x) ∧ (True)) ∧ Typ P' ∧ KW [640, 641, 704, 768] Po P' ∧ True) := by
  refine EvP.of qm_73 (Nat.le_of_ble_eq_true rfl) rfl ?_
  show MEvP _ none q_73 0 [(0, .ref 0), (1, .int t1)] [] _ 0 0 _
  have w_t1 := ti_full t1
  refine mp_a (a_aload_n dX6_step_0 rfl) (mpp 1 rfl ?_)
  refine mt_getU (i := 10) (k := 0) (A := 1) hT dX6_step_1 rfl rl_0 (by decide) rfl (by decide) rfl un_31 (mpp 4 rfl ?_)
  refine mp_a (a_iload_n dX6_step_4 rfl) (mpp 5 rfl ?_)
  refine mt_callv (i := 94) (q' := q_9) (As := [.int t1]) (rest := []) hT dX6_step_5 rfl qm_9 (by decide) rfl rl_1 (by decide) rfl (Nat.le_of_ble_eq_true rfl) rfl ⟨rfl, rfl⟩ ⟨Nat.le_of_ble_eq_true rfl, Nat.le_of_ble_eq_true rfl⟩ (EvP.mono (by decide) (c_CS_pieceAt_NState hT hX )) (fun r1 P2 g3 => mpp 8 rfl ?_)
  obtain ⟨g3, e4⟩ := g3
  have e4 := e4.symm
  subst e4
  rcases g3 with ⟨rfl, q6n⟩ | ⟨b5, rfl, q6, q6r⟩
  · show MEvP _ none q_73 8 [(0, .ref 0), (1, .int t1)] [.null] _ _ _ _
    replace q6n : t1.toInt < 0 ∨ (fv Po 1 1).toInt ≤ t1.toInt ∨ 8 ≤ t1.toInt := q6n
    have g7 : (0 : Int) ≤ (fv Po 1 1).toInt ∧ (fv Po 1 1).toInt ≤ 8 := Typ.rng hT rl_1 (by decide) (by decide) rfl
    refine mp_a (a_astore_nN (L' := [(2, .null), (0, .ref 0), (1, .int t1)]) dX6_step_8 (by decide) rfl) (mpp 9 rfl ?_)
    refine mp_a (a_aload_nN dX6_step_9 rfl) (mpp 10 rfl ?_)
    refine mp_t (s_ifnonnullN dX6_step_10) (mpp 13 rfl ?_)
    refine mp_a (a_sipush (v := -1001) dX6_step_13 rfl) (mpp 16 rfl ?_)
    exact mp_iret ⟨⟨_, rfl, trivial⟩, hT, KW.refl, trivial⟩ dX6_step_16 (Or.inl rfl)
  · show MEvP _ none q_73 8 [(0, .ref 0), (1, .int t1)] [.ref b5] _ _ _ _
    replace q6r : 0 ≤ t1.toInt ∧ t1.toInt ≤ 7 ∧ t1.toInt + 1 ≤ (fv Po 1 1).toInt ∧ rv Po 2 t1.toInt.toNat = b5 := q6r
    have g8 : (0 : Int) ≤ (fv Po 1 1).toInt ∧ (fv Po 1 1).toInt ≤ 8 := Typ.rng hT rl_1 (by decide) (by decide) rfl
    have w9 := np_ar q6
    refine mp_a (a_astore_n (L' := [(2, .ref b5), (0, .ref 0), (1, .int t1)]) dX6_step_8 (by decide) rfl) (mpp 9 rfl ?_)
    refine mp_a (a_aload_n dX6_step_9 rfl) (mpp 10 rfl ?_)
    refine mp_t (s_ifnonnullR (t := 17) dX6_step_10 (by decide)) ?_
    refine mp_a (a_aload_n dX6_step_17 rfl) (mpp 18 rfl ?_)
    refine mt_callv (i := 159) (q' := q_42) (As := []) (rest := []) hT dX6_step_18 rfl qm_42 (by decide) rfl q6 (by decide) rfl (Nat.le_of_ble_eq_true rfl) rfl ⟨rfl, rfl⟩ ⟨Nat.le_of_ble_eq_true rfl, Nat.le_of_ble_eq_true rfl⟩ (EvP.mono (by decide) (c_CP_isUndecided_NPiece hT hX q6)) (fun r10 P11 g12 => mpp 21 rfl ?_)
    obtain ⟨⟨x13, rfl, g14⟩, e15⟩ := g12
    have e15 := e15.symm
    subst e15
    have wx13 := ti_full x13
    replace g14 : 0 ≤ x13.toInt ∧ x13.toInt ≤ 1 ∧ ((x13.toInt = 1 ∧ 1 ≤ cntF (fun j : Nat => fv Po (b5 + 2) j) 0 (nC (fv Po b5 0).toInt (fv Po b5 1).toInt)) ∨ (x13.toInt = 0 ∧ cntF (fun j : Nat => fv Po (b5 + 2) j) 0 (nC (fv Po b5 0).toInt (fv Po b5 1).toInt) = 0)) := g14
    have g16 := ti_full (fv Po b5 0)
    have g17 : (0 : Int) ≤ (fv Po b5 1).toInt ∧ (fv Po b5 1).toInt ≤ 8 := Typ.rng hT q6 (by decide) (by decide) rfl
    show MEvP _ none q_73 21 [(2, .ref b5), (0, .ref 0), (1, .int t1)] [.int x13] _ _ _ _
    refine mp_Tb (t := 28) (j_if_eq dX6_step_21) (by decide) (fun c18 => ?_) (fun c18 => mpp 24 rfl ?_)
    · have c18 : x13.toInt = 0 := ti_eq c18
      refine mp_a (a_aload_n dX6_step_28 rfl) (mpp 29 rfl ?_)
      refine mt_getU (i := 39) (k := 5) (A := 291) hT dX6_step_29 rfl rl_0 (by decide) rfl (by decide) rfl un_10 (mpp 32 rfl ?_)
      refine mp_a (a_aload_n dX6_step_32 rfl) (mpp 33 rfl ?_)
      have p19 : b5 ≤ 288 ∨ 298 ≤ b5 := by omega
      refine mt_callv (i := 188) (q' := q_45) (As := [.ref b5]) (rest := []) hT dX6_step_33 rfl qm_45 (by decide) rfl rl_291 (by decide) rfl (Nat.le_of_ble_eq_true rfl) rfl ⟨rfl, rfl⟩ ⟨Nat.le_of_ble_eq_true rfl, Nat.le_of_ble_eq_true rfl⟩ (EvP.mono (by decide) (c_CR_load_Reducer_NPiece hT hX p19 q6)) (fun r20 P21 g22 => mpp 36 rfl ?_)
      obtain ⟨⟨rfl, g24⟩, hT25, k26, R27⟩ := g22
      have k28 : KW [640, 641, 704, 768] Po P21 := KW.trans KW.refl k26 rfl
      show MEvP _ none q_73 36 [(2, .ref b5), (0, .ref 0), (1, .int t1)] [] _ _ _ _
      refine mp_a (a_aload_n dX6_step_36 rfl) (mpp 37 rfl ?_)
      refine mt_getU (i := 39) (k := 5) (A := 291) hT25 dX6_step_37 rfl rl_0 (by decide) rfl (by decide) rfl un_10 (mpp 40 rfl ?_)
      refine mt_callv (i := 191) (q' := q_52) (As := []) (rest := []) hT25 dX6_step_40 rfl qm_52 (by decide) rfl rl_291 (by decide) rfl (Nat.le_of_ble_eq_true rfl) rfl ⟨rfl, rfl⟩ ⟨Nat.le_of_ble_eq_true rfl, Nat.le_of_ble_eq_true rfl⟩ (EvP.mono (by decide) (c_CR_firstStep_Reducer hT25 (KW.xr k28 hX) )) (fun r30 P31 g32 => mpp 43 rfl ?_)
      obtain ⟨⟨x33, rfl, g34⟩, e35⟩ := g32
      have e35 := e35.symm
      subst e35
      have wx33 := ti_full x33
      replace g34 : (x33.toInt = 0 ∨ 2 ≤ (fv P21 291 1).toInt) ∧ FS cC (rC P21) x33.toInt := g34
      have g36 : (0 : Int) ≤ (fv P21 291 1).toInt ∧ (fv P21 291 1).toInt ≤ 8 := Typ.rng hT25 rl_291 (by decide) (by decide) rfl
      show MEvP _ none q_73 43 [(2, .ref b5), (0, .ref 0), (1, .int t1)] [.int x33] _ _ _ _
      refine mp_a (a_istore_n (L' := [(3, .int x33), (2, .ref b5), (0, .ref 0), (1, .int t1)]) dX6_step_43 (by decide) rfl) (mpp 44 rfl ?_)
      refine mp_a (a_iload_n dX6_step_44 rfl) (mpp 45 rfl ?_)
      refine mp_Tb (t := 54) (j_if_ne dX6_step_45) (by decide) (fun c37 => ?_) (fun c37 => mpp 48 rfl ?_)
      · have c37 : x33.toInt ≠ 0 := ti_ne c37
        refine mp_a (a_iload_n dX6_step_54 rfl) (mpp 55 rfl ?_)
        exact mp_iret ⟨⟨_, rfl, trivial⟩, hT25, k28, trivial⟩ dX6_step_55 (Or.inl rfl)
      · have c37 : x33.toInt = 0 := ti_ne_n c37
        refine mp_a (a_sipush (v := -1004) dX6_step_48 rfl) (mpp 51 rfl ?_)
        refine mp_a (a_goto (t := 55) dX6_step_51 (by decide)) ?_
        exact mp_iret ⟨⟨_, rfl, trivial⟩, hT25, k28, trivial⟩ dX6_step_55 (Or.inl rfl)
    · have c18 : x13.toInt ≠ 0 := ti_eq_n c18
      refine mp_a (a_sipush (v := -1004) dX6_step_24 rfl) (mpp 27 rfl ?_)
      exact mp_iret ⟨⟨_, rfl, trivial⟩, hT, KW.refl, trivial⟩ dX6_step_27 (Or.inl rfl)

set_option maxHeartbeats 4000000 in
theorem c_F_steps {Po : mP} {t1 : Int32} (hT : Typ Po) (hX : XR Po)   : EvP 4 74 [.ref 0, .int t1] Po (fun r P' => (∃ x : Int32, r = some (.int x) ∧ (True)) ∧ Typ P' ∧ KW [640, 641, 704, 768] Po P' ∧ True) := by
  refine EvP.of qm_74 (Nat.le_of_ble_eq_true rfl) rfl ?_
  show MEvP _ none q_74 0 [(0, .ref 0), (1, .int t1)] [] _ 0 0 _
  have w_t1 := ti_full t1
  refine mp_a (a_aload_n dX6_steps_0 rfl) (mpp 1 rfl ?_)
  refine mt_getU (i := 10) (k := 0) (A := 1) hT dX6_steps_1 rfl rl_0 (by decide) rfl (by decide) rfl un_31 (mpp 4 rfl ?_)
  refine mp_a (a_iload_n dX6_steps_4 rfl) (mpp 5 rfl ?_)
  refine mt_callv (i := 94) (q' := q_9) (As := [.int t1]) (rest := []) hT dX6_steps_5 rfl qm_9 (by decide) rfl rl_1 (by decide) rfl (Nat.le_of_ble_eq_true rfl) rfl ⟨rfl, rfl⟩ ⟨Nat.le_of_ble_eq_true rfl, Nat.le_of_ble_eq_true rfl⟩ (EvP.mono (by decide) (c_CS_pieceAt_NState hT hX )) (fun r1 P2 g3 => mpp 8 rfl ?_)
  obtain ⟨g3, e4⟩ := g3
  have e4 := e4.symm
  subst e4
  rcases g3 with ⟨rfl, q6n⟩ | ⟨b5, rfl, q6, q6r⟩
  · show MEvP _ none q_74 8 [(0, .ref 0), (1, .int t1)] [.null] _ _ _ _
    replace q6n : t1.toInt < 0 ∨ (fv Po 1 1).toInt ≤ t1.toInt ∨ 8 ≤ t1.toInt := q6n
    have g7 : (0 : Int) ≤ (fv Po 1 1).toInt ∧ (fv Po 1 1).toInt ≤ 8 := Typ.rng hT rl_1 (by decide) (by decide) rfl
    refine mp_a (a_astore_nN (L' := [(2, .null), (0, .ref 0), (1, .int t1)]) dX6_steps_8 (by decide) rfl) (mpp 9 rfl ?_)
    refine mp_a (a_aload_nN dX6_steps_9 rfl) (mpp 10 rfl ?_)
    refine mp_t (s_ifnonnullN dX6_steps_10) (mpp 13 rfl ?_)
    refine mp_a (a_sipush (v := -1001) dX6_steps_13 rfl) (mpp 16 rfl ?_)
    exact mp_iret ⟨⟨_, rfl, trivial⟩, hT, KW.refl, trivial⟩ dX6_steps_16 (Or.inl rfl)
  · show MEvP _ none q_74 8 [(0, .ref 0), (1, .int t1)] [.ref b5] _ _ _ _
    replace q6r : 0 ≤ t1.toInt ∧ t1.toInt ≤ 7 ∧ t1.toInt + 1 ≤ (fv Po 1 1).toInt ∧ rv Po 2 t1.toInt.toNat = b5 := q6r
    have g8 : (0 : Int) ≤ (fv Po 1 1).toInt ∧ (fv Po 1 1).toInt ≤ 8 := Typ.rng hT rl_1 (by decide) (by decide) rfl
    have w9 := np_ar q6
    refine mp_a (a_astore_n (L' := [(2, .ref b5), (0, .ref 0), (1, .int t1)]) dX6_steps_8 (by decide) rfl) (mpp 9 rfl ?_)
    refine mp_a (a_aload_n dX6_steps_9 rfl) (mpp 10 rfl ?_)
    refine mp_t (s_ifnonnullR (t := 17) dX6_steps_10 (by decide)) ?_
    refine mp_a (a_aload_n dX6_steps_17 rfl) (mpp 18 rfl ?_)
    refine mt_callv (i := 159) (q' := q_42) (As := []) (rest := []) hT dX6_steps_18 rfl qm_42 (by decide) rfl q6 (by decide) rfl (Nat.le_of_ble_eq_true rfl) rfl ⟨rfl, rfl⟩ ⟨Nat.le_of_ble_eq_true rfl, Nat.le_of_ble_eq_true rfl⟩ (EvP.mono (by decide) (c_CP_isUndecided_NPiece hT hX q6)) (fun r10 P11 g12 => mpp 21 rfl ?_)
    obtain ⟨⟨x13, rfl, g14⟩, e15⟩ := g12
    have e15 := e15.symm
    subst e15
    have wx13 := ti_full x13
    replace g14 : 0 ≤ x13.toInt ∧ x13.toInt ≤ 1 ∧ ((x13.toInt = 1 ∧ 1 ≤ cntF (fun j : Nat => fv Po (b5 + 2) j) 0 (nC (fv Po b5 0).toInt (fv Po b5 1).toInt)) ∨ (x13.toInt = 0 ∧ cntF (fun j : Nat => fv Po (b5 + 2) j) 0 (nC (fv Po b5 0).toInt (fv Po b5 1).toInt) = 0)) := g14
    have g16 := ti_full (fv Po b5 0)
    have g17 : (0 : Int) ≤ (fv Po b5 1).toInt ∧ (fv Po b5 1).toInt ≤ 8 := Typ.rng hT q6 (by decide) (by decide) rfl
    show MEvP _ none q_74 21 [(2, .ref b5), (0, .ref 0), (1, .int t1)] [.int x13] _ _ _ _
    refine mp_Tb (t := 28) (j_if_eq dX6_steps_21) (by decide) (fun c18 => ?_) (fun c18 => mpp 24 rfl ?_)
    · have c18 : x13.toInt = 0 := ti_eq c18
      refine mp_a (a_aload_n dX6_steps_28 rfl) (mpp 29 rfl ?_)
      refine mt_getU (i := 39) (k := 5) (A := 291) hT dX6_steps_29 rfl rl_0 (by decide) rfl (by decide) rfl un_10 (mpp 32 rfl ?_)
      refine mp_a (a_aload_n dX6_steps_32 rfl) (mpp 33 rfl ?_)
      have p19 : b5 ≤ 288 ∨ 298 ≤ b5 := by omega
      refine mt_callv (i := 188) (q' := q_45) (As := [.ref b5]) (rest := []) hT dX6_steps_33 rfl qm_45 (by decide) rfl rl_291 (by decide) rfl (Nat.le_of_ble_eq_true rfl) rfl ⟨rfl, rfl⟩ ⟨Nat.le_of_ble_eq_true rfl, Nat.le_of_ble_eq_true rfl⟩ (EvP.mono (by decide) (c_CR_load_Reducer_NPiece hT hX p19 q6)) (fun r20 P21 g22 => mpp 36 rfl ?_)
      obtain ⟨⟨rfl, g24⟩, hT25, k26, R27⟩ := g22
      have k28 : KW [640, 641, 704, 768] Po P21 := KW.trans KW.refl k26 rfl
      show MEvP _ none q_74 36 [(2, .ref b5), (0, .ref 0), (1, .int t1)] [] _ _ _ _
      refine mp_a (a_aload_n dX6_steps_36 rfl) (mpp 37 rfl ?_)
      refine mt_getU (i := 39) (k := 5) (A := 291) hT25 dX6_steps_37 rfl rl_0 (by decide) rfl (by decide) rfl un_10 (mpp 40 rfl ?_)
      have g30 : (0 : Int) ≤ (fv P21 291 1).toInt ∧ (fv P21 291 1).toInt ≤ 8 := Typ.rng hT25 rl_291 (by decide) (by decide) rfl
      have p31 : (fv P21 291 1).toInt ≤ 8 := by omega
      refine mt_callv (i := 194) (q' := q_51) (As := []) (rest := []) hT25 dX6_steps_40 rfl qm_51 (by decide) rfl rl_291 (by decide) rfl (Nat.le_of_ble_eq_true rfl) rfl ⟨rfl, rfl⟩ ⟨Nat.le_of_ble_eq_true rfl, Nat.le_of_ble_eq_true rfl⟩ (EvP.mono (by decide) (c_CR_reduce_Reducer hT25 (KW.xr k28 hX) p31 )) (fun r32 P33 g34 => mpp 43 rfl ?_)
      obtain ⟨⟨x35, rfl, g36⟩, hT37, k38, R39⟩ := g34
      have k40 : KW [640, 641, 704, 768] Po P33 := KW.trans k28 k38 rfl
      have wx35 := ti_full x35
      replace g36 : 0 ≤ x35.toInt ∧ RD cC (rC P21) x35.toInt.toNat (rC P33) := g36
      show MEvP _ none q_74 43 [(2, .ref b5), (0, .ref 0), (1, .int t1)] [.int x35] _ _ _ _
      exact mp_iret ⟨⟨_, rfl, trivial⟩, hT37, k40, trivial⟩ dX6_steps_43 (Or.inl rfl)
    · have c18 : x13.toInt ≠ 0 := ti_eq_n c18
      refine mp_a (a_sipush (v := -1004) dX6_steps_24 rfl) (mpp 27 rfl ?_)
      exact mp_iret ⟨⟨_, rfl, trivial⟩, hT, KW.refl, trivial⟩ dX6_steps_27 (Or.inl rfl)

set_option maxHeartbeats 4000000 in
theorem c_CR_kindIn {Po : mP} {t0 : Int32} {t1 : Int32} (hT : Typ Po) (hX : XR Po)   : EvP 1 78 [.int t0, .int t1] Po (fun r P' => (∃ x : Int32, r = some (.int x) ∧ (True)) ∧ P' = Po) := by
  refine EvP.of qm_78 (Nat.le_of_ble_eq_true rfl) rfl ?_
  show MEvP _ none q_78 0 [(0, .int t0), (1, .int t1)] [] _ 0 0 _
  have w_t0 := ti_full t0
  have w_t1 := ti_full t1
  refine mp_a (a_iload_n dX3_kindIn_0 rfl) (mpp 1 rfl ?_)
  refine mp_a (a_iload_n dX3_kindIn_1 rfl) (mpp 2 rfl ?_)
  obtain ⟨z1, h2⟩ := ti_ex (t0 >>> (t1 &&& 31) : Int32)
  have wz1 := ti_full z1
  refine mp_t (s_ishr (v := z1) dX3_kindIn_2 h2) (mpp 3 rfl ?_)
  refine mp_a (a_iconst (v := 1) dX3_kindIn_3 rfl) (mpp 4 rfl ?_)
  obtain ⟨z3, h4⟩ := ti_ex (z1 &&& 1 : Int32)
  have wz3 := ti_full z3
  refine mp_t (s_iand (v := z3) dX3_kindIn_4 h4) (mpp 5 rfl ?_)
  refine mp_Tb (t := 12) (j_if_ne dX3_kindIn_5) (by decide) (fun c5 => ?_) (fun c5 => mpp 8 rfl ?_)
  · have c5 : z3.toInt ≠ 0 := ti_ne c5
    refine mp_a (a_iconst (v := 2) dX3_kindIn_12 rfl) (mpp 13 rfl ?_)
    exact mp_iret ⟨⟨_, rfl, trivial⟩, rfl⟩ dX3_kindIn_13 (Or.inl rfl)
  · have c5 : z3.toInt = 0 := ti_ne_n c5
    refine mp_a (a_iconst (v := 1) dX3_kindIn_8 rfl) (mpp 9 rfl ?_)
    refine mp_a (a_goto (t := 13) dX3_kindIn_9 (by decide)) ?_
    exact mp_iret ⟨⟨_, rfl, trivial⟩, rfl⟩ dX3_kindIn_13 (Or.inl rfl)

set_option maxHeartbeats 4000000 in
theorem c_CR_changesTo_NPiece_l4 {Po : mP} {a0_ : Nat} {t1 : Int32} (hT : Typ Po) (hX : XR Po)  (ha0 : rl a0_ = 33) : ∀ (n : Nat) (v2 : Int32) (v3 : Int32), (0 ≤ v3.toInt) → (2147483647 - v3.toInt).toNat = n → MEvP 1 none q_77 4 [(0, .ref a0_), (1, .int t1), (2, .int v2), (3, .int v3)] [] Po 0 0 (fun r P' => (∃ x : Int32, r = some (.int x) ∧ (True)) ∧ P' = Po) := by
  intro n
  induction n using Nat.strongRecOn with | _ n ih => ?_
  intro v2 v3 i_0 hm
  have w1 := np_ar ha0
  have w_t1 := ti_full t1
  have w_v2 := ti_full v2
  have w_v3 := ti_full v3
  refine mp_a (a_iload_n dX3_changesTo_4 rfl) (mpp 5 rfl ?_)
  refine mp_a (a_aload_n dX3_changesTo_5 rfl) (mpp 6 rfl ?_)
  refine mt_callv (i := 34) (q' := q_25) (As := []) (rest := [.int v3]) hT dX3_changesTo_6 rfl qm_25 (by decide) rfl ha0 (by decide) rfl (Nat.le_of_ble_eq_true rfl) rfl ⟨rfl, rfl⟩ ⟨Nat.le_of_ble_eq_true rfl, Nat.le_of_ble_eq_true rfl⟩ (EvP.mono (by decide) (c_CP_creaseCount_NPiece hT hX ha0)) (fun r2 P3 g4 => mpp 9 rfl ?_)
  obtain ⟨⟨x5, rfl, g6⟩, e7⟩ := g4
  have e7 := e7.symm
  subst e7
  have wx5 := ti_full x5
  replace g6 : -1 ≤ x5.toInt ∧ x5.toInt ≤ (fv Po a0_ 1).toInt ∧ (((fv Po a0_ 0).toInt = 0 ∧ x5.toInt = (fv Po a0_ 1).toInt - 1) ∨ ((fv Po a0_ 0).toInt ≠ 0 ∧ x5.toInt = (fv Po a0_ 1).toInt)) := g6
  have g8 : (0 : Int) ≤ (fv Po a0_ 1).toInt ∧ (fv Po a0_ 1).toInt ≤ 8 := Typ.rng hT ha0 (by decide) (by decide) rfl
  have g9 := ti_full (fv Po a0_ 0)
  show MEvP _ none q_77 9 [(0, .ref a0_), (1, .int t1), (2, .int v2), (3, .int v3)] [.int x5, .int v3] _ _ _ _
  refine mp_Tb (t := 46) (j_icmp_ge dX3_changesTo_9) (by decide) (fun c10 => ?_) (fun c10 => mpp 12 rfl ?_)
  · have c10 : v3.toInt ≥ x5.toInt := ti_ge c10
    refine mp_a (a_iload_n dX3_changesTo_46 rfl) (mpp 47 rfl ?_)
    exact mp_iret ⟨⟨_, rfl, trivial⟩, rfl⟩ dX3_changesTo_47 (Or.inl rfl)
  · have c10 : v3.toInt < x5.toInt := ti_ge_n c10
    refine mp_a (a_aload_n dX3_changesTo_12 rfl) (mpp 13 rfl ?_)
    refine mt_getE (i := 38) (k := 4) hT dX3_changesTo_13 rfl ha0 (by decide) rfl (by decide) rfl (hX.1 a0_ (Or.inr ha0)).2 (fun q11 => mpp 16 rfl ?_)
    refine mp_a (a_iload_n dX3_changesTo_16 rfl) (mpp 17 rfl ?_)
    refine mp_calls (i := 39) (q' := q_12) (As := [.ref (a0_ + 2), .int v3]) (rest := []) dX3_changesTo_17 rfl qm_12 (by decide) rfl (Nat.le_of_ble_eq_true rfl) rfl ⟨rfl, rfl⟩ ⟨Nat.le_of_ble_eq_true rfl, Nat.le_of_ble_eq_true rfl⟩ (EvP.mono (by decide) (c_F_at_creases hT hX q11)) (fun r12 P13 g14 => mpp 20 rfl ?_)
    obtain ⟨⟨x15, rfl, g16⟩, e17⟩ := g14
    have e17 := e17.symm
    subst e17
    have wx15 := ti_full x15
    replace g16 : (0 ≤ v3.toInt ∧ v3.toInt ≤ 7 ∧ x15.toInt = (fv Po (a0_ + 2) v3.toInt.toNat).toInt) ∨ ((v3.toInt < 0 ∨ 8 ≤ v3.toInt) ∧ x15.toInt = 0) := g16
    try replace g16 : x15.toInt = (fv Po (a0_ + 2) v3.toInt.toNat).toInt := (g16.resolve_right (by omega)).2.2
    show MEvP _ none q_77 20 [(0, .ref a0_), (1, .int t1), (2, .int v2), (3, .int v3)] [.int x15] _ _ _ _
    refine mp_a (a_istore (L' := [(4, .int x15), (0, .ref a0_), (1, .int t1), (2, .int v2), (3, .int v3)]) dX3_changesTo_20 (by decide) rfl) (mpp 22 rfl ?_)
    refine mp_a (a_iload dX3_changesTo_22 rfl) (mpp 24 rfl ?_)
    refine mp_Tb (t := 40) (j_if_eq dX3_changesTo_24) (by decide) (fun c18 => ?_) (fun c18 => mpp 27 rfl ?_)
    · have c18 : x15.toInt = 0 := ti_eq c18
      obtain ⟨z19, h20⟩ := ti_ex (v3 + 1 : Int32)
      have wz19 := ti_full z19
      refine mp_a (a_iinc (v := z19) (L' := [(3, .int z19), (4, .int x15), (0, .ref a0_), (1, .int t1), (2, .int v2)]) dX3_changesTo_40 (by decide) rfl h20 rfl) (mpp 43 rfl ?_)
      try have e21 : z19.toInt = v3.toInt + 1 := ti_addz h20 rfl rfl (by omega) (by omega)
      refine mp_a (a_goto (t := 4) dX3_changesTo_43 (by decide)) ?_
      refine MEvP.less (L := [(0, .ref a0_), (1, .int t1), (2, .int v2), (3, .int z19)]) rfl rfl ⟨rfl, rfl, rfl, rfl, trivial⟩ ?_
      have i22 : 0 ≤ z19.toInt := by omega
      exact ih _ (by omega) _ _ i22 rfl
    · have c18 : x15.toInt ≠ 0 := ti_eq_n c18
      refine mp_a (a_iload dX3_changesTo_27 rfl) (mpp 29 rfl ?_)
      refine mp_a (a_iload_n dX3_changesTo_29 rfl) (mpp 30 rfl ?_)
      refine mp_a (a_iload_n dX3_changesTo_30 rfl) (mpp 31 rfl ?_)
      refine mp_calls (i := 94) (q' := q_78) (As := [.int t1, .int v3]) (rest := [.int x15]) dX3_changesTo_31 rfl qm_78 (by decide) rfl (Nat.le_of_ble_eq_true rfl) rfl ⟨rfl, rfl⟩ ⟨Nat.le_of_ble_eq_true rfl, Nat.le_of_ble_eq_true rfl⟩ (EvP.mono (by decide) (c_CR_kindIn hT hX )) (fun r23 P24 g25 => mpp 34 rfl ?_)
      obtain ⟨⟨x26, rfl, g27⟩, e28⟩ := g25
      have e28 := e28.symm
      subst e28
      have wx26 := ti_full x26
      show MEvP _ none q_77 34 [(4, .int x15), (0, .ref a0_), (1, .int t1), (2, .int v2), (3, .int v3)] [.int x26, .int x15] _ _ _ _
      refine mp_Tb (t := 40) (j_icmp_eq dX3_changesTo_34) (by decide) (fun c29 => ?_) (fun c29 => mpp 37 rfl ?_)
      · have c29 : x15.toInt = x26.toInt := ti_eq c29
        obtain ⟨z30, h31⟩ := ti_ex (v3 + 1 : Int32)
        have wz30 := ti_full z30
        refine mp_a (a_iinc (v := z30) (L' := [(3, .int z30), (4, .int x15), (0, .ref a0_), (1, .int t1), (2, .int v2)]) dX3_changesTo_40 (by decide) rfl h31 rfl) (mpp 43 rfl ?_)
        try have e32 : z30.toInt = v3.toInt + 1 := ti_addz h31 rfl rfl (by omega) (by omega)
        refine mp_a (a_goto (t := 4) dX3_changesTo_43 (by decide)) ?_
        refine MEvP.less (L := [(0, .ref a0_), (1, .int t1), (2, .int v2), (3, .int z30)]) rfl rfl ⟨rfl, rfl, rfl, rfl, trivial⟩ ?_
        have i33 : 0 ≤ z30.toInt := by omega
        exact ih _ (by omega) _ _ i33 rfl
      · have c29 : x15.toInt ≠ x26.toInt := ti_eq_n c29
        obtain ⟨z34, h35⟩ := ti_ex (v2 + 1 : Int32)
        have wz34 := ti_full z34
        refine mp_a (a_iinc (v := z34) (L' := [(2, .int z34), (4, .int x15), (0, .ref a0_), (1, .int t1), (3, .int v3)]) dX3_changesTo_37 (by decide) rfl h35 rfl) (mpp 40 rfl ?_)
        try have e36 : z34.toInt = v2.toInt + 1 := ti_addz h35 rfl rfl (by omega) (by omega)
        obtain ⟨z37, h38⟩ := ti_ex (v3 + 1 : Int32)
        have wz37 := ti_full z37
        refine mp_a (a_iinc (v := z37) (L' := [(3, .int z37), (2, .int z34), (4, .int x15), (0, .ref a0_), (1, .int t1)]) dX3_changesTo_40 (by decide) rfl h38 rfl) (mpp 43 rfl ?_)
        try have e39 : z37.toInt = v3.toInt + 1 := ti_addz h38 rfl rfl (by omega) (by omega)
        refine mp_a (a_goto (t := 4) dX3_changesTo_43 (by decide)) ?_
        refine MEvP.less (L := [(0, .ref a0_), (1, .int t1), (2, .int z34), (3, .int z37)]) rfl rfl ⟨rfl, rfl, rfl, rfl, trivial⟩ ?_
        have i40 : 0 ≤ z37.toInt := by omega
        exact ih _ (by omega) _ _ i40 rfl

set_option maxHeartbeats 4000000 in
theorem c_CR_changesTo_NPiece {Po : mP} {a0_ : Nat} {t1 : Int32} (hT : Typ Po) (hX : XR Po)  (ha0 : rl a0_ = 33) : EvP 2 77 [.ref a0_, .int t1] Po (fun r P' => (∃ x : Int32, r = some (.int x) ∧ (True)) ∧ P' = Po) := by
  refine EvP.of qm_77 (Nat.le_of_ble_eq_true rfl) rfl ?_
  show MEvP _ none q_77 0 [(0, .ref a0_), (1, .int t1)] [] _ 0 0 _
  have w1 := np_ar ha0
  have w_t1 := ti_full t1
  refine mp_a (a_iconst (v := 0) dX3_changesTo_0 rfl) (mpp 1 rfl ?_)
  refine mp_a (a_istore_n (L' := [(2, .int 0), (0, .ref a0_), (1, .int t1)]) dX3_changesTo_1 (by decide) rfl) (mpp 2 rfl ?_)
  refine mp_a (a_iconst (v := 0) dX3_changesTo_2 rfl) (mpp 3 rfl ?_)
  refine mp_a (a_istore_n (L' := [(3, .int 0), (2, .int 0), (0, .ref a0_), (1, .int t1)]) dX3_changesTo_3 (by decide) rfl) (mpp 4 rfl ?_)
  refine MEvP.less (L := [(0, .ref a0_), (1, .int t1), (2, .int 0), (3, .int 0)]) rfl rfl ⟨rfl, rfl, rfl, rfl, trivial⟩ ?_
  have i2 : 0 ≤ (0 : Int) := by omega
  exact c_CR_changesTo_NPiece_l4 hT hX  ha0 _ _ _ i2 rfl

set_option maxHeartbeats 4000000 in
theorem c_CR_foldsWith_Reducer_NPiece_l7 {Po : mP} {a1_ : Nat} {t2 : Int32} (hTo : Typ Po) (hX : XR Po) (ha1 : rl a1_ = 33) : ∀ (n : Nat) (v3 : Int32), ∀ (P : mP), Typ P → KW [640, 641, 704, 768] Po P → (0 ≤ v3.toInt) → (2147483647 - v3.toInt).toNat = n → MEvP 3 none q_79 7 [(0, .ref 291), (1, .ref a1_), (2, .int t2), (3, .int v3)] [] P 0 0 (fun r P' => (∃ x : Int32, r = some (.int x) ∧ (0 ≤ x.toInt ∧ x.toInt ≤ 1)) ∧ Typ P' ∧ KW [640, 641, 704, 768] Po P' ∧ True) := by
  intro n
  induction n using Nat.strongRecOn with | _ n ih => ?_
  intro v3 P hT hK i_0 hm
  have w1 := np_ar ha1
  have w_t2 := ti_full t2
  have w_v3 := ti_full v3
  refine mp_a (a_iload_n dX3_foldsWith_7 rfl) (mpp 8 rfl ?_)
  refine mp_a (a_aload_n dX3_foldsWith_8 rfl) (mpp 9 rfl ?_)
  refine mt_callv (i := 34) (q' := q_25) (As := []) (rest := [.int v3]) hT dX3_foldsWith_9 rfl qm_25 (by decide) rfl ha1 (by decide) rfl (Nat.le_of_ble_eq_true rfl) rfl ⟨rfl, rfl⟩ ⟨Nat.le_of_ble_eq_true rfl, Nat.le_of_ble_eq_true rfl⟩ (EvP.mono (by decide) (c_CP_creaseCount_NPiece hT (KW.xr hK hX) ha1)) (fun r2 P3 g4 => mpp 12 rfl ?_)
  obtain ⟨⟨x5, rfl, g6⟩, e7⟩ := g4
  have e7 := e7.symm
  subst e7
  have wx5 := ti_full x5
  replace g6 : -1 ≤ x5.toInt ∧ x5.toInt ≤ (fv P a1_ 1).toInt ∧ (((fv P a1_ 0).toInt = 0 ∧ x5.toInt = (fv P a1_ 1).toInt - 1) ∨ ((fv P a1_ 0).toInt ≠ 0 ∧ x5.toInt = (fv P a1_ 1).toInt)) := g6
  have g8 : (0 : Int) ≤ (fv P a1_ 1).toInt ∧ (fv P a1_ 1).toInt ≤ 8 := Typ.rng hT ha1 (by decide) (by decide) rfl
  have g9 := ti_full (fv P a1_ 0)
  show MEvP _ none q_79 12 [(0, .ref 291), (1, .ref a1_), (2, .int t2), (3, .int v3)] [.int x5, .int v3] _ _ _ _
  refine mp_Tb (t := 31) (j_icmp_ge dX3_foldsWith_12) (by decide) (fun c10 => ?_) (fun c10 => mpp 15 rfl ?_)
  · have c10 : v3.toInt ≥ x5.toInt := ti_ge c10
    refine mp_a (a_aload_n dX3_foldsWith_31 rfl) (mpp 32 rfl ?_)
    have g11 : (0 : Int) ≤ (fv P 291 1).toInt ∧ (fv P 291 1).toInt ≤ 8 := Typ.rng hT rl_291 (by decide) (by decide) rfl
    have p12 : (fv P 291 1).toInt ≤ 8 := by omega
    refine mt_callv (i := 74) (q' := q_51) (As := []) (rest := []) hT dX3_foldsWith_32 rfl qm_51 (by decide) rfl rl_291 (by decide) rfl (Nat.le_of_ble_eq_true rfl) rfl ⟨rfl, rfl⟩ ⟨Nat.le_of_ble_eq_true rfl, Nat.le_of_ble_eq_true rfl⟩ (EvP.mono (by decide) (c_CR_reduce_Reducer hT (KW.xr hK hX) p12 )) (fun r13 P14 g15 => mpp 35 rfl ?_)
    obtain ⟨⟨x16, rfl, g17⟩, hT18, k19, R20⟩ := g15
    have k21 : KW [640, 641, 704, 768] Po P14 := KW.trans hK k19 rfl
    have wx16 := ti_full x16
    replace g17 : 0 ≤ x16.toInt ∧ RD cC (rC P) x16.toInt.toNat (rC P14) := g17
    show MEvP _ none q_79 35 [(0, .ref 291), (1, .ref a1_), (2, .int t2), (3, .int v3)] [.int x16] _ _ _ _
    refine mp_t (s_pop dX3_foldsWith_35 rfl) (mpp 36 rfl ?_)
    refine mp_a (a_aload_n dX3_foldsWith_36 rfl) (mpp 37 rfl ?_)
    refine mt_callv (i := 77) (q' := q_55) (As := []) (rest := []) hT18 dX3_foldsWith_37 rfl qm_55 (by decide) rfl rl_291 (by decide) rfl (Nat.le_of_ble_eq_true rfl) rfl ⟨rfl, rfl⟩ ⟨Nat.le_of_ble_eq_true rfl, Nat.le_of_ble_eq_true rfl⟩ (EvP.mono (by decide) (c_CR_isReduced_Reducer hT18 (KW.xr k21 hX) )) (fun r23 P24 g25 => mpp 40 rfl ?_)
    obtain ⟨⟨x26, rfl, g27⟩, e28⟩ := g25
    have e28 := e28.symm
    subst e28
    have wx26 := ti_full x26
    replace g27 : 0 ≤ x26.toInt ∧ x26.toInt ≤ 1 ∧ ((x26.toInt = 1 ∧ isRf eC (rC P14)) ∨ (x26.toInt = 0 ∧ ¬ isRf eC (rC P14))) := g27
    show MEvP _ none q_79 40 [(0, .ref 291), (1, .ref a1_), (2, .int t2), (3, .int v3)] [.int x26] _ _ _ _
    have u29 : 0 ≤ x26.toInt ∧ x26.toInt ≤ 1 := by omega
    exact mp_iret ⟨⟨_, rfl, u29⟩, hT18, k21, trivial⟩ dX3_foldsWith_40 (Or.inr ⟨rfl, ti_01 (by omega)⟩)
  · have c10 : v3.toInt < x5.toInt := ti_ge_n c10
    refine mp_a (a_aload_n dX3_foldsWith_15 rfl) (mpp 16 rfl ?_)
    refine mp_a (a_iload_n dX3_foldsWith_16 rfl) (mpp 17 rfl ?_)
    refine mp_a (a_iload_n dX3_foldsWith_17 rfl) (mpp 18 rfl ?_)
    refine mp_a (a_iload_n dX3_foldsWith_18 rfl) (mpp 19 rfl ?_)
    refine mp_calls (i := 94) (q' := q_78) (As := [.int t2, .int v3]) (rest := [.int v3, .ref 291]) dX3_foldsWith_19 rfl qm_78 (by decide) rfl (Nat.le_of_ble_eq_true rfl) rfl ⟨rfl, rfl⟩ ⟨Nat.le_of_ble_eq_true rfl, Nat.le_of_ble_eq_true rfl⟩ (EvP.mono (by decide) (c_CR_kindIn hT (KW.xr hK hX) )) (fun r30 P31 g32 => mpp 22 rfl ?_)
    obtain ⟨⟨x33, rfl, g34⟩, e35⟩ := g32
    have e35 := e35.symm
    subst e35
    have wx33 := ti_full x33
    show MEvP _ none q_79 22 [(0, .ref 291), (1, .ref a1_), (2, .int t2), (3, .int v3)] [.int x33, .int v3, .ref 291] _ _ _ _
    have p36 : 0 ≤ v3.toInt := by omega
    have p37 : v3.toInt ≤ 7 := by omega
    refine mt_callv (i := 43) (q' := q_46) (As := [.int v3, .int x33]) (rest := []) hT dX3_foldsWith_22 rfl qm_46 (by decide) rfl rl_291 (by decide) rfl (Nat.le_of_ble_eq_true rfl) rfl ⟨rfl, rfl⟩ ⟨Nat.le_of_ble_eq_true rfl, Nat.le_of_ble_eq_true rfl⟩ (EvP.mono (by decide) (c_CR_putCrease_Reducer hT (KW.xr hK hX) p36 p37 )) (fun r38 P39 g40 => mpp 25 rfl ?_)
    obtain ⟨⟨rfl, g42⟩, hT43, k44, R45⟩ := g40
    have k46 : KW [640, 641, 704, 768] Po P39 := KW.trans hK k44 rfl
    show MEvP _ none q_79 25 [(0, .ref 291), (1, .ref a1_), (2, .int t2), (3, .int v3)] [] _ _ _ _
    obtain ⟨z48, h49⟩ := ti_ex (v3 + 1 : Int32)
    have wz48 := ti_full z48
    refine mp_a (a_iinc (v := z48) (L' := [(3, .int z48), (0, .ref 291), (1, .ref a1_), (2, .int t2)]) dX3_foldsWith_25 (by decide) rfl h49 rfl) (mpp 28 rfl ?_)
    try have e50 : z48.toInt = v3.toInt + 1 := ti_addz h49 rfl rfl (by omega) (by omega)
    refine mp_a (a_goto (t := 7) dX3_foldsWith_28 (by decide)) ?_
    refine MEvP.less (L := [(0, .ref 291), (1, .ref a1_), (2, .int t2), (3, .int z48)]) rfl rfl ⟨rfl, rfl, rfl, rfl, trivial⟩ ?_
    have i51 : 0 ≤ z48.toInt := by omega
    exact ih _ (by omega) _ P39 hT43 k46 i51 rfl

set_option maxHeartbeats 4000000 in
theorem c_CR_foldsWith_Reducer_NPiece {Po : mP} {a1_ : Nat} {t2 : Int32} (hT : Typ Po) (hX : XR Po)  (ha1 : rl a1_ = 33) : EvP 4 79 [.ref 291, .ref a1_, .int t2] Po (fun r P' => (∃ x : Int32, r = some (.int x) ∧ (0 ≤ x.toInt ∧ x.toInt ≤ 1)) ∧ Typ P' ∧ KW [640, 641, 704, 768] Po P' ∧ True) := by
  refine EvP.of qm_79 (Nat.le_of_ble_eq_true rfl) rfl ?_
  show MEvP _ none q_79 0 [(0, .ref 291), (1, .ref a1_), (2, .int t2)] [] _ 0 0 _
  have w1 := np_ar ha1
  have w_t2 := ti_full t2
  refine mp_a (a_aload_n dX3_foldsWith_0 rfl) (mpp 1 rfl ?_)
  refine mp_a (a_aload_n dX3_foldsWith_1 rfl) (mpp 2 rfl ?_)
  have p2 : a1_ ≤ 288 ∨ 298 ≤ a1_ := by omega
  refine mt_callv (i := 55) (q' := q_45) (As := [.ref a1_]) (rest := []) hT dX3_foldsWith_2 rfl qm_45 (by decide) rfl rl_291 (by decide) rfl (Nat.le_of_ble_eq_true rfl) rfl ⟨rfl, rfl⟩ ⟨Nat.le_of_ble_eq_true rfl, Nat.le_of_ble_eq_true rfl⟩ (EvP.mono (by decide) (c_CR_load_Reducer_NPiece hT hX p2 ha1)) (fun r3 P4 g5 => mpp 5 rfl ?_)
  obtain ⟨⟨rfl, g7⟩, hT8, k9, R10⟩ := g5
  have k11 : KW [640, 641, 704, 768] Po P4 := KW.trans KW.refl k9 rfl
  show MEvP _ none q_79 5 [(0, .ref 291), (1, .ref a1_), (2, .int t2)] [] _ _ _ _
  refine mp_a (a_iconst (v := 0) dX3_foldsWith_5 rfl) (mpp 6 rfl ?_)
  refine mp_a (a_istore_n (L' := [(3, .int 0), (0, .ref 291), (1, .ref a1_), (2, .int t2)]) dX3_foldsWith_6 (by decide) rfl) (mpp 7 rfl ?_)
  refine MEvP.less (L := [(0, .ref 291), (1, .ref a1_), (2, .int t2), (3, .int 0)]) rfl rfl ⟨rfl, rfl, rfl, rfl, trivial⟩ ?_
  have i13 : 0 ≤ (0 : Int) := by omega
  exact c_CR_foldsWith_Reducer_NPiece_l7 hT hX  ha1 _ _ P4 hT8 k11 i13 rfl

set_option maxHeartbeats 4000000 in
theorem c_CR_countWays_Reducer_NPiece_l4 {Po : mP} {a1_ : Nat} (hTo : Typ Po) (hX : XR Po) (ha1 : rl a1_ = 33) : ∀ (n : Nat) (v2 : Int32) (v3 : Int32), ∀ (P : mP), Typ P → KW [640, 641, 704, 768] Po P → (0 ≤ v3.toInt) → (2147483647 - v3.toInt).toNat = n → MEvP 4 none q_76 4 [(0, .ref 291), (1, .ref a1_), (2, .int v2), (3, .int v3)] [] P 0 0 (fun r P' => (∃ x : Int32, r = some (.int x) ∧ (True)) ∧ Typ P' ∧ KW [640, 641, 704, 768] Po P' ∧ True) := by
  intro n
  induction n using Nat.strongRecOn with | _ n ih => ?_
  intro v2 v3 P hT hK i_0 hm
  have w1 := np_ar ha1
  have w_v2 := ti_full v2
  have w_v3 := ti_full v3
  refine mp_a (a_iload_n dX3_countWays_4 rfl) (mpp 5 rfl ?_)
  refine mp_a (a_iconst (v := 1) dX3_countWays_5 rfl) (mpp 6 rfl ?_)
  refine mp_a (a_aload_n dX3_countWays_6 rfl) (mpp 7 rfl ?_)
  refine mt_callv (i := 34) (q' := q_25) (As := []) (rest := [.int 1, .int v3]) hT dX3_countWays_7 rfl qm_25 (by decide) rfl ha1 (by decide) rfl (Nat.le_of_ble_eq_true rfl) rfl ⟨rfl, rfl⟩ ⟨Nat.le_of_ble_eq_true rfl, Nat.le_of_ble_eq_true rfl⟩ (EvP.mono (by decide) (c_CP_creaseCount_NPiece hT (KW.xr hK hX) ha1)) (fun r2 P3 g4 => mpp 10 rfl ?_)
  obtain ⟨⟨x5, rfl, g6⟩, e7⟩ := g4
  have e7 := e7.symm
  subst e7
  have wx5 := ti_full x5
  replace g6 : -1 ≤ x5.toInt ∧ x5.toInt ≤ (fv P a1_ 1).toInt ∧ (((fv P a1_ 0).toInt = 0 ∧ x5.toInt = (fv P a1_ 1).toInt - 1) ∨ ((fv P a1_ 0).toInt ≠ 0 ∧ x5.toInt = (fv P a1_ 1).toInt)) := g6
  have g8 : (0 : Int) ≤ (fv P a1_ 1).toInt ∧ (fv P a1_ 1).toInt ≤ 8 := Typ.rng hT ha1 (by decide) (by decide) rfl
  have g9 := ti_full (fv P a1_ 0)
  show MEvP _ none q_76 10 [(0, .ref 291), (1, .ref a1_), (2, .int v2), (3, .int v3)] [.int x5, .int 1, .int v3] _ _ _ _
  obtain ⟨z10, h11⟩ := ti_ex (1 <<< (x5 &&& 31) : Int32)
  have wz10 := ti_full z10
  refine mp_t (s_ishl (v := z10) dX3_countWays_10 h11) (mpp 11 rfl ?_)
  refine mp_Tb (t := 40) (j_icmp_ge dX3_countWays_11) (by decide) (fun c12 => ?_) (fun c12 => mpp 14 rfl ?_)
  · have c12 : v3.toInt ≥ z10.toInt := ti_ge c12
    refine mp_a (a_iload_n dX3_countWays_40 rfl) (mpp 41 rfl ?_)
    exact mp_iret ⟨⟨_, rfl, trivial⟩, hT, hK, trivial⟩ dX3_countWays_41 (Or.inl rfl)
  · have c12 : v3.toInt < z10.toInt := ti_ge_n c12
    refine mp_a (a_aload_n dX3_countWays_14 rfl) (mpp 15 rfl ?_)
    refine mp_a (a_iload_n dX3_countWays_15 rfl) (mpp 16 rfl ?_)
    refine mp_calls (i := 86) (q' := q_77) (As := [.ref a1_, .int v3]) (rest := []) dX3_countWays_16 rfl qm_77 (by decide) rfl (Nat.le_of_ble_eq_true rfl) rfl ⟨rfl, rfl⟩ ⟨Nat.le_of_ble_eq_true rfl, Nat.le_of_ble_eq_true rfl⟩ (EvP.mono (by decide) (c_CR_changesTo_NPiece hT (KW.xr hK hX) ha1)) (fun r13 P14 g15 => mpp 19 rfl ?_)
    obtain ⟨⟨x16, rfl, g17⟩, e18⟩ := g15
    have e18 := e18.symm
    subst e18
    have wx16 := ti_full x16
    show MEvP _ none q_76 19 [(0, .ref 291), (1, .ref a1_), (2, .int v2), (3, .int v3)] [.int x16] _ _ _ _
    refine mp_Tb (t := 34) (j_if_ne dX3_countWays_19) (by decide) (fun c19 => ?_) (fun c19 => mpp 22 rfl ?_)
    · have c19 : x16.toInt ≠ 0 := ti_ne c19
      obtain ⟨z20, h21⟩ := ti_ex (v3 + 1 : Int32)
      have wz20 := ti_full z20
      refine mp_a (a_iinc (v := z20) (L' := [(3, .int z20), (0, .ref 291), (1, .ref a1_), (2, .int v2)]) dX3_countWays_34 (by decide) rfl h21 rfl) (mpp 37 rfl ?_)
      try have e22 : z20.toInt = v3.toInt + 1 := ti_addz h21 rfl rfl (by omega) (by omega)
      refine mp_a (a_goto (t := 4) dX3_countWays_37 (by decide)) ?_
      refine MEvP.less (L := [(0, .ref 291), (1, .ref a1_), (2, .int v2), (3, .int z20)]) rfl rfl ⟨rfl, rfl, rfl, rfl, trivial⟩ ?_
      have i23 : 0 ≤ z20.toInt := by omega
      exact ih _ (by omega) _ _ P hT hK i23 rfl
    · have c19 : x16.toInt = 0 := ti_ne_n c19
      refine mp_a (a_aload_n dX3_countWays_22 rfl) (mpp 23 rfl ?_)
      refine mp_a (a_aload_n dX3_countWays_23 rfl) (mpp 24 rfl ?_)
      refine mp_a (a_iload_n dX3_countWays_24 rfl) (mpp 25 rfl ?_)
      refine mt_callv (i := 90) (q' := q_79) (As := [.ref a1_, .int v3]) (rest := []) hT dX3_countWays_25 rfl qm_79 (by decide) rfl rl_291 (by decide) rfl (Nat.le_of_ble_eq_true rfl) rfl ⟨rfl, rfl⟩ ⟨Nat.le_of_ble_eq_true rfl, Nat.le_of_ble_eq_true rfl⟩ (EvP.mono (by decide) (c_CR_foldsWith_Reducer_NPiece hT (KW.xr hK hX) ha1)) (fun r24 P25 g26 => mpp 28 rfl ?_)
      obtain ⟨⟨x27, rfl, g28⟩, hT29, k30, R31⟩ := g26
      have k32 : KW [640, 641, 704, 768] Po P25 := KW.trans hK k30 rfl
      have wx27 := ti_full x27
      replace g28 : 0 ≤ x27.toInt ∧ x27.toInt ≤ 1 := g28
      show MEvP _ none q_76 28 [(0, .ref 291), (1, .ref a1_), (2, .int v2), (3, .int v3)] [.int x27] _ _ _ _
      refine mp_Tb (t := 34) (j_if_eq dX3_countWays_28) (by decide) (fun c34 => ?_) (fun c34 => mpp 31 rfl ?_)
      · have c34 : x27.toInt = 0 := ti_eq c34
        obtain ⟨z35, h36⟩ := ti_ex (v3 + 1 : Int32)
        have wz35 := ti_full z35
        refine mp_a (a_iinc (v := z35) (L' := [(3, .int z35), (0, .ref 291), (1, .ref a1_), (2, .int v2)]) dX3_countWays_34 (by decide) rfl h36 rfl) (mpp 37 rfl ?_)
        try have e37 : z35.toInt = v3.toInt + 1 := ti_addz h36 rfl rfl (by omega) (by omega)
        refine mp_a (a_goto (t := 4) dX3_countWays_37 (by decide)) ?_
        refine MEvP.less (L := [(0, .ref 291), (1, .ref a1_), (2, .int v2), (3, .int z35)]) rfl rfl ⟨rfl, rfl, rfl, rfl, trivial⟩ ?_
        have i38 : 0 ≤ z35.toInt := by omega
        exact ih _ (by omega) _ _ P25 hT29 k32 i38 rfl
      · have c34 : x27.toInt ≠ 0 := ti_eq_n c34
        obtain ⟨z39, h40⟩ := ti_ex (v2 + 1 : Int32)
        have wz39 := ti_full z39
        refine mp_a (a_iinc (v := z39) (L' := [(2, .int z39), (0, .ref 291), (1, .ref a1_), (3, .int v3)]) dX3_countWays_31 (by decide) rfl h40 rfl) (mpp 34 rfl ?_)
        try have e41 : z39.toInt = v2.toInt + 1 := ti_addz h40 rfl rfl (by omega) (by omega)
        obtain ⟨z42, h43⟩ := ti_ex (v3 + 1 : Int32)
        have wz42 := ti_full z42
        refine mp_a (a_iinc (v := z42) (L' := [(3, .int z42), (2, .int z39), (0, .ref 291), (1, .ref a1_)]) dX3_countWays_34 (by decide) rfl h43 rfl) (mpp 37 rfl ?_)
        try have e44 : z42.toInt = v3.toInt + 1 := ti_addz h43 rfl rfl (by omega) (by omega)
        refine mp_a (a_goto (t := 4) dX3_countWays_37 (by decide)) ?_
        refine MEvP.less (L := [(0, .ref 291), (1, .ref a1_), (2, .int z39), (3, .int z42)]) rfl rfl ⟨rfl, rfl, rfl, rfl, trivial⟩ ?_
        have i45 : 0 ≤ z42.toInt := by omega
        exact ih _ (by omega) _ _ P25 hT29 k32 i45 rfl

set_option maxHeartbeats 4000000 in
theorem c_CR_countWays_Reducer_NPiece {Po : mP} {a1_ : Nat} (hT : Typ Po) (hX : XR Po)  (ha1 : rl a1_ = 33) : EvP 5 76 [.ref 291, .ref a1_] Po (fun r P' => (∃ x : Int32, r = some (.int x) ∧ (True)) ∧ Typ P' ∧ KW [640, 641, 704, 768] Po P' ∧ True) := by
  refine EvP.of qm_76 (Nat.le_of_ble_eq_true rfl) rfl ?_
  show MEvP _ none q_76 0 [(0, .ref 291), (1, .ref a1_)] [] _ 0 0 _
  have w1 := np_ar ha1
  refine mp_a (a_iconst (v := 0) dX3_countWays_0 rfl) (mpp 1 rfl ?_)
  refine mp_a (a_istore_n (L' := [(2, .int 0), (0, .ref 291), (1, .ref a1_)]) dX3_countWays_1 (by decide) rfl) (mpp 2 rfl ?_)
  refine mp_a (a_iconst (v := 0) dX3_countWays_2 rfl) (mpp 3 rfl ?_)
  refine mp_a (a_istore_n (L' := [(3, .int 0), (2, .int 0), (0, .ref 291), (1, .ref a1_)]) dX3_countWays_3 (by decide) rfl) (mpp 4 rfl ?_)
  refine MEvP.less (L := [(0, .ref 291), (1, .ref a1_), (2, .int 0), (3, .int 0)]) rfl rfl ⟨rfl, rfl, rfl, rfl, trivial⟩ ?_
  have i2 : 0 ≤ (0 : Int) := by omega
  exact c_CR_countWays_Reducer_NPiece_l4 hT hX  ha1 _ _ _ Po hT KW.refl i2 rfl

set_option maxHeartbeats 4000000 in
theorem c_F_ways {Po : mP} {t1 : Int32} (hT : Typ Po) (hX : XR Po)   : EvP 6 75 [.ref 0, .int t1] Po (fun r P' => (∃ x : Int32, r = some (.int x) ∧ (True)) ∧ Typ P' ∧ KW [640, 641, 704, 768] Po P' ∧ True) := by
  refine EvP.of qm_75 (Nat.le_of_ble_eq_true rfl) rfl ?_
  show MEvP _ none q_75 0 [(0, .ref 0), (1, .int t1)] [] _ 0 0 _
  have w_t1 := ti_full t1
  refine mp_a (a_aload_n dX6_ways_0 rfl) (mpp 1 rfl ?_)
  refine mt_getU (i := 10) (k := 0) (A := 1) hT dX6_ways_1 rfl rl_0 (by decide) rfl (by decide) rfl un_31 (mpp 4 rfl ?_)
  refine mp_a (a_iload_n dX6_ways_4 rfl) (mpp 5 rfl ?_)
  refine mt_callv (i := 94) (q' := q_9) (As := [.int t1]) (rest := []) hT dX6_ways_5 rfl qm_9 (by decide) rfl rl_1 (by decide) rfl (Nat.le_of_ble_eq_true rfl) rfl ⟨rfl, rfl⟩ ⟨Nat.le_of_ble_eq_true rfl, Nat.le_of_ble_eq_true rfl⟩ (EvP.mono (by decide) (c_CS_pieceAt_NState hT hX )) (fun r1 P2 g3 => mpp 8 rfl ?_)
  obtain ⟨g3, e4⟩ := g3
  have e4 := e4.symm
  subst e4
  rcases g3 with ⟨rfl, q6n⟩ | ⟨b5, rfl, q6, q6r⟩
  · show MEvP _ none q_75 8 [(0, .ref 0), (1, .int t1)] [.null] _ _ _ _
    replace q6n : t1.toInt < 0 ∨ (fv Po 1 1).toInt ≤ t1.toInt ∨ 8 ≤ t1.toInt := q6n
    have g7 : (0 : Int) ≤ (fv Po 1 1).toInt ∧ (fv Po 1 1).toInt ≤ 8 := Typ.rng hT rl_1 (by decide) (by decide) rfl
    refine mp_a (a_astore_nN (L' := [(2, .null), (0, .ref 0), (1, .int t1)]) dX6_ways_8 (by decide) rfl) (mpp 9 rfl ?_)
    refine mp_a (a_aload_nN dX6_ways_9 rfl) (mpp 10 rfl ?_)
    refine mp_t (s_ifnonnullN dX6_ways_10) (mpp 13 rfl ?_)
    refine mp_a (a_sipush (v := -1001) dX6_ways_13 rfl) (mpp 16 rfl ?_)
    refine mp_a (a_goto (t := 27) dX6_ways_16 (by decide)) ?_
    exact mp_iret ⟨⟨_, rfl, trivial⟩, hT, KW.refl, trivial⟩ dX6_ways_27 (Or.inl rfl)
  · show MEvP _ none q_75 8 [(0, .ref 0), (1, .int t1)] [.ref b5] _ _ _ _
    replace q6r : 0 ≤ t1.toInt ∧ t1.toInt ≤ 7 ∧ t1.toInt + 1 ≤ (fv Po 1 1).toInt ∧ rv Po 2 t1.toInt.toNat = b5 := q6r
    have g8 : (0 : Int) ≤ (fv Po 1 1).toInt ∧ (fv Po 1 1).toInt ≤ 8 := Typ.rng hT rl_1 (by decide) (by decide) rfl
    have w9 := np_ar q6
    refine mp_a (a_astore_n (L' := [(2, .ref b5), (0, .ref 0), (1, .int t1)]) dX6_ways_8 (by decide) rfl) (mpp 9 rfl ?_)
    refine mp_a (a_aload_n dX6_ways_9 rfl) (mpp 10 rfl ?_)
    refine mp_t (s_ifnonnullR (t := 19) dX6_ways_10 (by decide)) ?_
    refine mp_a (a_aload_n dX6_ways_19 rfl) (mpp 20 rfl ?_)
    refine mt_getU (i := 39) (k := 5) (A := 291) hT dX6_ways_20 rfl rl_0 (by decide) rfl (by decide) rfl un_10 (mpp 23 rfl ?_)
    refine mp_a (a_aload_n dX6_ways_23 rfl) (mpp 24 rfl ?_)
    refine mt_callv (i := 197) (q' := q_76) (As := [.ref b5]) (rest := []) hT dX6_ways_24 rfl qm_76 (by decide) rfl rl_291 (by decide) rfl (Nat.le_of_ble_eq_true rfl) rfl ⟨rfl, rfl⟩ ⟨Nat.le_of_ble_eq_true rfl, Nat.le_of_ble_eq_true rfl⟩ (EvP.mono (by decide) (c_CR_countWays_Reducer_NPiece hT hX q6)) (fun r10 P11 g12 => mpp 27 rfl ?_)
    obtain ⟨⟨x13, rfl, g14⟩, hT15, k16, R17⟩ := g12
    have k18 : KW [640, 641, 704, 768] Po P11 := KW.trans KW.refl k16 rfl
    have wx13 := ti_full x13
    show MEvP _ none q_75 27 [(2, .ref b5), (0, .ref 0), (1, .int t1)] [.int x13] _ _ _ _
    exact mp_iret ⟨⟨_, rfl, trivial⟩, hT15, k18, trivial⟩ dX6_ways_27 (Or.inl rfl)

set_option maxHeartbeats 4000000 in
theorem c_CR_fewestChanges_Reducer_NPiece_l6 {Po : mP} {a1_ : Nat} (hTo : Typ Po) (hX : XR Po) (ha1 : rl a1_ = 33) : ∀ (n : Nat) (v2 : Int32) (v3 : Int32), ∀ (P : mP), Typ P → KW [640, 641, 704, 768] Po P → (0 ≤ v3.toInt) → (2147483647 - v3.toInt).toNat = n → MEvP 4 none q_81 6 [(0, .ref 291), (1, .ref a1_), (2, .int v2), (3, .int v3)] [] P 0 0 (fun r P' => (∃ x : Int32, r = some (.int x) ∧ (True)) ∧ Typ P' ∧ KW [640, 641, 704, 768] Po P' ∧ True) := by
  intro n
  induction n using Nat.strongRecOn with | _ n ih => ?_
  intro v2 v3 P hT hK i_0 hm
  have w1 := np_ar ha1
  have w_v2 := ti_full v2
  have w_v3 := ti_full v3
  refine mp_a (a_iload_n dX3_fewestChanges_6 rfl) (mpp 7 rfl ?_)
  refine mp_a (a_iconst (v := 1) dX3_fewestChanges_7 rfl) (mpp 8 rfl ?_)
  refine mp_a (a_aload_n dX3_fewestChanges_8 rfl) (mpp 9 rfl ?_)
  refine mt_callv (i := 34) (q' := q_25) (As := []) (rest := [.int 1, .int v3]) hT dX3_fewestChanges_9 rfl qm_25 (by decide) rfl ha1 (by decide) rfl (Nat.le_of_ble_eq_true rfl) rfl ⟨rfl, rfl⟩ ⟨Nat.le_of_ble_eq_true rfl, Nat.le_of_ble_eq_true rfl⟩ (EvP.mono (by decide) (c_CP_creaseCount_NPiece hT (KW.xr hK hX) ha1)) (fun r2 P3 g4 => mpp 12 rfl ?_)
  obtain ⟨⟨x5, rfl, g6⟩, e7⟩ := g4
  have e7 := e7.symm
  subst e7
  have wx5 := ti_full x5
  replace g6 : -1 ≤ x5.toInt ∧ x5.toInt ≤ (fv P a1_ 1).toInt ∧ (((fv P a1_ 0).toInt = 0 ∧ x5.toInt = (fv P a1_ 1).toInt - 1) ∨ ((fv P a1_ 0).toInt ≠ 0 ∧ x5.toInt = (fv P a1_ 1).toInt)) := g6
  have g8 : (0 : Int) ≤ (fv P a1_ 1).toInt ∧ (fv P a1_ 1).toInt ≤ 8 := Typ.rng hT ha1 (by decide) (by decide) rfl
  have g9 := ti_full (fv P a1_ 0)
  show MEvP _ none q_81 12 [(0, .ref 291), (1, .ref a1_), (2, .int v2), (3, .int v3)] [.int x5, .int 1, .int v3] _ _ _ _
  obtain ⟨z10, h11⟩ := ti_ex (1 <<< (x5 &&& 31) : Int32)
  have wz10 := ti_full z10
  refine mp_t (s_ishl (v := z10) dX3_fewestChanges_12 h11) (mpp 13 rfl ?_)
  refine mp_Tb (t := 54) (j_icmp_ge dX3_fewestChanges_13) (by decide) (fun c12 => ?_) (fun c12 => mpp 16 rfl ?_)
  · have c12 : v3.toInt ≥ z10.toInt := ti_ge c12
    refine mp_a (a_iload_n dX3_fewestChanges_54 rfl) (mpp 55 rfl ?_)
    exact mp_iret ⟨⟨_, rfl, trivial⟩, hT, hK, trivial⟩ dX3_fewestChanges_55 (Or.inl rfl)
  · have c12 : v3.toInt < z10.toInt := ti_ge_n c12
    refine mp_a (a_aload_n dX3_fewestChanges_16 rfl) (mpp 17 rfl ?_)
    refine mp_a (a_iload_n dX3_fewestChanges_17 rfl) (mpp 18 rfl ?_)
    refine mp_calls (i := 86) (q' := q_77) (As := [.ref a1_, .int v3]) (rest := []) dX3_fewestChanges_18 rfl qm_77 (by decide) rfl (Nat.le_of_ble_eq_true rfl) rfl ⟨rfl, rfl⟩ ⟨Nat.le_of_ble_eq_true rfl, Nat.le_of_ble_eq_true rfl⟩ (EvP.mono (by decide) (c_CR_changesTo_NPiece hT (KW.xr hK hX) ha1)) (fun r13 P14 g15 => mpp 21 rfl ?_)
    obtain ⟨⟨x16, rfl, g17⟩, e18⟩ := g15
    have e18 := e18.symm
    subst e18
    have wx16 := ti_full x16
    show MEvP _ none q_81 21 [(0, .ref 291), (1, .ref a1_), (2, .int v2), (3, .int v3)] [.int x16] _ _ _ _
    refine mp_a (a_istore (L' := [(4, .int x16), (0, .ref 291), (1, .ref a1_), (2, .int v2), (3, .int v3)]) dX3_fewestChanges_21 (by decide) rfl) (mpp 23 rfl ?_)
    refine mp_a (a_iload_n dX3_fewestChanges_23 rfl) (mpp 24 rfl ?_)
    refine mp_a (a_sipush (v := -1004) dX3_fewestChanges_24 rfl) (mpp 27 rfl ?_)
    refine mp_Tb (t := 36) (j_icmp_eq dX3_fewestChanges_27) (by decide) (fun c19 => ?_) (fun c19 => mpp 30 rfl ?_)
    · have c19 : v2.toInt = (-1004) := ti_eq c19
      refine mp_a (a_aload_n dX3_fewestChanges_36 rfl) (mpp 37 rfl ?_)
      refine mp_a (a_aload_n dX3_fewestChanges_37 rfl) (mpp 38 rfl ?_)
      refine mp_a (a_iload_n dX3_fewestChanges_38 rfl) (mpp 39 rfl ?_)
      refine mt_callv (i := 90) (q' := q_79) (As := [.ref a1_, .int v3]) (rest := []) hT dX3_fewestChanges_39 rfl qm_79 (by decide) rfl rl_291 (by decide) rfl (Nat.le_of_ble_eq_true rfl) rfl ⟨rfl, rfl⟩ ⟨Nat.le_of_ble_eq_true rfl, Nat.le_of_ble_eq_true rfl⟩ (EvP.mono (by decide) (c_CR_foldsWith_Reducer_NPiece hT (KW.xr hK hX) ha1)) (fun r20 P21 g22 => mpp 42 rfl ?_)
      obtain ⟨⟨x23, rfl, g24⟩, hT25, k26, R27⟩ := g22
      have k28 : KW [640, 641, 704, 768] Po P21 := KW.trans hK k26 rfl
      have wx23 := ti_full x23
      replace g24 : 0 ≤ x23.toInt ∧ x23.toInt ≤ 1 := g24
      show MEvP _ none q_81 42 [(4, .int x16), (0, .ref 291), (1, .ref a1_), (2, .int v2), (3, .int v3)] [.int x23] _ _ _ _
      refine mp_Tb (t := 48) (j_if_eq dX3_fewestChanges_42) (by decide) (fun c30 => ?_) (fun c30 => mpp 45 rfl ?_)
      · have c30 : x23.toInt = 0 := ti_eq c30
        obtain ⟨z31, h32⟩ := ti_ex (v3 + 1 : Int32)
        have wz31 := ti_full z31
        refine mp_a (a_iinc (v := z31) (L' := [(3, .int z31), (4, .int x16), (0, .ref 291), (1, .ref a1_), (2, .int v2)]) dX3_fewestChanges_48 (by decide) rfl h32 rfl) (mpp 51 rfl ?_)
        try have e33 : z31.toInt = v3.toInt + 1 := ti_addz h32 rfl rfl (by omega) (by omega)
        refine mp_a (a_goto (t := 6) dX3_fewestChanges_51 (by decide)) ?_
        refine MEvP.less (L := [(0, .ref 291), (1, .ref a1_), (2, .int v2), (3, .int z31)]) rfl rfl ⟨rfl, rfl, rfl, rfl, trivial⟩ ?_
        have i34 : 0 ≤ z31.toInt := by omega
        exact ih _ (by omega) _ _ P21 hT25 k28 i34 rfl
      · have c30 : x23.toInt ≠ 0 := ti_eq_n c30
        refine mp_a (a_iload dX3_fewestChanges_45 rfl) (mpp 47 rfl ?_)
        refine mp_a (a_istore_n (L' := [(2, .int x16), (4, .int x16), (0, .ref 291), (1, .ref a1_), (3, .int v3)]) dX3_fewestChanges_47 (by decide) rfl) (mpp 48 rfl ?_)
        obtain ⟨z35, h36⟩ := ti_ex (v3 + 1 : Int32)
        have wz35 := ti_full z35
        refine mp_a (a_iinc (v := z35) (L' := [(3, .int z35), (2, .int x16), (4, .int x16), (0, .ref 291), (1, .ref a1_)]) dX3_fewestChanges_48 (by decide) rfl h36 rfl) (mpp 51 rfl ?_)
        try have e37 : z35.toInt = v3.toInt + 1 := ti_addz h36 rfl rfl (by omega) (by omega)
        refine mp_a (a_goto (t := 6) dX3_fewestChanges_51 (by decide)) ?_
        refine MEvP.less (L := [(0, .ref 291), (1, .ref a1_), (2, .int x16), (3, .int z35)]) rfl rfl ⟨rfl, rfl, rfl, rfl, trivial⟩ ?_
        have i38 : 0 ≤ z35.toInt := by omega
        exact ih _ (by omega) _ _ P21 hT25 k28 i38 rfl
    · have c19 : v2.toInt ≠ (-1004) := ti_eq_n c19
      refine mp_a (a_iload dX3_fewestChanges_30 rfl) (mpp 32 rfl ?_)
      refine mp_a (a_iload_n dX3_fewestChanges_32 rfl) (mpp 33 rfl ?_)
      refine mp_Tb (t := 48) (j_icmp_ge dX3_fewestChanges_33) (by decide) (fun c39 => ?_) (fun c39 => mpp 36 rfl ?_)
      · have c39 : x16.toInt ≥ v2.toInt := ti_ge c39
        obtain ⟨z40, h41⟩ := ti_ex (v3 + 1 : Int32)
        have wz40 := ti_full z40
        refine mp_a (a_iinc (v := z40) (L' := [(3, .int z40), (4, .int x16), (0, .ref 291), (1, .ref a1_), (2, .int v2)]) dX3_fewestChanges_48 (by decide) rfl h41 rfl) (mpp 51 rfl ?_)
        try have e42 : z40.toInt = v3.toInt + 1 := ti_addz h41 rfl rfl (by omega) (by omega)
        refine mp_a (a_goto (t := 6) dX3_fewestChanges_51 (by decide)) ?_
        refine MEvP.less (L := [(0, .ref 291), (1, .ref a1_), (2, .int v2), (3, .int z40)]) rfl rfl ⟨rfl, rfl, rfl, rfl, trivial⟩ ?_
        have i43 : 0 ≤ z40.toInt := by omega
        exact ih _ (by omega) _ _ P hT hK i43 rfl
      · have c39 : x16.toInt < v2.toInt := ti_ge_n c39
        refine mp_a (a_aload_n dX3_fewestChanges_36 rfl) (mpp 37 rfl ?_)
        refine mp_a (a_aload_n dX3_fewestChanges_37 rfl) (mpp 38 rfl ?_)
        refine mp_a (a_iload_n dX3_fewestChanges_38 rfl) (mpp 39 rfl ?_)
        refine mt_callv (i := 90) (q' := q_79) (As := [.ref a1_, .int v3]) (rest := []) hT dX3_fewestChanges_39 rfl qm_79 (by decide) rfl rl_291 (by decide) rfl (Nat.le_of_ble_eq_true rfl) rfl ⟨rfl, rfl⟩ ⟨Nat.le_of_ble_eq_true rfl, Nat.le_of_ble_eq_true rfl⟩ (EvP.mono (by decide) (c_CR_foldsWith_Reducer_NPiece hT (KW.xr hK hX) ha1)) (fun r44 P45 g46 => mpp 42 rfl ?_)
        obtain ⟨⟨x47, rfl, g48⟩, hT49, k50, R51⟩ := g46
        have k52 : KW [640, 641, 704, 768] Po P45 := KW.trans hK k50 rfl
        have wx47 := ti_full x47
        replace g48 : 0 ≤ x47.toInt ∧ x47.toInt ≤ 1 := g48
        show MEvP _ none q_81 42 [(4, .int x16), (0, .ref 291), (1, .ref a1_), (2, .int v2), (3, .int v3)] [.int x47] _ _ _ _
        refine mp_Tb (t := 48) (j_if_eq dX3_fewestChanges_42) (by decide) (fun c54 => ?_) (fun c54 => mpp 45 rfl ?_)
        · have c54 : x47.toInt = 0 := ti_eq c54
          obtain ⟨z55, h56⟩ := ti_ex (v3 + 1 : Int32)
          have wz55 := ti_full z55
          refine mp_a (a_iinc (v := z55) (L' := [(3, .int z55), (4, .int x16), (0, .ref 291), (1, .ref a1_), (2, .int v2)]) dX3_fewestChanges_48 (by decide) rfl h56 rfl) (mpp 51 rfl ?_)
          try have e57 : z55.toInt = v3.toInt + 1 := ti_addz h56 rfl rfl (by omega) (by omega)
          refine mp_a (a_goto (t := 6) dX3_fewestChanges_51 (by decide)) ?_
          refine MEvP.less (L := [(0, .ref 291), (1, .ref a1_), (2, .int v2), (3, .int z55)]) rfl rfl ⟨rfl, rfl, rfl, rfl, trivial⟩ ?_
          have i58 : 0 ≤ z55.toInt := by omega
          exact ih _ (by omega) _ _ P45 hT49 k52 i58 rfl
        · have c54 : x47.toInt ≠ 0 := ti_eq_n c54
          refine mp_a (a_iload dX3_fewestChanges_45 rfl) (mpp 47 rfl ?_)
          refine mp_a (a_istore_n (L' := [(2, .int x16), (4, .int x16), (0, .ref 291), (1, .ref a1_), (3, .int v3)]) dX3_fewestChanges_47 (by decide) rfl) (mpp 48 rfl ?_)
          obtain ⟨z59, h60⟩ := ti_ex (v3 + 1 : Int32)
          have wz59 := ti_full z59
          refine mp_a (a_iinc (v := z59) (L' := [(3, .int z59), (2, .int x16), (4, .int x16), (0, .ref 291), (1, .ref a1_)]) dX3_fewestChanges_48 (by decide) rfl h60 rfl) (mpp 51 rfl ?_)
          try have e61 : z59.toInt = v3.toInt + 1 := ti_addz h60 rfl rfl (by omega) (by omega)
          refine mp_a (a_goto (t := 6) dX3_fewestChanges_51 (by decide)) ?_
          refine MEvP.less (L := [(0, .ref 291), (1, .ref a1_), (2, .int x16), (3, .int z59)]) rfl rfl ⟨rfl, rfl, rfl, rfl, trivial⟩ ?_
          have i62 : 0 ≤ z59.toInt := by omega
          exact ih _ (by omega) _ _ P45 hT49 k52 i62 rfl

set_option maxHeartbeats 4000000 in
theorem c_CR_fewestChanges_Reducer_NPiece {Po : mP} {a1_ : Nat} (hT : Typ Po) (hX : XR Po)  (ha1 : rl a1_ = 33) : EvP 5 81 [.ref 291, .ref a1_] Po (fun r P' => (∃ x : Int32, r = some (.int x) ∧ (True)) ∧ Typ P' ∧ KW [640, 641, 704, 768] Po P' ∧ True) := by
  refine EvP.of qm_81 (Nat.le_of_ble_eq_true rfl) rfl ?_
  show MEvP _ none q_81 0 [(0, .ref 291), (1, .ref a1_)] [] _ 0 0 _
  have w1 := np_ar ha1
  refine mp_a (a_sipush (v := -1004) dX3_fewestChanges_0 rfl) (mpp 3 rfl ?_)
  refine mp_a (a_istore_n (L' := [(2, .int (-1004)), (0, .ref 291), (1, .ref a1_)]) dX3_fewestChanges_3 (by decide) rfl) (mpp 4 rfl ?_)
  refine mp_a (a_iconst (v := 0) dX3_fewestChanges_4 rfl) (mpp 5 rfl ?_)
  refine mp_a (a_istore_n (L' := [(3, .int 0), (2, .int (-1004)), (0, .ref 291), (1, .ref a1_)]) dX3_fewestChanges_5 (by decide) rfl) (mpp 6 rfl ?_)
  refine MEvP.less (L := [(0, .ref 291), (1, .ref a1_), (2, .int (-1004)), (3, .int 0)]) rfl rfl ⟨rfl, rfl, rfl, rfl, trivial⟩ ?_
  have i2 : 0 ≤ (0 : Int) := by omega
  exact c_CR_fewestChanges_Reducer_NPiece_l6 hT hX  ha1 _ _ _ Po hT KW.refl i2 rfl

set_option maxHeartbeats 4000000 in
theorem c_F_fewest {Po : mP} {t1 : Int32} (hT : Typ Po) (hX : XR Po)   : EvP 6 80 [.ref 0, .int t1] Po (fun r P' => (∃ x : Int32, r = some (.int x) ∧ (True)) ∧ Typ P' ∧ KW [640, 641, 704, 768] Po P' ∧ True) := by
  refine EvP.of qm_80 (Nat.le_of_ble_eq_true rfl) rfl ?_
  show MEvP _ none q_80 0 [(0, .ref 0), (1, .int t1)] [] _ 0 0 _
  have w_t1 := ti_full t1
  refine mp_a (a_aload_n dX6_fewest_0 rfl) (mpp 1 rfl ?_)
  refine mt_getU (i := 10) (k := 0) (A := 1) hT dX6_fewest_1 rfl rl_0 (by decide) rfl (by decide) rfl un_31 (mpp 4 rfl ?_)
  refine mp_a (a_iload_n dX6_fewest_4 rfl) (mpp 5 rfl ?_)
  refine mt_callv (i := 94) (q' := q_9) (As := [.int t1]) (rest := []) hT dX6_fewest_5 rfl qm_9 (by decide) rfl rl_1 (by decide) rfl (Nat.le_of_ble_eq_true rfl) rfl ⟨rfl, rfl⟩ ⟨Nat.le_of_ble_eq_true rfl, Nat.le_of_ble_eq_true rfl⟩ (EvP.mono (by decide) (c_CS_pieceAt_NState hT hX )) (fun r1 P2 g3 => mpp 8 rfl ?_)
  obtain ⟨g3, e4⟩ := g3
  have e4 := e4.symm
  subst e4
  rcases g3 with ⟨rfl, q6n⟩ | ⟨b5, rfl, q6, q6r⟩
  · show MEvP _ none q_80 8 [(0, .ref 0), (1, .int t1)] [.null] _ _ _ _
    replace q6n : t1.toInt < 0 ∨ (fv Po 1 1).toInt ≤ t1.toInt ∨ 8 ≤ t1.toInt := q6n
    have g7 : (0 : Int) ≤ (fv Po 1 1).toInt ∧ (fv Po 1 1).toInt ≤ 8 := Typ.rng hT rl_1 (by decide) (by decide) rfl
    refine mp_a (a_astore_nN (L' := [(2, .null), (0, .ref 0), (1, .int t1)]) dX6_fewest_8 (by decide) rfl) (mpp 9 rfl ?_)
    refine mp_a (a_aload_nN dX6_fewest_9 rfl) (mpp 10 rfl ?_)
    refine mp_t (s_ifnonnullN dX6_fewest_10) (mpp 13 rfl ?_)
    refine mp_a (a_sipush (v := -1001) dX6_fewest_13 rfl) (mpp 16 rfl ?_)
    refine mp_a (a_goto (t := 27) dX6_fewest_16 (by decide)) ?_
    exact mp_iret ⟨⟨_, rfl, trivial⟩, hT, KW.refl, trivial⟩ dX6_fewest_27 (Or.inl rfl)
  · show MEvP _ none q_80 8 [(0, .ref 0), (1, .int t1)] [.ref b5] _ _ _ _
    replace q6r : 0 ≤ t1.toInt ∧ t1.toInt ≤ 7 ∧ t1.toInt + 1 ≤ (fv Po 1 1).toInt ∧ rv Po 2 t1.toInt.toNat = b5 := q6r
    have g8 : (0 : Int) ≤ (fv Po 1 1).toInt ∧ (fv Po 1 1).toInt ≤ 8 := Typ.rng hT rl_1 (by decide) (by decide) rfl
    have w9 := np_ar q6
    refine mp_a (a_astore_n (L' := [(2, .ref b5), (0, .ref 0), (1, .int t1)]) dX6_fewest_8 (by decide) rfl) (mpp 9 rfl ?_)
    refine mp_a (a_aload_n dX6_fewest_9 rfl) (mpp 10 rfl ?_)
    refine mp_t (s_ifnonnullR (t := 19) dX6_fewest_10 (by decide)) ?_
    refine mp_a (a_aload_n dX6_fewest_19 rfl) (mpp 20 rfl ?_)
    refine mt_getU (i := 39) (k := 5) (A := 291) hT dX6_fewest_20 rfl rl_0 (by decide) rfl (by decide) rfl un_10 (mpp 23 rfl ?_)
    refine mp_a (a_aload_n dX6_fewest_23 rfl) (mpp 24 rfl ?_)
    refine mt_callv (i := 200) (q' := q_81) (As := [.ref b5]) (rest := []) hT dX6_fewest_24 rfl qm_81 (by decide) rfl rl_291 (by decide) rfl (Nat.le_of_ble_eq_true rfl) rfl ⟨rfl, rfl⟩ ⟨Nat.le_of_ble_eq_true rfl, Nat.le_of_ble_eq_true rfl⟩ (EvP.mono (by decide) (c_CR_fewestChanges_Reducer_NPiece hT hX q6)) (fun r10 P11 g12 => mpp 27 rfl ?_)
    obtain ⟨⟨x13, rfl, g14⟩, hT15, k16, R17⟩ := g12
    have k18 : KW [640, 641, 704, 768] Po P11 := KW.trans KW.refl k16 rfl
    have wx13 := ti_full x13
    show MEvP _ none q_80 27 [(2, .ref b5), (0, .ref 0), (1, .int t1)] [.int x13] _ _ _ _
    exact mp_iret ⟨⟨_, rfl, trivial⟩, hT15, k18, trivial⟩ dX6_fewest_27 (Or.inl rfl)

set_option maxHeartbeats 4000000 in
theorem c_F_place {Po : mP} {t1 : Int32} {t2 : Int32} (hT : Typ Po) (hX : XR Po)   : EvP 3 82 [.ref 0, .int t1, .int t2] Po (fun r P' => (∃ x : Int32, r = some (.int x) ∧ (True)) ∧ P' = Po) := by
  refine EvP.of qm_82 (Nat.le_of_ble_eq_true rfl) rfl ?_
  show MEvP _ none q_82 0 [(0, .ref 0), (1, .int t1), (2, .int t2)] [] _ 0 0 _
  have w_t1 := ti_full t1
  have w_t2 := ti_full t2
  refine mp_a (a_aload_n dX6_place_0 rfl) (mpp 1 rfl ?_)
  refine mt_getU (i := 10) (k := 0) (A := 1) hT dX6_place_1 rfl rl_0 (by decide) rfl (by decide) rfl un_31 (mpp 4 rfl ?_)
  refine mp_a (a_iload_n dX6_place_4 rfl) (mpp 5 rfl ?_)
  refine mt_callv (i := 94) (q' := q_9) (As := [.int t1]) (rest := []) hT dX6_place_5 rfl qm_9 (by decide) rfl rl_1 (by decide) rfl (Nat.le_of_ble_eq_true rfl) rfl ⟨rfl, rfl⟩ ⟨Nat.le_of_ble_eq_true rfl, Nat.le_of_ble_eq_true rfl⟩ (EvP.mono (by decide) (c_CS_pieceAt_NState hT hX )) (fun r1 P2 g3 => mpp 8 rfl ?_)
  obtain ⟨g3, e4⟩ := g3
  have e4 := e4.symm
  subst e4
  rcases g3 with ⟨rfl, q6n⟩ | ⟨b5, rfl, q6, q6r⟩
  · show MEvP _ none q_82 8 [(0, .ref 0), (1, .int t1), (2, .int t2)] [.null] _ _ _ _
    replace q6n : t1.toInt < 0 ∨ (fv Po 1 1).toInt ≤ t1.toInt ∨ 8 ≤ t1.toInt := q6n
    have g7 : (0 : Int) ≤ (fv Po 1 1).toInt ∧ (fv Po 1 1).toInt ≤ 8 := Typ.rng hT rl_1 (by decide) (by decide) rfl
    refine mp_a (a_astore_nN (L' := [(3, .null), (0, .ref 0), (1, .int t1), (2, .int t2)]) dX6_place_8 (by decide) rfl) (mpp 9 rfl ?_)
    refine mp_a (a_aload_nN dX6_place_9 rfl) (mpp 10 rfl ?_)
    refine mp_t (s_ifnonnullN dX6_place_10) (mpp 13 rfl ?_)
    refine mp_a (a_sipush (v := -1001) dX6_place_13 rfl) (mpp 16 rfl ?_)
    exact mp_iret ⟨⟨_, rfl, trivial⟩, rfl⟩ dX6_place_16 (Or.inl rfl)
  · show MEvP _ none q_82 8 [(0, .ref 0), (1, .int t1), (2, .int t2)] [.ref b5] _ _ _ _
    replace q6r : 0 ≤ t1.toInt ∧ t1.toInt ≤ 7 ∧ t1.toInt + 1 ≤ (fv Po 1 1).toInt ∧ rv Po 2 t1.toInt.toNat = b5 := q6r
    have g8 : (0 : Int) ≤ (fv Po 1 1).toInt ∧ (fv Po 1 1).toInt ≤ 8 := Typ.rng hT rl_1 (by decide) (by decide) rfl
    have w9 := np_ar q6
    refine mp_a (a_astore_n (L' := [(3, .ref b5), (0, .ref 0), (1, .int t1), (2, .int t2)]) dX6_place_8 (by decide) rfl) (mpp 9 rfl ?_)
    refine mp_a (a_aload_n dX6_place_9 rfl) (mpp 10 rfl ?_)
    refine mp_t (s_ifnonnullR (t := 17) dX6_place_10 (by decide)) ?_
    refine mp_a (a_aload_n dX6_place_17 rfl) (mpp 18 rfl ?_)
    have g10 := ti_full (fv Po b5 0)
    refine mt_getI (i := 130) (k := 0) hT dX6_place_18 rfl q6 (by decide) rfl (by decide) rfl (fun g11 g12 => mpp 21 rfl ?_)
    refine mp_Tb (t := 28) (j_if_eq dX6_place_21) (by decide) (fun c13 => ?_) (fun c13 => mpp 24 rfl ?_)
    · have c13 : (fv Po b5 0).toInt = 0 := ti_eq c13
      refine mp_a (a_iload_n dX6_place_28 rfl) (mpp 29 rfl ?_)
      refine mp_Tb (t := 40) (j_if_lt dX6_place_29) (by decide) (fun c14 => ?_) (fun c14 => mpp 32 rfl ?_)
      · have c14 : t2.toInt < 0 := ti_lt c14
        refine mp_a (a_sipush (v := -1001) dX6_place_40 rfl) (mpp 43 rfl ?_)
        exact mp_iret ⟨⟨_, rfl, trivial⟩, rfl⟩ dX6_place_43 (Or.inl rfl)
      · have c14 : t2.toInt ≥ 0 := ti_lt_n c14
        refine mp_a (a_iload_n dX6_place_32 rfl) (mpp 33 rfl ?_)
        refine mp_a (a_aload_n dX6_place_33 rfl) (mpp 34 rfl ?_)
        have g15 : (0 : Int) ≤ (fv Po b5 1).toInt ∧ (fv Po b5 1).toInt ≤ 8 := Typ.rng hT q6 (by decide) (by decide) rfl
        refine mt_getI (i := 143) (k := 1) hT dX6_place_34 rfl q6 (by decide) rfl (by decide) rfl (fun g16 g17 => mpp 37 rfl ?_)
        refine mp_Tb (t := 44) (j_icmp_le dX6_place_37) (by decide) (fun c18 => ?_) (fun c18 => mpp 40 rfl ?_)
        · have c18 : t2.toInt ≤ (fv Po b5 1).toInt := ti_le c18
          refine mp_a (a_aload_n dX6_place_44 rfl) (mpp 45 rfl ?_)
          refine mp_a (a_iload_n dX6_place_45 rfl) (mpp 46 rfl ?_)
          refine mt_callv (i := 203) (q' := q_13) (As := [.int t2]) (rest := []) hT dX6_place_46 rfl qm_13 (by decide) rfl q6 (by decide) rfl (Nat.le_of_ble_eq_true rfl) rfl ⟨rfl, rfl⟩ ⟨Nat.le_of_ble_eq_true rfl, Nat.le_of_ble_eq_true rfl⟩ (EvP.mono (by decide) (c_CP_placeOf_NPiece hT hX q6)) (fun r19 P20 g21 => mpp 49 rfl ?_)
          obtain ⟨⟨x22, rfl, g23⟩, e24⟩ := g21
          have e24 := e24.symm
          subst e24
          have wx22 := ti_full x22
          replace g23 : x22.toInt = (plF (fun j : Nat => fv Po (b5 + 1) j) (min t2.toInt (fv Po b5 1).toInt).toNat).toInt := g23
          show MEvP _ none q_82 49 [(3, .ref b5), (0, .ref 0), (1, .int t1), (2, .int t2)] [.int x22] _ _ _ _
          exact mp_iret ⟨⟨_, rfl, trivial⟩, rfl⟩ dX6_place_49 (Or.inl rfl)
        · have c18 : t2.toInt > (fv Po b5 1).toInt := ti_le_n c18
          refine mp_a (a_sipush (v := -1001) dX6_place_40 rfl) (mpp 43 rfl ?_)
          exact mp_iret ⟨⟨_, rfl, trivial⟩, rfl⟩ dX6_place_43 (Or.inl rfl)
    · have c13 : (fv Po b5 0).toInt ≠ 0 := ti_eq_n c13
      refine mp_a (a_sipush (v := -1002) dX6_place_24 rfl) (mpp 27 rfl ?_)
      exact mp_iret ⟨⟨_, rfl, trivial⟩, rfl⟩ dX6_place_27 (Or.inl rfl)

