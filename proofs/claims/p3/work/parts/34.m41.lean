/-! methods on typed pools, 41 (written by a program) -/
set_option maxHeartbeats 4000000 in
theorem c_M_foldsAgain {Po : mP} {t1 : Int32} (hT : Typ Po) (hR : Rel Po)  : EvP 14 198 [.ref 301, .int t1] Po (fun r P' => (∃ x : Int32, r = some (.int x) ∧ (True)) ∧ Typ P' ∧ KW [1107, 1108, 1109, 1664, 1728, 1792, 1856] Po P' ∧ Rel P') := by
  refine EvP.of qm_198 (Nat.le_of_ble_eq_true rfl) rfl ?_
  show MEvP _ none q_198 0 [(0, .ref 301), (1, .int t1)] [] _ 0 0 _
  have w_t1 := ti_full t1
  refine mp_a (a_aload_n dX7_foldsAgain_0 rfl) (mpp 1 rfl ?_)
  refine mp_a (a_iload_n dX7_foldsAgain_1 rfl) (mpp 2 rfl ?_)
  refine mt_callv (i := 279) (q' := q_199) (As := [.int t1]) (rest := []) hT dX7_foldsAgain_2 rfl qm_199 (by decide) rfl rl_301 (by decide) rfl (Nat.le_of_ble_eq_true rfl) rfl ⟨rfl, rfl⟩ ⟨Nat.le_of_ble_eq_true rfl, Nat.le_of_ble_eq_true rfl⟩ (EvP.mono (by decide) (c_M_wrongStrip hT )) (fun r1 P2 g3 => mpp 5 rfl ?_)
  obtain ⟨⟨x4, rfl, g5⟩, e6⟩ := g3
  have e6 := e6.symm
  subst e6
  have wx4 := ti_full x4
  replace g5 : x4.toInt ≠ 0 ∨ (0 ≤ t1.toInt ∧ t1.toInt + 1 ≤ (fv Po 302 0).toInt ∧ t1.toInt ≤ 7 ∧ (fv Po 302 (3 + 19 * t1.toInt.toNat)).toInt = 0) := g5
  have g7 : (0 : Int) ≤ (fv Po 302 0).toInt ∧ (fv Po 302 0).toInt ≤ 8 := Typ.rng hT rl_302 (by decide) (by decide) rfl
  try have g8 : (0 : Int) ≤ (fv Po 302 (3 + 19 * t1.toInt.toNat)).toInt ∧ (fv Po 302 (3 + 19 * t1.toInt.toNat)).toInt ≤ 1 := s3_rng hT (by omega)
  show MEvP _ none q_198 5 [(0, .ref 301), (1, .int t1)] [.int x4] _ _ _ _
  refine mp_a (a_istore_n (L' := [(2, .int x4), (0, .ref 301), (1, .int t1)]) dX7_foldsAgain_5 (by decide) rfl) (mpp 6 rfl ?_)
  refine mp_a (a_iload_n dX7_foldsAgain_6 rfl) (mpp 7 rfl ?_)
  refine mp_Tb (t := 14) (j_if_eq dX7_foldsAgain_7) (by decide) (fun c9 => ?_) (fun c9 => mpp 10 rfl ?_)
  · have c9 : x4.toInt = 0 := ti_eq c9
    refine mp_a (a_aload_n dX7_foldsAgain_14 rfl) (mpp 15 rfl ?_)
    refine mp_a (a_iload_n dX7_foldsAgain_15 rfl) (mpp 16 rfl ?_)
    try have g10 : (0 : Int) ≤ (fv Po 302 (4 + 19 * t1.toInt.toNat)).toInt ∧ (fv Po 302 (4 + 19 * t1.toInt.toNat)).toInt ≤ 8 := s4_rng hT (by omega)
    have p11 : 0 ≤ t1.toInt := by omega
    have p12 : t1.toInt ≤ 7 := by omega
    have p13 : (fv Po 302 (4 + 19 * t1.toInt.toNat)).toInt ≤ 7 := Rel.use hR (p := t1.toInt.toNat) (by omega) (by omega)
    refine mt_callv (i := 282) (q' := q_200) (As := [.int t1]) (rest := []) hT dX7_foldsAgain_16 rfl qm_200 (by decide) rfl rl_301 (by decide) rfl (Nat.le_of_ble_eq_true rfl) rfl ⟨rfl, rfl⟩ ⟨Nat.le_of_ble_eq_true rfl, Nat.le_of_ble_eq_true rfl⟩ (EvP.mono (by decide) (c_M_ordersOf hT p11 p12 p13 )) (fun r14 P15 g16 => mpp 19 rfl ?_)
    obtain ⟨⟨x17, rfl, g18⟩, hT19, k20, R21⟩ := g16
    have k22 : KW [1107, 1108, 1109, 1664, 1728, 1792, 1856] Po P15 := KW.trans KW.refl k20 rfl
    have R24 := Rel.kw hR k20 rfl
    have wx17 := ti_full x17
    show MEvP _ none q_198 19 [(2, .int x4), (0, .ref 301), (1, .int t1)] [.int x17] _ _ _ _
    refine mp_Tb (t := 26) (j_if_le dX7_foldsAgain_19) (by decide) (fun c25 => ?_) (fun c25 => mpp 22 rfl ?_)
    · have c25 : x17.toInt ≤ 0 := ti_le c25
      refine mp_a (a_iconst (v := 0) dX7_foldsAgain_26 rfl) (mpp 27 rfl ?_)
      exact mp_iret ⟨⟨_, rfl, trivial⟩, hT19, k22, R24⟩ dX7_foldsAgain_27 (Or.inl rfl)
    · have c25 : x17.toInt > 0 := ti_le_n c25
      refine mp_a (a_iconst (v := 1) dX7_foldsAgain_22 rfl) (mpp 23 rfl ?_)
      refine mp_a (a_goto (t := 27) dX7_foldsAgain_23 (by decide)) ?_
      exact mp_iret ⟨⟨_, rfl, trivial⟩, hT19, k22, R24⟩ dX7_foldsAgain_27 (Or.inl rfl)
  · have c9 : x4.toInt ≠ 0 := ti_eq_n c9
    refine mp_a (a_iload_n dX7_foldsAgain_10 rfl) (mpp 11 rfl ?_)
    refine mp_a (a_goto (t := 27) dX7_foldsAgain_11 (by decide)) ?_
    exact mp_iret ⟨⟨_, rfl, trivial⟩, hT, KW.refl, hR⟩ dX7_foldsAgain_27 (Or.inl rfl)

set_option maxHeartbeats 4000000 in
theorem c_M_step {Po : mP} {t1 : Int32} (hT : Typ Po)   : EvP 6 175 [.ref 301, .int t1] Po (fun r P' => (∃ x : Int32, r = some (.int x) ∧ (True)) ∧ Typ P' ∧ KW [1101, 1102, 1536, 1600] Po P' ∧ True) := by
  refine EvP.of qm_175 (Nat.le_of_ble_eq_true rfl) rfl ?_
  show MEvP _ none q_175 0 [(0, .ref 301), (1, .int t1)] [] _ 0 0 _
  have w_t1 := ti_full t1
  refine mp_a (a_aload_n dX7_step_0 rfl) (mpp 1 rfl ?_)
  refine mp_a (a_iload_n dX7_step_1 rfl) (mpp 2 rfl ?_)
  refine mt_callv (i := 85) (q' := q_144) (As := [.int t1]) (rest := []) hT dX7_step_2 rfl qm_144 (by decide) rfl rl_301 (by decide) rfl (Nat.le_of_ble_eq_true rfl) rfl ⟨rfl, rfl⟩ ⟨Nat.le_of_ble_eq_true rfl, Nat.le_of_ble_eq_true rfl⟩ (EvP.mono (by decide) (c_M_isPiece hT )) (fun r1 P2 g3 => mpp 5 rfl ?_)
  obtain ⟨⟨x4, rfl, g5⟩, e6⟩ := g3
  have e6 := e6.symm
  subst e6
  have wx4 := ti_full x4
  replace g5 : 0 ≤ x4.toInt ∧ x4.toInt ≤ 1 ∧ ((x4.toInt = 1 ∧ 0 ≤ t1.toInt ∧ t1.toInt + 1 ≤ (fv Po 302 0).toInt ∧ t1.toInt ≤ 7) ∨ (x4.toInt = 0 ∧ (t1.toInt < 0 ∨ (fv Po 302 0).toInt ≤ t1.toInt))) := g5
  have g7 : (0 : Int) ≤ (fv Po 302 0).toInt ∧ (fv Po 302 0).toInt ≤ 8 := Typ.rng hT rl_302 (by decide) (by decide) rfl
  show MEvP _ none q_175 5 [(0, .ref 301), (1, .int t1)] [.int x4] _ _ _ _
  refine mp_Tb (t := 12) (j_if_ne dX7_step_5) (by decide) (fun c8 => ?_) (fun c8 => mpp 8 rfl ?_)
  · have c8 : x4.toInt ≠ 0 := ti_ne c8
    refine mp_a (a_aload_n dX7_step_12 rfl) (mpp 13 rfl ?_)
    refine mp_a (a_iload_n dX7_step_13 rfl) (mpp 14 rfl ?_)
    have p9 : 0 ≤ t1.toInt := by omega
    have p10 : t1.toInt ≤ 7 := by omega
    refine mt_callv (i := 196) (q' := q_164) (As := [.int t1]) (rest := []) hT dX7_step_14 rfl qm_164 (by decide) rfl rl_301 (by decide) rfl (Nat.le_of_ble_eq_true rfl) rfl ⟨rfl, rfl⟩ ⟨Nat.le_of_ble_eq_true rfl, Nat.le_of_ble_eq_true rfl⟩ (EvP.mono (by decide) (c_M_lays hT p9 p10 )) (fun r11 P12 g13 => mpp 17 rfl ?_)
    obtain ⟨⟨rfl, g15⟩, hT16, k17, R18⟩ := g13
    have k19 : KW [1101, 1102, 1536, 1600] Po P12 := KW.trans KW.refl k17 rfl
    replace g15 : (fv P12 301 14).toInt = (fv Po 302 (3 + 19 * t1.toInt.toNat)).toInt ∧ (fv P12 301 13).toInt = (fv Po 302 (4 + 19 * t1.toInt.toNat)).toInt ∧ (∀ j : Nat, j < 8 → fv P12 308 j = fv Po 302 (6 + 19 * t1.toInt.toNat + j)) ∧ ∀ j : Nat, j < 8 → fv P12 309 j = fv Po 302 (14 + 19 * t1.toInt.toNat + j) := g15
    have g21 : (0 : Int) ≤ (fv P12 301 14).toInt ∧ (fv P12 301 14).toInt ≤ 1 := Typ.rng hT16 rl_301 (by decide) (by decide) rfl
    try have g22 : (0 : Int) ≤ (fv Po 302 (3 + 19 * t1.toInt.toNat)).toInt ∧ (fv Po 302 (3 + 19 * t1.toInt.toNat)).toInt ≤ 1 := s3_rng hT (by omega)
    have g23 : (0 : Int) ≤ (fv P12 301 13).toInt ∧ (fv P12 301 13).toInt ≤ 8 := Typ.rng hT16 rl_301 (by decide) (by decide) rfl
    try have g24 : (0 : Int) ≤ (fv Po 302 (4 + 19 * t1.toInt.toNat)).toInt ∧ (fv Po 302 (4 + 19 * t1.toInt.toNat)).toInt ≤ 8 := s4_rng hT (by omega)
    show MEvP _ none q_175 17 [(0, .ref 301), (1, .int t1)] [] _ _ _ _
    refine mp_a (a_aload_n dX7_step_17 rfl) (mpp 18 rfl ?_)
    refine mp_a (a_iload_n dX7_step_18 rfl) (mpp 19 rfl ?_)
    refine mp_a (a_iconst (v := 0) dX7_step_19 rfl) (mpp 20 rfl ?_)
    have p25 : 0 ≤ t1.toInt := by omega
    have p26 : t1.toInt ≤ 7 := by omega
    refine mt_callv (i := 136) (q' := q_149) (As := [.int t1, .int 0]) (rest := []) hT16 dX7_step_20 rfl qm_149 (by decide) rfl rl_301 (by decide) rfl (Nat.le_of_ble_eq_true rfl) rfl ⟨rfl, rfl⟩ ⟨Nat.le_of_ble_eq_true rfl, Nat.le_of_ble_eq_true rfl⟩ (EvP.mono (by decide) (c_M_countOf hT16 p25 p26 )) (fun r27 P28 g29 => mpp 23 rfl ?_)
    obtain ⟨⟨x30, rfl, g31⟩, e32⟩ := g29
    have e32 := e32.symm
    subst e32
    have wx30 := ti_full x30
    replace g31 : (x30.toInt ≤ 0 ∨ UD P12 t1.toInt.toNat (0 : Int)) ∧ 0 ≤ x30.toInt ∧ x30.toInt ≤ 8 ∧ x30.toInt = cntF (fun j : Nat => fv P12 302 (14 + 19 * t1.toInt.toNat + j)) (0 : Int) (nC (fv P12 302 (3 + 19 * t1.toInt.toNat)).toInt (fv P12 302 (4 + 19 * t1.toInt.toNat)).toInt) := g31
    have e33 : (fv P12 302 (3 + 19 * t1.toInt.toNat)).toInt = (fv Po 302 (3 + 19 * t1.toInt.toNat)).toInt := congrArg Int32.toInt (KW.at k17 (3 + 19 * t1.toInt.toNat) rl_302 rfl)
    have e34 : (fv P12 302 (4 + 19 * t1.toInt.toNat)).toInt = (fv Po 302 (4 + 19 * t1.toInt.toNat)).toInt := congrArg Int32.toInt (KW.at k17 (4 + 19 * t1.toInt.toNat) rl_302 rfl)
    show MEvP _ none q_175 23 [(0, .ref 301), (1, .int t1)] [.int x30] _ _ _ _
    refine mp_Tb (t := 30) (j_if_le dX7_step_23) (by decide) (fun c35 => ?_) (fun c35 => mpp 26 rfl ?_)
    · have c35 : x30.toInt ≤ 0 := ti_le c35
      refine mp_a (a_aload_n dX7_step_30 rfl) (mpp 31 rfl ?_)
      refine mt_callv (i := 187) (q' := q_167) (As := []) (rest := []) hT16 dX7_step_31 rfl qm_167 (by decide) rfl rl_301 (by decide) rfl (Nat.le_of_ble_eq_true rfl) rfl ⟨rfl, rfl⟩ ⟨Nat.le_of_ble_eq_true rfl, Nat.le_of_ble_eq_true rfl⟩ (EvP.mono (by decide) (c_M_stepNow hT16 )) (fun r36 P37 g38 => mpp 34 rfl ?_)
      obtain ⟨⟨x39, rfl, g40⟩, e41⟩ := g38
      have e41 := e41.symm
      subst e41
      have wx39 := ti_full x39
      replace g40 : (x39.toInt = 0 ∨ (x39.toInt = 1 ∧ (fv P12 301 14).toInt = 0 ∧ 2 ≤ (fv P12 301 13).toInt) ∨ (x39.toInt = 2 ∧ (fv P12 301 14).toInt = 0 ∧ 2 ≤ (fv P12 301 13).toInt) ∨ ((fv P12 301 14).toInt = 1 ∧ 3 ≤ (fv P12 301 13).toInt ∧ 10 ≤ x39.toInt ∧ x39.toInt + 1 ≤ (fv P12 301 13).toInt + 10) ∨ ((fv P12 301 14).toInt = 0 ∧ 11 ≤ x39.toInt ∧ x39.toInt + 2 ≤ (fv P12 301 13).toInt + 10)) ∧ FS cM (rM P12) x39.toInt := g40
      show MEvP _ none q_175 34 [(0, .ref 301), (1, .int t1)] [.int x39] _ _ _ _
      refine mp_a (a_istore_n (L' := [(2, .int x39), (0, .ref 301), (1, .int t1)]) dX7_step_34 (by decide) rfl) (mpp 35 rfl ?_)
      refine mp_a (a_iload_n dX7_step_35 rfl) (mpp 36 rfl ?_)
      refine mp_Tb (t := 45) (j_if_ne dX7_step_36) (by decide) (fun c42 => ?_) (fun c42 => mpp 39 rfl ?_)
      · have c42 : x39.toInt ≠ 0 := ti_ne c42
        refine mp_a (a_iload_n dX7_step_45 rfl) (mpp 46 rfl ?_)
        exact mp_iret ⟨⟨_, rfl, trivial⟩, hT16, k19, trivial⟩ dX7_step_46 (Or.inl rfl)
      · have c42 : x39.toInt = 0 := ti_ne_n c42
        refine mp_a (a_sipush (v := -1004) dX7_step_39 rfl) (mpp 42 rfl ?_)
        refine mp_a (a_goto (t := 46) dX7_step_42 (by decide)) ?_
        exact mp_iret ⟨⟨_, rfl, trivial⟩, hT16, k19, trivial⟩ dX7_step_46 (Or.inl rfl)
    · have c35 : x30.toInt > 0 := ti_le_n c35
      refine mp_a (a_iconst (v := 0) dX7_step_26 rfl) (mpp 27 rfl ?_)
      refine mp_a (a_goto (t := 34) dX7_step_27 (by decide)) ?_
      refine mp_a (a_istore_n (L' := [(2, .int 0), (0, .ref 301), (1, .int t1)]) dX7_step_34 (by decide) rfl) (mpp 35 rfl ?_)
      refine mp_a (a_iload_n dX7_step_35 rfl) (mpp 36 rfl ?_)
      refine mp_Tf (t := 45) (j_if_ne dX7_step_36) (by decide) (by decide) (mpp 39 rfl ?_)
      refine mp_a (a_sipush (v := -1004) dX7_step_39 rfl) (mpp 42 rfl ?_)
      refine mp_a (a_goto (t := 46) dX7_step_42 (by decide)) ?_
      exact mp_iret ⟨⟨_, rfl, trivial⟩, hT16, k19, trivial⟩ dX7_step_46 (Or.inl rfl)
  · have c8 : x4.toInt = 0 := ti_ne_n c8
    refine mp_a (a_sipush (v := -1001) dX7_step_8 rfl) (mpp 11 rfl ?_)
    exact mp_iret ⟨⟨_, rfl, trivial⟩, hT, KW.refl, trivial⟩ dX7_step_11 (Or.inl rfl)

set_option maxHeartbeats 4000000 in
theorem c_M_steps {Po : mP} {t1 : Int32} (hT : Typ Po)   : EvP 6 176 [.ref 301, .int t1] Po (fun r P' => (∃ x : Int32, r = some (.int x) ∧ (True)) ∧ Typ P' ∧ KW [1101, 1102, 1536, 1600] Po P' ∧ True) := by
  refine EvP.of qm_176 (Nat.le_of_ble_eq_true rfl) rfl ?_
  show MEvP _ none q_176 0 [(0, .ref 301), (1, .int t1)] [] _ 0 0 _
  have w_t1 := ti_full t1
  refine mp_a (a_aload_n dX7_steps_0 rfl) (mpp 1 rfl ?_)
  refine mp_a (a_iload_n dX7_steps_1 rfl) (mpp 2 rfl ?_)
  refine mt_callv (i := 85) (q' := q_144) (As := [.int t1]) (rest := []) hT dX7_steps_2 rfl qm_144 (by decide) rfl rl_301 (by decide) rfl (Nat.le_of_ble_eq_true rfl) rfl ⟨rfl, rfl⟩ ⟨Nat.le_of_ble_eq_true rfl, Nat.le_of_ble_eq_true rfl⟩ (EvP.mono (by decide) (c_M_isPiece hT )) (fun r1 P2 g3 => mpp 5 rfl ?_)
  obtain ⟨⟨x4, rfl, g5⟩, e6⟩ := g3
  have e6 := e6.symm
  subst e6
  have wx4 := ti_full x4
  replace g5 : 0 ≤ x4.toInt ∧ x4.toInt ≤ 1 ∧ ((x4.toInt = 1 ∧ 0 ≤ t1.toInt ∧ t1.toInt + 1 ≤ (fv Po 302 0).toInt ∧ t1.toInt ≤ 7) ∨ (x4.toInt = 0 ∧ (t1.toInt < 0 ∨ (fv Po 302 0).toInt ≤ t1.toInt))) := g5
  have g7 : (0 : Int) ≤ (fv Po 302 0).toInt ∧ (fv Po 302 0).toInt ≤ 8 := Typ.rng hT rl_302 (by decide) (by decide) rfl
  show MEvP _ none q_176 5 [(0, .ref 301), (1, .int t1)] [.int x4] _ _ _ _
  refine mp_Tb (t := 12) (j_if_ne dX7_steps_5) (by decide) (fun c8 => ?_) (fun c8 => mpp 8 rfl ?_)
  · have c8 : x4.toInt ≠ 0 := ti_ne c8
    refine mp_a (a_aload_n dX7_steps_12 rfl) (mpp 13 rfl ?_)
    refine mp_a (a_iload_n dX7_steps_13 rfl) (mpp 14 rfl ?_)
    have p9 : 0 ≤ t1.toInt := by omega
    have p10 : t1.toInt ≤ 7 := by omega
    refine mt_callv (i := 196) (q' := q_164) (As := [.int t1]) (rest := []) hT dX7_steps_14 rfl qm_164 (by decide) rfl rl_301 (by decide) rfl (Nat.le_of_ble_eq_true rfl) rfl ⟨rfl, rfl⟩ ⟨Nat.le_of_ble_eq_true rfl, Nat.le_of_ble_eq_true rfl⟩ (EvP.mono (by decide) (c_M_lays hT p9 p10 )) (fun r11 P12 g13 => mpp 17 rfl ?_)
    obtain ⟨⟨rfl, g15⟩, hT16, k17, R18⟩ := g13
    have k19 : KW [1101, 1102, 1536, 1600] Po P12 := KW.trans KW.refl k17 rfl
    replace g15 : (fv P12 301 14).toInt = (fv Po 302 (3 + 19 * t1.toInt.toNat)).toInt ∧ (fv P12 301 13).toInt = (fv Po 302 (4 + 19 * t1.toInt.toNat)).toInt ∧ (∀ j : Nat, j < 8 → fv P12 308 j = fv Po 302 (6 + 19 * t1.toInt.toNat + j)) ∧ ∀ j : Nat, j < 8 → fv P12 309 j = fv Po 302 (14 + 19 * t1.toInt.toNat + j) := g15
    have g21 : (0 : Int) ≤ (fv P12 301 14).toInt ∧ (fv P12 301 14).toInt ≤ 1 := Typ.rng hT16 rl_301 (by decide) (by decide) rfl
    try have g22 : (0 : Int) ≤ (fv Po 302 (3 + 19 * t1.toInt.toNat)).toInt ∧ (fv Po 302 (3 + 19 * t1.toInt.toNat)).toInt ≤ 1 := s3_rng hT (by omega)
    have g23 : (0 : Int) ≤ (fv P12 301 13).toInt ∧ (fv P12 301 13).toInt ≤ 8 := Typ.rng hT16 rl_301 (by decide) (by decide) rfl
    try have g24 : (0 : Int) ≤ (fv Po 302 (4 + 19 * t1.toInt.toNat)).toInt ∧ (fv Po 302 (4 + 19 * t1.toInt.toNat)).toInt ≤ 8 := s4_rng hT (by omega)
    show MEvP _ none q_176 17 [(0, .ref 301), (1, .int t1)] [] _ _ _ _
    refine mp_a (a_aload_n dX7_steps_17 rfl) (mpp 18 rfl ?_)
    refine mp_a (a_iload_n dX7_steps_18 rfl) (mpp 19 rfl ?_)
    refine mp_a (a_iconst (v := 0) dX7_steps_19 rfl) (mpp 20 rfl ?_)
    have p25 : 0 ≤ t1.toInt := by omega
    have p26 : t1.toInt ≤ 7 := by omega
    refine mt_callv (i := 136) (q' := q_149) (As := [.int t1, .int 0]) (rest := []) hT16 dX7_steps_20 rfl qm_149 (by decide) rfl rl_301 (by decide) rfl (Nat.le_of_ble_eq_true rfl) rfl ⟨rfl, rfl⟩ ⟨Nat.le_of_ble_eq_true rfl, Nat.le_of_ble_eq_true rfl⟩ (EvP.mono (by decide) (c_M_countOf hT16 p25 p26 )) (fun r27 P28 g29 => mpp 23 rfl ?_)
    obtain ⟨⟨x30, rfl, g31⟩, e32⟩ := g29
    have e32 := e32.symm
    subst e32
    have wx30 := ti_full x30
    replace g31 : (x30.toInt ≤ 0 ∨ UD P12 t1.toInt.toNat (0 : Int)) ∧ 0 ≤ x30.toInt ∧ x30.toInt ≤ 8 ∧ x30.toInt = cntF (fun j : Nat => fv P12 302 (14 + 19 * t1.toInt.toNat + j)) (0 : Int) (nC (fv P12 302 (3 + 19 * t1.toInt.toNat)).toInt (fv P12 302 (4 + 19 * t1.toInt.toNat)).toInt) := g31
    have e33 : (fv P12 302 (3 + 19 * t1.toInt.toNat)).toInt = (fv Po 302 (3 + 19 * t1.toInt.toNat)).toInt := congrArg Int32.toInt (KW.at k17 (3 + 19 * t1.toInt.toNat) rl_302 rfl)
    have e34 : (fv P12 302 (4 + 19 * t1.toInt.toNat)).toInt = (fv Po 302 (4 + 19 * t1.toInt.toNat)).toInt := congrArg Int32.toInt (KW.at k17 (4 + 19 * t1.toInt.toNat) rl_302 rfl)
    show MEvP _ none q_176 23 [(0, .ref 301), (1, .int t1)] [.int x30] _ _ _ _
    refine mp_Tb (t := 32) (j_if_le dX7_steps_23) (by decide) (fun c35 => ?_) (fun c35 => mpp 26 rfl ?_)
    · have c35 : x30.toInt ≤ 0 := ti_le c35
      refine mp_a (a_aload_n dX7_steps_32 rfl) (mpp 33 rfl ?_)
      have p36 : (fv P12 301 13).toInt ≤ 8 := by omega
      refine mt_callv (i := 193) (q' := q_166) (As := []) (rest := []) hT16 dX7_steps_33 rfl qm_166 (by decide) rfl rl_301 (by decide) rfl (Nat.le_of_ble_eq_true rfl) rfl ⟨rfl, rfl⟩ ⟨Nat.le_of_ble_eq_true rfl, Nat.le_of_ble_eq_true rfl⟩ (EvP.mono (by decide) (c_M_reduces hT16 p36 )) (fun r37 P38 g39 => mpp 36 rfl ?_)
      obtain ⟨⟨x40, rfl, g41⟩, hT42, k43, R44⟩ := g39
      have k45 : KW [1101, 1102, 1536, 1600] Po P38 := KW.trans k19 k43 rfl
      have wx40 := ti_full x40
      replace g41 : 0 ≤ x40.toInt ∧ RD cM (rM P12) x40.toInt.toNat (rM P38) := g41
      show MEvP _ none q_176 36 [(0, .ref 301), (1, .int t1)] [.int x40] _ _ _ _
      exact mp_iret ⟨⟨_, rfl, trivial⟩, hT42, k45, trivial⟩ dX7_steps_36 (Or.inl rfl)
    · have c35 : x30.toInt > 0 := ti_le_n c35
      refine mp_a (a_sipush (v := -1004) dX7_steps_26 rfl) (mpp 29 rfl ?_)
      refine mp_a (a_goto (t := 36) dX7_steps_29 (by decide)) ?_
      exact mp_iret ⟨⟨_, rfl, trivial⟩, hT16, k19, trivial⟩ dX7_steps_36 (Or.inl rfl)
  · have c8 : x4.toInt = 0 := ti_ne_n c8
    refine mp_a (a_sipush (v := -1001) dX7_steps_8 rfl) (mpp 11 rfl ?_)
    exact mp_iret ⟨⟨_, rfl, trivial⟩, hT, KW.refl, trivial⟩ dX7_steps_11 (Or.inl rfl)

set_option maxHeartbeats 4000000 in
theorem c_M_otherwise_l5 {Po : mP} {t1 : Int32} {t2 : Int32} (hT : Typ Po)  (hp0 : 0 ≤ t1.toInt) (hp1 : t1.toInt ≤ 7)  : ∀ (n : Nat) (v3 : Int32) (v4 : Int32), (0 ≤ v4.toInt) → (2147483647 - v4.toInt).toNat = n → MEvP 4 none q_178 5 [(0, .ref 301), (1, .int t1), (2, .int t2), (3, .int v3), (4, .int v4)] [] Po 0 0 (fun r P' => (∃ x : Int32, r = some (.int x) ∧ (True)) ∧ P' = Po) := by
  intro n
  induction n using Nat.strongRecOn with | _ n ih => ?_
  intro v3 v4 i_0 hm
  have w_t1 := ti_full t1
  have w_t2 := ti_full t2
  have w_v3 := ti_full v3
  have w_v4 := ti_full v4
  refine mp_a (a_iload dX7_otherwise_5 rfl) (mpp 7 rfl ?_)
  refine mp_a (a_aload_n dX7_otherwise_7 rfl) (mpp 8 rfl ?_)
  refine mp_a (a_iload_n dX7_otherwise_8 rfl) (mpp 9 rfl ?_)
  have p1 : 0 ≤ t1.toInt := by omega
  have p2 : t1.toInt ≤ 7 := by omega
  refine mt_callv (i := 88) (q' := q_136) (As := [.int t1]) (rest := [.int v4]) hT dX7_otherwise_9 rfl qm_136 (by decide) rfl rl_301 (by decide) rfl (Nat.le_of_ble_eq_true rfl) rfl ⟨rfl, rfl⟩ ⟨Nat.le_of_ble_eq_true rfl, Nat.le_of_ble_eq_true rfl⟩ (EvP.mono (by decide) (c_M_creases hT p1 p2 )) (fun r3 P4 g5 => mpp 12 rfl ?_)
  obtain ⟨⟨x6, rfl, g7⟩, e8⟩ := g5
  have e8 := e8.symm
  subst e8
  have wx6 := ti_full x6
  replace g7 : -1 ≤ x6.toInt ∧ x6.toInt ≤ 8 ∧ (((fv Po 302 (3 + 19 * t1.toInt.toNat)).toInt = 1 ∧ x6.toInt = (fv Po 302 (4 + 19 * t1.toInt.toNat)).toInt) ∨ ((fv Po 302 (3 + 19 * t1.toInt.toNat)).toInt = 0 ∧ x6.toInt = (fv Po 302 (4 + 19 * t1.toInt.toNat)).toInt - 1)) := g7
  try have g9 : (0 : Int) ≤ (fv Po 302 (3 + 19 * t1.toInt.toNat)).toInt ∧ (fv Po 302 (3 + 19 * t1.toInt.toNat)).toInt ≤ 1 := s3_rng hT (by omega)
  try have g10 : (0 : Int) ≤ (fv Po 302 (4 + 19 * t1.toInt.toNat)).toInt ∧ (fv Po 302 (4 + 19 * t1.toInt.toNat)).toInt ≤ 8 := s4_rng hT (by omega)
  show MEvP _ none q_178 12 [(0, .ref 301), (1, .int t1), (2, .int t2), (3, .int v3), (4, .int v4)] [.int x6, .int v4] _ _ _ _
  refine mp_Tb (t := 68) (j_icmp_ge dX7_otherwise_12) (by decide) (fun c11 => ?_) (fun c11 => mpp 15 rfl ?_)
  · have c11 : v4.toInt ≥ x6.toInt := ti_ge c11
    refine mp_a (a_iload_n dX7_otherwise_68 rfl) (mpp 69 rfl ?_)
    exact mp_iret ⟨⟨_, rfl, trivial⟩, rfl⟩ dX7_otherwise_69 (Or.inl rfl)
  · have c11 : v4.toInt < x6.toInt := ti_ge_n c11
    refine mp_a (a_iload_n dX7_otherwise_15 rfl) (mpp 16 rfl ?_)
    refine mp_a (a_iload dX7_otherwise_16 rfl) (mpp 18 rfl ?_)
    obtain ⟨z12, h13⟩ := ti_ex (t2 >>> (v4 &&& 31) : Int32)
    have wz12 := ti_full z12
    refine mp_t (s_ishr (v := z12) dX7_otherwise_18 h13) (mpp 19 rfl ?_)
    refine mp_a (a_iconst (v := 1) dX7_otherwise_19 rfl) (mpp 20 rfl ?_)
    obtain ⟨z14, h15⟩ := ti_ex (z12 &&& 1 : Int32)
    have wz14 := ti_full z14
    refine mp_t (s_iand (v := z14) dX7_otherwise_20 h15) (mpp 21 rfl ?_)
    refine mp_a (a_iconst (v := 1) dX7_otherwise_21 rfl) (mpp 22 rfl ?_)
    refine mp_Tb (t := 29) (j_icmp_ne dX7_otherwise_22) (by decide) (fun c16 => ?_) (fun c16 => mpp 25 rfl ?_)
    · have c16 : z14.toInt ≠ 1 := ti_ne c16
      refine mp_a (a_iconst (v := 1) dX7_otherwise_29 rfl) (mpp 30 rfl ?_)
      refine mp_a (a_istore (L' := [(5, .int 1), (0, .ref 301), (1, .int t1), (2, .int t2), (3, .int v3), (4, .int v4)]) dX7_otherwise_30 (by decide) rfl) (mpp 32 rfl ?_)
      refine mp_a (a_iload_n dX7_otherwise_32 rfl) (mpp 33 rfl ?_)
      refine mp_a (a_aload_n dX7_otherwise_33 rfl) (mpp 34 rfl ?_)
      refine mp_a (a_iload_n dX7_otherwise_34 rfl) (mpp 35 rfl ?_)
      refine mp_a (a_iload dX7_otherwise_35 rfl) (mpp 37 rfl ?_)
      have p17 : 0 ≤ t1.toInt := by omega
      have p18 : t1.toInt ≤ 7 := by omega
      have p19 : 0 ≤ v4.toInt := by omega
      have p20 : v4.toInt ≤ 7 := by omega
      refine mt_callv (i := 92) (q' := q_146) (As := [.int t1, .int v4]) (rest := [.int v3]) hT dX7_otherwise_37 rfl qm_146 (by decide) rfl rl_301 (by decide) rfl (Nat.le_of_ble_eq_true rfl) rfl ⟨rfl, rfl⟩ ⟨Nat.le_of_ble_eq_true rfl, Nat.le_of_ble_eq_true rfl⟩ (EvP.mono (by decide) (c_M_creaseOf hT p17 p18 p19 p20 )) (fun r21 P22 g23 => mpp 40 rfl ?_)
      obtain ⟨⟨x24, rfl, g25⟩, e26⟩ := g23
      have e26 := e26.symm
      subst e26
      have wx24 := ti_full x24
      replace g25 : x24.toInt = (fv Po 302 (14 + 19 * t1.toInt.toNat + v4.toInt.toNat)).toInt := g25
      show MEvP _ none q_178 40 [(5, .int 1), (0, .ref 301), (1, .int t1), (2, .int t2), (3, .int v3), (4, .int v4)] [.int x24, .int v3] _ _ _ _
      refine mp_Tb (t := 59) (j_if_eq dX7_otherwise_40) (by decide) (fun c27 => ?_) (fun c27 => mpp 43 rfl ?_)
      · have c27 : x24.toInt = 0 := ti_eq c27
        refine mp_a (a_iconst (v := 0) dX7_otherwise_59 rfl) (mpp 60 rfl ?_)
        obtain ⟨z28, h29⟩ := ti_ex (v3 + 0 : Int32)
        have wz28 := ti_full z28
        refine mp_t (s_iadd (v := z28) dX7_otherwise_60 h29) (mpp 61 rfl ?_)
        try have e30 : z28.toInt = v3.toInt + 0 := ti_addz h29 rfl rfl (by omega) (by omega)
        refine mp_a (a_istore_n (L' := [(3, .int z28), (5, .int 1), (0, .ref 301), (1, .int t1), (2, .int t2), (4, .int v4)]) dX7_otherwise_61 (by decide) rfl) (mpp 62 rfl ?_)
        obtain ⟨z31, h32⟩ := ti_ex (v4 + 1 : Int32)
        have wz31 := ti_full z31
        refine mp_a (a_iinc (v := z31) (L' := [(4, .int z31), (3, .int z28), (5, .int 1), (0, .ref 301), (1, .int t1), (2, .int t2)]) dX7_otherwise_62 (by decide) rfl h32 rfl) (mpp 65 rfl ?_)
        try have e33 : z31.toInt = v4.toInt + 1 := ti_addz h32 rfl rfl (by omega) (by omega)
        refine mp_a (a_goto (t := 5) dX7_otherwise_65 (by decide)) ?_
        refine MEvP.less (L := [(0, .ref 301), (1, .int t1), (2, .int t2), (3, .int z28), (4, .int z31)]) rfl rfl ⟨rfl, rfl, rfl, rfl, rfl, trivial⟩ ?_
        have i34 : 0 ≤ z31.toInt := by omega
        exact ih _ (by omega) _ _ i34 rfl
      · have c27 : x24.toInt ≠ 0 := ti_eq_n c27
        refine mp_a (a_aload_n dX7_otherwise_43 rfl) (mpp 44 rfl ?_)
        refine mp_a (a_iload_n dX7_otherwise_44 rfl) (mpp 45 rfl ?_)
        refine mp_a (a_iload dX7_otherwise_45 rfl) (mpp 47 rfl ?_)
        have p35 : 0 ≤ t1.toInt := by omega
        have p36 : t1.toInt ≤ 7 := by omega
        have p37 : 0 ≤ v4.toInt := by omega
        have p38 : v4.toInt ≤ 7 := by omega
        refine mt_callv (i := 92) (q' := q_146) (As := [.int t1, .int v4]) (rest := [.int v3]) hT dX7_otherwise_47 rfl qm_146 (by decide) rfl rl_301 (by decide) rfl (Nat.le_of_ble_eq_true rfl) rfl ⟨rfl, rfl⟩ ⟨Nat.le_of_ble_eq_true rfl, Nat.le_of_ble_eq_true rfl⟩ (EvP.mono (by decide) (c_M_creaseOf hT p35 p36 p37 p38 )) (fun r39 P40 g41 => mpp 50 rfl ?_)
        obtain ⟨⟨x42, rfl, g43⟩, e44⟩ := g41
        have e44 := e44.symm
        subst e44
        have wx42 := ti_full x42
        replace g43 : x42.toInt = (fv Po 302 (14 + 19 * t1.toInt.toNat + v4.toInt.toNat)).toInt := g43
        show MEvP _ none q_178 50 [(5, .int 1), (0, .ref 301), (1, .int t1), (2, .int t2), (3, .int v3), (4, .int v4)] [.int x42, .int v3] _ _ _ _
        refine mp_a (a_iload dX7_otherwise_50 rfl) (mpp 52 rfl ?_)
        refine mp_Tb (t := 59) (j_icmp_eq dX7_otherwise_52) (by decide) (fun c45 => ?_) (fun c45 => mpp 55 rfl ?_)
        · have c45 : x42.toInt = 1 := ti_eq c45
          refine mp_a (a_iconst (v := 0) dX7_otherwise_59 rfl) (mpp 60 rfl ?_)
          obtain ⟨z46, h47⟩ := ti_ex (v3 + 0 : Int32)
          have wz46 := ti_full z46
          refine mp_t (s_iadd (v := z46) dX7_otherwise_60 h47) (mpp 61 rfl ?_)
          try have e48 : z46.toInt = v3.toInt + 0 := ti_addz h47 rfl rfl (by omega) (by omega)
          refine mp_a (a_istore_n (L' := [(3, .int z46), (5, .int 1), (0, .ref 301), (1, .int t1), (2, .int t2), (4, .int v4)]) dX7_otherwise_61 (by decide) rfl) (mpp 62 rfl ?_)
          obtain ⟨z49, h50⟩ := ti_ex (v4 + 1 : Int32)
          have wz49 := ti_full z49
          refine mp_a (a_iinc (v := z49) (L' := [(4, .int z49), (3, .int z46), (5, .int 1), (0, .ref 301), (1, .int t1), (2, .int t2)]) dX7_otherwise_62 (by decide) rfl h50 rfl) (mpp 65 rfl ?_)
          try have e51 : z49.toInt = v4.toInt + 1 := ti_addz h50 rfl rfl (by omega) (by omega)
          refine mp_a (a_goto (t := 5) dX7_otherwise_65 (by decide)) ?_
          refine MEvP.less (L := [(0, .ref 301), (1, .int t1), (2, .int t2), (3, .int z46), (4, .int z49)]) rfl rfl ⟨rfl, rfl, rfl, rfl, rfl, trivial⟩ ?_
          have i52 : 0 ≤ z49.toInt := by omega
          exact ih _ (by omega) _ _ i52 rfl
        · have c45 : x42.toInt ≠ 1 := ti_eq_n c45
          refine mp_a (a_iconst (v := 1) dX7_otherwise_55 rfl) (mpp 56 rfl ?_)
          refine mp_a (a_goto (t := 60) dX7_otherwise_56 (by decide)) ?_
          obtain ⟨z53, h54⟩ := ti_ex (v3 + 1 : Int32)
          have wz53 := ti_full z53
          refine mp_t (s_iadd (v := z53) dX7_otherwise_60 h54) (mpp 61 rfl ?_)
          try have e55 : z53.toInt = v3.toInt + 1 := ti_addz h54 rfl rfl (by omega) (by omega)
          refine mp_a (a_istore_n (L' := [(3, .int z53), (5, .int 1), (0, .ref 301), (1, .int t1), (2, .int t2), (4, .int v4)]) dX7_otherwise_61 (by decide) rfl) (mpp 62 rfl ?_)
          obtain ⟨z56, h57⟩ := ti_ex (v4 + 1 : Int32)
          have wz56 := ti_full z56
          refine mp_a (a_iinc (v := z56) (L' := [(4, .int z56), (3, .int z53), (5, .int 1), (0, .ref 301), (1, .int t1), (2, .int t2)]) dX7_otherwise_62 (by decide) rfl h57 rfl) (mpp 65 rfl ?_)
          try have e58 : z56.toInt = v4.toInt + 1 := ti_addz h57 rfl rfl (by omega) (by omega)
          refine mp_a (a_goto (t := 5) dX7_otherwise_65 (by decide)) ?_
          refine MEvP.less (L := [(0, .ref 301), (1, .int t1), (2, .int t2), (3, .int z53), (4, .int z56)]) rfl rfl ⟨rfl, rfl, rfl, rfl, rfl, trivial⟩ ?_
          have i59 : 0 ≤ z56.toInt := by omega
          exact ih _ (by omega) _ _ i59 rfl
    · have c16 : z14.toInt = 1 := ti_ne_n c16
      refine mp_a (a_iconst (v := 2) dX7_otherwise_25 rfl) (mpp 26 rfl ?_)
      refine mp_a (a_goto (t := 30) dX7_otherwise_26 (by decide)) ?_
      refine mp_a (a_istore (L' := [(5, .int 2), (0, .ref 301), (1, .int t1), (2, .int t2), (3, .int v3), (4, .int v4)]) dX7_otherwise_30 (by decide) rfl) (mpp 32 rfl ?_)
      refine mp_a (a_iload_n dX7_otherwise_32 rfl) (mpp 33 rfl ?_)
      refine mp_a (a_aload_n dX7_otherwise_33 rfl) (mpp 34 rfl ?_)
      refine mp_a (a_iload_n dX7_otherwise_34 rfl) (mpp 35 rfl ?_)
      refine mp_a (a_iload dX7_otherwise_35 rfl) (mpp 37 rfl ?_)
      have p60 : 0 ≤ t1.toInt := by omega
      have p61 : t1.toInt ≤ 7 := by omega
      have p62 : 0 ≤ v4.toInt := by omega
      have p63 : v4.toInt ≤ 7 := by omega
      refine mt_callv (i := 92) (q' := q_146) (As := [.int t1, .int v4]) (rest := [.int v3]) hT dX7_otherwise_37 rfl qm_146 (by decide) rfl rl_301 (by decide) rfl (Nat.le_of_ble_eq_true rfl) rfl ⟨rfl, rfl⟩ ⟨Nat.le_of_ble_eq_true rfl, Nat.le_of_ble_eq_true rfl⟩ (EvP.mono (by decide) (c_M_creaseOf hT p60 p61 p62 p63 )) (fun r64 P65 g66 => mpp 40 rfl ?_)
      obtain ⟨⟨x67, rfl, g68⟩, e69⟩ := g66
      have e69 := e69.symm
      subst e69
      have wx67 := ti_full x67
      replace g68 : x67.toInt = (fv Po 302 (14 + 19 * t1.toInt.toNat + v4.toInt.toNat)).toInt := g68
      show MEvP _ none q_178 40 [(5, .int 2), (0, .ref 301), (1, .int t1), (2, .int t2), (3, .int v3), (4, .int v4)] [.int x67, .int v3] _ _ _ _
      refine mp_Tb (t := 59) (j_if_eq dX7_otherwise_40) (by decide) (fun c70 => ?_) (fun c70 => mpp 43 rfl ?_)
      · have c70 : x67.toInt = 0 := ti_eq c70
        refine mp_a (a_iconst (v := 0) dX7_otherwise_59 rfl) (mpp 60 rfl ?_)
        obtain ⟨z71, h72⟩ := ti_ex (v3 + 0 : Int32)
        have wz71 := ti_full z71
        refine mp_t (s_iadd (v := z71) dX7_otherwise_60 h72) (mpp 61 rfl ?_)
        try have e73 : z71.toInt = v3.toInt + 0 := ti_addz h72 rfl rfl (by omega) (by omega)
        refine mp_a (a_istore_n (L' := [(3, .int z71), (5, .int 2), (0, .ref 301), (1, .int t1), (2, .int t2), (4, .int v4)]) dX7_otherwise_61 (by decide) rfl) (mpp 62 rfl ?_)
        obtain ⟨z74, h75⟩ := ti_ex (v4 + 1 : Int32)
        have wz74 := ti_full z74
        refine mp_a (a_iinc (v := z74) (L' := [(4, .int z74), (3, .int z71), (5, .int 2), (0, .ref 301), (1, .int t1), (2, .int t2)]) dX7_otherwise_62 (by decide) rfl h75 rfl) (mpp 65 rfl ?_)
        try have e76 : z74.toInt = v4.toInt + 1 := ti_addz h75 rfl rfl (by omega) (by omega)
        refine mp_a (a_goto (t := 5) dX7_otherwise_65 (by decide)) ?_
        refine MEvP.less (L := [(0, .ref 301), (1, .int t1), (2, .int t2), (3, .int z71), (4, .int z74)]) rfl rfl ⟨rfl, rfl, rfl, rfl, rfl, trivial⟩ ?_
        have i77 : 0 ≤ z74.toInt := by omega
        exact ih _ (by omega) _ _ i77 rfl
      · have c70 : x67.toInt ≠ 0 := ti_eq_n c70
        refine mp_a (a_aload_n dX7_otherwise_43 rfl) (mpp 44 rfl ?_)
        refine mp_a (a_iload_n dX7_otherwise_44 rfl) (mpp 45 rfl ?_)
        refine mp_a (a_iload dX7_otherwise_45 rfl) (mpp 47 rfl ?_)
        have p78 : 0 ≤ t1.toInt := by omega
        have p79 : t1.toInt ≤ 7 := by omega
        have p80 : 0 ≤ v4.toInt := by omega
        have p81 : v4.toInt ≤ 7 := by omega
        refine mt_callv (i := 92) (q' := q_146) (As := [.int t1, .int v4]) (rest := [.int v3]) hT dX7_otherwise_47 rfl qm_146 (by decide) rfl rl_301 (by decide) rfl (Nat.le_of_ble_eq_true rfl) rfl ⟨rfl, rfl⟩ ⟨Nat.le_of_ble_eq_true rfl, Nat.le_of_ble_eq_true rfl⟩ (EvP.mono (by decide) (c_M_creaseOf hT p78 p79 p80 p81 )) (fun r82 P83 g84 => mpp 50 rfl ?_)
        obtain ⟨⟨x85, rfl, g86⟩, e87⟩ := g84
        have e87 := e87.symm
        subst e87
        have wx85 := ti_full x85
        replace g86 : x85.toInt = (fv Po 302 (14 + 19 * t1.toInt.toNat + v4.toInt.toNat)).toInt := g86
        show MEvP _ none q_178 50 [(5, .int 2), (0, .ref 301), (1, .int t1), (2, .int t2), (3, .int v3), (4, .int v4)] [.int x85, .int v3] _ _ _ _
        refine mp_a (a_iload dX7_otherwise_50 rfl) (mpp 52 rfl ?_)
        refine mp_Tb (t := 59) (j_icmp_eq dX7_otherwise_52) (by decide) (fun c88 => ?_) (fun c88 => mpp 55 rfl ?_)
        · have c88 : x85.toInt = 2 := ti_eq c88
          refine mp_a (a_iconst (v := 0) dX7_otherwise_59 rfl) (mpp 60 rfl ?_)
          obtain ⟨z89, h90⟩ := ti_ex (v3 + 0 : Int32)
          have wz89 := ti_full z89
          refine mp_t (s_iadd (v := z89) dX7_otherwise_60 h90) (mpp 61 rfl ?_)
          try have e91 : z89.toInt = v3.toInt + 0 := ti_addz h90 rfl rfl (by omega) (by omega)
          refine mp_a (a_istore_n (L' := [(3, .int z89), (5, .int 2), (0, .ref 301), (1, .int t1), (2, .int t2), (4, .int v4)]) dX7_otherwise_61 (by decide) rfl) (mpp 62 rfl ?_)
          obtain ⟨z92, h93⟩ := ti_ex (v4 + 1 : Int32)
          have wz92 := ti_full z92
          refine mp_a (a_iinc (v := z92) (L' := [(4, .int z92), (3, .int z89), (5, .int 2), (0, .ref 301), (1, .int t1), (2, .int t2)]) dX7_otherwise_62 (by decide) rfl h93 rfl) (mpp 65 rfl ?_)
          try have e94 : z92.toInt = v4.toInt + 1 := ti_addz h93 rfl rfl (by omega) (by omega)
          refine mp_a (a_goto (t := 5) dX7_otherwise_65 (by decide)) ?_
          refine MEvP.less (L := [(0, .ref 301), (1, .int t1), (2, .int t2), (3, .int z89), (4, .int z92)]) rfl rfl ⟨rfl, rfl, rfl, rfl, rfl, trivial⟩ ?_
          have i95 : 0 ≤ z92.toInt := by omega
          exact ih _ (by omega) _ _ i95 rfl
        · have c88 : x85.toInt ≠ 2 := ti_eq_n c88
          refine mp_a (a_iconst (v := 1) dX7_otherwise_55 rfl) (mpp 56 rfl ?_)
          refine mp_a (a_goto (t := 60) dX7_otherwise_56 (by decide)) ?_
          obtain ⟨z96, h97⟩ := ti_ex (v3 + 1 : Int32)
          have wz96 := ti_full z96
          refine mp_t (s_iadd (v := z96) dX7_otherwise_60 h97) (mpp 61 rfl ?_)
          try have e98 : z96.toInt = v3.toInt + 1 := ti_addz h97 rfl rfl (by omega) (by omega)
          refine mp_a (a_istore_n (L' := [(3, .int z96), (5, .int 2), (0, .ref 301), (1, .int t1), (2, .int t2), (4, .int v4)]) dX7_otherwise_61 (by decide) rfl) (mpp 62 rfl ?_)
          obtain ⟨z99, h100⟩ := ti_ex (v4 + 1 : Int32)
          have wz99 := ti_full z99
          refine mp_a (a_iinc (v := z99) (L' := [(4, .int z99), (3, .int z96), (5, .int 2), (0, .ref 301), (1, .int t1), (2, .int t2)]) dX7_otherwise_62 (by decide) rfl h100 rfl) (mpp 65 rfl ?_)
          try have e101 : z99.toInt = v4.toInt + 1 := ti_addz h100 rfl rfl (by omega) (by omega)
          refine mp_a (a_goto (t := 5) dX7_otherwise_65 (by decide)) ?_
          refine MEvP.less (L := [(0, .ref 301), (1, .int t1), (2, .int t2), (3, .int z96), (4, .int z99)]) rfl rfl ⟨rfl, rfl, rfl, rfl, rfl, trivial⟩ ?_
          have i102 : 0 ≤ z99.toInt := by omega
          exact ih _ (by omega) _ _ i102 rfl

set_option maxHeartbeats 4000000 in
theorem c_M_otherwise {Po : mP} {t1 : Int32} {t2 : Int32} (hT : Typ Po)  (hp0 : 0 ≤ t1.toInt) (hp1 : t1.toInt ≤ 7)  : EvP 5 178 [.ref 301, .int t1, .int t2] Po (fun r P' => (∃ x : Int32, r = some (.int x) ∧ (True)) ∧ P' = Po) := by
  refine EvP.of qm_178 (Nat.le_of_ble_eq_true rfl) rfl ?_
  show MEvP _ none q_178 0 [(0, .ref 301), (1, .int t1), (2, .int t2)] [] _ 0 0 _
  have w_t1 := ti_full t1
  have w_t2 := ti_full t2
  refine mp_a (a_iconst (v := 0) dX7_otherwise_0 rfl) (mpp 1 rfl ?_)
  refine mp_a (a_istore_n (L' := [(3, .int 0), (0, .ref 301), (1, .int t1), (2, .int t2)]) dX7_otherwise_1 (by decide) rfl) (mpp 2 rfl ?_)
  refine mp_a (a_iconst (v := 0) dX7_otherwise_2 rfl) (mpp 3 rfl ?_)
  refine mp_a (a_istore (L' := [(4, .int 0), (3, .int 0), (0, .ref 301), (1, .int t1), (2, .int t2)]) dX7_otherwise_3 (by decide) rfl) (mpp 5 rfl ?_)
  refine MEvP.less (L := [(0, .ref 301), (1, .int t1), (2, .int t2), (3, .int 0), (4, .int 0)]) rfl rfl ⟨rfl, rfl, rfl, rfl, rfl, trivial⟩ ?_
  have i1 : 0 ≤ (0 : Int) := by omega
  exact c_M_otherwise_l5 hT  hp0 hp1 _ _ _ i1 rfl

set_option maxHeartbeats 4000000 in
theorem c_M_laysBy_l7 {Po : mP} {t1 : Int32} {t2 : Int32} (hp0 : 0 ≤ t1.toInt) (hp1 : t1.toInt ≤ 7)  : ∀ (n : Nat) (v3 : Int32), ∀ (P : mP), Typ P → KW [1101, 1102, 1536, 1600] Po P → (0 ≤ v3.toInt) → (2147483647 - v3.toInt).toNat = n → MEvP 4 none q_180 7 [(0, .ref 301), (1, .int t1), (2, .int t2), (3, .int v3)] [] P 0 0 (fun r P' => (r = none ∧ (True)) ∧ Typ P' ∧ KW [1101, 1102, 1536, 1600] Po P' ∧ True) := by
  intro n
  induction n using Nat.strongRecOn with | _ n ih => ?_
  intro v3 P hT hK i_0 hm
  have w_t1 := ti_full t1
  have w_t2 := ti_full t2
  have w_v3 := ti_full v3
  refine mp_a (a_iload_n dX7_laysBy_7 rfl) (mpp 8 rfl ?_)
  refine mp_a (a_aload_n dX7_laysBy_8 rfl) (mpp 9 rfl ?_)
  refine mp_a (a_iload_n dX7_laysBy_9 rfl) (mpp 10 rfl ?_)
  have p1 : 0 ≤ t1.toInt := by omega
  have p2 : t1.toInt ≤ 7 := by omega
  refine mt_callv (i := 88) (q' := q_136) (As := [.int t1]) (rest := [.int v3]) hT dX7_laysBy_10 rfl qm_136 (by decide) rfl rl_301 (by decide) rfl (Nat.le_of_ble_eq_true rfl) rfl ⟨rfl, rfl⟩ ⟨Nat.le_of_ble_eq_true rfl, Nat.le_of_ble_eq_true rfl⟩ (EvP.mono (by decide) (c_M_creases hT p1 p2 )) (fun r3 P4 g5 => mpp 13 rfl ?_)
  obtain ⟨⟨x6, rfl, g7⟩, e8⟩ := g5
  have e8 := e8.symm
  subst e8
  have wx6 := ti_full x6
  replace g7 : -1 ≤ x6.toInt ∧ x6.toInt ≤ 8 ∧ (((fv P 302 (3 + 19 * t1.toInt.toNat)).toInt = 1 ∧ x6.toInt = (fv P 302 (4 + 19 * t1.toInt.toNat)).toInt) ∨ ((fv P 302 (3 + 19 * t1.toInt.toNat)).toInt = 0 ∧ x6.toInt = (fv P 302 (4 + 19 * t1.toInt.toNat)).toInt - 1)) := g7
  try have g9 : (0 : Int) ≤ (fv P 302 (3 + 19 * t1.toInt.toNat)).toInt ∧ (fv P 302 (3 + 19 * t1.toInt.toNat)).toInt ≤ 1 := s3_rng hT (by omega)
  try have g10 : (0 : Int) ≤ (fv P 302 (4 + 19 * t1.toInt.toNat)).toInt ∧ (fv P 302 (4 + 19 * t1.toInt.toNat)).toInt ≤ 8 := s4_rng hT (by omega)
  show MEvP _ none q_180 13 [(0, .ref 301), (1, .int t1), (2, .int t2), (3, .int v3)] [.int x6, .int v3] _ _ _ _
  refine mp_Tb (t := 42) (j_icmp_ge dX7_laysBy_13) (by decide) (fun c11 => ?_) (fun c11 => mpp 16 rfl ?_)
  · have c11 : v3.toInt ≥ x6.toInt := ti_ge c11
    exact mp_ret ⟨⟨rfl, trivial⟩, hT, hK, trivial⟩ dX7_laysBy_42 rfl
  · have c11 : v3.toInt < x6.toInt := ti_ge_n c11
    refine mp_a (a_aload_n dX7_laysBy_16 rfl) (mpp 17 rfl ?_)
    refine mt_getU (i := 31) (k := 12) (A := 309) hT dX7_laysBy_17 rfl rl_301 (by decide) rfl (by decide) rfl un_25 (mpp 20 rfl ?_)
    refine mp_a (a_iload_n dX7_laysBy_20 rfl) (mpp 21 rfl ?_)
    refine mp_a (a_iload_n dX7_laysBy_21 rfl) (mpp 22 rfl ?_)
    refine mp_a (a_iload_n dX7_laysBy_22 rfl) (mpp 23 rfl ?_)
    obtain ⟨z12, h13⟩ := ti_ex (t2 >>> (v3 &&& 31) : Int32)
    have wz12 := ti_full z12
    refine mp_t (s_ishr (v := z12) dX7_laysBy_23 h13) (mpp 24 rfl ?_)
    refine mp_a (a_iconst (v := 1) dX7_laysBy_24 rfl) (mpp 25 rfl ?_)
    obtain ⟨z14, h15⟩ := ti_ex (z12 &&& 1 : Int32)
    have wz14 := ti_full z14
    refine mp_t (s_iand (v := z14) dX7_laysBy_25 h15) (mpp 26 rfl ?_)
    refine mp_a (a_iconst (v := 1) dX7_laysBy_26 rfl) (mpp 27 rfl ?_)
    refine mp_Tb (t := 34) (j_icmp_ne dX7_laysBy_27) (by decide) (fun c16 => ?_) (fun c16 => mpp 30 rfl ?_)
    · have c16 : z14.toInt ≠ 1 := ti_ne c16
      refine mp_a (a_iconst (v := 1) dX7_laysBy_34 rfl) (mpp 35 rfl ?_)
      refine mt_ias (n := 8) hT dX7_laysBy_35 rl_309 (by decide) rfl rfl (by omega) (by omega) rfl (by decide) (fun P17 hT18 f19 f20 f21 => mpp 36 rfl ?_)
      have k22 : KW [1101, 1102, 1536, 1600] Po P17 := KW.step hK rl_309 rfl f20 f21
      obtain ⟨z23, h24⟩ := ti_ex (v3 + 1 : Int32)
      have wz23 := ti_full z23
      refine mp_a (a_iinc (v := z23) (L' := [(3, .int z23), (0, .ref 301), (1, .int t1), (2, .int t2)]) dX7_laysBy_36 (by decide) rfl h24 rfl) (mpp 39 rfl ?_)
      try have e25 : z23.toInt = v3.toInt + 1 := ti_addz h24 rfl rfl (by omega) (by omega)
      refine mp_a (a_goto (t := 7) dX7_laysBy_39 (by decide)) ?_
      refine MEvP.less (L := [(0, .ref 301), (1, .int t1), (2, .int t2), (3, .int z23)]) rfl rfl ⟨rfl, rfl, rfl, rfl, trivial⟩ ?_
      have i26 : 0 ≤ z23.toInt := by omega
      exact ih _ (by omega) _ P17 hT18 k22 i26 rfl
    · have c16 : z14.toInt = 1 := ti_ne_n c16
      refine mp_a (a_iconst (v := 2) dX7_laysBy_30 rfl) (mpp 31 rfl ?_)
      refine mp_a (a_goto (t := 35) dX7_laysBy_31 (by decide)) ?_
      refine mt_ias (n := 8) hT dX7_laysBy_35 rl_309 (by decide) rfl rfl (by omega) (by omega) rfl (by decide) (fun P27 hT28 f29 f30 f31 => mpp 36 rfl ?_)
      have k32 : KW [1101, 1102, 1536, 1600] Po P27 := KW.step hK rl_309 rfl f30 f31
      obtain ⟨z33, h34⟩ := ti_ex (v3 + 1 : Int32)
      have wz33 := ti_full z33
      refine mp_a (a_iinc (v := z33) (L' := [(3, .int z33), (0, .ref 301), (1, .int t1), (2, .int t2)]) dX7_laysBy_36 (by decide) rfl h34 rfl) (mpp 39 rfl ?_)
      try have e35 : z33.toInt = v3.toInt + 1 := ti_addz h34 rfl rfl (by omega) (by omega)
      refine mp_a (a_goto (t := 7) dX7_laysBy_39 (by decide)) ?_
      refine MEvP.less (L := [(0, .ref 301), (1, .int t1), (2, .int t2), (3, .int z33)]) rfl rfl ⟨rfl, rfl, rfl, rfl, trivial⟩ ?_
      have i36 : 0 ≤ z33.toInt := by omega
      exact ih _ (by omega) _ P27 hT28 k32 i36 rfl

set_option maxHeartbeats 4000000 in
theorem c_M_laysBy {Po : mP} {t1 : Int32} {t2 : Int32} (hT : Typ Po)  (hp0 : 0 ≤ t1.toInt) (hp1 : t1.toInt ≤ 7)  : EvP 5 180 [.ref 301, .int t1, .int t2] Po (fun r P' => (r = none ∧ (True)) ∧ Typ P' ∧ KW [1101, 1102, 1536, 1600] Po P' ∧ True) := by
  refine EvP.of qm_180 (Nat.le_of_ble_eq_true rfl) rfl ?_
  show MEvP _ none q_180 0 [(0, .ref 301), (1, .int t1), (2, .int t2)] [] _ 0 0 _
  have w_t1 := ti_full t1
  have w_t2 := ti_full t2
  refine mp_a (a_aload_n dX7_laysBy_0 rfl) (mpp 1 rfl ?_)
  refine mp_a (a_iload_n dX7_laysBy_1 rfl) (mpp 2 rfl ?_)
  have p1 : 0 ≤ t1.toInt := by omega
  have p2 : t1.toInt ≤ 7 := by omega
  refine mt_callv (i := 196) (q' := q_164) (As := [.int t1]) (rest := []) hT dX7_laysBy_2 rfl qm_164 (by decide) rfl rl_301 (by decide) rfl (Nat.le_of_ble_eq_true rfl) rfl ⟨rfl, rfl⟩ ⟨Nat.le_of_ble_eq_true rfl, Nat.le_of_ble_eq_true rfl⟩ (EvP.mono (by decide) (c_M_lays hT p1 p2 )) (fun r3 P4 g5 => mpp 5 rfl ?_)
  obtain ⟨⟨rfl, g7⟩, hT8, k9, R10⟩ := g5
  have k11 : KW [1101, 1102, 1536, 1600] Po P4 := KW.trans KW.refl k9 rfl
  replace g7 : (fv P4 301 14).toInt = (fv Po 302 (3 + 19 * t1.toInt.toNat)).toInt ∧ (fv P4 301 13).toInt = (fv Po 302 (4 + 19 * t1.toInt.toNat)).toInt ∧ (∀ j : Nat, j < 8 → fv P4 308 j = fv Po 302 (6 + 19 * t1.toInt.toNat + j)) ∧ ∀ j : Nat, j < 8 → fv P4 309 j = fv Po 302 (14 + 19 * t1.toInt.toNat + j) := g7
  have g13 : (0 : Int) ≤ (fv P4 301 14).toInt ∧ (fv P4 301 14).toInt ≤ 1 := Typ.rng hT8 rl_301 (by decide) (by decide) rfl
  try have g14 : (0 : Int) ≤ (fv Po 302 (3 + 19 * t1.toInt.toNat)).toInt ∧ (fv Po 302 (3 + 19 * t1.toInt.toNat)).toInt ≤ 1 := s3_rng hT (by omega)
  have g15 : (0 : Int) ≤ (fv P4 301 13).toInt ∧ (fv P4 301 13).toInt ≤ 8 := Typ.rng hT8 rl_301 (by decide) (by decide) rfl
  try have g16 : (0 : Int) ≤ (fv Po 302 (4 + 19 * t1.toInt.toNat)).toInt ∧ (fv Po 302 (4 + 19 * t1.toInt.toNat)).toInt ≤ 8 := s4_rng hT (by omega)
  show MEvP _ none q_180 5 [(0, .ref 301), (1, .int t1), (2, .int t2)] [] _ _ _ _
  refine mp_a (a_iconst (v := 0) dX7_laysBy_5 rfl) (mpp 6 rfl ?_)
  refine mp_a (a_istore_n (L' := [(3, .int 0), (0, .ref 301), (1, .int t1), (2, .int t2)]) dX7_laysBy_6 (by decide) rfl) (mpp 7 rfl ?_)
  refine MEvP.less (L := [(0, .ref 301), (1, .int t1), (2, .int t2), (3, .int 0)]) rfl rfl ⟨rfl, rfl, rfl, rfl, trivial⟩ ?_
  have i17 : 0 ≤ (0 : Int) := by omega
  exact c_M_laysBy_l7   hp0 hp1 _ _ P4 hT8 k11 i17 rfl

set_option maxHeartbeats 4000000 in
theorem c_M_foldsBy {Po : mP} {t1 : Int32} {t2 : Int32} (hT : Typ Po)  (hp0 : 0 ≤ t1.toInt) (hp1 : t1.toInt ≤ 7)  : EvP 6 179 [.ref 301, .int t1, .int t2] Po (fun r P' => (∃ x : Int32, r = some (.int x) ∧ (0 ≤ x.toInt ∧ x.toInt ≤ 1)) ∧ Typ P' ∧ KW [1101, 1102, 1536, 1600] Po P' ∧ True) := by
  refine EvP.of qm_179 (Nat.le_of_ble_eq_true rfl) rfl ?_
  show MEvP _ none q_179 0 [(0, .ref 301), (1, .int t1), (2, .int t2)] [] _ 0 0 _
  have w_t1 := ti_full t1
  have w_t2 := ti_full t2
  refine mp_a (a_aload_n dX7_foldsBy_0 rfl) (mpp 1 rfl ?_)
  refine mp_a (a_iload_n dX7_foldsBy_1 rfl) (mpp 2 rfl ?_)
  refine mp_a (a_iload_n dX7_foldsBy_2 rfl) (mpp 3 rfl ?_)
  have p1 : 0 ≤ t1.toInt := by omega
  have p2 : t1.toInt ≤ 7 := by omega
  refine mt_callv (i := 215) (q' := q_180) (As := [.int t1, .int t2]) (rest := []) hT dX7_foldsBy_3 rfl qm_180 (by decide) rfl rl_301 (by decide) rfl (Nat.le_of_ble_eq_true rfl) rfl ⟨rfl, rfl⟩ ⟨Nat.le_of_ble_eq_true rfl, Nat.le_of_ble_eq_true rfl⟩ (EvP.mono (by decide) (c_M_laysBy hT p1 p2 )) (fun r3 P4 g5 => mpp 6 rfl ?_)
  obtain ⟨⟨rfl, g7⟩, hT8, k9, R10⟩ := g5
  have k11 : KW [1101, 1102, 1536, 1600] Po P4 := KW.trans KW.refl k9 rfl
  show MEvP _ none q_179 6 [(0, .ref 301), (1, .int t1), (2, .int t2)] [] _ _ _ _
  refine mp_a (a_aload_n dX7_foldsBy_6 rfl) (mpp 7 rfl ?_)
  have g13 : (0 : Int) ≤ (fv P4 301 13).toInt ∧ (fv P4 301 13).toInt ≤ 8 := Typ.rng hT8 rl_301 (by decide) (by decide) rfl
  have p14 : (fv P4 301 13).toInt ≤ 8 := by omega
  refine mt_callv (i := 199) (q' := q_165) (As := []) (rest := []) hT8 dX7_foldsBy_7 rfl qm_165 (by decide) rfl rl_301 (by decide) rfl (Nat.le_of_ble_eq_true rfl) rfl ⟨rfl, rfl⟩ ⟨Nat.le_of_ble_eq_true rfl, Nat.le_of_ble_eq_true rfl⟩ (EvP.mono (by decide) (c_M_folds hT8 p14 )) (fun r15 P16 g17 => mpp 10 rfl ?_)
  obtain ⟨⟨x18, rfl, g19⟩, hT20, k21, R22⟩ := g17
  have k23 : KW [1101, 1102, 1536, 1600] Po P16 := KW.trans k11 k21 rfl
  have wx18 := ti_full x18
  replace g19 : 0 ≤ x18.toInt ∧ x18.toInt ≤ 1 ∧ ((∃ k R', RD cM (rM P4) k R' ∧ ((x18.toInt = 1 ∧ isRf eM R') ∨ (x18.toInt = 0 ∧ ¬ isRf eM R')))) := g19
  show MEvP _ none q_179 10 [(0, .ref 301), (1, .int t1), (2, .int t2)] [.int x18] _ _ _ _
  have u25 : 0 ≤ x18.toInt ∧ x18.toInt ≤ 1 := by omega
  exact mp_iret ⟨⟨_, rfl, u25⟩, hT20, k23, trivial⟩ dX7_foldsBy_10 (Or.inr ⟨rfl, ti_01 (by omega)⟩)

set_option maxHeartbeats 4000000 in
theorem c_M_ways_l16 {Po : mP} {t1 : Int32}  : ∀ (n : Nat) (v2 : Int32) (v3 : Int32), ∀ (P : mP), Typ P → KW [1101, 1102, 1536, 1600] Po P → (0 ≤ t1.toInt) → (t1.toInt ≤ 7) → (0 ≤ v3.toInt) → (2147483647 - v3.toInt).toNat = n → MEvP 6 none q_177 16 [(0, .ref 301), (1, .int t1), (2, .int v2), (3, .int v3)] [] P 0 0 (fun r P' => (∃ x : Int32, r = some (.int x) ∧ (True)) ∧ Typ P' ∧ KW [1101, 1102, 1536, 1600] Po P' ∧ True) := by
  intro n
  induction n using Nat.strongRecOn with | _ n ih => ?_
  intro v2 v3 P hT hK i_0 i_1 i_2 hm
  have w_t1 := ti_full t1
  have w_v2 := ti_full v2
  have w_v3 := ti_full v3
  refine mp_a (a_iload_n dX7_ways_16 rfl) (mpp 17 rfl ?_)
  refine mp_a (a_iconst (v := 1) dX7_ways_17 rfl) (mpp 18 rfl ?_)
  refine mp_a (a_aload_n dX7_ways_18 rfl) (mpp 19 rfl ?_)
  refine mp_a (a_iload_n dX7_ways_19 rfl) (mpp 20 rfl ?_)
  have p1 : 0 ≤ t1.toInt := by omega
  have p2 : t1.toInt ≤ 7 := by omega
  refine mt_callv (i := 88) (q' := q_136) (As := [.int t1]) (rest := [.int 1, .int v3]) hT dX7_ways_20 rfl qm_136 (by decide) rfl rl_301 (by decide) rfl (Nat.le_of_ble_eq_true rfl) rfl ⟨rfl, rfl⟩ ⟨Nat.le_of_ble_eq_true rfl, Nat.le_of_ble_eq_true rfl⟩ (EvP.mono (by decide) (c_M_creases hT p1 p2 )) (fun r3 P4 g5 => mpp 23 rfl ?_)
  obtain ⟨⟨x6, rfl, g7⟩, e8⟩ := g5
  have e8 := e8.symm
  subst e8
  have wx6 := ti_full x6
  replace g7 : -1 ≤ x6.toInt ∧ x6.toInt ≤ 8 ∧ (((fv P 302 (3 + 19 * t1.toInt.toNat)).toInt = 1 ∧ x6.toInt = (fv P 302 (4 + 19 * t1.toInt.toNat)).toInt) ∨ ((fv P 302 (3 + 19 * t1.toInt.toNat)).toInt = 0 ∧ x6.toInt = (fv P 302 (4 + 19 * t1.toInt.toNat)).toInt - 1)) := g7
  try have g9 : (0 : Int) ≤ (fv P 302 (3 + 19 * t1.toInt.toNat)).toInt ∧ (fv P 302 (3 + 19 * t1.toInt.toNat)).toInt ≤ 1 := s3_rng hT (by omega)
  try have g10 : (0 : Int) ≤ (fv P 302 (4 + 19 * t1.toInt.toNat)).toInt ∧ (fv P 302 (4 + 19 * t1.toInt.toNat)).toInt ≤ 8 := s4_rng hT (by omega)
  show MEvP _ none q_177 23 [(0, .ref 301), (1, .int t1), (2, .int v2), (3, .int v3)] [.int x6, .int 1, .int v3] _ _ _ _
  obtain ⟨z11, h12⟩ := ti_ex (1 <<< (x6 &&& 31) : Int32)
  have wz11 := ti_full z11
  refine mp_t (s_ishl (v := z11) dX7_ways_23 h12) (mpp 24 rfl ?_)
  refine mp_Tb (t := 59) (j_icmp_ge dX7_ways_24) (by decide) (fun c13 => ?_) (fun c13 => mpp 27 rfl ?_)
  · have c13 : v3.toInt ≥ z11.toInt := ti_ge c13
    refine mp_a (a_iload_n dX7_ways_59 rfl) (mpp 60 rfl ?_)
    exact mp_iret ⟨⟨_, rfl, trivial⟩, hT, hK, trivial⟩ dX7_ways_60 (Or.inl rfl)
  · have c13 : v3.toInt < z11.toInt := ti_ge_n c13
    refine mp_a (a_iload_n dX7_ways_27 rfl) (mpp 28 rfl ?_)
    refine mp_a (a_aload_n dX7_ways_28 rfl) (mpp 29 rfl ?_)
    refine mp_a (a_iload_n dX7_ways_29 rfl) (mpp 30 rfl ?_)
    refine mp_a (a_iload_n dX7_ways_30 rfl) (mpp 31 rfl ?_)
    have p14 : 0 ≤ t1.toInt := by omega
    have p15 : t1.toInt ≤ 7 := by omega
    refine mt_callv (i := 219) (q' := q_178) (As := [.int t1, .int v3]) (rest := [.int v2]) hT dX7_ways_31 rfl qm_178 (by decide) rfl rl_301 (by decide) rfl (Nat.le_of_ble_eq_true rfl) rfl ⟨rfl, rfl⟩ ⟨Nat.le_of_ble_eq_true rfl, Nat.le_of_ble_eq_true rfl⟩ (EvP.mono (by decide) (c_M_otherwise hT p14 p15 )) (fun r16 P17 g18 => mpp 34 rfl ?_)
    obtain ⟨⟨x19, rfl, g20⟩, e21⟩ := g18
    have e21 := e21.symm
    subst e21
    have wx19 := ti_full x19
    show MEvP _ none q_177 34 [(0, .ref 301), (1, .int t1), (2, .int v2), (3, .int v3)] [.int x19, .int v2] _ _ _ _
    refine mp_Tb (t := 50) (j_if_ne dX7_ways_34) (by decide) (fun c22 => ?_) (fun c22 => mpp 37 rfl ?_)
    · have c22 : x19.toInt ≠ 0 := ti_ne c22
      refine mp_a (a_iconst (v := 0) dX7_ways_50 rfl) (mpp 51 rfl ?_)
      obtain ⟨z23, h24⟩ := ti_ex (v2 + 0 : Int32)
      have wz23 := ti_full z23
      refine mp_t (s_iadd (v := z23) dX7_ways_51 h24) (mpp 52 rfl ?_)
      try have e25 : z23.toInt = v2.toInt + 0 := ti_addz h24 rfl rfl (by omega) (by omega)
      refine mp_a (a_istore_n (L' := [(2, .int z23), (0, .ref 301), (1, .int t1), (3, .int v3)]) dX7_ways_52 (by decide) rfl) (mpp 53 rfl ?_)
      obtain ⟨z26, h27⟩ := ti_ex (v3 + 1 : Int32)
      have wz26 := ti_full z26
      refine mp_a (a_iinc (v := z26) (L' := [(3, .int z26), (2, .int z23), (0, .ref 301), (1, .int t1)]) dX7_ways_53 (by decide) rfl h27 rfl) (mpp 56 rfl ?_)
      try have e28 : z26.toInt = v3.toInt + 1 := ti_addz h27 rfl rfl (by omega) (by omega)
      refine mp_a (a_goto (t := 16) dX7_ways_56 (by decide)) ?_
      refine MEvP.less (L := [(0, .ref 301), (1, .int t1), (2, .int z23), (3, .int z26)]) rfl rfl ⟨rfl, rfl, rfl, rfl, trivial⟩ ?_
      have i29 : 0 ≤ t1.toInt := by omega
      have i30 : t1.toInt ≤ 7 := by omega
      have i31 : 0 ≤ z26.toInt := by omega
      exact ih _ (by omega) _ _ P hT hK i29 i30 i31 rfl
    · have c22 : x19.toInt = 0 := ti_ne_n c22
      refine mp_a (a_aload_n dX7_ways_37 rfl) (mpp 38 rfl ?_)
      refine mp_a (a_iload_n dX7_ways_38 rfl) (mpp 39 rfl ?_)
      refine mp_a (a_iload_n dX7_ways_39 rfl) (mpp 40 rfl ?_)
      have p32 : 0 ≤ t1.toInt := by omega
      have p33 : t1.toInt ≤ 7 := by omega
      refine mt_callv (i := 222) (q' := q_179) (As := [.int t1, .int v3]) (rest := [.int v2]) hT dX7_ways_40 rfl qm_179 (by decide) rfl rl_301 (by decide) rfl (Nat.le_of_ble_eq_true rfl) rfl ⟨rfl, rfl⟩ ⟨Nat.le_of_ble_eq_true rfl, Nat.le_of_ble_eq_true rfl⟩ (EvP.mono (by decide) (c_M_foldsBy hT p32 p33 )) (fun r34 P35 g36 => mpp 43 rfl ?_)
      obtain ⟨⟨x37, rfl, g38⟩, hT39, k40, R41⟩ := g36
      have k42 : KW [1101, 1102, 1536, 1600] Po P35 := KW.trans hK k40 rfl
      have wx37 := ti_full x37
      replace g38 : 0 ≤ x37.toInt ∧ x37.toInt ≤ 1 := g38
      show MEvP _ none q_177 43 [(0, .ref 301), (1, .int t1), (2, .int v2), (3, .int v3)] [.int x37, .int v2] _ _ _ _
      refine mp_Tb (t := 50) (j_if_eq dX7_ways_43) (by decide) (fun c44 => ?_) (fun c44 => mpp 46 rfl ?_)
      · have c44 : x37.toInt = 0 := ti_eq c44
        refine mp_a (a_iconst (v := 0) dX7_ways_50 rfl) (mpp 51 rfl ?_)
        obtain ⟨z45, h46⟩ := ti_ex (v2 + 0 : Int32)
        have wz45 := ti_full z45
        refine mp_t (s_iadd (v := z45) dX7_ways_51 h46) (mpp 52 rfl ?_)
        try have e47 : z45.toInt = v2.toInt + 0 := ti_addz h46 rfl rfl (by omega) (by omega)
        refine mp_a (a_istore_n (L' := [(2, .int z45), (0, .ref 301), (1, .int t1), (3, .int v3)]) dX7_ways_52 (by decide) rfl) (mpp 53 rfl ?_)
        obtain ⟨z48, h49⟩ := ti_ex (v3 + 1 : Int32)
        have wz48 := ti_full z48
        refine mp_a (a_iinc (v := z48) (L' := [(3, .int z48), (2, .int z45), (0, .ref 301), (1, .int t1)]) dX7_ways_53 (by decide) rfl h49 rfl) (mpp 56 rfl ?_)
        try have e50 : z48.toInt = v3.toInt + 1 := ti_addz h49 rfl rfl (by omega) (by omega)
        refine mp_a (a_goto (t := 16) dX7_ways_56 (by decide)) ?_
        refine MEvP.less (L := [(0, .ref 301), (1, .int t1), (2, .int z45), (3, .int z48)]) rfl rfl ⟨rfl, rfl, rfl, rfl, trivial⟩ ?_
        have i51 : 0 ≤ t1.toInt := by omega
        have i52 : t1.toInt ≤ 7 := by omega
        have i53 : 0 ≤ z48.toInt := by omega
        exact ih _ (by omega) _ _ P35 hT39 k42 i51 i52 i53 rfl
      · have c44 : x37.toInt ≠ 0 := ti_eq_n c44
        refine mp_a (a_iconst (v := 1) dX7_ways_46 rfl) (mpp 47 rfl ?_)
        refine mp_a (a_goto (t := 51) dX7_ways_47 (by decide)) ?_
        obtain ⟨z54, h55⟩ := ti_ex (v2 + 1 : Int32)
        have wz54 := ti_full z54
        refine mp_t (s_iadd (v := z54) dX7_ways_51 h55) (mpp 52 rfl ?_)
        try have e56 : z54.toInt = v2.toInt + 1 := ti_addz h55 rfl rfl (by omega) (by omega)
        refine mp_a (a_istore_n (L' := [(2, .int z54), (0, .ref 301), (1, .int t1), (3, .int v3)]) dX7_ways_52 (by decide) rfl) (mpp 53 rfl ?_)
        obtain ⟨z57, h58⟩ := ti_ex (v3 + 1 : Int32)
        have wz57 := ti_full z57
        refine mp_a (a_iinc (v := z57) (L' := [(3, .int z57), (2, .int z54), (0, .ref 301), (1, .int t1)]) dX7_ways_53 (by decide) rfl h58 rfl) (mpp 56 rfl ?_)
        try have e59 : z57.toInt = v3.toInt + 1 := ti_addz h58 rfl rfl (by omega) (by omega)
        refine mp_a (a_goto (t := 16) dX7_ways_56 (by decide)) ?_
        refine MEvP.less (L := [(0, .ref 301), (1, .int t1), (2, .int z54), (3, .int z57)]) rfl rfl ⟨rfl, rfl, rfl, rfl, trivial⟩ ?_
        have i60 : 0 ≤ t1.toInt := by omega
        have i61 : t1.toInt ≤ 7 := by omega
        have i62 : 0 ≤ z57.toInt := by omega
        exact ih _ (by omega) _ _ P35 hT39 k42 i60 i61 i62 rfl

set_option maxHeartbeats 4000000 in
theorem c_M_ways {Po : mP} {t1 : Int32} (hT : Typ Po)   : EvP 7 177 [.ref 301, .int t1] Po (fun r P' => (∃ x : Int32, r = some (.int x) ∧ (True)) ∧ Typ P' ∧ KW [1101, 1102, 1536, 1600] Po P' ∧ True) := by
  refine EvP.of qm_177 (Nat.le_of_ble_eq_true rfl) rfl ?_
  show MEvP _ none q_177 0 [(0, .ref 301), (1, .int t1)] [] _ 0 0 _
  have w_t1 := ti_full t1
  refine mp_a (a_aload_n dX7_ways_0 rfl) (mpp 1 rfl ?_)
  refine mp_a (a_iload_n dX7_ways_1 rfl) (mpp 2 rfl ?_)
  refine mt_callv (i := 85) (q' := q_144) (As := [.int t1]) (rest := []) hT dX7_ways_2 rfl qm_144 (by decide) rfl rl_301 (by decide) rfl (Nat.le_of_ble_eq_true rfl) rfl ⟨rfl, rfl⟩ ⟨Nat.le_of_ble_eq_true rfl, Nat.le_of_ble_eq_true rfl⟩ (EvP.mono (by decide) (c_M_isPiece hT )) (fun r1 P2 g3 => mpp 5 rfl ?_)
  obtain ⟨⟨x4, rfl, g5⟩, e6⟩ := g3
  have e6 := e6.symm
  subst e6
  have wx4 := ti_full x4
  replace g5 : 0 ≤ x4.toInt ∧ x4.toInt ≤ 1 ∧ ((x4.toInt = 1 ∧ 0 ≤ t1.toInt ∧ t1.toInt + 1 ≤ (fv Po 302 0).toInt ∧ t1.toInt ≤ 7) ∨ (x4.toInt = 0 ∧ (t1.toInt < 0 ∨ (fv Po 302 0).toInt ≤ t1.toInt))) := g5
  have g7 : (0 : Int) ≤ (fv Po 302 0).toInt ∧ (fv Po 302 0).toInt ≤ 8 := Typ.rng hT rl_302 (by decide) (by decide) rfl
  show MEvP _ none q_177 5 [(0, .ref 301), (1, .int t1)] [.int x4] _ _ _ _
  refine mp_Tb (t := 12) (j_if_ne dX7_ways_5) (by decide) (fun c8 => ?_) (fun c8 => mpp 8 rfl ?_)
  · have c8 : x4.toInt ≠ 0 := ti_ne c8
    refine mp_a (a_iconst (v := 0) dX7_ways_12 rfl) (mpp 13 rfl ?_)
    refine mp_a (a_istore_n (L' := [(2, .int 0), (0, .ref 301), (1, .int t1)]) dX7_ways_13 (by decide) rfl) (mpp 14 rfl ?_)
    refine mp_a (a_iconst (v := 0) dX7_ways_14 rfl) (mpp 15 rfl ?_)
    refine mp_a (a_istore_n (L' := [(3, .int 0), (2, .int 0), (0, .ref 301), (1, .int t1)]) dX7_ways_15 (by decide) rfl) (mpp 16 rfl ?_)
    refine MEvP.less (L := [(0, .ref 301), (1, .int t1), (2, .int 0), (3, .int 0)]) rfl rfl ⟨rfl, rfl, rfl, rfl, trivial⟩ ?_
    have i9 : 0 ≤ t1.toInt := by omega
    have i10 : t1.toInt ≤ 7 := by omega
    have i11 : 0 ≤ (0 : Int) := by omega
    exact c_M_ways_l16    _ _ _ Po hT KW.refl i9 i10 i11 rfl
  · have c8 : x4.toInt = 0 := ti_ne_n c8
    refine mp_a (a_sipush (v := -1001) dX7_ways_8 rfl) (mpp 11 rfl ?_)
    exact mp_iret ⟨⟨_, rfl, trivial⟩, hT, KW.refl, trivial⟩ dX7_ways_11 (Or.inl rfl)

