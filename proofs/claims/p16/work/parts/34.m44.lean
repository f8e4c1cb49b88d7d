/-! methods on typed pools, 44 (written by a program) -/
set_option maxHeartbeats 4000000 in
theorem c_M_step {Po : mP} {t1 : Int32} (hT : Typ Po)   : EvP 6 175 [.ref 301, .int t1] Po (fun r P' => (∃ x : Int32, r = some (.int x) ∧ (stepM (sr Po) x.toInt t1.toInt)) ∧ Typ P' ∧ KW [1101, 1102, 1536, 1600] Po P' ∧ True) := by
  refine EvP.of qm_175 (Nat.le_of_ble_eq_true rfl) rfl ?_
  show MEvP _ none q_175 0 [(0, .ref 301), (1, .int t1)] [] _ 0 0 _
  have w_t1 := ti_full t1
  refine mp_a (a_aload_n dX7_step_0 rfl) (mpp 1 rfl ?_)
  refine mp_a (a_iload_n dX7_step_1 rfl) (mpp 2 rfl ?_)
  refine mt_callv (i := 85) (q' := q_144) (As := [.int t1]) (rest := []) hT dX7_step_2 rfl qm_144 (by decide) rfl rl_301 (by decide) rfl (Nat.le_of_ble_eq_true rfl) rfl ⟨rfl, rfl⟩ ⟨Nat.le_of_ble_eq_true rfl, Nat.le_of_ble_eq_true rfl⟩ (EvP.mono (by decide) (c_M_isPiece hT )) (fun r1 P2 g3 => mpp 5 rfl ?_)
  obtain ⟨⟨x4, rfl, g5⟩, e6⟩ := g3
  have e6 := e6.symm
  subst e6
  have wx4 := ti_full x4
  replace g5 : 0 ≤ x4.toInt ∧ x4.toInt ≤ 1 ∧ ((x4.toInt = 1 ∧ 0 ≤ t1.toInt ∧ t1.toInt + 1 ≤ (fv Po 302 0).toInt ∧ t1.toInt ≤ 7) ∨ (x4.toInt = 0 ∧ (t1.toInt < 0 ∨ (fv Po 302 0).toInt ≤ t1.toInt))) := g5
  have g7 : (0 : Int) ≤ (fv Po 302 0).toInt ∧ (fv Po 302 0).toInt ≤ 8 := Typ.rng hT rl_302 (by decide) (by decide) rfl
  show MEvP _ none q_175 5 [(0, .ref 301), (1, .int t1)] [.int x4] _ _ _ _
  refine mp_Tb (t := 12) (j_if_ne dX7_step_5) (by decide) (fun c8 => ?_) (fun c8 => mpp 8 rfl ?_)
  · have c8 : x4.toInt ≠ 0 := ti_ne c8
    refine mp_a (a_aload_n dX7_step_12 rfl) (mpp 13 rfl ?_)
    refine mp_a (a_iload_n dX7_step_13 rfl) (mpp 14 rfl ?_)
    have p9 : 0 ≤ t1.toInt := by omega
    have p10 : t1.toInt ≤ 7 := by omega
    refine mt_callv (i := 196) (q' := q_164) (As := [.int t1]) (rest := []) hT dX7_step_14 rfl qm_164 (by decide) rfl rl_301 (by decide) rfl (Nat.le_of_ble_eq_true rfl) rfl ⟨rfl, rfl⟩ ⟨Nat.le_of_ble_eq_true rfl, Nat.le_of_ble_eq_true rfl⟩ (EvP.mono (by decide) (c_M_lays hT p9 p10 )) (fun r11 P12 g13 => mpp 17 rfl ?_)
    obtain ⟨⟨rfl, g15⟩, hT16, k17, R18⟩ := g13
    have k19 : KW [1101, 1102, 1536, 1600] Po P12 := KW.trans KW.refl k17 rfl
    replace g15 : (fv P12 301 14).toInt = (fv Po 302 (3 + 19 * t1.toInt.toNat)).toInt ∧ (fv P12 301 13).toInt = (fv Po 302 (4 + 19 * t1.toInt.toNat)).toInt ∧ (∀ j : Nat, j < 8 → fv P12 308 j = fv Po 302 (6 + 19 * t1.toInt.toNat + j)) ∧ ∀ j : Nat, j < 8 → fv P12 309 j = fv Po 302 (14 + 19 * t1.toInt.toNat + j) := g15
    have g21 : (0 : Int) ≤ (fv P12 301 14).toInt ∧ (fv P12 301 14).toInt ≤ 1 := Typ.rng hT16 rl_301 (by decide) (by decide) rfl
    try have g22 : (0 : Int) ≤ (fv Po 302 (3 + 19 * t1.toInt.toNat)).toInt ∧ (fv Po 302 (3 + 19 * t1.toInt.toNat)).toInt ≤ 1 := s3_rng hT (by omega)
    have g23 : (0 : Int) ≤ (fv P12 301 13).toInt ∧ (fv P12 301 13).toInt ≤ 8 := Typ.rng hT16 rl_301 (by decide) (by decide) rfl
    try have g24 : (0 : Int) ≤ (fv Po 302 (4 + 19 * t1.toInt.toNat)).toInt ∧ (fv Po 302 (4 + 19 * t1.toInt.toNat)).toInt ≤ 8 := s4_rng hT (by omega)
    show MEvP _ none q_175 17 [(0, .ref 301), (1, .int t1)] [] _ _ _ _
    refine mp_a (a_aload_n dX7_step_17 rfl) (mpp 18 rfl ?_)
    refine mp_a (a_iload_n dX7_step_18 rfl) (mpp 19 rfl ?_)
    refine mp_a (a_iconst (v := 0) dX7_step_19 rfl) (mpp 20 rfl ?_)
    have p25 : 0 ≤ t1.toInt := by omega
    have p26 : t1.toInt ≤ 7 := by omega
    refine mt_callv (i := 136) (q' := q_149) (As := [.int t1, .int 0]) (rest := []) hT16 dX7_step_20 rfl qm_149 (by decide) rfl rl_301 (by decide) rfl (Nat.le_of_ble_eq_true rfl) rfl ⟨rfl, rfl⟩ ⟨Nat.le_of_ble_eq_true rfl, Nat.le_of_ble_eq_true rfl⟩ (EvP.mono (by decide) (c_M_countOf hT16 p25 p26 )) (fun r27 P28 g29 => mpp 23 rfl ?_)
    obtain ⟨⟨x30, rfl, g31⟩, e32⟩ := g29
    have e32 := e32.symm
    subst e32
    have wx30 := ti_full x30
    replace g31 : (x30.toInt ≤ 0 ∨ UD P12 t1.toInt.toNat (0 : Int)) ∧ 0 ≤ x30.toInt ∧ x30.toInt ≤ 8 ∧ x30.toInt = cntF (fun j : Nat => fv P12 302 (14 + 19 * t1.toInt.toNat + j)) (0 : Int) (nC (fv P12 302 (3 + 19 * t1.toInt.toNat)).toInt (fv P12 302 (4 + 19 * t1.toInt.toNat)).toInt) := g31
    have e33 : (fv P12 302 (3 + 19 * t1.toInt.toNat)).toInt = (fv Po 302 (3 + 19 * t1.toInt.toNat)).toInt := congrArg Int32.toInt (KW.at k17 (3 + 19 * t1.toInt.toNat) rl_302 rfl)
    have e34 : (fv P12 302 (4 + 19 * t1.toInt.toNat)).toInt = (fv Po 302 (4 + 19 * t1.toInt.toNat)).toInt := congrArg Int32.toInt (KW.at k17 (4 + 19 * t1.toInt.toNat) rl_302 rfl)
    show MEvP _ none q_175 23 [(0, .ref 301), (1, .int t1)] [.int x30] _ _ _ _
    refine mp_Tb (t := 30) (j_if_le dX7_step_23) (by decide) (fun c35 => ?_) (fun c35 => mpp 26 rfl ?_)
    · have c35 : x30.toInt ≤ 0 := ti_le c35
      refine mp_a (a_aload_n dX7_step_30 rfl) (mpp 31 rfl ?_)
      refine mt_callv (i := 187) (q' := q_167) (As := []) (rest := []) hT16 dX7_step_31 rfl qm_167 (by decide) rfl rl_301 (by decide) rfl (Nat.le_of_ble_eq_true rfl) rfl ⟨rfl, rfl⟩ ⟨Nat.le_of_ble_eq_true rfl, Nat.le_of_ble_eq_true rfl⟩ (EvP.mono (by decide) (c_M_stepNow hT16 )) (fun r36 P37 g38 => mpp 34 rfl ?_)
      obtain ⟨⟨x39, rfl, g40⟩, e41⟩ := g38
      have e41 := e41.symm
      subst e41
      have wx39 := ti_full x39
      replace g40 : (x39.toInt = 0 ∨ (x39.toInt = 1 ∧ (fv P12 301 14).toInt = 0 ∧ 2 ≤ (fv P12 301 13).toInt) ∨ (x39.toInt = 2 ∧ (fv P12 301 14).toInt = 0 ∧ 2 ≤ (fv P12 301 13).toInt) ∨ ((fv P12 301 14).toInt = 1 ∧ 3 ≤ (fv P12 301 13).toInt ∧ 10 ≤ x39.toInt ∧ x39.toInt + 1 ≤ (fv P12 301 13).toInt + 10) ∨ ((fv P12 301 14).toInt = 0 ∧ 11 ≤ x39.toInt ∧ x39.toInt + 2 ≤ (fv P12 301 13).toInt + 10)) ∧ FS cM (rM P12) x39.toInt := g40
      show MEvP _ none q_175 34 [(0, .ref 301), (1, .int t1)] [.int x39] _ _ _ _
      refine mp_a (a_istore_n (L' := [(2, .int x39), (0, .ref 301), (1, .int t1)]) dX7_step_34 (by decide) rfl) (mpp 35 rfl ?_)
      refine mp_a (a_iload_n dX7_step_35 rfl) (mpp 36 rfl ?_)
      refine mp_Tb (t := 45) (j_if_ne dX7_step_36) (by decide) (fun c42 => ?_) (fun c42 => mpp 39 rfl ?_)
      · have c42 : x39.toInt ≠ 0 := ti_ne c42
        refine mp_a (a_iload_n dX7_step_45 rfl) (mpp 46 rfl ?_)
        have w44_f : ∀ j : Nat, fv P12 302 j = fv Po 302 j := fun j => KW.at k19 j rl_302 rfl
        have w44_c := g31.2.2.2
        simp only [w44_f] at w44_c
        have w45_ := g40.2
        rw [rM_load g15.1 g15.2.1 g15.2.2.1 g15.2.2.2 (by omega)] at w45_
        have u43 : stepM (sr Po) x39.toInt t1.toInt := (show (x39.toInt = -1001 ∧ (t1.toInt < 0 ∨ (fv Po 302 (0)).toInt ≤ t1.toInt)) ∨ ((0 ≤ t1.toInt ∧ t1.toInt + 1 ≤ (fv Po 302 (0)).toInt ∧ t1.toInt ≤ 7) ∧ 1 ≤ cntF (fun j : Nat => fv Po 302 (14 + 19 * t1.toInt.toNat + j)) 0 (nC (fv Po 302 (3 + 19 * t1.toInt.toNat)).toInt (fv Po 302 (4 + 19 * t1.toInt.toNat)).toInt) ∧ x39.toInt = -1004) ∨ ((0 ≤ t1.toInt ∧ t1.toInt + 1 ≤ (fv Po 302 (0)).toInt ∧ t1.toInt ≤ 7) ∧ cntF (fun j : Nat => fv Po 302 (14 + 19 * t1.toInt.toNat + j)) 0 (nC (fv Po 302 (3 + 19 * t1.toInt.toNat)).toInt (fv Po 302 (4 + 19 * t1.toInt.toNat)).toInt) = 0 ∧ (∃ y : Int, FS cM (pcR (fv Po 302 (3 + 19 * t1.toInt.toNat)).toInt (fv Po 302 (4 + 19 * t1.toInt.toNat)).toInt (fun j : Nat => fv Po 302 (6 + 19 * t1.toInt.toNat + j)) (fun j : Nat => fv Po 302 (14 + 19 * t1.toInt.toNat + j))) y ∧ ((y = 0 ∧ x39.toInt = -1004) ∨ (¬ y = 0 ∧ x39.toInt = y)))) from Or.inr (Or.inr (⟨by omega, by rw [← w44_c]; omega, ⟨_, w45_, Or.inr ⟨by omega, rfl⟩⟩⟩)))
        exact mp_iret ⟨⟨_, rfl, u43⟩, hT16, k19, trivial⟩ dX7_step_46 (Or.inl rfl)
      · have c42 : x39.toInt = 0 := ti_ne_n c42
        refine mp_a (a_sipush (v := -1004) dX7_step_39 rfl) (mpp 42 rfl ?_)
        refine mp_a (a_goto (t := 46) dX7_step_42 (by decide)) ?_
        have w47_f : ∀ j : Nat, fv P12 302 j = fv Po 302 j := fun j => KW.at k19 j rl_302 rfl
        have w47_c := g31.2.2.2
        simp only [w47_f] at w47_c
        have w48_ := g40.2
        rw [rM_load g15.1 g15.2.1 g15.2.2.1 g15.2.2.2 (by omega)] at w48_
        have u46 : stepM (sr Po) (-1004 : Int) t1.toInt := (show ((-1004 : Int) = -1001 ∧ (t1.toInt < 0 ∨ (fv Po 302 (0)).toInt ≤ t1.toInt)) ∨ ((0 ≤ t1.toInt ∧ t1.toInt + 1 ≤ (fv Po 302 (0)).toInt ∧ t1.toInt ≤ 7) ∧ 1 ≤ cntF (fun j : Nat => fv Po 302 (14 + 19 * t1.toInt.toNat + j)) 0 (nC (fv Po 302 (3 + 19 * t1.toInt.toNat)).toInt (fv Po 302 (4 + 19 * t1.toInt.toNat)).toInt) ∧ (-1004 : Int) = -1004) ∨ ((0 ≤ t1.toInt ∧ t1.toInt + 1 ≤ (fv Po 302 (0)).toInt ∧ t1.toInt ≤ 7) ∧ cntF (fun j : Nat => fv Po 302 (14 + 19 * t1.toInt.toNat + j)) 0 (nC (fv Po 302 (3 + 19 * t1.toInt.toNat)).toInt (fv Po 302 (4 + 19 * t1.toInt.toNat)).toInt) = 0 ∧ (∃ y : Int, FS cM (pcR (fv Po 302 (3 + 19 * t1.toInt.toNat)).toInt (fv Po 302 (4 + 19 * t1.toInt.toNat)).toInt (fun j : Nat => fv Po 302 (6 + 19 * t1.toInt.toNat + j)) (fun j : Nat => fv Po 302 (14 + 19 * t1.toInt.toNat + j))) y ∧ ((y = 0 ∧ (-1004 : Int) = -1004) ∨ (¬ y = 0 ∧ (-1004 : Int) = y)))) from Or.inr (Or.inr (⟨by omega, by rw [← w47_c]; omega, ⟨_, w48_, Or.inl ⟨by omega, rfl⟩⟩⟩)))
        exact mp_iret ⟨⟨_, rfl, u46⟩, hT16, k19, trivial⟩ dX7_step_46 (Or.inl rfl)
    · have c35 : x30.toInt > 0 := ti_le_n c35
      refine mp_a (a_iconst (v := 0) dX7_step_26 rfl) (mpp 27 rfl ?_)
      refine mp_a (a_goto (t := 34) dX7_step_27 (by decide)) ?_
      refine mp_a (a_istore_n (L' := [(2, .int 0), (0, .ref 301), (1, .int t1)]) dX7_step_34 (by decide) rfl) (mpp 35 rfl ?_)
      refine mp_a (a_iload_n dX7_step_35 rfl) (mpp 36 rfl ?_)
      refine mp_Tf (t := 45) (j_if_ne dX7_step_36) (by decide) (by decide) (mpp 39 rfl ?_)
      refine mp_a (a_sipush (v := -1004) dX7_step_39 rfl) (mpp 42 rfl ?_)
      refine mp_a (a_goto (t := 46) dX7_step_42 (by decide)) ?_
      have w50_f : ∀ j : Nat, fv P12 302 j = fv Po 302 j := fun j => KW.at k19 j rl_302 rfl
      have w50_c := g31.2.2.2
      simp only [w50_f] at w50_c
      have u49 : stepM (sr Po) (-1004 : Int) t1.toInt := (show ((-1004 : Int) = -1001 ∧ (t1.toInt < 0 ∨ (fv Po 302 (0)).toInt ≤ t1.toInt)) ∨ ((0 ≤ t1.toInt ∧ t1.toInt + 1 ≤ (fv Po 302 (0)).toInt ∧ t1.toInt ≤ 7) ∧ 1 ≤ cntF (fun j : Nat => fv Po 302 (14 + 19 * t1.toInt.toNat + j)) 0 (nC (fv Po 302 (3 + 19 * t1.toInt.toNat)).toInt (fv Po 302 (4 + 19 * t1.toInt.toNat)).toInt) ∧ (-1004 : Int) = -1004) ∨ ((0 ≤ t1.toInt ∧ t1.toInt + 1 ≤ (fv Po 302 (0)).toInt ∧ t1.toInt ≤ 7) ∧ cntF (fun j : Nat => fv Po 302 (14 + 19 * t1.toInt.toNat + j)) 0 (nC (fv Po 302 (3 + 19 * t1.toInt.toNat)).toInt (fv Po 302 (4 + 19 * t1.toInt.toNat)).toInt) = 0 ∧ (∃ y : Int, FS cM (pcR (fv Po 302 (3 + 19 * t1.toInt.toNat)).toInt (fv Po 302 (4 + 19 * t1.toInt.toNat)).toInt (fun j : Nat => fv Po 302 (6 + 19 * t1.toInt.toNat + j)) (fun j : Nat => fv Po 302 (14 + 19 * t1.toInt.toNat + j))) y ∧ ((y = 0 ∧ (-1004 : Int) = -1004) ∨ (¬ y = 0 ∧ (-1004 : Int) = y)))) from Or.inr (Or.inl (⟨by omega, by rw [← w50_c]; omega, by omega⟩)))
      exact mp_iret ⟨⟨_, rfl, u49⟩, hT16, k19, trivial⟩ dX7_step_46 (Or.inl rfl)
  · have c8 : x4.toInt = 0 := ti_ne_n c8
    refine mp_a (a_sipush (v := -1001) dX7_step_8 rfl) (mpp 11 rfl ?_)
    have u51 : stepM (sr Po) (-1001 : Int) t1.toInt := (show ((-1001 : Int) = -1001 ∧ (t1.toInt < 0 ∨ (fv Po 302 (0)).toInt ≤ t1.toInt)) ∨ ((0 ≤ t1.toInt ∧ t1.toInt + 1 ≤ (fv Po 302 (0)).toInt ∧ t1.toInt ≤ 7) ∧ 1 ≤ cntF (fun j : Nat => fv Po 302 (14 + 19 * t1.toInt.toNat + j)) 0 (nC (fv Po 302 (3 + 19 * t1.toInt.toNat)).toInt (fv Po 302 (4 + 19 * t1.toInt.toNat)).toInt) ∧ (-1001 : Int) = -1004) ∨ ((0 ≤ t1.toInt ∧ t1.toInt + 1 ≤ (fv Po 302 (0)).toInt ∧ t1.toInt ≤ 7) ∧ cntF (fun j : Nat => fv Po 302 (14 + 19 * t1.toInt.toNat + j)) 0 (nC (fv Po 302 (3 + 19 * t1.toInt.toNat)).toInt (fv Po 302 (4 + 19 * t1.toInt.toNat)).toInt) = 0 ∧ (∃ y : Int, FS cM (pcR (fv Po 302 (3 + 19 * t1.toInt.toNat)).toInt (fv Po 302 (4 + 19 * t1.toInt.toNat)).toInt (fun j : Nat => fv Po 302 (6 + 19 * t1.toInt.toNat + j)) (fun j : Nat => fv Po 302 (14 + 19 * t1.toInt.toNat + j))) y ∧ ((y = 0 ∧ (-1001 : Int) = -1004) ∨ (¬ y = 0 ∧ (-1001 : Int) = y)))) from Or.inl (⟨by omega, by omega⟩))
    exact mp_iret ⟨⟨_, rfl, u51⟩, hT, KW.refl, trivial⟩ dX7_step_11 (Or.inl rfl)

set_option maxHeartbeats 4000000 in
theorem c_M_steps {Po : mP} {t1 : Int32} (hT : Typ Po)   : EvP 6 176 [.ref 301, .int t1] Po (fun r P' => (∃ x : Int32, r = some (.int x) ∧ (stepsM (sr Po) x.toInt t1.toInt)) ∧ Typ P' ∧ KW [1101, 1102, 1536, 1600] Po P' ∧ True) := by
  refine EvP.of qm_176 (Nat.le_of_ble_eq_true rfl) rfl ?_
  show MEvP _ none q_176 0 [(0, .ref 301), (1, .int t1)] [] _ 0 0 _
  have w_t1 := ti_full t1
  refine mp_a (a_aload_n dX7_steps_0 rfl) (mpp 1 rfl ?_)
  refine mp_a (a_iload_n dX7_steps_1 rfl) (mpp 2 rfl ?_)
  refine mt_callv (i := 85) (q' := q_144) (As := [.int t1]) (rest := []) hT dX7_steps_2 rfl qm_144 (by decide) rfl rl_301 (by decide) rfl (Nat.le_of_ble_eq_true rfl) rfl ⟨rfl, rfl⟩ ⟨Nat.le_of_ble_eq_true rfl, Nat.le_of_ble_eq_true rfl⟩ (EvP.mono (by decide) (c_M_isPiece hT )) (fun r1 P2 g3 => mpp 5 rfl ?_)
  obtain ⟨⟨x4, rfl, g5⟩, e6⟩ := g3
  have e6 := e6.symm
  subst e6
  have wx4 := ti_full x4
  replace g5 : 0 ≤ x4.toInt ∧ x4.toInt ≤ 1 ∧ ((x4.toInt = 1 ∧ 0 ≤ t1.toInt ∧ t1.toInt + 1 ≤ (fv Po 302 0).toInt ∧ t1.toInt ≤ 7) ∨ (x4.toInt = 0 ∧ (t1.toInt < 0 ∨ (fv Po 302 0).toInt ≤ t1.toInt))) := g5
  have g7 : (0 : Int) ≤ (fv Po 302 0).toInt ∧ (fv Po 302 0).toInt ≤ 8 := Typ.rng hT rl_302 (by decide) (by decide) rfl
  show MEvP _ none q_176 5 [(0, .ref 301), (1, .int t1)] [.int x4] _ _ _ _
  refine mp_Tb (t := 12) (j_if_ne dX7_steps_5) (by decide) (fun c8 => ?_) (fun c8 => mpp 8 rfl ?_)
  · have c8 : x4.toInt ≠ 0 := ti_ne c8
    refine mp_a (a_aload_n dX7_steps_12 rfl) (mpp 13 rfl ?_)
    refine mp_a (a_iload_n dX7_steps_13 rfl) (mpp 14 rfl ?_)
    have p9 : 0 ≤ t1.toInt := by omega
    have p10 : t1.toInt ≤ 7 := by omega
    refine mt_callv (i := 196) (q' := q_164) (As := [.int t1]) (rest := []) hT dX7_steps_14 rfl qm_164 (by decide) rfl rl_301 (by decide) rfl (Nat.le_of_ble_eq_true rfl) rfl ⟨rfl, rfl⟩ ⟨Nat.le_of_ble_eq_true rfl, Nat.le_of_ble_eq_true rfl⟩ (EvP.mono (by decide) (c_M_lays hT p9 p10 )) (fun r11 P12 g13 => mpp 17 rfl ?_)
    obtain ⟨⟨rfl, g15⟩, hT16, k17, R18⟩ := g13
    have k19 : KW [1101, 1102, 1536, 1600] Po P12 := KW.trans KW.refl k17 rfl
    replace g15 : (fv P12 301 14).toInt = (fv Po 302 (3 + 19 * t1.toInt.toNat)).toInt ∧ (fv P12 301 13).toInt = (fv Po 302 (4 + 19 * t1.toInt.toNat)).toInt ∧ (∀ j : Nat, j < 8 → fv P12 308 j = fv Po 302 (6 + 19 * t1.toInt.toNat + j)) ∧ ∀ j : Nat, j < 8 → fv P12 309 j = fv Po 302 (14 + 19 * t1.toInt.toNat + j) := g15
    have g21 : (0 : Int) ≤ (fv P12 301 14).toInt ∧ (fv P12 301 14).toInt ≤ 1 := Typ.rng hT16 rl_301 (by decide) (by decide) rfl
    try have g22 : (0 : Int) ≤ (fv Po 302 (3 + 19 * t1.toInt.toNat)).toInt ∧ (fv Po 302 (3 + 19 * t1.toInt.toNat)).toInt ≤ 1 := s3_rng hT (by omega)
    have g23 : (0 : Int) ≤ (fv P12 301 13).toInt ∧ (fv P12 301 13).toInt ≤ 8 := Typ.rng hT16 rl_301 (by decide) (by decide) rfl
    try have g24 : (0 : Int) ≤ (fv Po 302 (4 + 19 * t1.toInt.toNat)).toInt ∧ (fv Po 302 (4 + 19 * t1.toInt.toNat)).toInt ≤ 8 := s4_rng hT (by omega)
    show MEvP _ none q_176 17 [(0, .ref 301), (1, .int t1)] [] _ _ _ _
    refine mp_a (a_aload_n dX7_steps_17 rfl) (mpp 18 rfl ?_)
    refine mp_a (a_iload_n dX7_steps_18 rfl) (mpp 19 rfl ?_)
    refine mp_a (a_iconst (v := 0) dX7_steps_19 rfl) (mpp 20 rfl ?_)
    have p25 : 0 ≤ t1.toInt := by omega
    have p26 : t1.toInt ≤ 7 := by omega
    refine mt_callv (i := 136) (q' := q_149) (As := [.int t1, .int 0]) (rest := []) hT16 dX7_steps_20 rfl qm_149 (by decide) rfl rl_301 (by decide) rfl (Nat.le_of_ble_eq_true rfl) rfl ⟨rfl, rfl⟩ ⟨Nat.le_of_ble_eq_true rfl, Nat.le_of_ble_eq_true rfl⟩ (EvP.mono (by decide) (c_M_countOf hT16 p25 p26 )) (fun r27 P28 g29 => mpp 23 rfl ?_)
    obtain ⟨⟨x30, rfl, g31⟩, e32⟩ := g29
    have e32 := e32.symm
    subst e32
    have wx30 := ti_full x30
    replace g31 : (x30.toInt ≤ 0 ∨ UD P12 t1.toInt.toNat (0 : Int)) ∧ 0 ≤ x30.toInt ∧ x30.toInt ≤ 8 ∧ x30.toInt = cntF (fun j : Nat => fv P12 302 (14 + 19 * t1.toInt.toNat + j)) (0 : Int) (nC (fv P12 302 (3 + 19 * t1.toInt.toNat)).toInt (fv P12 302 (4 + 19 * t1.toInt.toNat)).toInt) := g31
    have e33 : (fv P12 302 (3 + 19 * t1.toInt.toNat)).toInt = (fv Po 302 (3 + 19 * t1.toInt.toNat)).toInt := congrArg Int32.toInt (KW.at k17 (3 + 19 * t1.toInt.toNat) rl_302 rfl)
    have e34 : (fv P12 302 (4 + 19 * t1.toInt.toNat)).toInt = (fv Po 302 (4 + 19 * t1.toInt.toNat)).toInt := congrArg Int32.toInt (KW.at k17 (4 + 19 * t1.toInt.toNat) rl_302 rfl)
    show MEvP _ none q_176 23 [(0, .ref 301), (1, .int t1)] [.int x30] _ _ _ _
    refine mp_Tb (t := 32) (j_if_le dX7_steps_23) (by decide) (fun c35 => ?_) (fun c35 => mpp 26 rfl ?_)
    · have c35 : x30.toInt ≤ 0 := ti_le c35
      refine mp_a (a_aload_n dX7_steps_32 rfl) (mpp 33 rfl ?_)
      have p36 : (fv P12 301 13).toInt ≤ 8 := by omega
      refine mt_callv (i := 193) (q' := q_166) (As := []) (rest := []) hT16 dX7_steps_33 rfl qm_166 (by decide) rfl rl_301 (by decide) rfl (Nat.le_of_ble_eq_true rfl) rfl ⟨rfl, rfl⟩ ⟨Nat.le_of_ble_eq_true rfl, Nat.le_of_ble_eq_true rfl⟩ (EvP.mono (by decide) (c_M_reduces hT16 p36 )) (fun r37 P38 g39 => mpp 36 rfl ?_)
      obtain ⟨⟨x40, rfl, g41⟩, hT42, k43, R44⟩ := g39
      have k45 : KW [1101, 1102, 1536, 1600] Po P38 := KW.trans k19 k43 rfl
      have wx40 := ti_full x40
      replace g41 : 0 ≤ x40.toInt ∧ RD cM (rM P12) x40.toInt.toNat (rM P38) := g41
      show MEvP _ none q_176 36 [(0, .ref 301), (1, .int t1)] [.int x40] _ _ _ _
      have w48_f : ∀ j : Nat, fv P12 302 j = fv Po 302 j := fun j => KW.at k19 j rl_302 rfl
      have w48_c := g31.2.2.2
      simp only [w48_f] at w48_c
      have w49_ := g41.2
      rw [rM_load g15.1 g15.2.1 g15.2.2.1 g15.2.2.2 (by omega)] at w49_
      have u47 : stepsM (sr Po) x40.toInt t1.toInt := (show (x40.toInt = -1001 ∧ (t1.toInt < 0 ∨ (fv Po 302 (0)).toInt ≤ t1.toInt)) ∨ ((0 ≤ t1.toInt ∧ t1.toInt + 1 ≤ (fv Po 302 (0)).toInt ∧ t1.toInt ≤ 7) ∧ 1 ≤ cntF (fun j : Nat => fv Po 302 (14 + 19 * t1.toInt.toNat + j)) 0 (nC (fv Po 302 (3 + 19 * t1.toInt.toNat)).toInt (fv Po 302 (4 + 19 * t1.toInt.toNat)).toInt) ∧ x40.toInt = -1004) ∨ ((0 ≤ t1.toInt ∧ t1.toInt + 1 ≤ (fv Po 302 (0)).toInt ∧ t1.toInt ≤ 7) ∧ cntF (fun j : Nat => fv Po 302 (14 + 19 * t1.toInt.toNat + j)) 0 (nC (fv Po 302 (3 + 19 * t1.toInt.toNat)).toInt (fv Po 302 (4 + 19 * t1.toInt.toNat)).toInt) = 0 ∧ 0 ≤ x40.toInt ∧ (∃ R2 : RS, RD cM (pcR (fv Po 302 (3 + 19 * t1.toInt.toNat)).toInt (fv Po 302 (4 + 19 * t1.toInt.toNat)).toInt (fun j : Nat => fv Po 302 (6 + 19 * t1.toInt.toNat + j)) (fun j : Nat => fv Po 302 (14 + 19 * t1.toInt.toNat + j))) x40.toInt.toNat R2)) from Or.inr (Or.inr (⟨by omega, by rw [← w48_c]; omega, by omega, ⟨_, w49_⟩⟩)))
      exact mp_iret ⟨⟨_, rfl, u47⟩, hT42, k45, trivial⟩ dX7_steps_36 (Or.inl rfl)
    · have c35 : x30.toInt > 0 := ti_le_n c35
      refine mp_a (a_sipush (v := -1004) dX7_steps_26 rfl) (mpp 29 rfl ?_)
      refine mp_a (a_goto (t := 36) dX7_steps_29 (by decide)) ?_
      have w51_f : ∀ j : Nat, fv P12 302 j = fv Po 302 j := fun j => KW.at k19 j rl_302 rfl
      have w51_c := g31.2.2.2
      simp only [w51_f] at w51_c
      have u50 : stepsM (sr Po) (-1004 : Int) t1.toInt := (show ((-1004 : Int) = -1001 ∧ (t1.toInt < 0 ∨ (fv Po 302 (0)).toInt ≤ t1.toInt)) ∨ ((0 ≤ t1.toInt ∧ t1.toInt + 1 ≤ (fv Po 302 (0)).toInt ∧ t1.toInt ≤ 7) ∧ 1 ≤ cntF (fun j : Nat => fv Po 302 (14 + 19 * t1.toInt.toNat + j)) 0 (nC (fv Po 302 (3 + 19 * t1.toInt.toNat)).toInt (fv Po 302 (4 + 19 * t1.toInt.toNat)).toInt) ∧ (-1004 : Int) = -1004) ∨ ((0 ≤ t1.toInt ∧ t1.toInt + 1 ≤ (fv Po 302 (0)).toInt ∧ t1.toInt ≤ 7) ∧ cntF (fun j : Nat => fv Po 302 (14 + 19 * t1.toInt.toNat + j)) 0 (nC (fv Po 302 (3 + 19 * t1.toInt.toNat)).toInt (fv Po 302 (4 + 19 * t1.toInt.toNat)).toInt) = 0 ∧ 0 ≤ (-1004 : Int) ∧ (∃ R2 : RS, RD cM (pcR (fv Po 302 (3 + 19 * t1.toInt.toNat)).toInt (fv Po 302 (4 + 19 * t1.toInt.toNat)).toInt (fun j : Nat => fv Po 302 (6 + 19 * t1.toInt.toNat + j)) (fun j : Nat => fv Po 302 (14 + 19 * t1.toInt.toNat + j))) (-1004 : Int).toNat R2)) from Or.inr (Or.inl (⟨by omega, by rw [← w51_c]; omega, by omega⟩)))
      exact mp_iret ⟨⟨_, rfl, u50⟩, hT16, k19, trivial⟩ dX7_steps_36 (Or.inl rfl)
  · have c8 : x4.toInt = 0 := ti_ne_n c8
    refine mp_a (a_sipush (v := -1001) dX7_steps_8 rfl) (mpp 11 rfl ?_)
    have u52 : stepsM (sr Po) (-1001 : Int) t1.toInt := (show ((-1001 : Int) = -1001 ∧ (t1.toInt < 0 ∨ (fv Po 302 (0)).toInt ≤ t1.toInt)) ∨ ((0 ≤ t1.toInt ∧ t1.toInt + 1 ≤ (fv Po 302 (0)).toInt ∧ t1.toInt ≤ 7) ∧ 1 ≤ cntF (fun j : Nat => fv Po 302 (14 + 19 * t1.toInt.toNat + j)) 0 (nC (fv Po 302 (3 + 19 * t1.toInt.toNat)).toInt (fv Po 302 (4 + 19 * t1.toInt.toNat)).toInt) ∧ (-1001 : Int) = -1004) ∨ ((0 ≤ t1.toInt ∧ t1.toInt + 1 ≤ (fv Po 302 (0)).toInt ∧ t1.toInt ≤ 7) ∧ cntF (fun j : Nat => fv Po 302 (14 + 19 * t1.toInt.toNat + j)) 0 (nC (fv Po 302 (3 + 19 * t1.toInt.toNat)).toInt (fv Po 302 (4 + 19 * t1.toInt.toNat)).toInt) = 0 ∧ 0 ≤ (-1001 : Int) ∧ (∃ R2 : RS, RD cM (pcR (fv Po 302 (3 + 19 * t1.toInt.toNat)).toInt (fv Po 302 (4 + 19 * t1.toInt.toNat)).toInt (fun j : Nat => fv Po 302 (6 + 19 * t1.toInt.toNat + j)) (fun j : Nat => fv Po 302 (14 + 19 * t1.toInt.toNat + j))) (-1001 : Int).toNat R2)) from Or.inl (⟨by omega, by omega⟩))
    exact mp_iret ⟨⟨_, rfl, u52⟩, hT, KW.refl, trivial⟩ dX7_steps_11 (Or.inl rfl)

set_option maxHeartbeats 4000000 in
theorem c_M_otherwise_l5 {Po : mP} {t1 : Int32} {t2 : Int32} (hT : Typ Po)  (hp0 : 0 ≤ t1.toInt) (hp1 : t1.toInt ≤ 7)  : ∀ (n : Nat) (v3 : Int32) (v4 : Int32), (0 ≤ v3.toInt) → (v3.toInt ≤ v4.toInt) → (v4.toInt ≤ 8) → (v3.toInt = chF (fun j : Nat => fv Po 302 (14 + 19 * t1.toInt.toNat + j)) t2 v4.toInt.toNat) → (((fv Po 302 (3 + 19 * t1.toInt.toNat)).toInt ≠ 1 ∧ (v4.toInt ≤ (fv Po 302 (4 + 19 * t1.toInt.toNat)).toInt - 1 ∨ v4.toInt = 0)) ∨ ((fv Po 302 (3 + 19 * t1.toInt.toNat)).toInt = 1 ∧ v4.toInt ≤ (fv Po 302 (4 + 19 * t1.toInt.toNat)).toInt)) → (0 ≤ v4.toInt) → (2147483647 - v4.toInt).toNat = n → MEvP 4 none q_178 5 [(0, .ref 301), (1, .int t1), (2, .int t2), (3, .int v3), (4, .int v4)] [] Po 0 0 (fun r P' => (∃ x : Int32, r = some (.int x) ∧ (0 ≤ x.toInt ∧ x.toInt ≤ 8 ∧ x.toInt = chF (fun j : Nat => fv Po 302 (14 + 19 * t1.toInt.toNat + j)) t2 (nC (fv Po 302 (3 + 19 * t1.toInt.toNat)).toInt (fv Po 302 (4 + 19 * t1.toInt.toNat)).toInt))) ∧ P' = Po) := by
  intro n
  induction n using Nat.strongRecOn with | _ n ih => ?_
  intro v3 v4 i_0 i_1 i_2 i_3 i_4 i_5 hm
  have w_t1 := ti_full t1
  have w_t2 := ti_full t2
  have w_v3 := ti_full v3
  have w_v4 := ti_full v4
  try have g1 : (0 : Int) ≤ (fv Po 302 (3 + 19 * t1.toInt.toNat)).toInt ∧ (fv Po 302 (3 + 19 * t1.toInt.toNat)).toInt ≤ 1 := s3_rng hT (by omega)
  try have g2 : (0 : Int) ≤ (fv Po 302 (4 + 19 * t1.toInt.toNat)).toInt ∧ (fv Po 302 (4 + 19 * t1.toInt.toNat)).toInt ≤ 8 := s4_rng hT (by omega)
  refine mp_a (a_iload dX7_otherwise_5 rfl) (mpp 7 rfl ?_)
  refine mp_a (a_aload_n dX7_otherwise_7 rfl) (mpp 8 rfl ?_)
  refine mp_a (a_iload_n dX7_otherwise_8 rfl) (mpp 9 rfl ?_)
  have p3 : 0 ≤ t1.toInt := by omega
  have p4 : t1.toInt ≤ 7 := by omega
  refine mt_callv (i := 88) (q' := q_136) (As := [.int t1]) (rest := [.int v4]) hT dX7_otherwise_9 rfl qm_136 (by decide) rfl rl_301 (by decide) rfl (Nat.le_of_ble_eq_true rfl) rfl ⟨rfl, rfl⟩ ⟨Nat.le_of_ble_eq_true rfl, Nat.le_of_ble_eq_true rfl⟩ (EvP.mono (by decide) (c_M_creases hT p3 p4 )) (fun r5 P6 g7 => mpp 12 rfl ?_)
  obtain ⟨⟨x8, rfl, g9⟩, e10⟩ := g7
  have e10 := e10.symm
  subst e10
  have wx8 := ti_full x8
  replace g9 : -1 ≤ x8.toInt ∧ x8.toInt ≤ 8 ∧ (((fv Po 302 (3 + 19 * t1.toInt.toNat)).toInt = 1 ∧ x8.toInt = (fv Po 302 (4 + 19 * t1.toInt.toNat)).toInt) ∨ ((fv Po 302 (3 + 19 * t1.toInt.toNat)).toInt = 0 ∧ x8.toInt = (fv Po 302 (4 + 19 * t1.toInt.toNat)).toInt - 1)) := g9
  show MEvP _ none q_178 12 [(0, .ref 301), (1, .int t1), (2, .int t2), (3, .int v3), (4, .int v4)] [.int x8, .int v4] _ _ _ _
  refine mp_Tb (t := 68) (j_icmp_ge dX7_otherwise_12) (by decide) (fun c11 => ?_) (fun c11 => mpp 15 rfl ?_)
  · have c11 : v4.toInt ≥ x8.toInt := ti_ge c11
    refine mp_a (a_iload_n dX7_otherwise_68 rfl) (mpp 69 rfl ?_)
    have u12 : 0 ≤ v3.toInt ∧ v3.toInt ≤ 8 ∧ v3.toInt = chF (fun j : Nat => fv Po 302 (14 + 19 * t1.toInt.toNat + j)) t2 (nC (fv Po 302 (3 + 19 * t1.toInt.toNat)).toInt (fv Po 302 (4 + 19 * t1.toInt.toNat)).toInt) := ⟨by omega, by omega, i_3.trans (congrArg (chF _ _) (by unfold nC; split <;> omega))⟩
    exact mp_iret ⟨⟨_, rfl, u12⟩, rfl⟩ dX7_otherwise_69 (Or.inl rfl)
  · have c11 : v4.toInt < x8.toInt := ti_ge_n c11
    refine mp_a (a_iload_n dX7_otherwise_15 rfl) (mpp 16 rfl ?_)
    refine mp_a (a_iload dX7_otherwise_16 rfl) (mpp 18 rfl ?_)
    obtain ⟨z13, h14⟩ := ti_ex (t2 >>> (v4 &&& 31) : Int32)
    have wz13 := ti_full z13
    refine mp_t (s_ishr (v := z13) dX7_otherwise_18 h14) (mpp 19 rfl ?_)
    refine mp_a (a_iconst (v := 1) dX7_otherwise_19 rfl) (mpp 20 rfl ?_)
    obtain ⟨z15, h16⟩ := ti_ex (z13 &&& 1 : Int32)
    have wz15 := ti_full z15
    refine mp_t (s_iand (v := z15) dX7_otherwise_20 h16) (mpp 21 rfl ?_)
    refine mp_a (a_iconst (v := 1) dX7_otherwise_21 rfl) (mpp 22 rfl ?_)
    refine mp_Tb (t := 29) (j_icmp_ne dX7_otherwise_22) (by decide) (fun c17 => ?_) (fun c17 => mpp 25 rfl ?_)
    · have c17 : z15.toInt ≠ 1 := ti_ne c17
      refine mp_a (a_iconst (v := 1) dX7_otherwise_29 rfl) (mpp 30 rfl ?_)
      refine mp_a (a_istore (L' := [(5, .int 1), (0, .ref 301), (1, .int t1), (2, .int t2), (3, .int v3), (4, .int v4)]) dX7_otherwise_30 (by decide) rfl) (mpp 32 rfl ?_)
      refine mp_a (a_iload_n dX7_otherwise_32 rfl) (mpp 33 rfl ?_)
      refine mp_a (a_aload_n dX7_otherwise_33 rfl) (mpp 34 rfl ?_)
      refine mp_a (a_iload_n dX7_otherwise_34 rfl) (mpp 35 rfl ?_)
      refine mp_a (a_iload dX7_otherwise_35 rfl) (mpp 37 rfl ?_)
      have p18 : 0 ≤ t1.toInt := by omega
      have p19 : t1.toInt ≤ 7 := by omega
      have p20 : 0 ≤ v4.toInt := by omega
      have p21 : v4.toInt ≤ 7 := by omega
      refine mt_callv (i := 92) (q' := q_146) (As := [.int t1, .int v4]) (rest := [.int v3]) hT dX7_otherwise_37 rfl qm_146 (by decide) rfl rl_301 (by decide) rfl (Nat.le_of_ble_eq_true rfl) rfl ⟨rfl, rfl⟩ ⟨Nat.le_of_ble_eq_true rfl, Nat.le_of_ble_eq_true rfl⟩ (EvP.mono (by decide) (c_M_creaseOf hT p18 p19 p20 p21 )) (fun r22 P23 g24 => mpp 40 rfl ?_)
      obtain ⟨⟨x25, rfl, g26⟩, e27⟩ := g24
      have e27 := e27.symm
      subst e27
      have wx25 := ti_full x25
      replace g26 : x25.toInt = (fv Po 302 (14 + 19 * t1.toInt.toNat + v4.toInt.toNat)).toInt := g26
      show MEvP _ none q_178 40 [(5, .int 1), (0, .ref 301), (1, .int t1), (2, .int t2), (3, .int v3), (4, .int v4)] [.int x25, .int v3] _ _ _ _
      refine mp_Tb (t := 59) (j_if_eq dX7_otherwise_40) (by decide) (fun c28 => ?_) (fun c28 => mpp 43 rfl ?_)
      · have c28 : x25.toInt = 0 := ti_eq c28
        refine mp_a (a_iconst (v := 0) dX7_otherwise_59 rfl) (mpp 60 rfl ?_)
        obtain ⟨z29, h30⟩ := ti_ex (v3 + 0 : Int32)
        have wz29 := ti_full z29
        refine mp_t (s_iadd (v := z29) dX7_otherwise_60 h30) (mpp 61 rfl ?_)
        try have e31 : z29.toInt = v3.toInt + 0 := ti_addz h30 rfl rfl (by omega) (by omega)
        refine mp_a (a_istore_n (L' := [(3, .int z29), (5, .int 1), (0, .ref 301), (1, .int t1), (2, .int t2), (4, .int v4)]) dX7_otherwise_61 (by decide) rfl) (mpp 62 rfl ?_)
        obtain ⟨z32, h33⟩ := ti_ex (v4 + 1 : Int32)
        have wz32 := ti_full z32
        refine mp_a (a_iinc (v := z32) (L' := [(4, .int z32), (3, .int z29), (5, .int 1), (0, .ref 301), (1, .int t1), (2, .int t2)]) dX7_otherwise_62 (by decide) rfl h33 rfl) (mpp 65 rfl ?_)
        try have e34 : z32.toInt = v4.toInt + 1 := ti_addz h33 rfl rfl (by omega) (by omega)
        refine mp_a (a_goto (t := 5) dX7_otherwise_65 (by decide)) ?_
        refine MEvP.less (L := [(0, .ref 301), (1, .int t1), (2, .int t2), (3, .int z29), (4, .int z32)]) rfl rfl ⟨rfl, rfl, rfl, rfl, rfl, trivial⟩ ?_
        have i35 : 0 ≤ z29.toInt := by omega
        have i36 : z29.toInt ≤ z32.toInt := by omega
        have i37 : z32.toInt ≤ 8 := by omega
        have i38 : z29.toInt = chF (fun j : Nat => fv Po 302 (14 + 19 * t1.toInt.toNat + j)) t2 z32.toInt.toNat := chF.no i_3 (by omega) (Or.inl (by show (fv Po 302 (14 + 19 * t1.toInt.toNat + v4.toInt.toNat)).toInt = 0; omega)) (by omega)
        have i39 : ((fv Po 302 (3 + 19 * t1.toInt.toNat)).toInt ≠ 1 ∧ (z32.toInt ≤ (fv Po 302 (4 + 19 * t1.toInt.toNat)).toInt - 1 ∨ z32.toInt = 0)) ∨ ((fv Po 302 (3 + 19 * t1.toInt.toNat)).toInt = 1 ∧ z32.toInt ≤ (fv Po 302 (4 + 19 * t1.toInt.toNat)).toInt) := by omega
        have i40 : 0 ≤ z32.toInt := by omega
        exact ih _ (by omega) _ _ i35 i36 i37 i38 i39 i40 rfl
      · have c28 : x25.toInt ≠ 0 := ti_eq_n c28
        refine mp_a (a_aload_n dX7_otherwise_43 rfl) (mpp 44 rfl ?_)
        refine mp_a (a_iload_n dX7_otherwise_44 rfl) (mpp 45 rfl ?_)
        refine mp_a (a_iload dX7_otherwise_45 rfl) (mpp 47 rfl ?_)
        have p41 : 0 ≤ t1.toInt := by omega
        have p42 : t1.toInt ≤ 7 := by omega
        have p43 : 0 ≤ v4.toInt := by omega
        have p44 : v4.toInt ≤ 7 := by omega
        refine mt_callv (i := 92) (q' := q_146) (As := [.int t1, .int v4]) (rest := [.int v3]) hT dX7_otherwise_47 rfl qm_146 (by decide) rfl rl_301 (by decide) rfl (Nat.le_of_ble_eq_true rfl) rfl ⟨rfl, rfl⟩ ⟨Nat.le_of_ble_eq_true rfl, Nat.le_of_ble_eq_true rfl⟩ (EvP.mono (by decide) (c_M_creaseOf hT p41 p42 p43 p44 )) (fun r45 P46 g47 => mpp 50 rfl ?_)
        obtain ⟨⟨x48, rfl, g49⟩, e50⟩ := g47
        have e50 := e50.symm
        subst e50
        have wx48 := ti_full x48
        replace g49 : x48.toInt = (fv Po 302 (14 + 19 * t1.toInt.toNat + v4.toInt.toNat)).toInt := g49
        show MEvP _ none q_178 50 [(5, .int 1), (0, .ref 301), (1, .int t1), (2, .int t2), (3, .int v3), (4, .int v4)] [.int x48, .int v3] _ _ _ _
        refine mp_a (a_iload dX7_otherwise_50 rfl) (mpp 52 rfl ?_)
        refine mp_Tb (t := 59) (j_icmp_eq dX7_otherwise_52) (by decide) (fun c51 => ?_) (fun c51 => mpp 55 rfl ?_)
        · have c51 : x48.toInt = 1 := ti_eq c51
          refine mp_a (a_iconst (v := 0) dX7_otherwise_59 rfl) (mpp 60 rfl ?_)
          obtain ⟨z52, h53⟩ := ti_ex (v3 + 0 : Int32)
          have wz52 := ti_full z52
          refine mp_t (s_iadd (v := z52) dX7_otherwise_60 h53) (mpp 61 rfl ?_)
          try have e54 : z52.toInt = v3.toInt + 0 := ti_addz h53 rfl rfl (by omega) (by omega)
          refine mp_a (a_istore_n (L' := [(3, .int z52), (5, .int 1), (0, .ref 301), (1, .int t1), (2, .int t2), (4, .int v4)]) dX7_otherwise_61 (by decide) rfl) (mpp 62 rfl ?_)
          obtain ⟨z55, h56⟩ := ti_ex (v4 + 1 : Int32)
          have wz55 := ti_full z55
          refine mp_a (a_iinc (v := z55) (L' := [(4, .int z55), (3, .int z52), (5, .int 1), (0, .ref 301), (1, .int t1), (2, .int t2)]) dX7_otherwise_62 (by decide) rfl h56 rfl) (mpp 65 rfl ?_)
          try have e57 : z55.toInt = v4.toInt + 1 := ti_addz h56 rfl rfl (by omega) (by omega)
          refine mp_a (a_goto (t := 5) dX7_otherwise_65 (by decide)) ?_
          refine MEvP.less (L := [(0, .ref 301), (1, .int t1), (2, .int t2), (3, .int z52), (4, .int z55)]) rfl rfl ⟨rfl, rfl, rfl, rfl, rfl, trivial⟩ ?_
          have i58 : 0 ≤ z52.toInt := by omega
          have i59 : z52.toInt ≤ z55.toInt := by omega
          have i60 : z55.toInt ≤ 8 := by omega
          have w62_ : kB t2 v4 = 1 := kB.one h14 h16 (by have := and1 h16; omega)
          have i61 : z52.toInt = chF (fun j : Nat => fv Po 302 (14 + 19 * t1.toInt.toNat + j)) t2 z55.toInt.toNat := chF.no i_3 (by omega) (Or.inr (by show (fv Po 302 (14 + 19 * t1.toInt.toNat + v4.toInt.toNat)).toInt = kN t2 v4.toInt.toNat; rw [kN_of (by omega), w62_]; omega)) (by omega)
          have i63 : ((fv Po 302 (3 + 19 * t1.toInt.toNat)).toInt ≠ 1 ∧ (z55.toInt ≤ (fv Po 302 (4 + 19 * t1.toInt.toNat)).toInt - 1 ∨ z55.toInt = 0)) ∨ ((fv Po 302 (3 + 19 * t1.toInt.toNat)).toInt = 1 ∧ z55.toInt ≤ (fv Po 302 (4 + 19 * t1.toInt.toNat)).toInt) := by omega
          have i64 : 0 ≤ z55.toInt := by omega
          exact ih _ (by omega) _ _ i58 i59 i60 i61 i63 i64 rfl
        · have c51 : x48.toInt ≠ 1 := ti_eq_n c51
          refine mp_a (a_iconst (v := 1) dX7_otherwise_55 rfl) (mpp 56 rfl ?_)
          refine mp_a (a_goto (t := 60) dX7_otherwise_56 (by decide)) ?_
          obtain ⟨z65, h66⟩ := ti_ex (v3 + 1 : Int32)
          have wz65 := ti_full z65
          refine mp_t (s_iadd (v := z65) dX7_otherwise_60 h66) (mpp 61 rfl ?_)
          try have e67 : z65.toInt = v3.toInt + 1 := ti_addz h66 rfl rfl (by omega) (by omega)
          refine mp_a (a_istore_n (L' := [(3, .int z65), (5, .int 1), (0, .ref 301), (1, .int t1), (2, .int t2), (4, .int v4)]) dX7_otherwise_61 (by decide) rfl) (mpp 62 rfl ?_)
          obtain ⟨z68, h69⟩ := ti_ex (v4 + 1 : Int32)
          have wz68 := ti_full z68
          refine mp_a (a_iinc (v := z68) (L' := [(4, .int z68), (3, .int z65), (5, .int 1), (0, .ref 301), (1, .int t1), (2, .int t2)]) dX7_otherwise_62 (by decide) rfl h69 rfl) (mpp 65 rfl ?_)
          try have e70 : z68.toInt = v4.toInt + 1 := ti_addz h69 rfl rfl (by omega) (by omega)
          refine mp_a (a_goto (t := 5) dX7_otherwise_65 (by decide)) ?_
          refine MEvP.less (L := [(0, .ref 301), (1, .int t1), (2, .int t2), (3, .int z65), (4, .int z68)]) rfl rfl ⟨rfl, rfl, rfl, rfl, rfl, trivial⟩ ?_
          have i71 : 0 ≤ z65.toInt := by omega
          have i72 : z65.toInt ≤ z68.toInt := by omega
          have i73 : z68.toInt ≤ 8 := by omega
          have w75_ : kB t2 v4 = 1 := kB.one h14 h16 (by have := and1 h16; omega)
          have i74 : z65.toInt = chF (fun j : Nat => fv Po 302 (14 + 19 * t1.toInt.toNat + j)) t2 z68.toInt.toNat := chF.yes i_3 (by omega) (by show ¬ (fv Po 302 (14 + 19 * t1.toInt.toNat + v4.toInt.toNat)).toInt = 0; omega) (by show ¬ (fv Po 302 (14 + 19 * t1.toInt.toNat + v4.toInt.toNat)).toInt = kN t2 v4.toInt.toNat; rw [kN_of (by omega), w75_]; omega) (by omega)
          have i76 : ((fv Po 302 (3 + 19 * t1.toInt.toNat)).toInt ≠ 1 ∧ (z68.toInt ≤ (fv Po 302 (4 + 19 * t1.toInt.toNat)).toInt - 1 ∨ z68.toInt = 0)) ∨ ((fv Po 302 (3 + 19 * t1.toInt.toNat)).toInt = 1 ∧ z68.toInt ≤ (fv Po 302 (4 + 19 * t1.toInt.toNat)).toInt) := by omega
          have i77 : 0 ≤ z68.toInt := by omega
          exact ih _ (by omega) _ _ i71 i72 i73 i74 i76 i77 rfl
    · have c17 : z15.toInt = 1 := ti_ne_n c17
      refine mp_a (a_iconst (v := 2) dX7_otherwise_25 rfl) (mpp 26 rfl ?_)
      refine mp_a (a_goto (t := 30) dX7_otherwise_26 (by decide)) ?_
      refine mp_a (a_istore (L' := [(5, .int 2), (0, .ref 301), (1, .int t1), (2, .int t2), (3, .int v3), (4, .int v4)]) dX7_otherwise_30 (by decide) rfl) (mpp 32 rfl ?_)
      refine mp_a (a_iload_n dX7_otherwise_32 rfl) (mpp 33 rfl ?_)
      refine mp_a (a_aload_n dX7_otherwise_33 rfl) (mpp 34 rfl ?_)
      refine mp_a (a_iload_n dX7_otherwise_34 rfl) (mpp 35 rfl ?_)
      refine mp_a (a_iload dX7_otherwise_35 rfl) (mpp 37 rfl ?_)
      have p78 : 0 ≤ t1.toInt := by omega
      have p79 : t1.toInt ≤ 7 := by omega
      have p80 : 0 ≤ v4.toInt := by omega
      have p81 : v4.toInt ≤ 7 := by omega
      refine mt_callv (i := 92) (q' := q_146) (As := [.int t1, .int v4]) (rest := [.int v3]) hT dX7_otherwise_37 rfl qm_146 (by decide) rfl rl_301 (by decide) rfl (Nat.le_of_ble_eq_true rfl) rfl ⟨rfl, rfl⟩ ⟨Nat.le_of_ble_eq_true rfl, Nat.le_of_ble_eq_true rfl⟩ (EvP.mono (by decide) (c_M_creaseOf hT p78 p79 p80 p81 )) (fun r82 P83 g84 => mpp 40 rfl ?_)
      obtain ⟨⟨x85, rfl, g86⟩, e87⟩ := g84
      have e87 := e87.symm
      subst e87
      have wx85 := ti_full x85
      replace g86 : x85.toInt = (fv Po 302 (14 + 19 * t1.toInt.toNat + v4.toInt.toNat)).toInt := g86
      show MEvP _ none q_178 40 [(5, .int 2), (0, .ref 301), (1, .int t1), (2, .int t2), (3, .int v3), (4, .int v4)] [.int x85, .int v3] _ _ _ _
      refine mp_Tb (t := 59) (j_if_eq dX7_otherwise_40) (by decide) (fun c88 => ?_) (fun c88 => mpp 43 rfl ?_)
      · have c88 : x85.toInt = 0 := ti_eq c88
        refine mp_a (a_iconst (v := 0) dX7_otherwise_59 rfl) (mpp 60 rfl ?_)
        obtain ⟨z89, h90⟩ := ti_ex (v3 + 0 : Int32)
        have wz89 := ti_full z89
        refine mp_t (s_iadd (v := z89) dX7_otherwise_60 h90) (mpp 61 rfl ?_)
        try have e91 : z89.toInt = v3.toInt + 0 := ti_addz h90 rfl rfl (by omega) (by omega)
        refine mp_a (a_istore_n (L' := [(3, .int z89), (5, .int 2), (0, .ref 301), (1, .int t1), (2, .int t2), (4, .int v4)]) dX7_otherwise_61 (by decide) rfl) (mpp 62 rfl ?_)
        obtain ⟨z92, h93⟩ := ti_ex (v4 + 1 : Int32)
        have wz92 := ti_full z92
        refine mp_a (a_iinc (v := z92) (L' := [(4, .int z92), (3, .int z89), (5, .int 2), (0, .ref 301), (1, .int t1), (2, .int t2)]) dX7_otherwise_62 (by decide) rfl h93 rfl) (mpp 65 rfl ?_)
        try have e94 : z92.toInt = v4.toInt + 1 := ti_addz h93 rfl rfl (by omega) (by omega)
        refine mp_a (a_goto (t := 5) dX7_otherwise_65 (by decide)) ?_
        refine MEvP.less (L := [(0, .ref 301), (1, .int t1), (2, .int t2), (3, .int z89), (4, .int z92)]) rfl rfl ⟨rfl, rfl, rfl, rfl, rfl, trivial⟩ ?_
        have i95 : 0 ≤ z89.toInt := by omega
        have i96 : z89.toInt ≤ z92.toInt := by omega
        have i97 : z92.toInt ≤ 8 := by omega
        have i98 : z89.toInt = chF (fun j : Nat => fv Po 302 (14 + 19 * t1.toInt.toNat + j)) t2 z92.toInt.toNat := chF.no i_3 (by omega) (Or.inl (by show (fv Po 302 (14 + 19 * t1.toInt.toNat + v4.toInt.toNat)).toInt = 0; omega)) (by omega)
        have i99 : ((fv Po 302 (3 + 19 * t1.toInt.toNat)).toInt ≠ 1 ∧ (z92.toInt ≤ (fv Po 302 (4 + 19 * t1.toInt.toNat)).toInt - 1 ∨ z92.toInt = 0)) ∨ ((fv Po 302 (3 + 19 * t1.toInt.toNat)).toInt = 1 ∧ z92.toInt ≤ (fv Po 302 (4 + 19 * t1.toInt.toNat)).toInt) := by omega
        have i100 : 0 ≤ z92.toInt := by omega
        exact ih _ (by omega) _ _ i95 i96 i97 i98 i99 i100 rfl
      · have c88 : x85.toInt ≠ 0 := ti_eq_n c88
        refine mp_a (a_aload_n dX7_otherwise_43 rfl) (mpp 44 rfl ?_)
        refine mp_a (a_iload_n dX7_otherwise_44 rfl) (mpp 45 rfl ?_)
        refine mp_a (a_iload dX7_otherwise_45 rfl) (mpp 47 rfl ?_)
        have p101 : 0 ≤ t1.toInt := by omega
        have p102 : t1.toInt ≤ 7 := by omega
        have p103 : 0 ≤ v4.toInt := by omega
        have p104 : v4.toInt ≤ 7 := by omega
        refine mt_callv (i := 92) (q' := q_146) (As := [.int t1, .int v4]) (rest := [.int v3]) hT dX7_otherwise_47 rfl qm_146 (by decide) rfl rl_301 (by decide) rfl (Nat.le_of_ble_eq_true rfl) rfl ⟨rfl, rfl⟩ ⟨Nat.le_of_ble_eq_true rfl, Nat.le_of_ble_eq_true rfl⟩ (EvP.mono (by decide) (c_M_creaseOf hT p101 p102 p103 p104 )) (fun r105 P106 g107 => mpp 50 rfl ?_)
        obtain ⟨⟨x108, rfl, g109⟩, e110⟩ := g107
        have e110 := e110.symm
        subst e110
        have wx108 := ti_full x108
        replace g109 : x108.toInt = (fv Po 302 (14 + 19 * t1.toInt.toNat + v4.toInt.toNat)).toInt := g109
        show MEvP _ none q_178 50 [(5, .int 2), (0, .ref 301), (1, .int t1), (2, .int t2), (3, .int v3), (4, .int v4)] [.int x108, .int v3] _ _ _ _
        refine mp_a (a_iload dX7_otherwise_50 rfl) (mpp 52 rfl ?_)
        refine mp_Tb (t := 59) (j_icmp_eq dX7_otherwise_52) (by decide) (fun c111 => ?_) (fun c111 => mpp 55 rfl ?_)
        · have c111 : x108.toInt = 2 := ti_eq c111
          refine mp_a (a_iconst (v := 0) dX7_otherwise_59 rfl) (mpp 60 rfl ?_)
          obtain ⟨z112, h113⟩ := ti_ex (v3 + 0 : Int32)
          have wz112 := ti_full z112
          refine mp_t (s_iadd (v := z112) dX7_otherwise_60 h113) (mpp 61 rfl ?_)
          try have e114 : z112.toInt = v3.toInt + 0 := ti_addz h113 rfl rfl (by omega) (by omega)
          refine mp_a (a_istore_n (L' := [(3, .int z112), (5, .int 2), (0, .ref 301), (1, .int t1), (2, .int t2), (4, .int v4)]) dX7_otherwise_61 (by decide) rfl) (mpp 62 rfl ?_)
          obtain ⟨z115, h116⟩ := ti_ex (v4 + 1 : Int32)
          have wz115 := ti_full z115
          refine mp_a (a_iinc (v := z115) (L' := [(4, .int z115), (3, .int z112), (5, .int 2), (0, .ref 301), (1, .int t1), (2, .int t2)]) dX7_otherwise_62 (by decide) rfl h116 rfl) (mpp 65 rfl ?_)
          try have e117 : z115.toInt = v4.toInt + 1 := ti_addz h116 rfl rfl (by omega) (by omega)
          refine mp_a (a_goto (t := 5) dX7_otherwise_65 (by decide)) ?_
          refine MEvP.less (L := [(0, .ref 301), (1, .int t1), (2, .int t2), (3, .int z112), (4, .int z115)]) rfl rfl ⟨rfl, rfl, rfl, rfl, rfl, trivial⟩ ?_
          have i118 : 0 ≤ z112.toInt := by omega
          have i119 : z112.toInt ≤ z115.toInt := by omega
          have i120 : z115.toInt ≤ 8 := by omega
          have w122_ : kB t2 v4 = 2 := kB.two h14 h16 (by have := and1 h16; omega)
          have i121 : z112.toInt = chF (fun j : Nat => fv Po 302 (14 + 19 * t1.toInt.toNat + j)) t2 z115.toInt.toNat := chF.no i_3 (by omega) (Or.inr (by show (fv Po 302 (14 + 19 * t1.toInt.toNat + v4.toInt.toNat)).toInt = kN t2 v4.toInt.toNat; rw [kN_of (by omega), w122_]; omega)) (by omega)
          have i123 : ((fv Po 302 (3 + 19 * t1.toInt.toNat)).toInt ≠ 1 ∧ (z115.toInt ≤ (fv Po 302 (4 + 19 * t1.toInt.toNat)).toInt - 1 ∨ z115.toInt = 0)) ∨ ((fv Po 302 (3 + 19 * t1.toInt.toNat)).toInt = 1 ∧ z115.toInt ≤ (fv Po 302 (4 + 19 * t1.toInt.toNat)).toInt) := by omega
          have i124 : 0 ≤ z115.toInt := by omega
          exact ih _ (by omega) _ _ i118 i119 i120 i121 i123 i124 rfl
        · have c111 : x108.toInt ≠ 2 := ti_eq_n c111
          refine mp_a (a_iconst (v := 1) dX7_otherwise_55 rfl) (mpp 56 rfl ?_)
          refine mp_a (a_goto (t := 60) dX7_otherwise_56 (by decide)) ?_
          obtain ⟨z125, h126⟩ := ti_ex (v3 + 1 : Int32)
          have wz125 := ti_full z125
          refine mp_t (s_iadd (v := z125) dX7_otherwise_60 h126) (mpp 61 rfl ?_)
          try have e127 : z125.toInt = v3.toInt + 1 := ti_addz h126 rfl rfl (by omega) (by omega)
          refine mp_a (a_istore_n (L' := [(3, .int z125), (5, .int 2), (0, .ref 301), (1, .int t1), (2, .int t2), (4, .int v4)]) dX7_otherwise_61 (by decide) rfl) (mpp 62 rfl ?_)
          obtain ⟨z128, h129⟩ := ti_ex (v4 + 1 : Int32)
          have wz128 := ti_full z128
          refine mp_a (a_iinc (v := z128) (L' := [(4, .int z128), (3, .int z125), (5, .int 2), (0, .ref 301), (1, .int t1), (2, .int t2)]) dX7_otherwise_62 (by decide) rfl h129 rfl) (mpp 65 rfl ?_)
          try have e130 : z128.toInt = v4.toInt + 1 := ti_addz h129 rfl rfl (by omega) (by omega)
          refine mp_a (a_goto (t := 5) dX7_otherwise_65 (by decide)) ?_
          refine MEvP.less (L := [(0, .ref 301), (1, .int t1), (2, .int t2), (3, .int z125), (4, .int z128)]) rfl rfl ⟨rfl, rfl, rfl, rfl, rfl, trivial⟩ ?_
          have i131 : 0 ≤ z125.toInt := by omega
          have i132 : z125.toInt ≤ z128.toInt := by omega
          have i133 : z128.toInt ≤ 8 := by omega
          have w135_ : kB t2 v4 = 2 := kB.two h14 h16 (by have := and1 h16; omega)
          have i134 : z125.toInt = chF (fun j : Nat => fv Po 302 (14 + 19 * t1.toInt.toNat + j)) t2 z128.toInt.toNat := chF.yes i_3 (by omega) (by show ¬ (fv Po 302 (14 + 19 * t1.toInt.toNat + v4.toInt.toNat)).toInt = 0; omega) (by show ¬ (fv Po 302 (14 + 19 * t1.toInt.toNat + v4.toInt.toNat)).toInt = kN t2 v4.toInt.toNat; rw [kN_of (by omega), w135_]; omega) (by omega)
          have i136 : ((fv Po 302 (3 + 19 * t1.toInt.toNat)).toInt ≠ 1 ∧ (z128.toInt ≤ (fv Po 302 (4 + 19 * t1.toInt.toNat)).toInt - 1 ∨ z128.toInt = 0)) ∨ ((fv Po 302 (3 + 19 * t1.toInt.toNat)).toInt = 1 ∧ z128.toInt ≤ (fv Po 302 (4 + 19 * t1.toInt.toNat)).toInt) := by omega
          have i137 : 0 ≤ z128.toInt := by omega
          exact ih _ (by omega) _ _ i131 i132 i133 i134 i136 i137 rfl

set_option maxHeartbeats 4000000 in
theorem c_M_otherwise {Po : mP} {t1 : Int32} {t2 : Int32} (hT : Typ Po)  (hp0 : 0 ≤ t1.toInt) (hp1 : t1.toInt ≤ 7)  : EvP 5 178 [.ref 301, .int t1, .int t2] Po (fun r P' => (∃ x : Int32, r = some (.int x) ∧ (0 ≤ x.toInt ∧ x.toInt ≤ 8 ∧ x.toInt = chF (fun j : Nat => fv Po 302 (14 + 19 * t1.toInt.toNat + j)) t2 (nC (fv Po 302 (3 + 19 * t1.toInt.toNat)).toInt (fv Po 302 (4 + 19 * t1.toInt.toNat)).toInt))) ∧ P' = Po) := by
  refine EvP.of qm_178 (Nat.le_of_ble_eq_true rfl) rfl ?_
  show MEvP _ none q_178 0 [(0, .ref 301), (1, .int t1), (2, .int t2)] [] _ 0 0 _
  have w_t1 := ti_full t1
  have w_t2 := ti_full t2
  try have g1 : (0 : Int) ≤ (fv Po 302 (3 + 19 * t1.toInt.toNat)).toInt ∧ (fv Po 302 (3 + 19 * t1.toInt.toNat)).toInt ≤ 1 := s3_rng hT (by omega)
  try have g2 : (0 : Int) ≤ (fv Po 302 (4 + 19 * t1.toInt.toNat)).toInt ∧ (fv Po 302 (4 + 19 * t1.toInt.toNat)).toInt ≤ 8 := s4_rng hT (by omega)
  refine mp_a (a_iconst (v := 0) dX7_otherwise_0 rfl) (mpp 1 rfl ?_)
  refine mp_a (a_istore_n (L' := [(3, .int 0), (0, .ref 301), (1, .int t1), (2, .int t2)]) dX7_otherwise_1 (by decide) rfl) (mpp 2 rfl ?_)
  refine mp_a (a_iconst (v := 0) dX7_otherwise_2 rfl) (mpp 3 rfl ?_)
  refine mp_a (a_istore (L' := [(4, .int 0), (3, .int 0), (0, .ref 301), (1, .int t1), (2, .int t2)]) dX7_otherwise_3 (by decide) rfl) (mpp 5 rfl ?_)
  refine MEvP.less (L := [(0, .ref 301), (1, .int t1), (2, .int t2), (3, .int 0), (4, .int 0)]) rfl rfl ⟨rfl, rfl, rfl, rfl, rfl, trivial⟩ ?_
  have i3 : 0 ≤ (0 : Int) := by omega
  have i4 : (0 : Int) ≤ (0 : Int) := by omega
  have i5 : (0 : Int) ≤ 8 := by omega
  have i6 : (0 : Int) = chF (fun j : Nat => fv Po 302 (14 + 19 * t1.toInt.toNat + j)) t2 (0 : Int).toNat := rfl
  have i7 : ((fv Po 302 (3 + 19 * t1.toInt.toNat)).toInt ≠ 1 ∧ ((0 : Int) ≤ (fv Po 302 (4 + 19 * t1.toInt.toNat)).toInt - 1 ∨ (0 : Int) = 0)) ∨ ((fv Po 302 (3 + 19 * t1.toInt.toNat)).toInt = 1 ∧ (0 : Int) ≤ (fv Po 302 (4 + 19 * t1.toInt.toNat)).toInt) := by omega
  have i8 : 0 ≤ (0 : Int) := by omega
  exact c_M_otherwise_l5 hT  hp0 hp1 _ _ _ i3 i4 i5 i6 i7 i8 rfl

set_option maxHeartbeats 4000000 in
theorem c_M_laysBy_l7 {Po : mP} {t1 : Int32} {t2 : Int32} (hp0 : 0 ≤ t1.toInt) (hp1 : t1.toInt ≤ 7)  : ∀ (n : Nat) (v3 : Int32), ∀ (P : mP), Typ P → KW [1101, 1102, 1536, 1600] Po P → ((fv P 301 14).toInt = (fv Po 302 (3 + 19 * t1.toInt.toNat)).toInt ∧ (fv P 301 13).toInt = (fv Po 302 (4 + 19 * t1.toInt.toNat)).toInt) → (∀ j : Nat, j < 8 → fv P 308 j = fv Po 302 (6 + 19 * t1.toInt.toNat + j)) → (∀ j : Nat, j < v3.toInt.toNat → (fv P 309 j).toInt = kN t2 j) → (∀ j : Nat, fv P 302 j = fv Po 302 j) → (((fv P 302 (3 + 19 * t1.toInt.toNat)).toInt ≠ 1 ∧ (v3.toInt ≤ (fv P 302 (4 + 19 * t1.toInt.toNat)).toInt - 1 ∨ v3.toInt = 0)) ∨ ((fv P 302 (3 + 19 * t1.toInt.toNat)).toInt = 1 ∧ (v3.toInt ≤ (fv P 302 (4 + 19 * t1.toInt.toNat)).toInt ∨ v3.toInt = 0))) → (v3.toInt ≤ 8) → (0 ≤ v3.toInt) → (2147483647 - v3.toInt).toNat = n → MEvP 4 none q_180 7 [(0, .ref 301), (1, .int t1), (2, .int t2), (3, .int v3)] [] P 0 0 (fun r P' => (r = none ∧ ((fv P' 301 14).toInt = (fv Po 302 (3 + 19 * t1.toInt.toNat)).toInt ∧ (fv P' 301 13).toInt = (fv Po 302 (4 + 19 * t1.toInt.toNat)).toInt ∧ (∀ j : Nat, j < 8 → fv P' 308 j = fv Po 302 (6 + 19 * t1.toInt.toNat + j)) ∧ ∀ j : Nat, j < nC (fv Po 302 (3 + 19 * t1.toInt.toNat)).toInt (fv Po 302 (4 + 19 * t1.toInt.toNat)).toInt → (fv P' 309 j).toInt = kN t2 j)) ∧ Typ P' ∧ KW [1101, 1102, 1536, 1600] Po P' ∧ True) := by
  intro n
  induction n using Nat.strongRecOn with | _ n ih => ?_
  intro v3 P hT hK i_0 i_1 i_2 i_3 i_4 i_5 i_6 hm
  have w_t1 := ti_full t1
  have w_t2 := ti_full t2
  have w_v3 := ti_full v3
  have e1 : (fv P 302 (3 + 19 * t1.toInt.toNat)).toInt = (fv Po 302 (3 + 19 * t1.toInt.toNat)).toInt := congrArg Int32.toInt (KW.at hK (3 + 19 * t1.toInt.toNat) rl_302 rfl)
  try have g2 : (0 : Int) ≤ (fv P 302 (3 + 19 * t1.toInt.toNat)).toInt ∧ (fv P 302 (3 + 19 * t1.toInt.toNat)).toInt ≤ 1 := s3_rng hT (by omega)
  have e3 : (fv P 302 (4 + 19 * t1.toInt.toNat)).toInt = (fv Po 302 (4 + 19 * t1.toInt.toNat)).toInt := congrArg Int32.toInt (KW.at hK (4 + 19 * t1.toInt.toNat) rl_302 rfl)
  try have g4 : (0 : Int) ≤ (fv P 302 (4 + 19 * t1.toInt.toNat)).toInt ∧ (fv P 302 (4 + 19 * t1.toInt.toNat)).toInt ≤ 8 := s4_rng hT (by omega)
  refine mp_a (a_iload_n dX7_laysBy_7 rfl) (mpp 8 rfl ?_)
  refine mp_a (a_aload_n dX7_laysBy_8 rfl) (mpp 9 rfl ?_)
  refine mp_a (a_iload_n dX7_laysBy_9 rfl) (mpp 10 rfl ?_)
  have p5 : 0 ≤ t1.toInt := by omega
  have p6 : t1.toInt ≤ 7 := by omega
  refine mt_callv (i := 88) (q' := q_136) (As := [.int t1]) (rest := [.int v3]) hT dX7_laysBy_10 rfl qm_136 (by decide) rfl rl_301 (by decide) rfl (Nat.le_of_ble_eq_true rfl) rfl ⟨rfl, rfl⟩ ⟨Nat.le_of_ble_eq_true rfl, Nat.le_of_ble_eq_true rfl⟩ (EvP.mono (by decide) (c_M_creases hT p5 p6 )) (fun r7 P8 g9 => mpp 13 rfl ?_)
  obtain ⟨⟨x10, rfl, g11⟩, e12⟩ := g9
  have e12 := e12.symm
  subst e12
  have wx10 := ti_full x10
  replace g11 : -1 ≤ x10.toInt ∧ x10.toInt ≤ 8 ∧ (((fv P 302 (3 + 19 * t1.toInt.toNat)).toInt = 1 ∧ x10.toInt = (fv P 302 (4 + 19 * t1.toInt.toNat)).toInt) ∨ ((fv P 302 (3 + 19 * t1.toInt.toNat)).toInt = 0 ∧ x10.toInt = (fv P 302 (4 + 19 * t1.toInt.toNat)).toInt - 1)) := g11
  show MEvP _ none q_180 13 [(0, .ref 301), (1, .int t1), (2, .int t2), (3, .int v3)] [.int x10, .int v3] _ _ _ _
  refine mp_Tb (t := 42) (j_icmp_ge dX7_laysBy_13) (by decide) (fun c13 => ?_) (fun c13 => mpp 16 rfl ?_)
  · have c13 : v3.toInt ≥ x10.toInt := ti_ge c13
    have g14 : (0 : Int) ≤ (fv P 301 14).toInt ∧ (fv P 301 14).toInt ≤ 1 := Typ.rng hT rl_301 (by decide) (by decide) rfl
    have g15 : (0 : Int) ≤ (fv P 301 13).toInt ∧ (fv P 301 13).toInt ≤ 8 := Typ.rng hT rl_301 (by decide) (by decide) rfl
    have e17 := congrArg Int32.toInt (i_3 (3 + 19 * t1.toInt.toNat))
    have e18 := congrArg Int32.toInt (i_3 (4 + 19 * t1.toInt.toNat))
    have u16 : (fv P 301 14).toInt = (fv Po 302 (3 + 19 * t1.toInt.toNat)).toInt ∧ (fv P 301 13).toInt = (fv Po 302 (4 + 19 * t1.toInt.toNat)).toInt ∧ (∀ j : Nat, j < 8 → fv P 308 j = fv Po 302 (6 + 19 * t1.toInt.toNat + j)) ∧ ∀ j : Nat, j < nC (fv Po 302 (3 + 19 * t1.toInt.toNat)).toInt (fv Po 302 (4 + 19 * t1.toInt.toNat)).toInt → (fv P 309 j).toInt = kN t2 j := ⟨i_0.1, i_0.2, i_1, fun j hj => i_2 j (by unfold nC at hj; split at hj <;> omega)⟩
    exact mp_ret ⟨⟨rfl, u16⟩, hT, hK, trivial⟩ dX7_laysBy_42 rfl
  · have c13 : v3.toInt < x10.toInt := ti_ge_n c13
    refine mp_a (a_aload_n dX7_laysBy_16 rfl) (mpp 17 rfl ?_)
    refine mt_getU (i := 31) (k := 12) (A := 309) hT dX7_laysBy_17 rfl rl_301 (by decide) rfl (by decide) rfl un_25 (mpp 20 rfl ?_)
    refine mp_a (a_iload_n dX7_laysBy_20 rfl) (mpp 21 rfl ?_)
    refine mp_a (a_iload_n dX7_laysBy_21 rfl) (mpp 22 rfl ?_)
    refine mp_a (a_iload_n dX7_laysBy_22 rfl) (mpp 23 rfl ?_)
    obtain ⟨z19, h20⟩ := ti_ex (t2 >>> (v3 &&& 31) : Int32)
    have wz19 := ti_full z19
    refine mp_t (s_ishr (v := z19) dX7_laysBy_23 h20) (mpp 24 rfl ?_)
    refine mp_a (a_iconst (v := 1) dX7_laysBy_24 rfl) (mpp 25 rfl ?_)
    obtain ⟨z21, h22⟩ := ti_ex (z19 &&& 1 : Int32)
    have wz21 := ti_full z21
    refine mp_t (s_iand (v := z21) dX7_laysBy_25 h22) (mpp 26 rfl ?_)
    refine mp_a (a_iconst (v := 1) dX7_laysBy_26 rfl) (mpp 27 rfl ?_)
    refine mp_Tb (t := 34) (j_icmp_ne dX7_laysBy_27) (by decide) (fun c23 => ?_) (fun c23 => mpp 30 rfl ?_)
    · have c23 : z21.toInt ≠ 1 := ti_ne c23
      refine mp_a (a_iconst (v := 1) dX7_laysBy_34 rfl) (mpp 35 rfl ?_)
      refine mt_ias (n := 8) hT dX7_laysBy_35 rl_309 (by decide) rfl rfl (by omega) (by omega) rfl (by decide) (fun P24 hT25 f26 f27 f28 => mpp 36 rfl ?_)
      have k29 : KW [1101, 1102, 1536, 1600] Po P24 := KW.step hK rl_309 rfl f27 f28
      obtain ⟨z30, h31⟩ := ti_ex (v3 + 1 : Int32)
      have wz30 := ti_full z30
      refine mp_a (a_iinc (v := z30) (L' := [(3, .int z30), (0, .ref 301), (1, .int t1), (2, .int t2)]) dX7_laysBy_36 (by decide) rfl h31 rfl) (mpp 39 rfl ?_)
      try have e32 : z30.toInt = v3.toInt + 1 := ti_addz h31 rfl rfl (by omega) (by omega)
      refine mp_a (a_goto (t := 7) dX7_laysBy_39 (by decide)) ?_
      refine MEvP.less (L := [(0, .ref 301), (1, .int t1), (2, .int t2), (3, .int z30)]) rfl rfl ⟨rfl, rfl, rfl, rfl, trivial⟩ ?_
      have i33 : (fv P24 301 14).toInt = (fv Po 302 (3 + 19 * t1.toInt.toNat)).toInt ∧ (fv P24 301 13).toInt = (fv Po 302 (4 + 19 * t1.toInt.toNat)).toInt := ⟨by rw [f27 301 14 (by omega)]; exact i_0.1, by rw [f27 301 13 (by omega)]; exact i_0.2⟩
      have i34 : ∀ j : Nat, j < 8 → fv P24 308 j = fv Po 302 (6 + 19 * t1.toInt.toNat + j) := fun j hj => by rw [f27 308 j (by omega)]; exact i_1 j hj
      have w36_ : kB t2 v3 = 1 := kB.one h20 h22 (by have := and1 h22; omega)
      have w37_ : (fv P24 309 v3.toInt.toNat).toInt = kN t2 v3.toInt.toNat := by rw [f26, kN_of (by omega), w36_]; rfl
      have i35 : ∀ j : Nat, j < z30.toInt.toNat → (fv P24 309 j).toInt = kN t2 j := fun j hj => if e : j = v3.toInt.toNat then e ▸ w37_ else by rw [f27 309 j (by omega)]; exact i_2 j (by omega)
      have i38 : ∀ j : Nat, fv P24 302 j = fv Po 302 j := fun j => (f27 302 j (by omega)).trans (i_3 j)
      have e39 : (fv P24 302 (3 + 19 * t1.toInt.toNat)).toInt = (fv P 302 (3 + 19 * t1.toInt.toNat)).toInt := congrArg Int32.toInt (f27 302 (3 + 19 * t1.toInt.toNat) (ne_r rl_302 rl_309 rfl))
      have e40 : (fv P24 302 (4 + 19 * t1.toInt.toNat)).toInt = (fv P 302 (4 + 19 * t1.toInt.toNat)).toInt := congrArg Int32.toInt (f27 302 (4 + 19 * t1.toInt.toNat) (ne_r rl_302 rl_309 rfl))
      have i41 : ((fv P24 302 (3 + 19 * t1.toInt.toNat)).toInt ≠ 1 ∧ (z30.toInt ≤ (fv P24 302 (4 + 19 * t1.toInt.toNat)).toInt - 1 ∨ z30.toInt = 0)) ∨ ((fv P24 302 (3 + 19 * t1.toInt.toNat)).toInt = 1 ∧ (z30.toInt ≤ (fv P24 302 (4 + 19 * t1.toInt.toNat)).toInt ∨ z30.toInt = 0)) := by omega
      have i42 : z30.toInt ≤ 8 := by omega
      have i43 : 0 ≤ z30.toInt := by omega
      exact ih _ (by omega) _ P24 hT25 k29 i33 i34 i35 i38 i41 i42 i43 rfl
    · have c23 : z21.toInt = 1 := ti_ne_n c23
      refine mp_a (a_iconst (v := 2) dX7_laysBy_30 rfl) (mpp 31 rfl ?_)
      refine mp_a (a_goto (t := 35) dX7_laysBy_31 (by decide)) ?_
      refine mt_ias (n := 8) hT dX7_laysBy_35 rl_309 (by decide) rfl rfl (by omega) (by omega) rfl (by decide) (fun P44 hT45 f46 f47 f48 => mpp 36 rfl ?_)
      have k49 : KW [1101, 1102, 1536, 1600] Po P44 := KW.step hK rl_309 rfl f47 f48
      obtain ⟨z50, h51⟩ := ti_ex (v3 + 1 : Int32)
      have wz50 := ti_full z50
      refine mp_a (a_iinc (v := z50) (L' := [(3, .int z50), (0, .ref 301), (1, .int t1), (2, .int t2)]) dX7_laysBy_36 (by decide) rfl h51 rfl) (mpp 39 rfl ?_)
      try have e52 : z50.toInt = v3.toInt + 1 := ti_addz h51 rfl rfl (by omega) (by omega)
      refine mp_a (a_goto (t := 7) dX7_laysBy_39 (by decide)) ?_
      refine MEvP.less (L := [(0, .ref 301), (1, .int t1), (2, .int t2), (3, .int z50)]) rfl rfl ⟨rfl, rfl, rfl, rfl, trivial⟩ ?_
      have i53 : (fv P44 301 14).toInt = (fv Po 302 (3 + 19 * t1.toInt.toNat)).toInt ∧ (fv P44 301 13).toInt = (fv Po 302 (4 + 19 * t1.toInt.toNat)).toInt := ⟨by rw [f47 301 14 (by omega)]; exact i_0.1, by rw [f47 301 13 (by omega)]; exact i_0.2⟩
      have i54 : ∀ j : Nat, j < 8 → fv P44 308 j = fv Po 302 (6 + 19 * t1.toInt.toNat + j) := fun j hj => by rw [f47 308 j (by omega)]; exact i_1 j hj
      have w56_ : kB t2 v3 = 2 := kB.two h20 h22 (by have := and1 h22; omega)
      have w57_ : (fv P44 309 v3.toInt.toNat).toInt = kN t2 v3.toInt.toNat := by rw [f46, kN_of (by omega), w56_]; rfl
      have i55 : ∀ j : Nat, j < z50.toInt.toNat → (fv P44 309 j).toInt = kN t2 j := fun j hj => if e : j = v3.toInt.toNat then e ▸ w57_ else by rw [f47 309 j (by omega)]; exact i_2 j (by omega)
      have i58 : ∀ j : Nat, fv P44 302 j = fv Po 302 j := fun j => (f47 302 j (by omega)).trans (i_3 j)
      have e59 : (fv P44 302 (3 + 19 * t1.toInt.toNat)).toInt = (fv P 302 (3 + 19 * t1.toInt.toNat)).toInt := congrArg Int32.toInt (f47 302 (3 + 19 * t1.toInt.toNat) (ne_r rl_302 rl_309 rfl))
      have e60 : (fv P44 302 (4 + 19 * t1.toInt.toNat)).toInt = (fv P 302 (4 + 19 * t1.toInt.toNat)).toInt := congrArg Int32.toInt (f47 302 (4 + 19 * t1.toInt.toNat) (ne_r rl_302 rl_309 rfl))
      have i61 : ((fv P44 302 (3 + 19 * t1.toInt.toNat)).toInt ≠ 1 ∧ (z50.toInt ≤ (fv P44 302 (4 + 19 * t1.toInt.toNat)).toInt - 1 ∨ z50.toInt = 0)) ∨ ((fv P44 302 (3 + 19 * t1.toInt.toNat)).toInt = 1 ∧ (z50.toInt ≤ (fv P44 302 (4 + 19 * t1.toInt.toNat)).toInt ∨ z50.toInt = 0)) := by omega
      have i62 : z50.toInt ≤ 8 := by omega
      have i63 : 0 ≤ z50.toInt := by omega
      exact ih _ (by omega) _ P44 hT45 k49 i53 i54 i55 i58 i61 i62 i63 rfl

set_option maxHeartbeats 4000000 in
theorem c_M_laysBy {Po : mP} {t1 : Int32} {t2 : Int32} (hT : Typ Po)  (hp0 : 0 ≤ t1.toInt) (hp1 : t1.toInt ≤ 7)  : EvP 5 180 [.ref 301, .int t1, .int t2] Po (fun r P' => (r = none ∧ ((fv P' 301 14).toInt = (fv Po 302 (3 + 19 * t1.toInt.toNat)).toInt ∧ (fv P' 301 13).toInt = (fv Po 302 (4 + 19 * t1.toInt.toNat)).toInt ∧ (∀ j : Nat, j < 8 → fv P' 308 j = fv Po 302 (6 + 19 * t1.toInt.toNat + j)) ∧ ∀ j : Nat, j < nC (fv Po 302 (3 + 19 * t1.toInt.toNat)).toInt (fv Po 302 (4 + 19 * t1.toInt.toNat)).toInt → (fv P' 309 j).toInt = kN t2 j)) ∧ Typ P' ∧ KW [1101, 1102, 1536, 1600] Po P' ∧ True) := by
  refine EvP.of qm_180 (Nat.le_of_ble_eq_true rfl) rfl ?_
  show MEvP _ none q_180 0 [(0, .ref 301), (1, .int t1), (2, .int t2)] [] _ 0 0 _
  have w_t1 := ti_full t1
  have w_t2 := ti_full t2
  try have g1 : (0 : Int) ≤ (fv Po 302 (3 + 19 * t1.toInt.toNat)).toInt ∧ (fv Po 302 (3 + 19 * t1.toInt.toNat)).toInt ≤ 1 := s3_rng hT (by omega)
  try have g2 : (0 : Int) ≤ (fv Po 302 (4 + 19 * t1.toInt.toNat)).toInt ∧ (fv Po 302 (4 + 19 * t1.toInt.toNat)).toInt ≤ 8 := s4_rng hT (by omega)
  refine mp_a (a_aload_n dX7_laysBy_0 rfl) (mpp 1 rfl ?_)
  refine mp_a (a_iload_n dX7_laysBy_1 rfl) (mpp 2 rfl ?_)
  have p3 : 0 ≤ t1.toInt := by omega
  have p4 : t1.toInt ≤ 7 := by omega
  refine mt_callv (i := 196) (q' := q_164) (As := [.int t1]) (rest := []) hT dX7_laysBy_2 rfl qm_164 (by decide) rfl rl_301 (by decide) rfl (Nat.le_of_ble_eq_true rfl) rfl ⟨rfl, rfl⟩ ⟨Nat.le_of_ble_eq_true rfl, Nat.le_of_ble_eq_true rfl⟩ (EvP.mono (by decide) (c_M_lays hT p3 p4 )) (fun r5 P6 g7 => mpp 5 rfl ?_)
  obtain ⟨⟨rfl, g9⟩, hT10, k11, R12⟩ := g7
  have k13 : KW [1101, 1102, 1536, 1600] Po P6 := KW.trans KW.refl k11 rfl
  replace g9 : (fv P6 301 14).toInt = (fv Po 302 (3 + 19 * t1.toInt.toNat)).toInt ∧ (fv P6 301 13).toInt = (fv Po 302 (4 + 19 * t1.toInt.toNat)).toInt ∧ (∀ j : Nat, j < 8 → fv P6 308 j = fv Po 302 (6 + 19 * t1.toInt.toNat + j)) ∧ ∀ j : Nat, j < 8 → fv P6 309 j = fv Po 302 (14 + 19 * t1.toInt.toNat + j) := g9
  have g15 : (0 : Int) ≤ (fv P6 301 14).toInt ∧ (fv P6 301 14).toInt ≤ 1 := Typ.rng hT10 rl_301 (by decide) (by decide) rfl
  have g16 : (0 : Int) ≤ (fv P6 301 13).toInt ∧ (fv P6 301 13).toInt ≤ 8 := Typ.rng hT10 rl_301 (by decide) (by decide) rfl
  show MEvP _ none q_180 5 [(0, .ref 301), (1, .int t1), (2, .int t2)] [] _ _ _ _
  refine mp_a (a_iconst (v := 0) dX7_laysBy_5 rfl) (mpp 6 rfl ?_)
  refine mp_a (a_istore_n (L' := [(3, .int 0), (0, .ref 301), (1, .int t1), (2, .int t2)]) dX7_laysBy_6 (by decide) rfl) (mpp 7 rfl ?_)
  refine MEvP.less (L := [(0, .ref 301), (1, .int t1), (2, .int t2), (3, .int 0)]) rfl rfl ⟨rfl, rfl, rfl, rfl, trivial⟩ ?_
  have i17 : (fv P6 301 14).toInt = (fv Po 302 (3 + 19 * t1.toInt.toNat)).toInt ∧ (fv P6 301 13).toInt = (fv Po 302 (4 + 19 * t1.toInt.toNat)).toInt := ⟨g9.1, g9.2.1⟩
  have i18 : ∀ j : Nat, j < 8 → fv P6 308 j = fv Po 302 (6 + 19 * t1.toInt.toNat + j) := g9.2.2.1
  have i19 : ∀ j : Nat, j < (0 : Int).toNat → (fv P6 309 j).toInt = kN t2 j := fun j hj => absurd hj (Nat.not_lt_zero j)
  have i20 : ∀ j : Nat, fv P6 302 j = fv Po 302 j := fun j => KW.at k13 j rl_302 rfl
  have e21 : (fv P6 302 (3 + 19 * t1.toInt.toNat)).toInt = (fv Po 302 (3 + 19 * t1.toInt.toNat)).toInt := congrArg Int32.toInt (KW.at k11 (3 + 19 * t1.toInt.toNat) rl_302 rfl)
  have e22 : (fv P6 302 (4 + 19 * t1.toInt.toNat)).toInt = (fv Po 302 (4 + 19 * t1.toInt.toNat)).toInt := congrArg Int32.toInt (KW.at k11 (4 + 19 * t1.toInt.toNat) rl_302 rfl)
  have i23 : ((fv P6 302 (3 + 19 * t1.toInt.toNat)).toInt ≠ 1 ∧ ((0 : Int) ≤ (fv P6 302 (4 + 19 * t1.toInt.toNat)).toInt - 1 ∨ (0 : Int) = 0)) ∨ ((fv P6 302 (3 + 19 * t1.toInt.toNat)).toInt = 1 ∧ ((0 : Int) ≤ (fv P6 302 (4 + 19 * t1.toInt.toNat)).toInt ∨ (0 : Int) = 0)) := by omega
  have i24 : (0 : Int) ≤ 8 := by omega
  have i25 : 0 ≤ (0 : Int) := by omega
  exact c_M_laysBy_l7   hp0 hp1 _ _ P6 hT10 k13 i17 i18 i19 i20 i23 i24 i25 rfl

set_option maxHeartbeats 4000000 in
theorem c_M_foldsBy {Po : mP} {t1 : Int32} {t2 : Int32} (hT : Typ Po)  (hp0 : 0 ≤ t1.toInt) (hp1 : t1.toInt ≤ 7)  : EvP 6 179 [.ref 301, .int t1, .int t2] Po (fun r P' => (∃ x : Int32, r = some (.int x) ∧ (0 ≤ x.toInt ∧ x.toInt ≤ 1 ∧ ((x.toInt = 1 ∧ FWf cM eM (fv Po 302 (3 + 19 * t1.toInt.toNat)).toInt (fv Po 302 (4 + 19 * t1.toInt.toNat)).toInt (fun j : Nat => fv Po 302 (6 + 19 * t1.toInt.toNat + j)) t2) ∨ (x.toInt = 0 ∧ ¬ FWf cM eM (fv Po 302 (3 + 19 * t1.toInt.toNat)).toInt (fv Po 302 (4 + 19 * t1.toInt.toNat)).toInt (fun j : Nat => fv Po 302 (6 + 19 * t1.toInt.toNat + j)) t2)))) ∧ Typ P' ∧ KW [1101, 1102, 1536, 1600] Po P' ∧ True) := by
  refine EvP.of qm_179 (Nat.le_of_ble_eq_true rfl) rfl ?_
  show MEvP _ none q_179 0 [(0, .ref 301), (1, .int t1), (2, .int t2)] [] _ 0 0 _
  have w_t1 := ti_full t1
  have w_t2 := ti_full t2
  try have g1 : (0 : Int) ≤ (fv Po 302 (3 + 19 * t1.toInt.toNat)).toInt ∧ (fv Po 302 (3 + 19 * t1.toInt.toNat)).toInt ≤ 1 := s3_rng hT (by omega)
  try have g2 : (0 : Int) ≤ (fv Po 302 (4 + 19 * t1.toInt.toNat)).toInt ∧ (fv Po 302 (4 + 19 * t1.toInt.toNat)).toInt ≤ 8 := s4_rng hT (by omega)
  refine mp_a (a_aload_n dX7_foldsBy_0 rfl) (mpp 1 rfl ?_)
  refine mp_a (a_iload_n dX7_foldsBy_1 rfl) (mpp 2 rfl ?_)
  refine mp_a (a_iload_n dX7_foldsBy_2 rfl) (mpp 3 rfl ?_)
  have p3 : 0 ≤ t1.toInt := by omega
  have p4 : t1.toInt ≤ 7 := by omega
  refine mt_callv (i := 215) (q' := q_180) (As := [.int t1, .int t2]) (rest := []) hT dX7_foldsBy_3 rfl qm_180 (by decide) rfl rl_301 (by decide) rfl (Nat.le_of_ble_eq_true rfl) rfl ⟨rfl, rfl⟩ ⟨Nat.le_of_ble_eq_true rfl, Nat.le_of_ble_eq_true rfl⟩ (EvP.mono (by decide) (c_M_laysBy hT p3 p4 )) (fun r5 P6 g7 => mpp 6 rfl ?_)
  obtain ⟨⟨rfl, g9⟩, hT10, k11, R12⟩ := g7
  have k13 : KW [1101, 1102, 1536, 1600] Po P6 := KW.trans KW.refl k11 rfl
  replace g9 : (fv P6 301 14).toInt = (fv Po 302 (3 + 19 * t1.toInt.toNat)).toInt ∧ (fv P6 301 13).toInt = (fv Po 302 (4 + 19 * t1.toInt.toNat)).toInt ∧ (∀ j : Nat, j < 8 → fv P6 308 j = fv Po 302 (6 + 19 * t1.toInt.toNat + j)) ∧ ∀ j : Nat, j < nC (fv Po 302 (3 + 19 * t1.toInt.toNat)).toInt (fv Po 302 (4 + 19 * t1.toInt.toNat)).toInt → (fv P6 309 j).toInt = kN t2 j := g9
  have g15 : (0 : Int) ≤ (fv P6 301 14).toInt ∧ (fv P6 301 14).toInt ≤ 1 := Typ.rng hT10 rl_301 (by decide) (by decide) rfl
  have g16 : (0 : Int) ≤ (fv P6 301 13).toInt ∧ (fv P6 301 13).toInt ≤ 8 := Typ.rng hT10 rl_301 (by decide) (by decide) rfl
  show MEvP _ none q_179 6 [(0, .ref 301), (1, .int t1), (2, .int t2)] [] _ _ _ _
  refine mp_a (a_aload_n dX7_foldsBy_6 rfl) (mpp 7 rfl ?_)
  have p17 : (fv P6 301 13).toInt ≤ 8 := by omega
  refine mt_callv (i := 199) (q' := q_165) (As := []) (rest := []) hT10 dX7_foldsBy_7 rfl qm_165 (by decide) rfl rl_301 (by decide) rfl (Nat.le_of_ble_eq_true rfl) rfl ⟨rfl, rfl⟩ ⟨Nat.le_of_ble_eq_true rfl, Nat.le_of_ble_eq_true rfl⟩ (EvP.mono (by decide) (c_M_folds hT10 p17 )) (fun r18 P19 g20 => mpp 10 rfl ?_)
  obtain ⟨⟨x21, rfl, g22⟩, hT23, k24, R25⟩ := g20
  have k26 : KW [1101, 1102, 1536, 1600] Po P19 := KW.trans k13 k24 rfl
  have wx21 := ti_full x21
  replace g22 : 0 ≤ x21.toInt ∧ x21.toInt ≤ 1 ∧ ((∃ k R', RD cM (rM P6) k R' ∧ ((x21.toInt = 1 ∧ isRf eM R') ∨ (x21.toInt = 0 ∧ ¬ isRf eM R')))) := g22
  show MEvP _ none q_179 10 [(0, .ref 301), (1, .int t1), (2, .int t2)] [.int x21] _ _ _ _
  obtain ⟨kw29_, Rw29_, aw29_, bw29_⟩ := g22.2.2
  rw [rM_with g9.1 g9.2.1 g9.2.2.1 g9.2.2.2 (by omega)] at aw29_
  have u28 : 0 ≤ x21.toInt ∧ x21.toInt ≤ 1 ∧ ((x21.toInt = 1 ∧ FWf cM eM (fv Po 302 (3 + 19 * t1.toInt.toNat)).toInt (fv Po 302 (4 + 19 * t1.toInt.toNat)).toInt (fun j : Nat => fv Po 302 (6 + 19 * t1.toInt.toNat + j)) t2) ∨ (x21.toInt = 0 ∧ ¬ FWf cM eM (fv Po 302 (3 + 19 * t1.toInt.toNat)).toInt (fv Po 302 (4 + 19 * t1.toInt.toNat)).toInt (fun j : Nat => fv Po 302 (6 + 19 * t1.toInt.toNat + j)) t2)) := ⟨by omega, by omega, FWf.ofM aw29_ bw29_⟩
  exact mp_iret ⟨⟨_, rfl, u28⟩, hT23, k26, trivial⟩ dX7_foldsBy_10 (Or.inr ⟨rfl, ti_01 (by omega)⟩)

