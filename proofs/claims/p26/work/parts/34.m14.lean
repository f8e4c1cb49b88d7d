/-! methods on typed pools, 14 (written by a program) -/
set_option maxHeartbeats 4000000 in
theorem c_CH_clear_History {Po : mP}  (hT : Typ Po)   : EvP 1 121 [.ref 79] Po (fun r P' => (r = none ∧ (True)) ∧ Typ P' ∧ KW [386] Po P' ∧ True) := by
  refine EvP.of qm_121 (Nat.le_of_ble_eq_true rfl) rfl ?_
  show MEvP _ none q_121 0 [(0, .ref 79)] [] _ 0 0 _
  refine mp_a (a_aload_n dX0_clear_0 rfl) (mpp 1 rfl ?_)
  refine mp_a (a_iconst (v := 0) dX0_clear_1 rfl) (mpp 2 rfl ?_)
  refine mt_putI (i := 34) (k := 2) (x := 0) hT dX0_clear_2 rfl rl_79 (by decide) rfl (by decide) rfl (by decide) rfl rfl (fun P1 hT2 f3 f4 => mpp 5 rfl ?_)
  have k5 : KW [386] Po P1 := KW.step KW.refl rl_79 rfl f4
  have e6 : (fv P1 79 2).toInt = 0 := congrArg Int32.toInt f3
  exact mp_ret ⟨⟨rfl, trivial⟩, hT2, k5, trivial⟩ dX0_clear_5 rfl

set_option maxHeartbeats 4000000 in
theorem c_F_restore {Po : mP}  (hT : Typ Po)   : EvP 4 120 [.ref 0] Po (fun r P' => (∃ x : Int32, r = some (.int x) ∧ (True)) ∧ Typ P' ∧ KW [256, 320, 386, 1985, 1986, 1987, 2112, 2113, 2114] Po P' ∧ True) := by
  refine EvP.of qm_120 (Nat.le_of_ble_eq_true rfl) rfl ?_
  show MEvP _ none q_120 0 [(0, .ref 0)] [] _ 0 0 _
  refine mp_a (a_aload_n dX6_restore_0 rfl) (mpp 1 rfl ?_)
  have g1 : (0 : Int) ≤ (fv Po 0 8).toInt ∧ (fv Po 0 8).toInt ≤ 1 := Typ.rng hT rl_0 (by decide) (by decide) rfl
  refine mt_getI (i := 272) (k := 8) hT dX6_restore_1 rfl rl_0 (by decide) rfl (by decide) rfl (fun g2 g3 => mpp 4 rfl ?_)
  refine mp_Tb (t := 11) (j_if_ne dX6_restore_4) (by decide) (fun c4 => ?_) (fun c4 => mpp 7 rfl ?_)
  · have c4 : (fv Po 0 8).toInt ≠ 0 := ti_ne c4
    refine mp_a (a_aload_n dX6_restore_11 rfl) (mpp 12 rfl ?_)
    refine mt_getU (i := 10) (k := 0) (A := 1) hT dX6_restore_12 rfl rl_0 (by decide) rfl (by decide) rfl un_31 (mpp 15 rfl ?_)
    refine mp_a (a_aload_n dX6_restore_15 rfl) (mpp 16 rfl ?_)
    refine mt_getR (i := 19) (k := 2) hT dX6_restore_16 rfl rl_0 (by decide) rfl (by decide) rfl (fun q5 => mpp 19 rfl ?_)
    generalize rv Po 0 2 = b6 at q5 ⊢
    refine mt_callv (i := 228) (q' := q_17) (As := [.ref b6]) (rest := []) hT dX6_restore_19 rfl qm_17 (by decide) rfl rl_1 (by decide) rfl (Nat.le_of_ble_eq_true rfl) rfl ⟨rfl, rfl⟩ ⟨Nat.le_of_ble_eq_true rfl, Nat.le_of_ble_eq_true rfl⟩ (EvP.mono (by decide) (c_CS_copyFrom_NState_State hT q5)) (fun r7 P8 g9 => mpp 22 rfl ?_)
    obtain ⟨⟨rfl, g11⟩, hT12, k13, R14⟩ := g9
    have k15 : KW [256, 320, 386, 1985, 1986, 1987, 2112, 2113, 2114] Po P8 := KW.trans KW.refl k13 rfl
    show MEvP _ none q_120 22 [(0, .ref 0)] [] _ _ _ _
    refine mp_a (a_aload_n dX6_restore_22 rfl) (mpp 23 rfl ?_)
    refine mt_getU (i := 25) (k := 3) (A := 79) hT12 dX6_restore_23 rfl rl_0 (by decide) rfl (by decide) rfl un_6 (mpp 26 rfl ?_)
    refine mt_callv (i := 275) (q' := q_121) (As := []) (rest := []) hT12 dX6_restore_26 rfl qm_121 (by decide) rfl rl_79 (by decide) rfl (Nat.le_of_ble_eq_true rfl) rfl ⟨rfl, rfl⟩ ⟨Nat.le_of_ble_eq_true rfl, Nat.le_of_ble_eq_true rfl⟩ (EvP.mono (by decide) (c_CH_clear_History hT12 )) (fun r16 P17 g18 => mpp 29 rfl ?_)
    obtain ⟨⟨rfl, g20⟩, hT21, k22, R23⟩ := g18
    have k24 : KW [256, 320, 386, 1985, 1986, 1987, 2112, 2113, 2114] Po P17 := KW.trans k15 k22 rfl
    show MEvP _ none q_120 29 [(0, .ref 0)] [] _ _ _ _
    refine mp_a (a_aload_n dX6_restore_29 rfl) (mpp 30 rfl ?_)
    refine mt_getU (i := 10) (k := 0) (A := 1) hT21 dX6_restore_30 rfl rl_0 (by decide) rfl (by decide) rfl un_31 (mpp 33 rfl ?_)
    have g25 := ti_full (fv P17 1 1)
    refine mt_getI (i := 87) (k := 1) hT21 dX6_restore_33 rfl rl_1 (by decide) rfl (by decide) rfl (fun g26 g27 => mpp 36 rfl ?_)
    exact mp_iret ⟨⟨_, rfl, trivial⟩, hT21, k24, trivial⟩ dX6_restore_36 (Or.inl rfl)
  · have c4 : (fv Po 0 8).toInt = 0 := ti_ne_n c4
    refine mp_a (a_sipush (v := -1004) dX6_restore_7 rfl) (mpp 10 rfl ?_)
    exact mp_iret ⟨⟨_, rfl, trivial⟩, hT, KW.refl, trivial⟩ dX6_restore_10 (Or.inl rfl)

