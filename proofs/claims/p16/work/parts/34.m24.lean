/-! methods on typed pools, 24 (written by a program) -/
set_option maxHeartbeats 4000000 in
theorem c_CH_pop_History_NState {Po : mP}  (hT : Typ Po) (hX : XR Po)  (hJ : Inj Po) (hp0 : 1 ≤ (fv Po 79 2).toInt)  : EvP 4 118 [.ref 79, .ref 1] Po (fun r P' => (r = none ∧ (True)) ∧ Typ P' ∧ KW [256, 320, 385, 386, 1985, 1986, 1987, 2112, 2113, 2114] Po P' ∧ Inj P' ∧ ((((fv Po 79 1).toInt = 0 ∧ (fv P' 79 1).toInt = 7) ∨ (1 ≤ (fv Po 79 1).toInt ∧ (fv P' 79 1).toInt = (fv Po 79 1).toInt - 1)) ∧ (fv P' 79 2).toInt = (fv Po 79 2).toInt - 1) ∧ (SCi P' Po (81 + 26 * (fv P' 79 1).toInt.toNat)) ∧ (∀ x j : Nat, 27 ≤ x → ¬ x = 79 → fv P' x j = fv Po x j) ∧ fv P' 79 3 = fv Po 79 3 ∧ KI 1 80 Po P') := by
  refine EvP.of qm_118 (Nat.le_of_ble_eq_true rfl) rfl ?_
  show MEvP _ none q_118 0 [(0, .ref 79), (1, .ref 1)] [] _ 0 0 _
  have g1 : (0 : Int) ≤ (fv Po 79 2).toInt ∧ (fv Po 79 2).toInt ≤ 8 := Typ.rng hT rl_79 (by decide) (by decide) rfl
  have g2 : (0 : Int) ≤ (fv Po 79 1).toInt ∧ (fv Po 79 1).toInt ≤ 7 := Typ.rng hT rl_79 (by decide) (by decide) rfl
  refine mp_a (a_aload_n dX0_pop_0 rfl) (mpp 1 rfl ?_)
  refine mp_a (a_aload_n dX0_pop_1 rfl) (mpp 2 rfl ?_)
  refine mt_getI (i := 18) (k := 1) hT dX0_pop_2 rfl rl_79 (by decide) rfl (by decide) rfl (fun g3 g4 => mpp 5 rfl ?_)
  refine mp_Tb (t := 17) (j_if_le dX0_pop_5) (by decide) (fun c5 => ?_) (fun c5 => mpp 8 rfl ?_)
  · have c5 : (fv Po 79 1).toInt ≤ 0 := ti_le c5
    refine mp_a (a_bipush (v := 7) dX0_pop_17 rfl) (mpp 19 rfl ?_)
    refine mt_putI (i := 18) (k := 1) (x := 7) hT dX0_pop_19 rfl rl_79 (by decide) rfl (by decide) rfl (by decide) rfl rfl (fun P6 hT7 f8 f9 f10 => mpp 22 rfl ?_)
    have k11 : KW [256, 320, 385, 386, 1985, 1986, 1987, 2112, 2113, 2114] Po P6 := KW.step KW.refl rl_79 rfl f9 f10
    have J12 := Inj.st hJ f10
    have e13 : (fv P6 79 1).toInt = 7 := congrArg Int32.toInt f8
    refine mp_a (a_aload_n dX0_pop_22 rfl) (mpp 23 rfl ?_)
    refine mp_t (s_dup dX0_pop_23 rfl) (mpp 24 rfl ?_)
    have e14 : (fv P6 79 2).toInt = (fv Po 79 2).toInt := congrArg Int32.toInt (f9 79 2 (ne_k rfl))
    refine mt_getI (i := 34) (k := 2) hT7 dX0_pop_24 rfl rl_79 (by decide) rfl (by decide) rfl (fun g15 g16 => mpp 27 rfl ?_)
    refine mp_a (a_iconst (v := 1) dX0_pop_27 rfl) (mpp 28 rfl ?_)
    obtain ⟨z17, h18⟩ := ti_ex ((fv P6 79 2) - 1 : Int32)
    have wz17 := ti_full z17
    refine mp_t (s_isub (v := z17) dX0_pop_28 h18) (mpp 29 rfl ?_)
    try have e19 : z17.toInt = (fv P6 79 2).toInt - 1 := ti_subz h18 rfl rfl (by omega) (by omega)
    refine mt_putI (i := 34) (k := 2) (x := z17) hT7 dX0_pop_29 rfl rl_79 (by decide) rfl (by decide) rfl ⟨by omega, by omega⟩ rfl rfl (fun P20 hT21 f22 f23 f24 => mpp 32 rfl ?_)
    have k25 : KW [256, 320, 385, 386, 1985, 1986, 1987, 2112, 2113, 2114] Po P20 := KW.step k11 rl_79 rfl f23 f24
    have J26 := Inj.st J12 f24
    have e27 : (fv P20 79 2).toInt = z17.toInt := congrArg Int32.toInt f22
    refine mp_a (a_aload_n dX0_pop_32 rfl) (mpp 33 rfl ?_)
    refine mp_a (a_aload_n dX0_pop_33 rfl) (mpp 34 rfl ?_)
    have e28 : (fv P20 79 1).toInt = (fv P6 79 1).toInt := congrArg Int32.toInt (f23 79 1 (ne_k rfl))
    refine mt_getI (i := 18) (k := 1) hT21 dX0_pop_34 rfl rl_79 (by decide) rfl (by decide) rfl (fun g29 g30 => mpp 37 rfl ?_)
    refine mt_callv (i := 22) (q' := q_16) (As := [.int (fv P20 79 1)]) (rest := []) hT21 dX0_pop_37 rfl qm_16 (by decide) rfl rl_79 (by decide) rfl (Nat.le_of_ble_eq_true rfl) rfl ⟨rfl, rfl⟩ ⟨Nat.le_of_ble_eq_true rfl, Nat.le_of_ble_eq_true rfl⟩ (EvP.mono (by decide) (c_CH_stateAt_History hT21 (KW.xr k25 hX) )) (fun r31 P32 g33 => mpp 40 rfl ?_)
    obtain ⟨g33, e34⟩ := g33
    have e34 := e34.symm
    subst e34
    rcases g33 with ⟨rfl, q36n⟩ | ⟨b35, rfl, q36, q36r⟩
    · show MEvP _ none q_118 40 [(0, .ref 79), (1, .ref 1)] [.null] _ _ _ _
      replace q36n : (fv P20 79 1).toInt < 0 ∨ 8 ≤ (fv P20 79 1).toInt := q36n
      refine mp_a (a_astore_nN (L' := [(2, .null), (0, .ref 79), (1, .ref 1)]) dX0_pop_40 (by decide) rfl) (mpp 41 rfl ?_)
      refine mp_a (a_aload_nN dX0_pop_41 rfl) (mpp 42 rfl ?_)
      exfalso
      omega
    · show MEvP _ none q_118 40 [(0, .ref 79), (1, .ref 1)] [.ref b35] _ _ _ _
      replace q36r : 0 ≤ (fv P20 79 1).toInt ∧ (fv P20 79 1).toInt ≤ 7 ∧ b35 = 81 + 26 * (fv P20 79 1).toInt.toNat := q36r
      have w37 := st_ar q36
      refine mp_a (a_astore_n (L' := [(2, .ref b35), (0, .ref 79), (1, .ref 1)]) dX0_pop_40 (by decide) rfl) (mpp 41 rfl ?_)
      refine mp_a (a_aload_n dX0_pop_41 rfl) (mpp 42 rfl ?_)
      refine mp_t (s_ifnullR dX0_pop_42) (mpp 45 rfl ?_)
      refine mp_a (a_aload_n dX0_pop_45 rfl) (mpp 46 rfl ?_)
      refine mp_a (a_aload_n dX0_pop_46 rfl) (mpp 47 rfl ?_)
      refine mt_callv (i := 30) (q' := q_17) (As := [.ref b35]) (rest := []) hT21 dX0_pop_47 rfl qm_17 (by decide) rfl rl_1 (by decide) rfl (Nat.le_of_ble_eq_true rfl) rfl ⟨rfl, rfl⟩ ⟨Nat.le_of_ble_eq_true rfl, Nat.le_of_ble_eq_true rfl⟩ (EvP.mono (by decide) (c_CS_copyFrom_NState_State hT21 (KW.xr k25 hX) J26 q36)) (fun r38 P39 g40 => mpp 50 rfl ?_)
      obtain ⟨⟨rfl, g42⟩, hT43, k44, J47, R45⟩ := g40
      have k46 : KW [256, 320, 385, 386, 1985, 1986, 1987, 2112, 2113, 2114] Po P39 := KW.trans k25 k44 rfl
      show MEvP _ none q_118 50 [(2, .ref b35), (0, .ref 79), (1, .ref 1)] [] _ _ _ _
      have e49 : (fv P39 79 1).toInt = (fv P20 79 1).toInt := congrArg Int32.toInt (KW.at k44 1 rl_79 rfl)
      have e50 : (fv P39 79 2).toInt = (fv P20 79 2).toInt := congrArg Int32.toInt (KW.at k44 2 rl_79 rfl)
      have u48 : ((((fv Po 79 1).toInt = 0 ∧ (fv P39 79 1).toInt = 7) ∨ (1 ≤ (fv Po 79 1).toInt ∧ (fv P39 79 1).toInt = (fv Po 79 1).toInt - 1)) ∧ (fv P39 79 2).toInt = (fv Po 79 2).toInt - 1) := by omega
      have ka : KI 79 80 Po P20 := fun x j hx => by rw [f23 x j (by omega), f9 x j (by omega)]
      have eb := q36r.2.2
      have en : (81 + 26 * (fv P39 79 1).toInt.toNat) = b35 := by omega
      have u51 : (SCi P39 Po (81 + 26 * (fv P39 79 1).toInt.toNat)) := by rw [en]; exact ⟨(R45.1).trans (ka _ _ (by omega)), (R45.2.1).trans (ka _ _ (by omega)), (R45.2.2.1).trans (ka _ _ (by omega)), fun k hk h2 => by have q := R45.2.2.2.1 k hk (by rw [ka _ _ (by omega)]; exact h2); rw [k46.2.2 rfl] at q; exact q.src ka (by omega)⟩
      have u52 : (∀ x j : Nat, 27 ≤ x → ¬ x = 79 → fv P39 x j = fv Po x j) := fun x j h1 h2 => by rw [R45.2.2.2.2 x j (by omega), f23 x j (by omega), f9 x j (by omega)]
      have u53 : fv P39 79 3 = fv Po 79 3 := by rw [R45.2.2.2.2 79 3 (by omega), f23 79 3 (by omega), f9 79 3 (by omega)]
      have u54 : KI 1 80 Po P39 := by
        intro x j hx
        rw [R45.2.2.2.2 x j (by omega), f23 x j (by omega), f9 x j (by omega)]
      exact mp_ret ⟨⟨rfl, trivial⟩, hT43, k46, J47, ⟨u48, u51, u52, u53, u54⟩⟩ dX0_pop_50 rfl
  · have c5 : (fv Po 79 1).toInt > 0 := ti_le_n c5
    refine mp_a (a_aload_n dX0_pop_8 rfl) (mpp 9 rfl ?_)
    refine mt_getI (i := 18) (k := 1) hT dX0_pop_9 rfl rl_79 (by decide) rfl (by decide) rfl (fun g55 g56 => mpp 12 rfl ?_)
    refine mp_a (a_iconst (v := 1) dX0_pop_12 rfl) (mpp 13 rfl ?_)
    obtain ⟨z57, h58⟩ := ti_ex ((fv Po 79 1) - 1 : Int32)
    have wz57 := ti_full z57
    refine mp_t (s_isub (v := z57) dX0_pop_13 h58) (mpp 14 rfl ?_)
    try have e59 : z57.toInt = (fv Po 79 1).toInt - 1 := ti_subz h58 rfl rfl (by omega) (by omega)
    refine mp_a (a_goto (t := 19) dX0_pop_14 (by decide)) ?_
    refine mt_putI (i := 18) (k := 1) (x := z57) hT dX0_pop_19 rfl rl_79 (by decide) rfl (by decide) rfl ⟨by omega, by omega⟩ rfl rfl (fun P60 hT61 f62 f63 f64 => mpp 22 rfl ?_)
    have k65 : KW [256, 320, 385, 386, 1985, 1986, 1987, 2112, 2113, 2114] Po P60 := KW.step KW.refl rl_79 rfl f63 f64
    have J66 := Inj.st hJ f64
    have e67 : (fv P60 79 1).toInt = z57.toInt := congrArg Int32.toInt f62
    refine mp_a (a_aload_n dX0_pop_22 rfl) (mpp 23 rfl ?_)
    refine mp_t (s_dup dX0_pop_23 rfl) (mpp 24 rfl ?_)
    have e68 : (fv P60 79 2).toInt = (fv Po 79 2).toInt := congrArg Int32.toInt (f63 79 2 (ne_k rfl))
    refine mt_getI (i := 34) (k := 2) hT61 dX0_pop_24 rfl rl_79 (by decide) rfl (by decide) rfl (fun g69 g70 => mpp 27 rfl ?_)
    refine mp_a (a_iconst (v := 1) dX0_pop_27 rfl) (mpp 28 rfl ?_)
    obtain ⟨z71, h72⟩ := ti_ex ((fv P60 79 2) - 1 : Int32)
    have wz71 := ti_full z71
    refine mp_t (s_isub (v := z71) dX0_pop_28 h72) (mpp 29 rfl ?_)
    try have e73 : z71.toInt = (fv P60 79 2).toInt - 1 := ti_subz h72 rfl rfl (by omega) (by omega)
    refine mt_putI (i := 34) (k := 2) (x := z71) hT61 dX0_pop_29 rfl rl_79 (by decide) rfl (by decide) rfl ⟨by omega, by omega⟩ rfl rfl (fun P74 hT75 f76 f77 f78 => mpp 32 rfl ?_)
    have k79 : KW [256, 320, 385, 386, 1985, 1986, 1987, 2112, 2113, 2114] Po P74 := KW.step k65 rl_79 rfl f77 f78
    have J80 := Inj.st J66 f78
    have e81 : (fv P74 79 2).toInt = z71.toInt := congrArg Int32.toInt f76
    refine mp_a (a_aload_n dX0_pop_32 rfl) (mpp 33 rfl ?_)
    refine mp_a (a_aload_n dX0_pop_33 rfl) (mpp 34 rfl ?_)
    have e82 : (fv P74 79 1).toInt = (fv P60 79 1).toInt := congrArg Int32.toInt (f77 79 1 (ne_k rfl))
    refine mt_getI (i := 18) (k := 1) hT75 dX0_pop_34 rfl rl_79 (by decide) rfl (by decide) rfl (fun g83 g84 => mpp 37 rfl ?_)
    refine mt_callv (i := 22) (q' := q_16) (As := [.int (fv P74 79 1)]) (rest := []) hT75 dX0_pop_37 rfl qm_16 (by decide) rfl rl_79 (by decide) rfl (Nat.le_of_ble_eq_true rfl) rfl ⟨rfl, rfl⟩ ⟨Nat.le_of_ble_eq_true rfl, Nat.le_of_ble_eq_true rfl⟩ (EvP.mono (by decide) (c_CH_stateAt_History hT75 (KW.xr k79 hX) )) (fun r85 P86 g87 => mpp 40 rfl ?_)
    obtain ⟨g87, e88⟩ := g87
    have e88 := e88.symm
    subst e88
    rcases g87 with ⟨rfl, q90n⟩ | ⟨b89, rfl, q90, q90r⟩
    · show MEvP _ none q_118 40 [(0, .ref 79), (1, .ref 1)] [.null] _ _ _ _
      replace q90n : (fv P74 79 1).toInt < 0 ∨ 8 ≤ (fv P74 79 1).toInt := q90n
      refine mp_a (a_astore_nN (L' := [(2, .null), (0, .ref 79), (1, .ref 1)]) dX0_pop_40 (by decide) rfl) (mpp 41 rfl ?_)
      refine mp_a (a_aload_nN dX0_pop_41 rfl) (mpp 42 rfl ?_)
      exfalso
      omega
    · show MEvP _ none q_118 40 [(0, .ref 79), (1, .ref 1)] [.ref b89] _ _ _ _
      replace q90r : 0 ≤ (fv P74 79 1).toInt ∧ (fv P74 79 1).toInt ≤ 7 ∧ b89 = 81 + 26 * (fv P74 79 1).toInt.toNat := q90r
      have w91 := st_ar q90
      refine mp_a (a_astore_n (L' := [(2, .ref b89), (0, .ref 79), (1, .ref 1)]) dX0_pop_40 (by decide) rfl) (mpp 41 rfl ?_)
      refine mp_a (a_aload_n dX0_pop_41 rfl) (mpp 42 rfl ?_)
      refine mp_t (s_ifnullR dX0_pop_42) (mpp 45 rfl ?_)
      refine mp_a (a_aload_n dX0_pop_45 rfl) (mpp 46 rfl ?_)
      refine mp_a (a_aload_n dX0_pop_46 rfl) (mpp 47 rfl ?_)
      refine mt_callv (i := 30) (q' := q_17) (As := [.ref b89]) (rest := []) hT75 dX0_pop_47 rfl qm_17 (by decide) rfl rl_1 (by decide) rfl (Nat.le_of_ble_eq_true rfl) rfl ⟨rfl, rfl⟩ ⟨Nat.le_of_ble_eq_true rfl, Nat.le_of_ble_eq_true rfl⟩ (EvP.mono (by decide) (c_CS_copyFrom_NState_State hT75 (KW.xr k79 hX) J80 q90)) (fun r92 P93 g94 => mpp 50 rfl ?_)
      obtain ⟨⟨rfl, g96⟩, hT97, k98, J101, R99⟩ := g94
      have k100 : KW [256, 320, 385, 386, 1985, 1986, 1987, 2112, 2113, 2114] Po P93 := KW.trans k79 k98 rfl
      show MEvP _ none q_118 50 [(2, .ref b89), (0, .ref 79), (1, .ref 1)] [] _ _ _ _
      have e103 : (fv P93 79 1).toInt = (fv P74 79 1).toInt := congrArg Int32.toInt (KW.at k98 1 rl_79 rfl)
      have e104 : (fv P93 79 2).toInt = (fv P74 79 2).toInt := congrArg Int32.toInt (KW.at k98 2 rl_79 rfl)
      have u102 : ((((fv Po 79 1).toInt = 0 ∧ (fv P93 79 1).toInt = 7) ∨ (1 ≤ (fv Po 79 1).toInt ∧ (fv P93 79 1).toInt = (fv Po 79 1).toInt - 1)) ∧ (fv P93 79 2).toInt = (fv Po 79 2).toInt - 1) := by omega
      have ka : KI 79 80 Po P74 := fun x j hx => by rw [f77 x j (by omega), f63 x j (by omega)]
      have eb := q90r.2.2
      have en : (81 + 26 * (fv P93 79 1).toInt.toNat) = b89 := by omega
      have u105 : (SCi P93 Po (81 + 26 * (fv P93 79 1).toInt.toNat)) := by rw [en]; exact ⟨(R99.1).trans (ka _ _ (by omega)), (R99.2.1).trans (ka _ _ (by omega)), (R99.2.2.1).trans (ka _ _ (by omega)), fun k hk h2 => by have q := R99.2.2.2.1 k hk (by rw [ka _ _ (by omega)]; exact h2); rw [k100.2.2 rfl] at q; exact q.src ka (by omega)⟩
      have u106 : (∀ x j : Nat, 27 ≤ x → ¬ x = 79 → fv P93 x j = fv Po x j) := fun x j h1 h2 => by rw [R99.2.2.2.2 x j (by omega), f77 x j (by omega), f63 x j (by omega)]
      have u107 : fv P93 79 3 = fv Po 79 3 := by rw [R99.2.2.2.2 79 3 (by omega), f77 79 3 (by omega), f63 79 3 (by omega)]
      have u108 : KI 1 80 Po P93 := by
        intro x j hx
        rw [R99.2.2.2.2 x j (by omega), f77 x j (by omega), f63 x j (by omega)]
      exact mp_ret ⟨⟨rfl, trivial⟩, hT97, k100, J101, ⟨u102, u105, u106, u107, u108⟩⟩ dX0_pop_50 rfl

set_option maxHeartbeats 4000000 in
theorem c_F_undo {Po : mP}  (hT : Typ Po) (hX : XR Po)  (hJ : Inj Po)  : EvP 5 117 [.ref 0] Po (fun r P' => (∃ x : Int32, r = some (.int x) ∧ ((x.toInt = -1004 ∧ (fv Po 79 2).toInt = 0) ∨ (1 ≤ (fv Po 79 2).toInt ∧ x.toInt = (fv Po 79 2).toInt - 1))) ∧ Typ P' ∧ KW [256, 320, 385, 386, 1985, 1986, 1987, 2112, 2113, 2114] Po P' ∧ Inj P' ∧ (((fv Po 79 2).toInt = 0 ∧ ∀ x j : Nat, fv P' x j = fv Po x j) ∨ (1 ≤ (fv Po 79 2).toInt ∧ ((((fv Po 79 1).toInt = 0 ∧ (fv P' 79 1).toInt = 7) ∨ (1 ≤ (fv Po 79 1).toInt ∧ (fv P' 79 1).toInt = (fv Po 79 1).toInt - 1)) ∧ (fv P' 79 2).toInt = (fv Po 79 2).toInt - 1) ∧ SCi P' Po (81 + 26 * (fv P' 79 1).toInt.toNat))) ∧ (∀ x j : Nat, 27 ≤ x → ¬ x = 79 → fv P' x j = fv Po x j) ∧ fv P' 79 3 = fv Po 79 3 ∧ KI 1 80 Po P') := by
  refine EvP.of qm_117 (Nat.le_of_ble_eq_true rfl) rfl ?_
  show MEvP _ none q_117 0 [(0, .ref 0)] [] _ 0 0 _
  have g1 : (0 : Int) ≤ (fv Po 79 2).toInt ∧ (fv Po 79 2).toInt ≤ 8 := Typ.rng hT rl_79 (by decide) (by decide) rfl
  have g2 : (0 : Int) ≤ (fv Po 79 1).toInt ∧ (fv Po 79 1).toInt ≤ 7 := Typ.rng hT rl_79 (by decide) (by decide) rfl
  refine mp_a (a_aload_n dX6_undo_0 rfl) (mpp 1 rfl ?_)
  refine mt_getU (i := 25) (k := 3) (A := 79) hT dX6_undo_1 rfl rl_0 (by decide) rfl (by decide) rfl un_6 (mpp 4 rfl ?_)
  refine mt_getI (i := 264) (k := 2) hT dX6_undo_4 rfl rl_79 (by decide) rfl (by decide) rfl (fun g3 g4 => mpp 7 rfl ?_)
  refine mp_Tb (t := 14) (j_if_gt dX6_undo_7) (by decide) (fun c5 => ?_) (fun c5 => mpp 10 rfl ?_)
  · have c5 : (fv Po 79 2).toInt > 0 := ti_gt c5
    refine mp_a (a_aload_n dX6_undo_14 rfl) (mpp 15 rfl ?_)
    refine mt_getU (i := 25) (k := 3) (A := 79) hT dX6_undo_15 rfl rl_0 (by decide) rfl (by decide) rfl un_6 (mpp 18 rfl ?_)
    refine mp_a (a_aload_n dX6_undo_18 rfl) (mpp 19 rfl ?_)
    refine mt_getU (i := 10) (k := 0) (A := 1) hT dX6_undo_19 rfl rl_0 (by decide) rfl (by decide) rfl un_31 (mpp 22 rfl ?_)
    have p6 : 1 ≤ (fv Po 79 2).toInt := by omega
    refine mt_callv (i := 269) (q' := q_118) (As := [.ref 1]) (rest := []) hT dX6_undo_22 rfl qm_118 (by decide) rfl rl_79 (by decide) rfl (Nat.le_of_ble_eq_true rfl) rfl ⟨rfl, rfl⟩ ⟨Nat.le_of_ble_eq_true rfl, Nat.le_of_ble_eq_true rfl⟩ (EvP.mono (by decide) (c_CH_pop_History_NState hT hX hJ p6 )) (fun r7 P8 g9 => mpp 25 rfl ?_)
    obtain ⟨⟨rfl, g11⟩, hT12, k13, J16, R14⟩ := g9
    have k15 : KW [256, 320, 385, 386, 1985, 1986, 1987, 2112, 2113, 2114] Po P8 := KW.trans KW.refl k13 rfl
    show MEvP _ none q_117 25 [(0, .ref 0)] [] _ _ _ _
    refine mp_a (a_aload_n dX6_undo_25 rfl) (mpp 26 rfl ?_)
    refine mt_getU (i := 25) (k := 3) (A := 79) hT12 dX6_undo_26 rfl rl_0 (by decide) rfl (by decide) rfl un_6 (mpp 29 rfl ?_)
    have g17 : (0 : Int) ≤ (fv P8 79 2).toInt ∧ (fv P8 79 2).toInt ≤ 8 := Typ.rng hT12 rl_79 (by decide) (by decide) rfl
    refine mt_getI (i := 264) (k := 2) hT12 dX6_undo_29 rfl rl_79 (by decide) rfl (by decide) rfl (fun g18 g19 => mpp 32 rfl ?_)
    have u20 : ((fv P8 79 2).toInt = -1004 ∧ (fv Po 79 2).toInt = 0) ∨ (1 ≤ (fv Po 79 2).toInt ∧ (fv P8 79 2).toInt = (fv Po 79 2).toInt - 1) := Or.inr ⟨by omega, by have := R14.1; omega⟩
    have u21 : (((fv Po 79 2).toInt = 0 ∧ ∀ x j : Nat, fv P8 x j = fv Po x j) ∨ (1 ≤ (fv Po 79 2).toInt ∧ ((((fv Po 79 1).toInt = 0 ∧ (fv P8 79 1).toInt = 7) ∨ (1 ≤ (fv Po 79 1).toInt ∧ (fv P8 79 1).toInt = (fv Po 79 1).toInt - 1)) ∧ (fv P8 79 2).toInt = (fv Po 79 2).toInt - 1) ∧ SCi P8 Po (81 + 26 * (fv P8 79 1).toInt.toNat))) := Or.inr ⟨by omega, R14.1, R14.2.1⟩
    have u22 : (∀ x j : Nat, 27 ≤ x → ¬ x = 79 → fv P8 x j = fv Po x j) := R14.2.2.1
    have u23 : fv P8 79 3 = fv Po 79 3 := by rw [R14.2.2.2.1]
    have u24 : KI 1 80 Po P8 := by
      intro x j hx
      rw [R14.2.2.2.2 x j (by omega)]
    exact mp_iret ⟨⟨_, rfl, u20⟩, hT12, k15, J16, ⟨u21, u22, u23, u24⟩⟩ dX6_undo_32 (Or.inl rfl)
  · have c5 : (fv Po 79 2).toInt ≤ 0 := ti_gt_n c5
    refine mp_a (a_sipush (v := -1004) dX6_undo_10 rfl) (mpp 13 rfl ?_)
    have u25 : ((-1004 : Int) = -1004 ∧ (fv Po 79 2).toInt = 0) ∨ (1 ≤ (fv Po 79 2).toInt ∧ (-1004 : Int) = (fv Po 79 2).toInt - 1) := Or.inl ⟨rfl, by omega⟩
    have u26 : (((fv Po 79 2).toInt = 0 ∧ ∀ x j : Nat, fv Po x j = fv Po x j) ∨ (1 ≤ (fv Po 79 2).toInt ∧ ((((fv Po 79 1).toInt = 0 ∧ (fv Po 79 1).toInt = 7) ∨ (1 ≤ (fv Po 79 1).toInt ∧ (fv Po 79 1).toInt = (fv Po 79 1).toInt - 1)) ∧ (fv Po 79 2).toInt = (fv Po 79 2).toInt - 1) ∧ SCi Po Po (81 + 26 * (fv Po 79 1).toInt.toNat))) := Or.inl ⟨by omega, fun _ _ => rfl⟩
    have u27 : (∀ x j : Nat, 27 ≤ x → ¬ x = 79 → fv Po x j = fv Po x j) := fun _ _ _ _ => rfl
    have u28 : fv Po 79 3 = fv Po 79 3 := by rw []
    have u29 : KI 1 80 Po Po := fun _ _ _ => rfl
    exact mp_iret ⟨⟨_, rfl, u25⟩, hT, KW.refl, hJ, ⟨u26, u27, u28, u29⟩⟩ dX6_undo_13 (Or.inl rfl)

set_option maxHeartbeats 4000000 in
theorem c_F_save {Po : mP}  (hT : Typ Po) (hX : XR Po)  (hJ : Inj Po)  : EvP 4 119 [.ref 0] Po (fun r P' => (∃ x : Int32, r = some (.int x) ∧ (x.toInt = (fv Po 1 1).toInt)) ∧ Typ P' ∧ KW [8, 65, 66, 67, 192, 193, 194, 256, 320] Po P' ∧ Inj P' ∧ (SCn P' 53 Po) ∧ (∀ x j : Nat, ¬ (x = 0 ∧ j = 8) → (x < 53 ∨ 79 ≤ x) → fv P' x j = fv Po x j) ∧ (fv P' 0 8).toInt = 1 ∧ KI 0 79 Po P') := by
  refine EvP.of qm_119 (Nat.le_of_ble_eq_true rfl) rfl ?_
  show MEvP _ none q_119 0 [(0, .ref 0)] [] _ 0 0 _
  have g1 : (0 : Int) ≤ (fv Po 1 1).toInt ∧ (fv Po 1 1).toInt ≤ 8 := Typ.rng hT rl_1 (by decide) (by decide) rfl
  refine mp_a (a_aload_n dX6_save_0 rfl) (mpp 1 rfl ?_)
  refine mt_getE (i := 19) (k := 2) hT dX6_save_1 rfl rl_0 (by decide) rfl (by decide) rfl hX.2.2.2.2.1 (fun q2 => mpp 4 rfl ?_)
  refine mp_a (a_aload_n dX6_save_4 rfl) (mpp 5 rfl ?_)
  refine mt_getU (i := 10) (k := 0) (A := 1) hT dX6_save_5 rfl rl_0 (by decide) rfl (by decide) rfl un_31 (mpp 8 rfl ?_)
  refine mt_callv (i := 228) (q' := q_17) (As := [.ref 1]) (rest := []) hT dX6_save_8 rfl qm_17 (by decide) rfl q2 (by decide) rfl (Nat.le_of_ble_eq_true rfl) rfl ⟨rfl, rfl⟩ ⟨Nat.le_of_ble_eq_true rfl, Nat.le_of_ble_eq_true rfl⟩ (EvP.mono (by decide) (c_CS_copyFrom_State_NState hT hX hJ q2)) (fun r3 P4 g5 => mpp 11 rfl ?_)
  obtain ⟨⟨rfl, g7⟩, hT8, k9, J12, R10⟩ := g5
  have k11 : KW [8, 65, 66, 67, 192, 193, 194, 256, 320] Po P4 := KW.trans KW.refl k9 rfl
  show MEvP _ none q_119 11 [(0, .ref 0)] [] _ _ _ _
  refine mp_a (a_aload_n dX6_save_11 rfl) (mpp 12 rfl ?_)
  refine mp_a (a_iconst (v := 1) dX6_save_12 rfl) (mpp 13 rfl ?_)
  refine mt_putI (i := 272) (k := 8) (x := 1) hT8 dX6_save_13 rfl rl_0 (by decide) rfl (by decide) rfl (by decide) rfl rfl (fun P13 hT14 f15 f16 f17 => mpp 16 rfl ?_)
  have k18 : KW [8, 65, 66, 67, 192, 193, 194, 256, 320] Po P13 := KW.step k11 rl_0 rfl f16 f17
  have J19 := Inj.st J12 f17
  have e20 : (fv P13 0 8).toInt = 1 := congrArg Int32.toInt f15
  refine mp_a (a_aload_n dX6_save_16 rfl) (mpp 17 rfl ?_)
  refine mt_getU (i := 10) (k := 0) (A := 1) hT14 dX6_save_17 rfl rl_0 (by decide) rfl (by decide) rfl un_31 (mpp 20 rfl ?_)
  have e21 : (fv P13 1 1).toInt = (fv Po 1 1).toInt := congrArg Int32.toInt ((f16 1 1 (ne_r rl_1 rl_0 rfl)).trans (KW.at k9 1 rl_1 rfl))
  refine mt_getI (i := 87) (k := 1) hT14 dX6_save_20 rfl rl_1 (by decide) rfl (by decide) rfl (fun g22 g23 => mpp 23 rfl ?_)
  have u24 : (fv P13 1 1).toInt = (fv Po 1 1).toInt := by omega
  have ka : KI 0 1 P4 P13 := fun x j hx => f16 x j (by omega)
  have u25 : (SCn P13 53 Po) := SCn.keep (show SCn P4 53 Po from ⟨R10.1, R10.2.1, R10.2.2.1, R10.2.2.2.1⟩) ka (by omega)
  have u26 : (∀ x j : Nat, ¬ (x = 0 ∧ j = 8) → (x < 53 ∨ 79 ≤ x) → fv P13 x j = fv Po x j) := fun x j h1 h2 => (f16 x j h1).trans (R10.2.2.2.2 x j (by omega))
  have u27 : (fv P13 0 8).toInt = 1 := by omega
  have u28 : KI 0 79 Po P13 := by
    intro x j hx
    rw [f16 x j (by omega), R10.2.2.2.2 x j (by omega)]
  exact mp_iret ⟨⟨_, rfl, u24⟩, hT14, k18, J19, ⟨u25, u26, u27, u28⟩⟩ dX6_save_23 (Or.inl rfl)

set_option maxHeartbeats 4000000 in
theorem c_CH_clear_History {Po : mP}  (hT : Typ Po) (hX : XR Po)   : EvP 1 121 [.ref 79] Po (fun r P' => (r = none ∧ (True)) ∧ Typ P' ∧ KW [386] Po P' ∧ (fv P' 79 2).toInt = 0 ∧ (∀ x j : Nat, ¬ (x = 79 ∧ j = 2) → fv P' x j = fv Po x j) ∧ KI 79 80 Po P') := by
  refine EvP.of qm_121 (Nat.le_of_ble_eq_true rfl) rfl ?_
  show MEvP _ none q_121 0 [(0, .ref 79)] [] _ 0 0 _
  refine mp_a (a_aload_n dX0_clear_0 rfl) (mpp 1 rfl ?_)
  refine mp_a (a_iconst (v := 0) dX0_clear_1 rfl) (mpp 2 rfl ?_)
  refine mt_putI (i := 34) (k := 2) (x := 0) hT dX0_clear_2 rfl rl_79 (by decide) rfl (by decide) rfl (by decide) rfl rfl (fun P1 hT2 f3 f4 f5 => mpp 5 rfl ?_)
  have k6 : KW [386] Po P1 := KW.step KW.refl rl_79 rfl f4 f5
  have e7 : (fv P1 79 2).toInt = 0 := congrArg Int32.toInt f3
  have u8 : (fv P1 79 2).toInt = 0 := by omega
  have u9 : (∀ x j : Nat, ¬ (x = 79 ∧ j = 2) → fv P1 x j = fv Po x j) := f4
  have u10 : KI 79 80 Po P1 := by
    intro x j hx
    rw [f4 x j (by omega)]
  exact mp_ret ⟨⟨rfl, trivial⟩, hT2, k6, ⟨u8, u9, u10⟩⟩ dX0_clear_5 rfl

set_option maxHeartbeats 4000000 in
theorem c_F_restore {Po : mP}  (hT : Typ Po) (hX : XR Po)  (hJ : Inj Po)  : EvP 4 120 [.ref 0] Po (fun r P' => (∃ x : Int32, r = some (.int x) ∧ ((x.toInt = -1004 ∧ (fv Po 0 8).toInt = 0) ∨ ((fv Po 0 8).toInt = 1 ∧ x.toInt = (fv Po 53 1).toInt))) ∧ Typ P' ∧ KW [256, 320, 386, 1985, 1986, 1987, 2112, 2113, 2114] Po P' ∧ Inj P' ∧ (((fv Po 0 8).toInt = 0 ∧ ∀ x j : Nat, fv P' x j = fv Po x j) ∨ ((fv Po 0 8).toInt = 1 ∧ SCi P' Po 53 ∧ (fv P' 79 2).toInt = 0)) ∧ (∀ x j : Nat, 27 ≤ x → ¬ (x = 79 ∧ j = 2) → fv P' x j = fv Po x j) ∧ KI 1 80 Po P') := by
  refine EvP.of qm_120 (Nat.le_of_ble_eq_true rfl) rfl ?_
  show MEvP _ none q_120 0 [(0, .ref 0)] [] _ 0 0 _
  have g1 : (0 : Int) ≤ (fv Po 0 8).toInt ∧ (fv Po 0 8).toInt ≤ 1 := Typ.rng hT rl_0 (by decide) (by decide) rfl
  refine mp_a (a_aload_n dX6_restore_0 rfl) (mpp 1 rfl ?_)
  refine mt_getI (i := 272) (k := 8) hT dX6_restore_1 rfl rl_0 (by decide) rfl (by decide) rfl (fun g2 g3 => mpp 4 rfl ?_)
  refine mp_Tb (t := 11) (j_if_ne dX6_restore_4) (by decide) (fun c4 => ?_) (fun c4 => mpp 7 rfl ?_)
  · have c4 : (fv Po 0 8).toInt ≠ 0 := ti_ne c4
    refine mp_a (a_aload_n dX6_restore_11 rfl) (mpp 12 rfl ?_)
    refine mt_getU (i := 10) (k := 0) (A := 1) hT dX6_restore_12 rfl rl_0 (by decide) rfl (by decide) rfl un_31 (mpp 15 rfl ?_)
    refine mp_a (a_aload_n dX6_restore_15 rfl) (mpp 16 rfl ?_)
    refine mt_getE (i := 19) (k := 2) hT dX6_restore_16 rfl rl_0 (by decide) rfl (by decide) rfl hX.2.2.2.2.1 (fun q5 => mpp 19 rfl ?_)
    refine mt_callv (i := 228) (q' := q_17) (As := [.ref 53]) (rest := []) hT dX6_restore_19 rfl qm_17 (by decide) rfl rl_1 (by decide) rfl (Nat.le_of_ble_eq_true rfl) rfl ⟨rfl, rfl⟩ ⟨Nat.le_of_ble_eq_true rfl, Nat.le_of_ble_eq_true rfl⟩ (EvP.mono (by decide) (c_CS_copyFrom_NState_State hT hX hJ q5)) (fun r6 P7 g8 => mpp 22 rfl ?_)
    obtain ⟨⟨rfl, g10⟩, hT11, k12, J15, R13⟩ := g8
    have k14 : KW [256, 320, 386, 1985, 1986, 1987, 2112, 2113, 2114] Po P7 := KW.trans KW.refl k12 rfl
    show MEvP _ none q_120 22 [(0, .ref 0)] [] _ _ _ _
    refine mp_a (a_aload_n dX6_restore_22 rfl) (mpp 23 rfl ?_)
    refine mt_getU (i := 25) (k := 3) (A := 79) hT11 dX6_restore_23 rfl rl_0 (by decide) rfl (by decide) rfl un_6 (mpp 26 rfl ?_)
    refine mt_callv (i := 275) (q' := q_121) (As := []) (rest := []) hT11 dX6_restore_26 rfl qm_121 (by decide) rfl rl_79 (by decide) rfl (Nat.le_of_ble_eq_true rfl) rfl ⟨rfl, rfl⟩ ⟨Nat.le_of_ble_eq_true rfl, Nat.le_of_ble_eq_true rfl⟩ (EvP.mono (by decide) (c_CH_clear_History hT11 (KW.xr k14 hX) )) (fun r16 P17 g18 => mpp 29 rfl ?_)
    obtain ⟨⟨rfl, g20⟩, hT21, k22, R23⟩ := g18
    have k24 : KW [256, 320, 386, 1985, 1986, 1987, 2112, 2113, 2114] Po P17 := KW.trans k14 k22 rfl
    have J26 := Inj.kw J15 k22 rfl
    show MEvP _ none q_120 29 [(0, .ref 0)] [] _ _ _ _
    refine mp_a (a_aload_n dX6_restore_29 rfl) (mpp 30 rfl ?_)
    refine mt_getU (i := 10) (k := 0) (A := 1) hT21 dX6_restore_30 rfl rl_0 (by decide) rfl (by decide) rfl un_31 (mpp 33 rfl ?_)
    have g27 : (0 : Int) ≤ (fv P17 1 1).toInt ∧ (fv P17 1 1).toInt ≤ 8 := Typ.rng hT21 rl_1 (by decide) (by decide) rfl
    refine mt_getI (i := 87) (k := 1) hT21 dX6_restore_33 rfl rl_1 (by decide) rfl (by decide) rfl (fun g28 g29 => mpp 36 rfl ?_)
    have u30 : ((fv P17 1 1).toInt = -1004 ∧ (fv Po 0 8).toInt = 0) ∨ ((fv Po 0 8).toInt = 1 ∧ (fv P17 1 1).toInt = (fv Po 53 1).toInt) := Or.inr ⟨by omega, congrArg Int32.toInt ((R23.2.1 1 1 (by omega)).trans R13.1)⟩
    have kb : KI 79 80 P7 P17 := fun x j hx => R23.2.1 x j (by omega)
    have u31 : (((fv Po 0 8).toInt = 0 ∧ ∀ x j : Nat, fv P17 x j = fv Po x j) ∨ ((fv Po 0 8).toInt = 1 ∧ SCi P17 Po 53 ∧ (fv P17 79 2).toInt = 0)) := Or.inr ⟨by omega, ⟨(kb 1 1 (by omega)).trans R13.1, (kb 1 2 (by omega)).trans R13.2.1, (kb 1 3 (by omega)).trans R13.2.2.1, fun k hk hz => by have q := R13.2.2.2.1 k hk hz; rw [k14.2.2 rfl] at q; exact q.keep kb (by have := (rv_np hT k hk).2.2.2; omega)⟩, R23.1⟩
    have u32 : (∀ x j : Nat, 27 ≤ x → ¬ (x = 79 ∧ j = 2) → fv P17 x j = fv Po x j) := fun x j h1 h2 => (R23.2.1 x j h2).trans (R13.2.2.2.2 x j (by omega))
    have u33 : KI 1 80 Po P17 := by
      intro x j hx
      rw [R23.2.2 x j (by omega), R13.2.2.2.2 x j (by omega)]
    exact mp_iret ⟨⟨_, rfl, u30⟩, hT21, k24, J26, ⟨u31, u32, u33⟩⟩ dX6_restore_36 (Or.inl rfl)
  · have c4 : (fv Po 0 8).toInt = 0 := ti_ne_n c4
    refine mp_a (a_sipush (v := -1004) dX6_restore_7 rfl) (mpp 10 rfl ?_)
    have u34 : ((-1004 : Int) = -1004 ∧ (fv Po 0 8).toInt = 0) ∨ ((fv Po 0 8).toInt = 1 ∧ (-1004 : Int) = (fv Po 53 1).toInt) := Or.inl ⟨rfl, by omega⟩
    have u35 : (((fv Po 0 8).toInt = 0 ∧ ∀ x j : Nat, fv Po x j = fv Po x j) ∨ ((fv Po 0 8).toInt = 1 ∧ SCi Po Po 53 ∧ (fv Po 79 2).toInt = 0)) := Or.inl ⟨by omega, fun _ _ => rfl⟩
    have u36 : (∀ x j : Nat, 27 ≤ x → ¬ (x = 79 ∧ j = 2) → fv Po x j = fv Po x j) := fun _ _ _ _ => rfl
    have u37 : KI 1 80 Po Po := fun _ _ _ => rfl
    exact mp_iret ⟨⟨_, rfl, u34⟩, hT, KW.refl, hJ, ⟨u35, u36, u37⟩⟩ dX6_restore_10 (Or.inl rfl)

set_option maxHeartbeats 4000000 in
theorem c_M_copies_s_was_l3 {Po : mP} {t1 : Int32} {t3 : Int32} (hp0 : 0 ≤ t1.toInt) (hp1 : t1.toInt + 155 ≤ 155) (hp2 : t1.toInt % 155 = 0) (hp3 : 0 ≤ t3.toInt) (hp4 : t3.toInt + 155 ≤ 155) (hp5 : t3.toInt % 155 = 0)  : ∀ (n : Nat) (v4 : Int32), ∀ (P : mP), Typ P → KW [1216] Po P → (CPY Po P 302 t1.toInt.toNat 303 t3.toInt.toNat v4.toInt.toNat) → (v4.toInt ≤ 155) → (0 ≤ v4.toInt) → (2147483647 - v4.toInt).toNat = n → MEvP 0 none q_125 3 [(0, .ref 302), (1, .int t1), (2, .ref 303), (3, .int t3), (4, .int v4)] [] P 0 0 (fun r P' => (r = none ∧ (CPY Po P' 302 t1.toInt.toNat 303 t3.toInt.toNat 155)) ∧ Typ P' ∧ KW [1216] Po P' ∧ True) := by
  intro n
  induction n using Nat.strongRecOn with | _ n ih => ?_
  intro v4 P hT hK i_0 i_1 i_2 hm
  have w_t1 := ti_full t1
  have w_t3 := ti_full t3
  have w_v4 := ti_full v4
  refine mp_a (a_iload dX7_copies_3 rfl) (mpp 5 rfl ?_)
  refine mp_a (a_sipush (v := 155) dX7_copies_5 rfl) (mpp 8 rfl ?_)
  refine mp_Tb (t := 29) (j_icmp_ge dX7_copies_8) (by decide) (fun c1 => ?_) (fun c1 => mpp 11 rfl ?_)
  · have c1 : v4.toInt ≥ 155 := ti_ge c1
    have u2 : CPY Po P 302 t1.toInt.toNat 303 t3.toInt.toNat 155 := CPY.fin i_0 (by omega)
    exact mp_ret ⟨⟨rfl, u2⟩, hT, hK, trivial⟩ dX7_copies_29 rfl
  · have c1 : v4.toInt < 155 := ti_ge_n c1
    refine mp_a (a_aload_n dX7_copies_11 rfl) (mpp 12 rfl ?_)
    refine mp_a (a_iload_n dX7_copies_12 rfl) (mpp 13 rfl ?_)
    refine mp_a (a_iload dX7_copies_13 rfl) (mpp 15 rfl ?_)
    obtain ⟨z3, h4⟩ := ti_ex (t3 + v4 : Int32)
    have wz3 := ti_full z3
    refine mp_t (s_iadd (v := z3) dX7_copies_15 h4) (mpp 16 rfl ?_)
    try have e5 : z3.toInt = t3.toInt + v4.toInt := ti_addz h4 rfl rfl (by omega) (by omega)
    refine mp_a (a_aload_n dX7_copies_16 rfl) (mpp 17 rfl ?_)
    refine mp_a (a_iload_n dX7_copies_17 rfl) (mpp 18 rfl ?_)
    refine mp_a (a_iload dX7_copies_18 rfl) (mpp 20 rfl ?_)
    obtain ⟨z6, h7⟩ := ti_ex (t1 + v4 : Int32)
    have wz6 := ti_full z6
    refine mp_t (s_iadd (v := z6) dX7_copies_20 h7) (mpp 21 rfl ?_)
    try have e8 : z6.toInt = t1.toInt + v4.toInt := ti_addz h7 rfl rfl (by omega) (by omega)
    refine mt_ialX (n := 155) hT dX7_copies_21 rl_302 (by decide) rfl rfl (by omega) (by omega) ssp_0 (fun g9 => mpp 22 rfl ?_)
    have we11 := ti_full (fv P 302 z6.toInt.toNat)
    refine mt_iasX (n := 155) hT dX7_copies_22 rl_303 (by decide) rfl rfl (by omega) (by omega) ssp_0 (okS_pp (f := (rsp 18).2.2) (g := (rsp 19).2.2) (sspm (by omega)) (sspm (by omega)) g9 (by omega)) (fun P12 hT13 f14 f15 f16 => mpp 23 rfl ?_)
    have k17 : KW [1216] Po P12 := KW.step hK rl_303 rfl f15 f16
    obtain ⟨z18, h19⟩ := ti_ex (v4 + 1 : Int32)
    have wz18 := ti_full z18
    refine mp_a (a_iinc (v := z18) (L' := [(4, .int z18), (0, .ref 302), (1, .int t1), (2, .ref 303), (3, .int t3)]) dX7_copies_23 (by decide) rfl h19 rfl) (mpp 26 rfl ?_)
    try have e20 : z18.toInt = v4.toInt + 1 := ti_addz h19 rfl rfl (by omega) (by omega)
    refine mp_a (a_goto (t := 3) dX7_copies_26 (by decide)) ?_
    refine MEvP.less (L := [(0, .ref 302), (1, .int t1), (2, .ref 303), (3, .int t3), (4, .int z18)]) rfl rfl ⟨rfl, rfl, rfl, rfl, rfl, trivial⟩ ?_
    have i21 : CPY Po P12 302 t1.toInt.toNat 303 t3.toInt.toNat z18.toInt.toNat := CPY.step i_0 f14 f15 (by omega) (by omega) (by omega) (Or.inl (by decide))
    have i22 : z18.toInt ≤ 155 := by omega
    have i23 : 0 ≤ z18.toInt := by omega
    exact ih _ (by omega) _ P12 hT13 k17 i21 i22 i23 rfl

set_option maxHeartbeats 4000000 in
theorem c_M_copies_s_was {Po : mP} {t1 : Int32} {t3 : Int32} (hT : Typ Po)  (hp0 : 0 ≤ t1.toInt) (hp1 : t1.toInt + 155 ≤ 155) (hp2 : t1.toInt % 155 = 0) (hp3 : 0 ≤ t3.toInt) (hp4 : t3.toInt + 155 ≤ 155) (hp5 : t3.toInt % 155 = 0)  : EvP 1 125 [.ref 302, .int t1, .ref 303, .int t3] Po (fun r P' => (r = none ∧ (CPY Po P' 302 t1.toInt.toNat 303 t3.toInt.toNat 155)) ∧ Typ P' ∧ KW [1216] Po P' ∧ True) := by
  refine EvP.of qm_125 (Nat.le_of_ble_eq_true rfl) rfl ?_
  show MEvP _ none q_125 0 [(0, .ref 302), (1, .int t1), (2, .ref 303), (3, .int t3)] [] _ 0 0 _
  have w_t1 := ti_full t1
  have w_t3 := ti_full t3
  refine mp_a (a_iconst (v := 0) dX7_copies_0 rfl) (mpp 1 rfl ?_)
  refine mp_a (a_istore (L' := [(4, .int 0), (0, .ref 302), (1, .int t1), (2, .ref 303), (3, .int t3)]) dX7_copies_1 (by decide) rfl) (mpp 3 rfl ?_)
  refine MEvP.less (L := [(0, .ref 302), (1, .int t1), (2, .ref 303), (3, .int t3), (4, .int 0)]) rfl rfl ⟨rfl, rfl, rfl, rfl, rfl, trivial⟩ ?_
  have i1 : CPY Po Po 302 t1.toInt.toNat 303 t3.toInt.toNat (0 : Int).toNat := CPY.start (by decide)
  have i2 : (0 : Int) ≤ 155 := by omega
  have i3 : 0 ≤ (0 : Int) := by omega
  exact c_M_copies_s_was_l3   hp0 hp1 hp2 hp3 hp4 hp5 _ _ Po hT KW.refl i1 i2 i3 rfl

set_option maxHeartbeats 4000000 in
theorem c_M_keeps {Po : mP}  (hT : Typ Po) (hR : Rel Po)  : EvP 2 124 [.ref 301] Po (fun r P' => (r = none ∧ (True)) ∧ Typ P' ∧ KW [1216] Po P' ∧ Rel P' ∧ (CPY Po P' 302 0 303 0 155) ∧ KI 303 304 Po P') := by
  refine EvP.of qm_124 (Nat.le_of_ble_eq_true rfl) rfl ?_
  show MEvP _ none q_124 0 [(0, .ref 301)] [] _ 0 0 _
  refine mp_a (a_aload_n dX7_keeps_0 rfl) (mpp 1 rfl ?_)
  refine mt_getU (i := 9) (k := 0) (A := 302) hT dX7_keeps_1 rfl rl_301 (by decide) rfl (by decide) rfl un_18 (mpp 4 rfl ?_)
  refine mp_a (a_iconst (v := 0) dX7_keeps_4 rfl) (mpp 5 rfl ?_)
  refine mp_a (a_aload_n dX7_keeps_5 rfl) (mpp 6 rfl ?_)
  refine mt_getU (i := 13) (k := 1) (A := 303) hT dX7_keeps_6 rfl rl_301 (by decide) rfl (by decide) rfl un_19 (mpp 9 rfl ?_)
  refine mp_a (a_iconst (v := 0) dX7_keeps_9 rfl) (mpp 10 rfl ?_)
  have p1 : 0 ≤ (0 : Int) := by omega
  have p2 : (0 : Int) + 155 ≤ 155 := by omega
  have p3 : (0 : Int) % 155 = 0 := by omega
  have p4 : 0 ≤ (0 : Int) := by omega
  have p5 : (0 : Int) + 155 ≤ 155 := by omega
  have p6 : (0 : Int) % 155 = 0 := by omega
  refine mp_calls (i := 54) (q' := q_125) (As := [.ref 302, .int 0, .ref 303, .int 0]) (rest := []) dX7_keeps_10 rfl qm_125 (by decide) rfl (Nat.le_of_ble_eq_true rfl) rfl ⟨rfl, rfl⟩ ⟨Nat.le_of_ble_eq_true rfl, Nat.le_of_ble_eq_true rfl⟩ (EvP.mono (by decide) (c_M_copies_s_was hT p1 p2 p3 p4 p5 p6 )) (fun r7 P8 g9 => mpp 13 rfl ?_)
  obtain ⟨⟨rfl, g11⟩, hT12, k13, R14⟩ := g9
  have k15 : KW [1216] Po P8 := KW.trans KW.refl k13 rfl
  replace g11 : CPY Po P8 302 (0 : Int).toNat 303 (0 : Int).toNat 155 := g11
  show MEvP _ none q_124 13 [(0, .ref 301)] [] _ _ _ _
  have R17 := Rel.cpy hR g11 (Or.inl ⟨by decide, by first | rfl | omega⟩) (Or.inl ⟨by decide, by first | rfl | omega⟩)
  have u18 : (CPY Po P8 302 0 303 0 155) ∧ KI 303 304 Po P8 := ⟨g11, fun x j hx => g11.2 x j (by omega)⟩
  exact mp_ret ⟨⟨rfl, trivial⟩, hT12, k15, R17, u18⟩ dX7_keeps_13 rfl

set_option maxHeartbeats 4000000 in
theorem c_M_isIn {Po : mP} {t0 : Int32} {t1 : Int32} {t2 : Int32} (hT : Typ Po)   : EvP 1 127 [.int t0, .int t1, .int t2] Po (fun r P' => (∃ x : Int32, r = some (.int x) ∧ (0 ≤ x.toInt ∧ x.toInt ≤ 1 ∧ ((x.toInt = 1 ∧ t1.toInt ≤ t0.toInt ∧ t0.toInt ≤ t2.toInt) ∨ (x.toInt = 0 ∧ (t0.toInt < t1.toInt ∨ t2.toInt < t0.toInt))))) ∧ P' = Po) := by
  refine EvP.of qm_127 (Nat.le_of_ble_eq_true rfl) rfl ?_
  show MEvP _ none q_127 0 [(0, .int t0), (1, .int t1), (2, .int t2)] [] _ 0 0 _
  have w_t0 := ti_full t0
  have w_t1 := ti_full t1
  have w_t2 := ti_full t2
  refine mp_a (a_iload_n dX7_isIn_0 rfl) (mpp 1 rfl ?_)
  refine mp_a (a_iload_n dX7_isIn_1 rfl) (mpp 2 rfl ?_)
  refine mp_Tb (t := 14) (j_icmp_lt dX7_isIn_2) (by decide) (fun c1 => ?_) (fun c1 => mpp 5 rfl ?_)
  · have c1 : t0.toInt < t1.toInt := ti_lt c1
    refine mp_a (a_iconst (v := 0) dX7_isIn_14 rfl) (mpp 15 rfl ?_)
    have u2 : 0 ≤ (0 : Int) ∧ (0 : Int) ≤ 1 ∧ (((0 : Int) = 1 ∧ t1.toInt ≤ t0.toInt ∧ t0.toInt ≤ t2.toInt) ∨ ((0 : Int) = 0 ∧ (t0.toInt < t1.toInt ∨ t2.toInt < t0.toInt))) := by omega
    exact mp_iret ⟨⟨_, rfl, u2⟩, rfl⟩ dX7_isIn_15 (Or.inr ⟨rfl, by decide⟩)
  · have c1 : t0.toInt ≥ t1.toInt := ti_lt_n c1
    refine mp_a (a_iload_n dX7_isIn_5 rfl) (mpp 6 rfl ?_)
    refine mp_a (a_iload_n dX7_isIn_6 rfl) (mpp 7 rfl ?_)
    refine mp_Tb (t := 14) (j_icmp_gt dX7_isIn_7) (by decide) (fun c3 => ?_) (fun c3 => mpp 10 rfl ?_)
    · have c3 : t0.toInt > t2.toInt := ti_gt c3
      refine mp_a (a_iconst (v := 0) dX7_isIn_14 rfl) (mpp 15 rfl ?_)
      have u4 : 0 ≤ (0 : Int) ∧ (0 : Int) ≤ 1 ∧ (((0 : Int) = 1 ∧ t1.toInt ≤ t0.toInt ∧ t0.toInt ≤ t2.toInt) ∨ ((0 : Int) = 0 ∧ (t0.toInt < t1.toInt ∨ t2.toInt < t0.toInt))) := by omega
      exact mp_iret ⟨⟨_, rfl, u4⟩, rfl⟩ dX7_isIn_15 (Or.inr ⟨rfl, by decide⟩)
    · have c3 : t0.toInt ≤ t2.toInt := ti_gt_n c3
      refine mp_a (a_iconst (v := 1) dX7_isIn_10 rfl) (mpp 11 rfl ?_)
      refine mp_a (a_goto (t := 15) dX7_isIn_11 (by decide)) ?_
      have u5 : 0 ≤ (1 : Int) ∧ (1 : Int) ≤ 1 ∧ (((1 : Int) = 1 ∧ t1.toInt ≤ t0.toInt ∧ t0.toInt ≤ t2.toInt) ∨ ((1 : Int) = 0 ∧ (t0.toInt < t1.toInt ∨ t2.toInt < t0.toInt))) := by omega
      exact mp_iret ⟨⟨_, rfl, u5⟩, rfl⟩ dX7_isIn_15 (Or.inr ⟨rfl, by decide⟩)

set_option maxHeartbeats 4000000 in
theorem c_M_at {Po : mP} {t0 : Int32} {t1 : Int32} (hT : Typ Po)  (hp0 : 0 ≤ t0.toInt) (hp1 : t0.toInt ≤ 8) (hp2 : 0 ≤ t1.toInt) (hp3 : t1.toInt ≤ 20)  : EvP 1 135 [.int t0, .int t1] Po (fun r P' => (∃ x : Int32, r = some (.int x) ∧ (x.toInt = 3 + 19 * t0.toInt + t1.toInt)) ∧ P' = Po) := by
  refine EvP.of qm_135 (Nat.le_of_ble_eq_true rfl) rfl ?_
  show MEvP _ none q_135 0 [(0, .int t0), (1, .int t1)] [] _ 0 0 _
  have w_t0 := ti_full t0
  have w_t1 := ti_full t1
  refine mp_a (a_iconst (v := 3) dX7_at_0 rfl) (mpp 1 rfl ?_)
  refine mp_a (a_bipush (v := 19) dX7_at_1 rfl) (mpp 3 rfl ?_)
  refine mp_a (a_iload_n dX7_at_3 rfl) (mpp 4 rfl ?_)
  obtain ⟨z1, h2⟩ := ti_ex (19 * t0 : Int32)
  have wz1 := ti_full z1
  refine mp_t (s_imul (v := z1) dX7_at_4 h2) (mpp 5 rfl ?_)
  try have e3 : z1.toInt = 19 * t0.toInt := ti_mulz h2 rfl rfl (by omega) (by omega)
  obtain ⟨z4, h5⟩ := ti_ex (3 + z1 : Int32)
  have wz4 := ti_full z4
  refine mp_t (s_iadd (v := z4) dX7_at_5 h5) (mpp 6 rfl ?_)
  try have e6 : z4.toInt = 3 + z1.toInt := ti_addz h5 rfl rfl (by omega) (by omega)
  refine mp_a (a_iload_n dX7_at_6 rfl) (mpp 7 rfl ?_)
  obtain ⟨z7, h8⟩ := ti_ex (z4 + t1 : Int32)
  have wz7 := ti_full z7
  refine mp_t (s_iadd (v := z7) dX7_at_7 h8) (mpp 8 rfl ?_)
  try have e9 : z7.toInt = z4.toInt + t1.toInt := ti_addz h8 rfl rfl (by omega) (by omega)
  have u10 : z7.toInt = 3 + 19 * t0.toInt + t1.toInt := by omega
  exact mp_iret ⟨⟨_, rfl, u10⟩, rfl⟩ dX7_at_8 (Or.inl rfl)

set_option maxHeartbeats 4000000 in
theorem c_M_of_c2 {Po : mP} {t1 : Int32} (hT : Typ Po)  (hp0 : 0 ≤ t1.toInt) (hp1 : t1.toInt ≤ 7) (hp2 : 0 ≤ (2 : Int)) (hp3 : (2 : Int) ≤ 18)  : EvP 2 137 [.ref 301, .int t1, .int 2] Po (fun r P' => (∃ x : Int32, r = some (.int x) ∧ (x.toInt = (fv Po 302 (5 + 19 * t1.toInt.toNat)).toInt)) ∧ P' = Po) := by
  refine EvP.of qm_137 (Nat.le_of_ble_eq_true rfl) rfl ?_
  show MEvP _ none q_137 0 [(0, .ref 301), (1, .int t1), (2, .int 2)] [] _ 0 0 _
  have w_t1 := ti_full t1
  have g1 := ti_full (fv Po 302 (5 + 19 * t1.toInt.toNat))
  refine mp_a (a_aload_n dX7_of_0 rfl) (mpp 1 rfl ?_)
  refine mt_getU (i := 9) (k := 0) (A := 302) hT dX7_of_1 rfl rl_301 (by decide) rfl (by decide) rfl un_18 (mpp 4 rfl ?_)
  refine mp_a (a_iload_n dX7_of_4 rfl) (mpp 5 rfl ?_)
  refine mp_a (a_iload_n dX7_of_5 rfl) (mpp 6 rfl ?_)
  have p2 : 0 ≤ t1.toInt := by omega
  have p3 : t1.toInt ≤ 8 := by omega
  have p4 : 0 ≤ (2 : Int) := by omega
  have p5 : (2 : Int) ≤ 20 := by omega
  refine mp_calls (i := 74) (q' := q_135) (As := [.int t1, .int 2]) (rest := [.ref 302]) dX7_of_6 rfl qm_135 (by decide) rfl (Nat.le_of_ble_eq_true rfl) rfl ⟨rfl, rfl⟩ ⟨Nat.le_of_ble_eq_true rfl, Nat.le_of_ble_eq_true rfl⟩ (EvP.mono (by decide) (c_M_at hT p2 p3 p4 p5 )) (fun r6 P7 g8 => mpp 9 rfl ?_)
  obtain ⟨⟨x9, rfl, g10⟩, e11⟩ := g8
  have e11 := e11.symm
  subst e11
  have wx9 := ti_full x9
  replace g10 : x9.toInt = 3 + 19 * t1.toInt + (2 : Int) := g10
  show MEvP _ none q_137 9 [(0, .ref 301), (1, .int t1), (2, .int 2)] [.int x9, .ref 302] _ _ _ _
  refine mt_ialX (n := 155) hT dX7_of_9 rl_302 (by decide) rfl rfl (by omega) (by omega) ssp_0 (fun g12 => mpp 10 rfl ?_)
  have we14 := ti_full (fv Po 302 x9.toInt.toNat)
  have e15 : (fv Po 302 x9.toInt.toNat).toInt = (fv Po 302 (5 + 19 * t1.toInt.toNat)).toInt := congrArg (fun k => (fv Po 302 k).toInt) (show x9.toInt.toNat = (5 + 19 * t1.toInt.toNat) by omega)
  have u16 : (fv Po 302 x9.toInt.toNat).toInt = (fv Po 302 (5 + 19 * t1.toInt.toNat)).toInt := by omega
  exact mp_iret ⟨⟨_, rfl, u16⟩, rfl⟩ dX7_of_10 (Or.inl rfl)

set_option maxHeartbeats 4000000 in
theorem c_M_isFolded {Po : mP} {t1 : Int32} (hT : Typ Po)  (hp0 : 0 ≤ t1.toInt) (hp1 : t1.toInt ≤ 7)  : EvP 3 145 [.ref 301, .int t1] Po (fun r P' => (∃ x : Int32, r = some (.int x) ∧ (0 ≤ x.toInt ∧ x.toInt ≤ 1 ∧ ((x.toInt = 1 ∧ (fv Po 302 (5 + 19 * t1.toInt.toNat)).toInt = 1) ∨ (x.toInt = 0 ∧ (fv Po 302 (5 + 19 * t1.toInt.toNat)).toInt ≠ 1)))) ∧ P' = Po) := by
  refine EvP.of qm_145 (Nat.le_of_ble_eq_true rfl) rfl ?_
  show MEvP _ none q_145 0 [(0, .ref 301), (1, .int t1)] [] _ 0 0 _
  have w_t1 := ti_full t1
  have g1 := ti_full (fv Po 302 (5 + 19 * t1.toInt.toNat))
  refine mp_a (a_aload_n dX7_isFolded_0 rfl) (mpp 1 rfl ?_)
  refine mp_a (a_iload_n dX7_isFolded_1 rfl) (mpp 2 rfl ?_)
  refine mp_a (a_iconst (v := 2) dX7_isFolded_2 rfl) (mpp 3 rfl ?_)
  have p2 : 0 ≤ t1.toInt := by omega
  have p3 : t1.toInt ≤ 7 := by omega
  have p4 : 0 ≤ (2 : Int) := by omega
  have p5 : (2 : Int) ≤ 18 := by omega
  refine mt_callv (i := 78) (q' := q_137) (As := [.int t1, .int 2]) (rest := []) hT dX7_isFolded_3 rfl qm_137 (by decide) rfl rl_301 (by decide) rfl (Nat.le_of_ble_eq_true rfl) rfl ⟨rfl, rfl⟩ ⟨Nat.le_of_ble_eq_true rfl, Nat.le_of_ble_eq_true rfl⟩ (EvP.mono (by decide) (c_M_of_c2 hT p2 p3 p4 p5 )) (fun r6 P7 g8 => mpp 6 rfl ?_)
  obtain ⟨⟨x9, rfl, g10⟩, e11⟩ := g8
  have e11 := e11.symm
  subst e11
  have wx9 := ti_full x9
  replace g10 : x9.toInt = (fv Po 302 (5 + 19 * t1.toInt.toNat)).toInt := g10
  show MEvP _ none q_145 6 [(0, .ref 301), (1, .int t1)] [.int x9] _ _ _ _
  refine mp_a (a_iconst (v := 1) dX7_isFolded_6 rfl) (mpp 7 rfl ?_)
  refine mp_Tb (t := 14) (j_icmp_ne dX7_isFolded_7) (by decide) (fun c12 => ?_) (fun c12 => mpp 10 rfl ?_)
  · have c12 : x9.toInt ≠ 1 := ti_ne c12
    refine mp_a (a_iconst (v := 0) dX7_isFolded_14 rfl) (mpp 15 rfl ?_)
    have u13 : 0 ≤ (0 : Int) ∧ (0 : Int) ≤ 1 ∧ (((0 : Int) = 1 ∧ (fv Po 302 (5 + 19 * t1.toInt.toNat)).toInt = 1) ∨ ((0 : Int) = 0 ∧ (fv Po 302 (5 + 19 * t1.toInt.toNat)).toInt ≠ 1)) := by omega
    exact mp_iret ⟨⟨_, rfl, u13⟩, rfl⟩ dX7_isFolded_15 (Or.inr ⟨rfl, by decide⟩)
  · have c12 : x9.toInt = 1 := ti_ne_n c12
    refine mp_a (a_iconst (v := 1) dX7_isFolded_10 rfl) (mpp 11 rfl ?_)
    refine mp_a (a_goto (t := 15) dX7_isFolded_11 (by decide)) ?_
    have u14 : 0 ≤ (1 : Int) ∧ (1 : Int) ≤ 1 ∧ (((1 : Int) = 1 ∧ (fv Po 302 (5 + 19 * t1.toInt.toNat)).toInt = 1) ∨ ((1 : Int) = 0 ∧ (fv Po 302 (5 + 19 * t1.toInt.toNat)).toInt ≠ 1)) := by omega
    exact mp_iret ⟨⟨_, rfl, u14⟩, rfl⟩ dX7_isFolded_15 (Or.inr ⟨rfl, by decide⟩)

set_option maxHeartbeats 4000000 in
theorem c_M_of_c1 {Po : mP} {t1 : Int32} (hT : Typ Po)  (hp0 : 0 ≤ t1.toInt) (hp1 : t1.toInt ≤ 7) (hp2 : 0 ≤ (1 : Int)) (hp3 : (1 : Int) ≤ 18)  : EvP 2 137 [.ref 301, .int t1, .int 1] Po (fun r P' => (∃ x : Int32, r = some (.int x) ∧ (x.toInt = (fv Po 302 (4 + 19 * t1.toInt.toNat)).toInt ∧ 0 ≤ x.toInt ∧ x.toInt ≤ 8)) ∧ P' = Po) := by
  refine EvP.of qm_137 (Nat.le_of_ble_eq_true rfl) rfl ?_
  show MEvP _ none q_137 0 [(0, .ref 301), (1, .int t1), (2, .int 1)] [] _ 0 0 _
  have w_t1 := ti_full t1
  try have g1 : (0 : Int) ≤ (fv Po 302 (4 + 19 * t1.toInt.toNat)).toInt ∧ (fv Po 302 (4 + 19 * t1.toInt.toNat)).toInt ≤ 8 := s4_rng hT (by omega)
  refine mp_a (a_aload_n dX7_of_0 rfl) (mpp 1 rfl ?_)
  refine mt_getU (i := 9) (k := 0) (A := 302) hT dX7_of_1 rfl rl_301 (by decide) rfl (by decide) rfl un_18 (mpp 4 rfl ?_)
  refine mp_a (a_iload_n dX7_of_4 rfl) (mpp 5 rfl ?_)
  refine mp_a (a_iload_n dX7_of_5 rfl) (mpp 6 rfl ?_)
  have p2 : 0 ≤ t1.toInt := by omega
  have p3 : t1.toInt ≤ 8 := by omega
  have p4 : 0 ≤ (1 : Int) := by omega
  have p5 : (1 : Int) ≤ 20 := by omega
  refine mp_calls (i := 74) (q' := q_135) (As := [.int t1, .int 1]) (rest := [.ref 302]) dX7_of_6 rfl qm_135 (by decide) rfl (Nat.le_of_ble_eq_true rfl) rfl ⟨rfl, rfl⟩ ⟨Nat.le_of_ble_eq_true rfl, Nat.le_of_ble_eq_true rfl⟩ (EvP.mono (by decide) (c_M_at hT p2 p3 p4 p5 )) (fun r6 P7 g8 => mpp 9 rfl ?_)
  obtain ⟨⟨x9, rfl, g10⟩, e11⟩ := g8
  have e11 := e11.symm
  subst e11
  have wx9 := ti_full x9
  replace g10 : x9.toInt = 3 + 19 * t1.toInt + (1 : Int) := g10
  show MEvP _ none q_137 9 [(0, .ref 301), (1, .int t1), (2, .int 1)] [.int x9, .ref 302] _ _ _ _
  refine mt_ialX (n := 155) hT dX7_of_9 rl_302 (by decide) rfl rfl (by omega) (by omega) ssp_0 (fun g12 => mpp 10 rfl ?_)
  have we14 := ti_full (fv Po 302 x9.toInt.toNat)
  have q15 := okS_get1 g12 (by omega) (by omega)
  have e16 : (fv Po 302 x9.toInt.toNat).toInt = (fv Po 302 (4 + 19 * t1.toInt.toNat)).toInt := congrArg (fun k => (fv Po 302 k).toInt) (show x9.toInt.toNat = (4 + 19 * t1.toInt.toNat) by omega)
  have u17 : (fv Po 302 x9.toInt.toNat).toInt = (fv Po 302 (4 + 19 * t1.toInt.toNat)).toInt ∧ 0 ≤ (fv Po 302 x9.toInt.toNat).toInt ∧ (fv Po 302 x9.toInt.toNat).toInt ≤ 8 := by omega
  exact mp_iret ⟨⟨_, rfl, u17⟩, rfl⟩ dX7_of_10 (Or.inl rfl)

set_option maxHeartbeats 4000000 in
theorem c_M_of_c0 {Po : mP} {t1 : Int32} (hT : Typ Po)  (hp0 : 0 ≤ t1.toInt) (hp1 : t1.toInt ≤ 7) (hp2 : 0 ≤ (0 : Int)) (hp3 : (0 : Int) ≤ 18)  : EvP 2 137 [.ref 301, .int t1, .int 0] Po (fun r P' => (∃ x : Int32, r = some (.int x) ∧ (x.toInt = (fv Po 302 (3 + 19 * t1.toInt.toNat)).toInt ∧ 0 ≤ x.toInt ∧ x.toInt ≤ 1)) ∧ P' = Po) := by
  refine EvP.of qm_137 (Nat.le_of_ble_eq_true rfl) rfl ?_
  show MEvP _ none q_137 0 [(0, .ref 301), (1, .int t1), (2, .int 0)] [] _ 0 0 _
  have w_t1 := ti_full t1
  try have g1 : (0 : Int) ≤ (fv Po 302 (3 + 19 * t1.toInt.toNat)).toInt ∧ (fv Po 302 (3 + 19 * t1.toInt.toNat)).toInt ≤ 1 := s3_rng hT (by omega)
  refine mp_a (a_aload_n dX7_of_0 rfl) (mpp 1 rfl ?_)
  refine mt_getU (i := 9) (k := 0) (A := 302) hT dX7_of_1 rfl rl_301 (by decide) rfl (by decide) rfl un_18 (mpp 4 rfl ?_)
  refine mp_a (a_iload_n dX7_of_4 rfl) (mpp 5 rfl ?_)
  refine mp_a (a_iload_n dX7_of_5 rfl) (mpp 6 rfl ?_)
  have p2 : 0 ≤ t1.toInt := by omega
  have p3 : t1.toInt ≤ 8 := by omega
  have p4 : 0 ≤ (0 : Int) := by omega
  have p5 : (0 : Int) ≤ 20 := by omega
  refine mp_calls (i := 74) (q' := q_135) (As := [.int t1, .int 0]) (rest := [.ref 302]) dX7_of_6 rfl qm_135 (by decide) rfl (Nat.le_of_ble_eq_true rfl) rfl ⟨rfl, rfl⟩ ⟨Nat.le_of_ble_eq_true rfl, Nat.le_of_ble_eq_true rfl⟩ (EvP.mono (by decide) (c_M_at hT p2 p3 p4 p5 )) (fun r6 P7 g8 => mpp 9 rfl ?_)
  obtain ⟨⟨x9, rfl, g10⟩, e11⟩ := g8
  have e11 := e11.symm
  subst e11
  have wx9 := ti_full x9
  replace g10 : x9.toInt = 3 + 19 * t1.toInt + (0 : Int) := g10
  show MEvP _ none q_137 9 [(0, .ref 301), (1, .int t1), (2, .int 0)] [.int x9, .ref 302] _ _ _ _
  refine mt_ialX (n := 155) hT dX7_of_9 rl_302 (by decide) rfl rfl (by omega) (by omega) ssp_0 (fun g12 => mpp 10 rfl ?_)
  have we14 := ti_full (fv Po 302 x9.toInt.toNat)
  have q15 := okS_get0 g12 (by omega) (by omega)
  have e16 : (fv Po 302 x9.toInt.toNat).toInt = (fv Po 302 (3 + 19 * t1.toInt.toNat)).toInt := congrArg (fun k => (fv Po 302 k).toInt) (show x9.toInt.toNat = (3 + 19 * t1.toInt.toNat) by omega)
  have u17 : (fv Po 302 x9.toInt.toNat).toInt = (fv Po 302 (3 + 19 * t1.toInt.toNat)).toInt ∧ 0 ≤ (fv Po 302 x9.toInt.toNat).toInt ∧ (fv Po 302 x9.toInt.toNat).toInt ≤ 1 := by omega
  exact mp_iret ⟨⟨_, rfl, u17⟩, rfl⟩ dX7_of_10 (Or.inl rfl)

set_option maxHeartbeats 4000000 in
theorem c_M_isCorner {Po : mP} {t1 : Int32} (hT : Typ Po)  (hp0 : 0 ≤ t1.toInt) (hp1 : t1.toInt ≤ 7)  : EvP 3 138 [.ref 301, .int t1] Po (fun r P' => (∃ x : Int32, r = some (.int x) ∧ (0 ≤ x.toInt ∧ x.toInt ≤ 1 ∧ ((x.toInt = 1 ∧ (fv Po 302 (3 + 19 * t1.toInt.toNat)).toInt = 1) ∨ (x.toInt = 0 ∧ (fv Po 302 (3 + 19 * t1.toInt.toNat)).toInt = 0)))) ∧ P' = Po) := by
  refine EvP.of qm_138 (Nat.le_of_ble_eq_true rfl) rfl ?_
  show MEvP _ none q_138 0 [(0, .ref 301), (1, .int t1)] [] _ 0 0 _
  have w_t1 := ti_full t1
  try have g1 : (0 : Int) ≤ (fv Po 302 (3 + 19 * t1.toInt.toNat)).toInt ∧ (fv Po 302 (3 + 19 * t1.toInt.toNat)).toInt ≤ 1 := s3_rng hT (by omega)
  refine mp_a (a_aload_n dX7_isCorner_0 rfl) (mpp 1 rfl ?_)
  refine mp_a (a_iload_n dX7_isCorner_1 rfl) (mpp 2 rfl ?_)
  refine mp_a (a_iconst (v := 0) dX7_isCorner_2 rfl) (mpp 3 rfl ?_)
  have p2 : 0 ≤ t1.toInt := by omega
  have p3 : t1.toInt ≤ 7 := by omega
  have p4 : 0 ≤ (0 : Int) := by omega
  have p5 : (0 : Int) ≤ 18 := by omega
  refine mt_callv (i := 78) (q' := q_137) (As := [.int t1, .int 0]) (rest := []) hT dX7_isCorner_3 rfl qm_137 (by decide) rfl rl_301 (by decide) rfl (Nat.le_of_ble_eq_true rfl) rfl ⟨rfl, rfl⟩ ⟨Nat.le_of_ble_eq_true rfl, Nat.le_of_ble_eq_true rfl⟩ (EvP.mono (by decide) (c_M_of_c0 hT p2 p3 p4 p5 )) (fun r6 P7 g8 => mpp 6 rfl ?_)
  obtain ⟨⟨x9, rfl, g10⟩, e11⟩ := g8
  have e11 := e11.symm
  subst e11
  have wx9 := ti_full x9
  replace g10 : x9.toInt = (fv Po 302 (3 + 19 * t1.toInt.toNat)).toInt ∧ 0 ≤ x9.toInt ∧ x9.toInt ≤ 1 := g10
  show MEvP _ none q_138 6 [(0, .ref 301), (1, .int t1)] [.int x9] _ _ _ _
  refine mp_a (a_iconst (v := 1) dX7_isCorner_6 rfl) (mpp 7 rfl ?_)
  refine mp_Tb (t := 14) (j_icmp_ne dX7_isCorner_7) (by decide) (fun c12 => ?_) (fun c12 => mpp 10 rfl ?_)
  · have c12 : x9.toInt ≠ 1 := ti_ne c12
    refine mp_a (a_iconst (v := 0) dX7_isCorner_14 rfl) (mpp 15 rfl ?_)
    have u13 : 0 ≤ (0 : Int) ∧ (0 : Int) ≤ 1 ∧ (((0 : Int) = 1 ∧ (fv Po 302 (3 + 19 * t1.toInt.toNat)).toInt = 1) ∨ ((0 : Int) = 0 ∧ (fv Po 302 (3 + 19 * t1.toInt.toNat)).toInt = 0)) := by omega
    exact mp_iret ⟨⟨_, rfl, u13⟩, rfl⟩ dX7_isCorner_15 (Or.inr ⟨rfl, by decide⟩)
  · have c12 : x9.toInt = 1 := ti_ne_n c12
    refine mp_a (a_iconst (v := 1) dX7_isCorner_10 rfl) (mpp 11 rfl ?_)
    refine mp_a (a_goto (t := 15) dX7_isCorner_11 (by decide)) ?_
    have u14 : 0 ≤ (1 : Int) ∧ (1 : Int) ≤ 1 ∧ (((1 : Int) = 1 ∧ (fv Po 302 (3 + 19 * t1.toInt.toNat)).toInt = 1) ∨ ((1 : Int) = 0 ∧ (fv Po 302 (3 + 19 * t1.toInt.toNat)).toInt = 0)) := by omega
    exact mp_iret ⟨⟨_, rfl, u14⟩, rfl⟩ dX7_isCorner_15 (Or.inr ⟨rfl, by decide⟩)

set_option maxHeartbeats 4000000 in
theorem c_M_of {Po : mP} {t1 : Int32} {t2 : Int32} (hT : Typ Po)  (hp0 : 0 ≤ t1.toInt) (hp1 : t1.toInt ≤ 7) (hp2 : 0 ≤ t2.toInt) (hp3 : t2.toInt ≤ 18)  : EvP 2 137 [.ref 301, .int t1, .int t2] Po (fun r P' => (∃ x : Int32, r = some (.int x) ∧ (x.toInt = (fv Po 302 (3 + 19 * t1.toInt.toNat + t2.toInt.toNat)).toInt)) ∧ P' = Po) := by
  refine EvP.of qm_137 (Nat.le_of_ble_eq_true rfl) rfl ?_
  show MEvP _ none q_137 0 [(0, .ref 301), (1, .int t1), (2, .int t2)] [] _ 0 0 _
  have w_t1 := ti_full t1
  have w_t2 := ti_full t2
  refine mp_a (a_aload_n dX7_of_0 rfl) (mpp 1 rfl ?_)
  refine mt_getU (i := 9) (k := 0) (A := 302) hT dX7_of_1 rfl rl_301 (by decide) rfl (by decide) rfl un_18 (mpp 4 rfl ?_)
  refine mp_a (a_iload_n dX7_of_4 rfl) (mpp 5 rfl ?_)
  refine mp_a (a_iload_n dX7_of_5 rfl) (mpp 6 rfl ?_)
  have p1 : 0 ≤ t1.toInt := by omega
  have p2 : t1.toInt ≤ 8 := by omega
  have p3 : 0 ≤ t2.toInt := by omega
  have p4 : t2.toInt ≤ 20 := by omega
  refine mp_calls (i := 74) (q' := q_135) (As := [.int t1, .int t2]) (rest := [.ref 302]) dX7_of_6 rfl qm_135 (by decide) rfl (Nat.le_of_ble_eq_true rfl) rfl ⟨rfl, rfl⟩ ⟨Nat.le_of_ble_eq_true rfl, Nat.le_of_ble_eq_true rfl⟩ (EvP.mono (by decide) (c_M_at hT p1 p2 p3 p4 )) (fun r5 P6 g7 => mpp 9 rfl ?_)
  obtain ⟨⟨x8, rfl, g9⟩, e10⟩ := g7
  have e10 := e10.symm
  subst e10
  have wx8 := ti_full x8
  replace g9 : x8.toInt = 3 + 19 * t1.toInt + t2.toInt := g9
  show MEvP _ none q_137 9 [(0, .ref 301), (1, .int t1), (2, .int t2)] [.int x8, .ref 302] _ _ _ _
  refine mt_ialX (n := 155) hT dX7_of_9 rl_302 (by decide) rfl rfl (by omega) (by omega) ssp_0 (fun g11 => mpp 10 rfl ?_)
  have we13 := ti_full (fv Po 302 x8.toInt.toNat)
  have e14 : (fv Po 302 x8.toInt.toNat).toInt = (fv Po 302 (3 + 19 * t1.toInt.toNat + t2.toInt.toNat)).toInt := congrArg (fun k => (fv Po 302 k).toInt) (show x8.toInt.toNat = (3 + 19 * t1.toInt.toNat + t2.toInt.toNat) by omega)
  have u15 : (fv Po 302 x8.toInt.toNat).toInt = (fv Po 302 (3 + 19 * t1.toInt.toNat + t2.toInt.toNat)).toInt := by omega
  exact mp_iret ⟨⟨_, rfl, u15⟩, rfl⟩ dX7_of_10 (Or.inl rfl)

set_option maxHeartbeats 4000000 in
theorem c_M_sizeOf {Po : mP} {t1 : Int32} {t2 : Int32} (hT : Typ Po)  (hp0 : 0 ≤ t1.toInt) (hp1 : t1.toInt ≤ 7) (hp2 : 0 ≤ t2.toInt) (hp3 : t2.toInt ≤ 7)  : EvP 3 152 [.ref 301, .int t1, .int t2] Po (fun r P' => (∃ x : Int32, r = some (.int x) ∧ (x.toInt = (fv Po 302 (6 + 19 * t1.toInt.toNat + t2.toInt.toNat)).toInt)) ∧ P' = Po) := by
  refine EvP.of qm_152 (Nat.le_of_ble_eq_true rfl) rfl ?_
  show MEvP _ none q_152 0 [(0, .ref 301), (1, .int t1), (2, .int t2)] [] _ 0 0 _
  have w_t1 := ti_full t1
  have w_t2 := ti_full t2
  refine mp_a (a_aload_n dX7_sizeOf_0 rfl) (mpp 1 rfl ?_)
  refine mp_a (a_iload_n dX7_sizeOf_1 rfl) (mpp 2 rfl ?_)
  refine mp_a (a_iconst (v := 3) dX7_sizeOf_2 rfl) (mpp 3 rfl ?_)
  refine mp_a (a_iload_n dX7_sizeOf_3 rfl) (mpp 4 rfl ?_)
  obtain ⟨z1, h2⟩ := ti_ex (3 + t2 : Int32)
  have wz1 := ti_full z1
  refine mp_t (s_iadd (v := z1) dX7_sizeOf_4 h2) (mpp 5 rfl ?_)
  try have e3 : z1.toInt = 3 + t2.toInt := ti_addz h2 rfl rfl (by omega) (by omega)
  have p4 : 0 ≤ t1.toInt := by omega
  have p5 : t1.toInt ≤ 7 := by omega
  have p6 : 0 ≤ z1.toInt := by omega
  have p7 : z1.toInt ≤ 18 := by omega
  refine mt_callv (i := 78) (q' := q_137) (As := [.int t1, .int z1]) (rest := []) hT dX7_sizeOf_5 rfl qm_137 (by decide) rfl rl_301 (by decide) rfl (Nat.le_of_ble_eq_true rfl) rfl ⟨rfl, rfl⟩ ⟨Nat.le_of_ble_eq_true rfl, Nat.le_of_ble_eq_true rfl⟩ (EvP.mono (by decide) (c_M_of hT p4 p5 p6 p7 )) (fun r8 P9 g10 => mpp 8 rfl ?_)
  obtain ⟨⟨x11, rfl, g12⟩, e13⟩ := g10
  have e13 := e13.symm
  subst e13
  have wx11 := ti_full x11
  replace g12 : x11.toInt = (fv Po 302 (3 + 19 * t1.toInt.toNat + z1.toInt.toNat)).toInt := g12
  show MEvP _ none q_152 8 [(0, .ref 301), (1, .int t1), (2, .int t2)] [.int x11] _ _ _ _
  have u14 : x11.toInt = (fv Po 302 (6 + 19 * t1.toInt.toNat + t2.toInt.toNat)).toInt := g12.trans (congrArg (fun k => (fv Po 302 k).toInt) (by omega))
  exact mp_iret ⟨⟨_, rfl, u14⟩, rfl⟩ dX7_sizeOf_8 (Or.inl rfl)

set_option maxHeartbeats 4000000 in
theorem c_M_placeOf_l5 {Po : mP} {t1 : Int32} {t2 : Int32} (hT : Typ Po)  (hp0 : 0 ≤ t1.toInt) (hp1 : t1.toInt ≤ 7) (hp2 : t2.toInt ≤ 8)  : ∀ (n : Nat) (v3 : Int32) (v4 : Int32), (v3 = plF (fun j : Nat => fv Po 302 (6 + 19 * t1.toInt.toNat + j)) v4.toInt.toNat) → (v4.toInt ≤ t2.toInt ∨ v4.toInt = 0) → (0 ≤ v4.toInt) → (2147483647 - v4.toInt).toNat = n → MEvP 3 none q_186 5 [(0, .ref 301), (1, .int t1), (2, .int t2), (3, .int v3), (4, .int v4)] [] Po 0 0 (fun r P' => (∃ x : Int32, r = some (.int x) ∧ (x.toInt = (plF (fun j : Nat => fv Po 302 (6 + 19 * t1.toInt.toNat + j)) t2.toInt.toNat).toInt)) ∧ P' = Po) := by
  intro n
  induction n using Nat.strongRecOn with | _ n ih => ?_
  intro v3 v4 i_0 i_1 i_2 hm
  have w_t1 := ti_full t1
  have w_t2 := ti_full t2
  have w_v3 := ti_full v3
  have w_v4 := ti_full v4
  refine mp_a (a_iload dX7_placeOf_5 rfl) (mpp 7 rfl ?_)
  refine mp_a (a_iload_n dX7_placeOf_7 rfl) (mpp 8 rfl ?_)
  refine mp_Tb (t := 45) (j_icmp_ge dX7_placeOf_8) (by decide) (fun c1 => ?_) (fun c1 => mpp 11 rfl ?_)
  · have c1 : v4.toInt ≥ t2.toInt := ti_ge c1
    refine mp_a (a_iload_n dX7_placeOf_45 rfl) (mpp 46 rfl ?_)
    have u2 : v3.toInt = (plF (fun j : Nat => fv Po 302 (6 + 19 * t1.toInt.toNat + j)) t2.toInt.toNat).toInt := congrArg Int32.toInt (i_0.trans (congrArg (plF _) (by omega)))
    exact mp_iret ⟨⟨_, rfl, u2⟩, rfl⟩ dX7_placeOf_46 (Or.inl rfl)
  · have c1 : v4.toInt < t2.toInt := ti_ge_n c1
    refine mp_a (a_iload_n dX7_placeOf_11 rfl) (mpp 12 rfl ?_)
    refine mp_a (a_iload dX7_placeOf_12 rfl) (mpp 14 rfl ?_)
    refine mp_a (a_iconst (v := 2) dX7_placeOf_14 rfl) (mpp 15 rfl ?_)
    obtain ⟨z3, h4⟩ := ti_ex (v4 - v4 / 2 * 2 : Int32)
    have wz3 := ti_full z3
    try have e6 : z3.toInt = v4.toInt % 2 := ti_remx h4 (show (0 : Int) ≤ v4.toInt by omega) (show (0 : Int) < 2 by omega)
    try have e5 : 0 ≤ z3.toInt ∧ z3.toInt < 2 := ti_rem h4 (show (0 : Int) ≤ v4.toInt by omega) (show (0 : Int) < 2 by omega)
    refine mp_t (s_irem (v := z3) dX7_placeOf_15 (by decide) h4) (mpp 16 rfl ?_)
    refine mp_Tb (t := 29) (j_if_ne dX7_placeOf_16) (by decide) (fun c7 => ?_) (fun c7 => mpp 19 rfl ?_)
    · have c7 : z3.toInt ≠ 0 := ti_ne c7
      refine mp_a (a_aload_n dX7_placeOf_29 rfl) (mpp 30 rfl ?_)
      refine mp_a (a_iload_n dX7_placeOf_30 rfl) (mpp 31 rfl ?_)
      refine mp_a (a_iload dX7_placeOf_31 rfl) (mpp 33 rfl ?_)
      have p8 : 0 ≤ t1.toInt := by omega
      have p9 : t1.toInt ≤ 7 := by omega
      have p10 : 0 ≤ v4.toInt := by omega
      have p11 : v4.toInt ≤ 7 := by omega
      refine mt_callv (i := 142) (q' := q_152) (As := [.int t1, .int v4]) (rest := [.int v3]) hT dX7_placeOf_33 rfl qm_152 (by decide) rfl rl_301 (by decide) rfl (Nat.le_of_ble_eq_true rfl) rfl ⟨rfl, rfl⟩ ⟨Nat.le_of_ble_eq_true rfl, Nat.le_of_ble_eq_true rfl⟩ (EvP.mono (by decide) (c_M_sizeOf hT p8 p9 p10 p11 )) (fun r12 P13 g14 => mpp 36 rfl ?_)
      obtain ⟨⟨x15, rfl, g16⟩, e17⟩ := g14
      have e17 := e17.symm
      subst e17
      have wx15 := ti_full x15
      replace g16 : x15.toInt = (fv Po 302 (6 + 19 * t1.toInt.toNat + v4.toInt.toNat)).toInt := g16
      show MEvP _ none q_186 36 [(0, .ref 301), (1, .int t1), (2, .int t2), (3, .int v3), (4, .int v4)] [.int x15, .int v3] _ _ _ _
      obtain ⟨z18, h19⟩ := ti_ex (-x15 : Int32)
      have wz18 := ti_full z18
      refine mp_t (s_ineg (v := z18) dX7_placeOf_36 h19) (mpp 37 rfl ?_)
      obtain ⟨z20, h21⟩ := ti_ex (v3 + z18 : Int32)
      have wz20 := ti_full z20
      refine mp_t (s_iadd (v := z20) dX7_placeOf_37 h21) (mpp 38 rfl ?_)
      try have e22 : z20.toInt = v3.toInt + z18.toInt := ti_addz h21 rfl rfl (by omega) (by omega)
      refine mp_a (a_istore_n (L' := [(3, .int z20), (0, .ref 301), (1, .int t1), (2, .int t2), (4, .int v4)]) dX7_placeOf_38 (by decide) rfl) (mpp 39 rfl ?_)
      obtain ⟨z23, h24⟩ := ti_ex (v4 + 1 : Int32)
      have wz23 := ti_full z23
      refine mp_a (a_iinc (v := z23) (L' := [(4, .int z23), (3, .int z20), (0, .ref 301), (1, .int t1), (2, .int t2)]) dX7_placeOf_39 (by decide) rfl h24 rfl) (mpp 42 rfl ?_)
      try have e25 : z23.toInt = v4.toInt + 1 := ti_addz h24 rfl rfl (by omega) (by omega)
      refine mp_a (a_goto (t := 5) dX7_placeOf_42 (by decide)) ?_
      refine MEvP.less (L := [(0, .ref 301), (1, .int t1), (2, .int t2), (3, .int z20), (4, .int z23)]) rfl rfl ⟨rfl, rfl, rfl, rfl, rfl, trivial⟩ ?_
      have i26 : z20 = plF (fun j : Nat => fv Po 302 (6 + 19 * t1.toInt.toNat + j)) z23.toInt.toNat := plF.odd i_0 (by omega) (by omega) (by show _ = (fv Po 302 (6 + 19 * t1.toInt.toNat + v4.toInt.toNat)).toInt; omega) h19 h21
      have i27 : z23.toInt ≤ t2.toInt ∨ z23.toInt = 0 := by omega
      have i28 : 0 ≤ z23.toInt := by omega
      exact ih _ (by omega) _ _ i26 i27 i28 rfl
    · have c7 : z3.toInt = 0 := ti_ne_n c7
      refine mp_a (a_aload_n dX7_placeOf_19 rfl) (mpp 20 rfl ?_)
      refine mp_a (a_iload_n dX7_placeOf_20 rfl) (mpp 21 rfl ?_)
      refine mp_a (a_iload dX7_placeOf_21 rfl) (mpp 23 rfl ?_)
      have p29 : 0 ≤ t1.toInt := by omega
      have p30 : t1.toInt ≤ 7 := by omega
      have p31 : 0 ≤ v4.toInt := by omega
      have p32 : v4.toInt ≤ 7 := by omega
      refine mt_callv (i := 142) (q' := q_152) (As := [.int t1, .int v4]) (rest := [.int v3]) hT dX7_placeOf_23 rfl qm_152 (by decide) rfl rl_301 (by decide) rfl (Nat.le_of_ble_eq_true rfl) rfl ⟨rfl, rfl⟩ ⟨Nat.le_of_ble_eq_true rfl, Nat.le_of_ble_eq_true rfl⟩ (EvP.mono (by decide) (c_M_sizeOf hT p29 p30 p31 p32 )) (fun r33 P34 g35 => mpp 26 rfl ?_)
      obtain ⟨⟨x36, rfl, g37⟩, e38⟩ := g35
      have e38 := e38.symm
      subst e38
      have wx36 := ti_full x36
      replace g37 : x36.toInt = (fv Po 302 (6 + 19 * t1.toInt.toNat + v4.toInt.toNat)).toInt := g37
      show MEvP _ none q_186 26 [(0, .ref 301), (1, .int t1), (2, .int t2), (3, .int v3), (4, .int v4)] [.int x36, .int v3] _ _ _ _
      refine mp_a (a_goto (t := 37) dX7_placeOf_26 (by decide)) ?_
      obtain ⟨z39, h40⟩ := ti_ex (v3 + x36 : Int32)
      have wz39 := ti_full z39
      refine mp_t (s_iadd (v := z39) dX7_placeOf_37 h40) (mpp 38 rfl ?_)
      try have e41 : z39.toInt = v3.toInt + x36.toInt := ti_addz h40 rfl rfl (by omega) (by omega)
      refine mp_a (a_istore_n (L' := [(3, .int z39), (0, .ref 301), (1, .int t1), (2, .int t2), (4, .int v4)]) dX7_placeOf_38 (by decide) rfl) (mpp 39 rfl ?_)
      obtain ⟨z42, h43⟩ := ti_ex (v4 + 1 : Int32)
      have wz42 := ti_full z42
      refine mp_a (a_iinc (v := z42) (L' := [(4, .int z42), (3, .int z39), (0, .ref 301), (1, .int t1), (2, .int t2)]) dX7_placeOf_39 (by decide) rfl h43 rfl) (mpp 42 rfl ?_)
      try have e44 : z42.toInt = v4.toInt + 1 := ti_addz h43 rfl rfl (by omega) (by omega)
      refine mp_a (a_goto (t := 5) dX7_placeOf_42 (by decide)) ?_
      refine MEvP.less (L := [(0, .ref 301), (1, .int t1), (2, .int t2), (3, .int z39), (4, .int z42)]) rfl rfl ⟨rfl, rfl, rfl, rfl, rfl, trivial⟩ ?_
      have i45 : z39 = plF (fun j : Nat => fv Po 302 (6 + 19 * t1.toInt.toNat + j)) z42.toInt.toNat := plF.even i_0 (by omega) (by omega) (by show _ = (fv Po 302 (6 + 19 * t1.toInt.toNat + v4.toInt.toNat)).toInt; omega) h40
      have i46 : z42.toInt ≤ t2.toInt ∨ z42.toInt = 0 := by omega
      have i47 : 0 ≤ z42.toInt := by omega
      exact ih _ (by omega) _ _ i45 i46 i47 rfl

set_option maxHeartbeats 4000000 in
theorem c_M_placeOf {Po : mP} {t1 : Int32} {t2 : Int32} (hT : Typ Po)  (hp0 : 0 ≤ t1.toInt) (hp1 : t1.toInt ≤ 7) (hp2 : t2.toInt ≤ 8)  : EvP 4 186 [.ref 301, .int t1, .int t2] Po (fun r P' => (∃ x : Int32, r = some (.int x) ∧ (x.toInt = (plF (fun j : Nat => fv Po 302 (6 + 19 * t1.toInt.toNat + j)) t2.toInt.toNat).toInt)) ∧ P' = Po) := by
  refine EvP.of qm_186 (Nat.le_of_ble_eq_true rfl) rfl ?_
  show MEvP _ none q_186 0 [(0, .ref 301), (1, .int t1), (2, .int t2)] [] _ 0 0 _
  have w_t1 := ti_full t1
  have w_t2 := ti_full t2
  refine mp_a (a_iconst (v := 0) dX7_placeOf_0 rfl) (mpp 1 rfl ?_)
  refine mp_a (a_istore_n (L' := [(3, .int 0), (0, .ref 301), (1, .int t1), (2, .int t2)]) dX7_placeOf_1 (by decide) rfl) (mpp 2 rfl ?_)
  refine mp_a (a_iconst (v := 0) dX7_placeOf_2 rfl) (mpp 3 rfl ?_)
  refine mp_a (a_istore (L' := [(4, .int 0), (3, .int 0), (0, .ref 301), (1, .int t1), (2, .int t2)]) dX7_placeOf_3 (by decide) rfl) (mpp 5 rfl ?_)
  refine MEvP.less (L := [(0, .ref 301), (1, .int t1), (2, .int t2), (3, .int 0), (4, .int 0)]) rfl rfl ⟨rfl, rfl, rfl, rfl, rfl, trivial⟩ ?_
  have i1 : 0 = plF (fun j : Nat => fv Po 302 (6 + 19 * t1.toInt.toNat + j)) (0 : Int).toNat := rfl
  have i2 : (0 : Int) ≤ t2.toInt ∨ (0 : Int) = 0 := by omega
  have i3 : 0 ≤ (0 : Int) := by omega
  exact c_M_placeOf_l5 hT  hp0 hp1 hp2 _ _ _ i1 i2 i3 rfl

