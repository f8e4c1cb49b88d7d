/-! methods on typed pools, 15 (written by a program) -/
set_option maxHeartbeats 4000000 in
theorem c_F_append {Po : mP} {t1 : Int32} (hT : Typ Po) (hX : XR Po)   : EvP 3 92 [.ref 0, .int t1] Po (fun r P' => (∃ x : Int32, r = some (.int x) ∧ ((x.toInt = -1002 ∧ (t1.toInt < 32 ∨ 126 < t1.toInt ∨ 80 ≤ (fv Po 289 1).toInt) ∧ (fv P' 289 1).toInt = (fv Po 289 1).toInt ∧ ∀ j : Nat, fv P' 290 j = fv Po 290 j) ∨ (x.toInt = (fv Po 289 1).toInt + 1 ∧ 32 ≤ t1.toInt ∧ t1.toInt ≤ 126 ∧ (fv Po 289 1).toInt < 80 ∧ (fv P' 289 1).toInt = (fv Po 289 1).toInt + 1 ∧ (fv P' 290 (fv Po 289 1).toInt.toNat).toInt = t1.toInt ∧ ∀ j : Nat, ¬ j = (fv Po 289 1).toInt.toNat → fv P' 290 j = fv Po 290 j))) ∧ Typ P' ∧ KW [513, 576] Po P' ∧ True) := by
  refine EvP.of qm_92 (Nat.le_of_ble_eq_true rfl) rfl ?_
  show MEvP _ none q_92 0 [(0, .ref 0), (1, .int t1)] [] _ 0 0 _
  have w_t1 := ti_full t1
  have g1 : (0 : Int) ≤ (fv Po 289 1).toInt ∧ (fv Po 289 1).toInt ≤ 80 := Typ.rng hT rl_289 (by decide) (by decide) rfl
  refine mp_a (a_iload_n dX6_append_0 rfl) (mpp 1 rfl ?_)
  refine mp_a (a_bipush (v := 32) dX6_append_1 rfl) (mpp 3 rfl ?_)
  refine mp_Tb (t := 24) (j_icmp_lt dX6_append_3) (by decide) (fun c2 => ?_) (fun c2 => mpp 6 rfl ?_)
  · have c2 : t1.toInt < 32 := ti_lt c2
    refine mp_a (a_sipush (v := -1002) dX6_append_24 rfl) (mpp 27 rfl ?_)
    have u3 : ((-1002 : Int) = -1002 ∧ (t1.toInt < 32 ∨ 126 < t1.toInt ∨ 80 ≤ (fv Po 289 1).toInt) ∧ (fv Po 289 1).toInt = (fv Po 289 1).toInt ∧ ∀ j : Nat, fv Po 290 j = fv Po 290 j) ∨ ((-1002 : Int) = (fv Po 289 1).toInt + 1 ∧ 32 ≤ t1.toInt ∧ t1.toInt ≤ 126 ∧ (fv Po 289 1).toInt < 80 ∧ (fv Po 289 1).toInt = (fv Po 289 1).toInt + 1 ∧ (fv Po 290 (fv Po 289 1).toInt.toNat).toInt = t1.toInt ∧ ∀ j : Nat, ¬ j = (fv Po 289 1).toInt.toNat → fv Po 290 j = fv Po 290 j) := Or.inl ⟨rfl, by omega, by omega, fun _ => rfl⟩
    exact mp_iret ⟨⟨_, rfl, u3⟩, hT, KW.refl, trivial⟩ dX6_append_27 (Or.inl rfl)
  · have c2 : t1.toInt ≥ 32 := ti_lt_n c2
    refine mp_a (a_iload_n dX6_append_6 rfl) (mpp 7 rfl ?_)
    refine mp_a (a_bipush (v := 126) dX6_append_7 rfl) (mpp 9 rfl ?_)
    refine mp_Tb (t := 24) (j_icmp_gt dX6_append_9) (by decide) (fun c4 => ?_) (fun c4 => mpp 12 rfl ?_)
    · have c4 : t1.toInt > 126 := ti_gt c4
      refine mp_a (a_sipush (v := -1002) dX6_append_24 rfl) (mpp 27 rfl ?_)
      have u5 : ((-1002 : Int) = -1002 ∧ (t1.toInt < 32 ∨ 126 < t1.toInt ∨ 80 ≤ (fv Po 289 1).toInt) ∧ (fv Po 289 1).toInt = (fv Po 289 1).toInt ∧ ∀ j : Nat, fv Po 290 j = fv Po 290 j) ∨ ((-1002 : Int) = (fv Po 289 1).toInt + 1 ∧ 32 ≤ t1.toInt ∧ t1.toInt ≤ 126 ∧ (fv Po 289 1).toInt < 80 ∧ (fv Po 289 1).toInt = (fv Po 289 1).toInt + 1 ∧ (fv Po 290 (fv Po 289 1).toInt.toNat).toInt = t1.toInt ∧ ∀ j : Nat, ¬ j = (fv Po 289 1).toInt.toNat → fv Po 290 j = fv Po 290 j) := Or.inl ⟨rfl, by omega, by omega, fun _ => rfl⟩
      exact mp_iret ⟨⟨_, rfl, u5⟩, hT, KW.refl, trivial⟩ dX6_append_27 (Or.inl rfl)
    · have c4 : t1.toInt ≤ 126 := ti_gt_n c4
      refine mp_a (a_aload_n dX6_append_12 rfl) (mpp 13 rfl ?_)
      refine mt_getU (i := 32) (k := 4) (A := 289) hT dX6_append_13 rfl rl_0 (by decide) rfl (by decide) rfl un_8 (mpp 16 rfl ?_)
      refine mt_getI (i := 216) (k := 1) hT dX6_append_16 rfl rl_289 (by decide) rfl (by decide) rfl (fun g6 g7 => mpp 19 rfl ?_)
      refine mp_a (a_bipush (v := 80) dX6_append_19 rfl) (mpp 21 rfl ?_)
      refine mp_Tb (t := 28) (j_icmp_lt dX6_append_21) (by decide) (fun c8 => ?_) (fun c8 => mpp 24 rfl ?_)
      · have c8 : (fv Po 289 1).toInt < 80 := ti_lt c8
        refine mp_a (a_aload_n dX6_append_28 rfl) (mpp 29 rfl ?_)
        refine mt_getU (i := 32) (k := 4) (A := 289) hT dX6_append_29 rfl rl_0 (by decide) rfl (by decide) rfl un_8 (mpp 32 rfl ?_)
        refine mp_a (a_iload_n dX6_append_32 rfl) (mpp 33 rfl ?_)
        have p9 : (fv Po 289 1).toInt ≤ 79 := by omega
        refine mt_callv (i := 219) (q' := q_93) (As := [.int t1]) (rest := []) hT dX6_append_33 rfl qm_93 (by decide) rfl rl_289 (by decide) rfl (Nat.le_of_ble_eq_true rfl) rfl ⟨rfl, rfl⟩ ⟨Nat.le_of_ble_eq_true rfl, Nat.le_of_ble_eq_true rfl⟩ (EvP.mono (by decide) (c_CS_write_Script hT hX p9 )) (fun r10 P11 g12 => mpp 36 rfl ?_)
        obtain ⟨⟨rfl, g14⟩, hT15, k16, R17⟩ := g12
        have k18 : KW [513, 576] Po P11 := KW.trans KW.refl k16 rfl
        replace g14 : (fv P11 289 1).toInt = (fv Po 289 1).toInt + 1 ∧ (fv P11 290 (fv Po 289 1).toInt.toNat).toInt = t1.toInt ∧ ∀ j : Nat, ¬ j = (fv Po 289 1).toInt.toNat → fv P11 290 j = fv Po 290 j := g14
        have g20 : (0 : Int) ≤ (fv P11 289 1).toInt ∧ (fv P11 289 1).toInt ≤ 80 := Typ.rng hT15 rl_289 (by decide) (by decide) rfl
        show MEvP _ none q_92 36 [(0, .ref 0), (1, .int t1)] [] _ _ _ _
        refine mp_a (a_aload_n dX6_append_36 rfl) (mpp 37 rfl ?_)
        refine mt_getU (i := 32) (k := 4) (A := 289) hT15 dX6_append_37 rfl rl_0 (by decide) rfl (by decide) rfl un_8 (mpp 40 rfl ?_)
        refine mt_getI (i := 216) (k := 1) hT15 dX6_append_40 rfl rl_289 (by decide) rfl (by decide) rfl (fun g21 g22 => mpp 43 rfl ?_)
        have u23 : ((fv P11 289 1).toInt = -1002 ∧ (t1.toInt < 32 ∨ 126 < t1.toInt ∨ 80 ≤ (fv Po 289 1).toInt) ∧ (fv P11 289 1).toInt = (fv Po 289 1).toInt ∧ ∀ j : Nat, fv P11 290 j = fv Po 290 j) ∨ ((fv P11 289 1).toInt = (fv Po 289 1).toInt + 1 ∧ 32 ≤ t1.toInt ∧ t1.toInt ≤ 126 ∧ (fv Po 289 1).toInt < 80 ∧ (fv P11 289 1).toInt = (fv Po 289 1).toInt + 1 ∧ (fv P11 290 (fv Po 289 1).toInt.toNat).toInt = t1.toInt ∧ ∀ j : Nat, ¬ j = (fv Po 289 1).toInt.toNat → fv P11 290 j = fv Po 290 j) := Or.inr ⟨by omega, by omega, by omega, by omega, by omega, g14.2.1, g14.2.2⟩
        exact mp_iret ⟨⟨_, rfl, u23⟩, hT15, k18, trivial⟩ dX6_append_43 (Or.inl rfl)
      · have c8 : (fv Po 289 1).toInt ≥ 80 := ti_lt_n c8
        refine mp_a (a_sipush (v := -1002) dX6_append_24 rfl) (mpp 27 rfl ?_)
        have u24 : ((-1002 : Int) = -1002 ∧ (t1.toInt < 32 ∨ 126 < t1.toInt ∨ 80 ≤ (fv Po 289 1).toInt) ∧ (fv Po 289 1).toInt = (fv Po 289 1).toInt ∧ ∀ j : Nat, fv Po 290 j = fv Po 290 j) ∨ ((-1002 : Int) = (fv Po 289 1).toInt + 1 ∧ 32 ≤ t1.toInt ∧ t1.toInt ≤ 126 ∧ (fv Po 289 1).toInt < 80 ∧ (fv Po 289 1).toInt = (fv Po 289 1).toInt + 1 ∧ (fv Po 290 (fv Po 289 1).toInt.toNat).toInt = t1.toInt ∧ ∀ j : Nat, ¬ j = (fv Po 289 1).toInt.toNat → fv Po 290 j = fv Po 290 j) := Or.inl ⟨rfl, by omega, by omega, fun _ => rfl⟩
        exact mp_iret ⟨⟨_, rfl, u24⟩, hT, KW.refl, trivial⟩ dX6_append_27 (Or.inl rfl)

set_option maxHeartbeats 4000000 in
theorem c_CS_rewind_Script {Po : mP}  (hT : Typ Po) (hX : XR Po)   : EvP 1 96 [.ref 289] Po (fun r P' => (r = none ∧ ((fv P' 289 2).toInt = 0)) ∧ Typ P' ∧ KW [514] Po P' ∧ fv P' 289 1 = fv Po 289 1 ∧ KI 289 290 Po P') := by
  refine EvP.of qm_96 (Nat.le_of_ble_eq_true rfl) rfl ?_
  show MEvP _ none q_96 0 [(0, .ref 289)] [] _ 0 0 _
  refine mp_a (a_aload_n dX4_rewind_0 rfl) (mpp 1 rfl ?_)
  refine mp_a (a_iconst (v := 0) dX4_rewind_1 rfl) (mpp 2 rfl ?_)
  refine mt_putI (i := 23) (k := 2) (x := 0) hT dX4_rewind_2 rfl rl_289 (by decide) rfl (by decide) rfl (by decide) rfl rfl (fun P1 hT2 f3 f4 f5 => mpp 5 rfl ?_)
  have k6 : KW [514] Po P1 := KW.step KW.refl rl_289 rfl f4 f5
  have e7 : (fv P1 289 2).toInt = 0 := congrArg Int32.toInt f3
  have u8 : (fv P1 289 2).toInt = 0 := by omega
  have u9 : fv P1 289 1 = fv Po 289 1 := by rw [f4 289 1 (by omega)]
  have u10 : KI 289 290 Po P1 := by
    intro x j hx
    rw [f4 x j (by omega)]
  exact mp_ret ⟨⟨rfl, u8⟩, hT2, k6, ⟨u9, u10⟩⟩ dX4_rewind_5 rfl

set_option maxHeartbeats 4000000 in
theorem c_F_at_codes {Po : mP} {t1 : Int32} (hT : Typ Po) (hX : XR Po)   : EvP 1 12 [.ref 290, .int t1] Po (fun r P' => (∃ x : Int32, r = some (.int x) ∧ ((0 ≤ t1.toInt ∧ t1.toInt ≤ 79 ∧ x.toInt = (fv Po 290 t1.toInt.toNat).toInt) ∨ ((t1.toInt < 0 ∨ 80 ≤ t1.toInt) ∧ x.toInt = 0))) ∧ P' = Po) := by
  refine EvP.of qm_12 (Nat.le_of_ble_eq_true rfl) rfl ?_
  show MEvP _ none q_12 0 [(0, .ref 290), (1, .int t1)] [] _ 0 0 _
  have w_t1 := ti_full t1
  refine mp_a (a_iload_n dX6_at_0 rfl) (mpp 1 rfl ?_)
  refine mp_Tb (t := 16) (j_if_lt dX6_at_1) (by decide) (fun c1 => ?_) (fun c1 => mpp 4 rfl ?_)
  · have c1 : t1.toInt < 0 := ti_lt c1
    refine mp_a (a_iconst (v := 0) dX6_at_16 rfl) (mpp 17 rfl ?_)
    have u2 : (0 ≤ t1.toInt ∧ t1.toInt ≤ 79 ∧ (0 : Int) = (fv Po 290 t1.toInt.toNat).toInt) ∨ ((t1.toInt < 0 ∨ 80 ≤ t1.toInt) ∧ (0 : Int) = 0) := by omega
    exact mp_iret ⟨⟨_, rfl, u2⟩, rfl⟩ dX6_at_17 (Or.inl rfl)
  · have c1 : t1.toInt ≥ 0 := ti_lt_n c1
    refine mp_a (a_iload_n dX6_at_4 rfl) (mpp 5 rfl ?_)
    refine mp_a (a_aload_n dX6_at_5 rfl) (mpp 6 rfl ?_)
    refine mt_len (n := 80) hT dX6_at_6 rl_290 (by decide) (by decide) rfl (mpp 7 rfl ?_)
    refine mp_Tb (t := 16) (j_icmp_ge dX6_at_7) (by decide) (fun c3 => ?_) (fun c3 => mpp 10 rfl ?_)
    · have c3 : t1.toInt ≥ 80 := ti_ge c3
      refine mp_a (a_iconst (v := 0) dX6_at_16 rfl) (mpp 17 rfl ?_)
      have u4 : (0 ≤ t1.toInt ∧ t1.toInt ≤ 79 ∧ (0 : Int) = (fv Po 290 t1.toInt.toNat).toInt) ∨ ((t1.toInt < 0 ∨ 80 ≤ t1.toInt) ∧ (0 : Int) = 0) := by omega
      exact mp_iret ⟨⟨_, rfl, u4⟩, rfl⟩ dX6_at_17 (Or.inl rfl)
    · have c3 : t1.toInt < 80 := ti_ge_n c3
      refine mp_a (a_aload_n dX6_at_10 rfl) (mpp 11 rfl ?_)
      refine mp_a (a_iload_n dX6_at_11 rfl) (mpp 12 rfl ?_)
      refine mt_ial (n := 80) hT dX6_at_12 rl_290 (by decide) rfl rfl (by omega) (by omega) rfl (fun g5 g6 => mpp 13 rfl ?_)
      refine mp_a (a_goto (t := 17) dX6_at_13 (by decide)) ?_
      have u7 : (0 ≤ t1.toInt ∧ t1.toInt ≤ 79 ∧ (fv Po 290 t1.toInt.toNat).toInt = (fv Po 290 t1.toInt.toNat).toInt) ∨ ((t1.toInt < 0 ∨ 80 ≤ t1.toInt) ∧ (fv Po 290 t1.toInt.toNat).toInt = 0) := by omega
      exact mp_iret ⟨⟨_, rfl, u7⟩, rfl⟩ dX6_at_17 (Or.inl rfl)

set_option maxHeartbeats 4000000 in
theorem c_CS_codeHere_Script {Po : mP}  (hT : Typ Po) (hX : XR Po)  (hp0 : 0 ≤ (fv Po 289 2).toInt)  : EvP 2 98 [.ref 289] Po (fun r P' => (∃ x : Int32, r = some (.int x) ∧ (x.toInt = (chC Po (fv Po 289 2).toInt).toInt ∨ (x.toInt = 0 ∧ (chC Po (fv Po 289 2).toInt).toInt = -1))) ∧ P' = Po) := by
  refine EvP.of qm_98 (Nat.le_of_ble_eq_true rfl) rfl ?_
  show MEvP _ none q_98 0 [(0, .ref 289)] [] _ 0 0 _
  have g1 := ti_full (fv Po 289 2)
  refine mp_a (a_aload_n dX4_codeHere_0 rfl) (mpp 1 rfl ?_)
  refine mt_getI (i := 23) (k := 2) hT dX4_codeHere_1 rfl rl_289 (by decide) rfl (by decide) rfl (fun g2 g3 => mpp 4 rfl ?_)
  refine mp_a (a_aload_n dX4_codeHere_4 rfl) (mpp 5 rfl ?_)
  have g4 : (0 : Int) ≤ (fv Po 289 1).toInt ∧ (fv Po 289 1).toInt ≤ 80 := Typ.rng hT rl_289 (by decide) (by decide) rfl
  refine mt_getI (i := 15) (k := 1) hT dX4_codeHere_5 rfl rl_289 (by decide) rfl (by decide) rfl (fun g5 g6 => mpp 8 rfl ?_)
  refine mp_Tb (t := 25) (j_icmp_ge dX4_codeHere_8) (by decide) (fun c7 => ?_) (fun c7 => mpp 11 rfl ?_)
  · have c7 : (fv Po 289 2).toInt ≥ (fv Po 289 1).toInt := ti_ge c7
    refine mp_a (a_iconst (v := 0) dX4_codeHere_25 rfl) (mpp 26 rfl ?_)
    have u8 : (0 : Int) = (chC Po (fv Po 289 2).toInt).toInt ∨ ((0 : Int) = 0 ∧ (chC Po (fv Po 289 2).toInt).toInt = -1) := Or.inr ⟨rfl, by rw [show chC Po (fv Po 289 2).toInt = -1 from ch_out (by omega)]; rfl⟩
    exact mp_iret ⟨⟨_, rfl, u8⟩, rfl⟩ dX4_codeHere_26 (Or.inl rfl)
  · have c7 : (fv Po 289 2).toInt < (fv Po 289 1).toInt := ti_ge_n c7
    refine mp_a (a_aload_n dX4_codeHere_11 rfl) (mpp 12 rfl ?_)
    refine mt_getU (i := 9) (k := 0) (A := 290) hT dX4_codeHere_12 rfl rl_289 (by decide) rfl (by decide) rfl un_9 (mpp 15 rfl ?_)
    refine mp_a (a_aload_n dX4_codeHere_15 rfl) (mpp 16 rfl ?_)
    refine mt_getI (i := 23) (k := 2) hT dX4_codeHere_16 rfl rl_289 (by decide) rfl (by decide) rfl (fun g9 g10 => mpp 19 rfl ?_)
    refine mp_calls (i := 59) (q' := q_12) (As := [.ref 290, .int (fv Po 289 2)]) (rest := []) dX4_codeHere_19 rfl qm_12 (by decide) rfl (Nat.le_of_ble_eq_true rfl) rfl ⟨rfl, rfl⟩ ⟨Nat.le_of_ble_eq_true rfl, Nat.le_of_ble_eq_true rfl⟩ (EvP.mono (by decide) (c_F_at_codes hT hX )) (fun r11 P12 g13 => mpp 22 rfl ?_)
    obtain ⟨⟨x14, rfl, g15⟩, e16⟩ := g13
    have e16 := e16.symm
    subst e16
    have wx14 := ti_full x14
    replace g15 : (0 ≤ (fv Po 289 2).toInt ∧ (fv Po 289 2).toInt ≤ 79 ∧ x14.toInt = (fv Po 290 (fv Po 289 2).toInt.toNat).toInt) ∨ (((fv Po 289 2).toInt < 0 ∨ 80 ≤ (fv Po 289 2).toInt) ∧ x14.toInt = 0) := g15
    try replace g15 : x14.toInt = (fv Po 290 (fv Po 289 2).toInt.toNat).toInt := (g15.resolve_right (by omega)).2.2
    show MEvP _ none q_98 22 [(0, .ref 289)] [.int x14] _ _ _ _
    refine mp_a (a_goto (t := 26) dX4_codeHere_22 (by decide)) ?_
    have u17 : x14.toInt = (chC Po (fv Po 289 2).toInt).toInt ∨ (x14.toInt = 0 ∧ (chC Po (fv Po 289 2).toInt).toInt = -1) := Or.inl (by rw [show chC Po (fv Po 289 2).toInt = fv Po 290 (fv Po 289 2).toInt.toNat from ch_in ⟨by omega, by omega⟩]; omega)
    exact mp_iret ⟨⟨_, rfl, u17⟩, rfl⟩ dX4_codeHere_26 (Or.inl rfl)

set_option maxHeartbeats 4000000 in
theorem c_CS_takeSizes_Script_l7 {Po : mP}  (hTo : Typ Po) (hX : XR Po) (hp0 : 0 ≤ (fv Po 289 2).toInt)  : ∀ (n : Nat) (v1 : Int32), ∀ (P : mP), Typ P → KW [514, 516] Po P → (∀ j : Nat, j < v1.toInt.toNat → D1 (chC Po ((fv Po 289 2).toInt + (j : Int))).toInt) → ((fv P 289 2).toInt = (fv Po 289 2).toInt + v1.toInt) → (fv P 289 4 = szI (chC Po) (fv Po 289 2).toInt v1.toInt.toNat) → (KI 289 290 Po P ∧ fv P 289 1 = fv Po 289 1 ∧ fv P 289 3 = fv Po 289 3) → (v1.toInt ≤ 8) → (0 ≤ (fv Po 289 2).toInt) → (0 ≤ v1.toInt) → (2147483647 - v1.toInt).toNat = n → MEvP 2 none q_99 7 [(0, .ref 289), (1, .int v1)] [] P 0 0 (fun r P' => (∃ x : Int32, r = some (.int x) ∧ (0 ≤ x.toInt ∧ x.toInt ≤ 1 ∧ (∃ k : Nat, RUN D1 (chC Po) (fv Po 289 2).toInt k ∧ (fv P' 289 2).toInt = (fv Po 289 2).toInt + (k : Int) ∧ fv P' 289 4 = szI (chC Po) (fv Po 289 2).toInt k ∧ ((x.toInt = 1 ∧ 1 ≤ k) ∨ (x.toInt = 0 ∧ k = 0))))) ∧ Typ P' ∧ KW [514, 516] Po P' ∧ fv P' 289 1 = fv Po 289 1 ∧ fv P' 289 3 = fv Po 289 3 ∧ KI 289 290 Po P') := by
  intro n
  induction n using Nat.strongRecOn with | _ n ih => ?_
  intro v1 P hT hK i_0 i_1 i_2 i_3 i_4 i_5 i_6 hm
  have w_v1 := ti_full v1
  have g1 := ti_full (fv P 289 2)
  have g2 := ti_full (fv P 289 2)
  refine mp_a (a_iload_n dX4_takeSizes_7 rfl) (mpp 8 rfl ?_)
  refine mp_a (a_bipush (v := 8) dX4_takeSizes_8 rfl) (mpp 10 rfl ?_)
  refine mp_Tb (t := 66) (j_icmp_ge dX4_takeSizes_10) (by decide) (fun c3 => ?_) (fun c3 => mpp 13 rfl ?_)
  · have c3 : v1.toInt ≥ 8 := ti_ge c3
    refine mp_a (a_aload_n dX4_takeSizes_66 rfl) (mpp 67 rfl ?_)
    have g4 := ti_full (fv P 289 4)
    refine mt_getI (i := 63) (k := 4) hT dX4_takeSizes_67 rfl rl_289 (by decide) rfl (by decide) rfl (fun g5 g6 => mpp 70 rfl ?_)
    refine mp_Tb (t := 77) (j_if_le dX4_takeSizes_70) (by decide) (fun c7 => ?_) (fun c7 => mpp 73 rfl ?_)
    · have c7 : (fv P 289 4).toInt ≤ 0 := ti_le c7
      refine mp_a (a_iconst (v := 0) dX4_takeSizes_77 rfl) (mpp 78 rfl ?_)
      have t10_ : chC P = chC Po := chC_eq (fun j => i_3.1 290 j (by omega)) i_3.2.1
      have t10_p : (fv P 289 2).toInt = (fv Po 289 2).toInt + ((v1.toInt.toNat : Nat) : Int) := by omega
      have w9_ : RUN D1 (chC Po) (fv Po 289 2).toInt v1.toInt.toNat := ⟨by omega, i_0, fun h8 => show ¬ (49 ≤ (chC Po ((fv Po 289 2).toInt + ((v1.toInt.toNat : Nat) : Int))).toInt ∧ (chC Po ((fv Po 289 2).toInt + ((v1.toInt.toNat : Nat) : Int))).toInt ≤ 57) from by omega⟩
      have w9_b := szI_bnd w9_.1 i_0
      rw [← i_2] at w9_b
      have u8 : 0 ≤ (0 : Int) ∧ (0 : Int) ≤ 1 ∧ (∃ k : Nat, RUN D1 (chC Po) (fv Po 289 2).toInt k ∧ (fv P 289 2).toInt = (fv Po 289 2).toInt + (k : Int) ∧ fv P 289 4 = szI (chC Po) (fv Po 289 2).toInt k ∧ (((0 : Int) = 1 ∧ 1 ≤ k) ∨ ((0 : Int) = 0 ∧ k = 0))) := ⟨by omega, by omega, _, w9_, by omega, i_2, Or.inr ⟨rfl, by rcases Nat.eq_zero_or_pos v1.toInt.toNat with e | e; exact e; have q := w9_b.2.2 e; omega⟩⟩
      have u11 : fv P 289 1 = fv Po 289 1 ∧ fv P 289 3 = fv Po 289 3 ∧ KI 289 290 Po P := ⟨i_3.2.1, i_3.2.2, i_3.1⟩
      exact mp_iret ⟨⟨_, rfl, u8⟩, hT, hK, u11⟩ dX4_takeSizes_78 (Or.inr ⟨rfl, by decide⟩)
    · have c7 : (fv P 289 4).toInt > 0 := ti_le_n c7
      refine mp_a (a_iconst (v := 1) dX4_takeSizes_73 rfl) (mpp 74 rfl ?_)
      refine mp_a (a_goto (t := 78) dX4_takeSizes_74 (by decide)) ?_
      have t14_ : chC P = chC Po := chC_eq (fun j => i_3.1 290 j (by omega)) i_3.2.1
      have t14_p : (fv P 289 2).toInt = (fv Po 289 2).toInt + ((v1.toInt.toNat : Nat) : Int) := by omega
      have w13_ : RUN D1 (chC Po) (fv Po 289 2).toInt v1.toInt.toNat := ⟨by omega, i_0, fun h8 => show ¬ (49 ≤ (chC Po ((fv Po 289 2).toInt + ((v1.toInt.toNat : Nat) : Int))).toInt ∧ (chC Po ((fv Po 289 2).toInt + ((v1.toInt.toNat : Nat) : Int))).toInt ≤ 57) from by omega⟩
      have w13_b := szI_bnd w13_.1 i_0
      rw [← i_2] at w13_b
      have u12 : 0 ≤ (1 : Int) ∧ (1 : Int) ≤ 1 ∧ (∃ k : Nat, RUN D1 (chC Po) (fv Po 289 2).toInt k ∧ (fv P 289 2).toInt = (fv Po 289 2).toInt + (k : Int) ∧ fv P 289 4 = szI (chC Po) (fv Po 289 2).toInt k ∧ (((1 : Int) = 1 ∧ 1 ≤ k) ∨ ((1 : Int) = 0 ∧ k = 0))) := ⟨by omega, by omega, _, w13_, by omega, i_2, Or.inl ⟨rfl, by rcases Nat.eq_zero_or_pos v1.toInt.toNat with e | e; rotate_left; exact e; have q := i_2; rw [e] at q; have q2 : (fv P 289 4).toInt = 0 := congrArg Int32.toInt q; omega⟩⟩
      have u15 : fv P 289 1 = fv Po 289 1 ∧ fv P 289 3 = fv Po 289 3 ∧ KI 289 290 Po P := ⟨i_3.2.1, i_3.2.2, i_3.1⟩
      exact mp_iret ⟨⟨_, rfl, u12⟩, hT, hK, u15⟩ dX4_takeSizes_78 (Or.inr ⟨rfl, by decide⟩)
  · have c3 : v1.toInt < 8 := ti_ge_n c3
    refine mp_a (a_aload_n dX4_takeSizes_13 rfl) (mpp 14 rfl ?_)
    have p16 : 0 ≤ (fv P 289 2).toInt := by omega
    refine mt_callv (i := 37) (q' := q_98) (As := []) (rest := []) hT dX4_takeSizes_14 rfl qm_98 (by decide) rfl rl_289 (by decide) rfl (Nat.le_of_ble_eq_true rfl) rfl ⟨rfl, rfl⟩ ⟨Nat.le_of_ble_eq_true rfl, Nat.le_of_ble_eq_true rfl⟩ (EvP.mono (by decide) (c_CS_codeHere_Script hT (KW.xr hK hX) p16 )) (fun r17 P18 g19 => mpp 17 rfl ?_)
    obtain ⟨⟨x20, rfl, g21⟩, e22⟩ := g19
    have e22 := e22.symm
    subst e22
    have wx20 := ti_full x20
    replace g21 : x20.toInt = (chC P (fv P 289 2).toInt).toInt ∨ (x20.toInt = 0 ∧ (chC P (fv P 289 2).toInt).toInt = -1) := g21
    show MEvP _ none q_99 17 [(0, .ref 289), (1, .int v1)] [.int x20] _ _ _ _
    refine mp_a (a_bipush (v := 49) dX4_takeSizes_17 rfl) (mpp 19 rfl ?_)
    refine mp_Tb (t := 66) (j_icmp_lt dX4_takeSizes_19) (by decide) (fun c23 => ?_) (fun c23 => mpp 22 rfl ?_)
    · have c23 : x20.toInt < 49 := ti_lt c23
      refine mp_a (a_aload_n dX4_takeSizes_66 rfl) (mpp 67 rfl ?_)
      have g24 := ti_full (fv P 289 4)
      refine mt_getI (i := 63) (k := 4) hT dX4_takeSizes_67 rfl rl_289 (by decide) rfl (by decide) rfl (fun g25 g26 => mpp 70 rfl ?_)
      refine mp_Tb (t := 77) (j_if_le dX4_takeSizes_70) (by decide) (fun c27 => ?_) (fun c27 => mpp 73 rfl ?_)
      · have c27 : (fv P 289 4).toInt ≤ 0 := ti_le c27
        refine mp_a (a_iconst (v := 0) dX4_takeSizes_77 rfl) (mpp 78 rfl ?_)
        have t30_ : chC P = chC Po := chC_eq (fun j => i_3.1 290 j (by omega)) i_3.2.1
        have t30_p : (fv P 289 2).toInt = (fv Po 289 2).toInt + ((v1.toInt.toNat : Nat) : Int) := by omega
        have t30_x20 := g21
        rw [t30_, t30_p] at t30_x20
        have w29_ : RUN D1 (chC Po) (fv Po 289 2).toInt v1.toInt.toNat := ⟨by omega, i_0, fun h8 => show ¬ (49 ≤ (chC Po ((fv Po 289 2).toInt + ((v1.toInt.toNat : Nat) : Int))).toInt ∧ (chC Po ((fv Po 289 2).toInt + ((v1.toInt.toNat : Nat) : Int))).toInt ≤ 57) from by omega⟩
        have w29_b := szI_bnd w29_.1 i_0
        rw [← i_2] at w29_b
        have u28 : 0 ≤ (0 : Int) ∧ (0 : Int) ≤ 1 ∧ (∃ k : Nat, RUN D1 (chC Po) (fv Po 289 2).toInt k ∧ (fv P 289 2).toInt = (fv Po 289 2).toInt + (k : Int) ∧ fv P 289 4 = szI (chC Po) (fv Po 289 2).toInt k ∧ (((0 : Int) = 1 ∧ 1 ≤ k) ∨ ((0 : Int) = 0 ∧ k = 0))) := ⟨by omega, by omega, _, w29_, by omega, i_2, Or.inr ⟨rfl, by rcases Nat.eq_zero_or_pos v1.toInt.toNat with e | e; exact e; have q := w29_b.2.2 e; omega⟩⟩
        have u31 : fv P 289 1 = fv Po 289 1 ∧ fv P 289 3 = fv Po 289 3 ∧ KI 289 290 Po P := ⟨i_3.2.1, i_3.2.2, i_3.1⟩
        exact mp_iret ⟨⟨_, rfl, u28⟩, hT, hK, u31⟩ dX4_takeSizes_78 (Or.inr ⟨rfl, by decide⟩)
      · have c27 : (fv P 289 4).toInt > 0 := ti_le_n c27
        refine mp_a (a_iconst (v := 1) dX4_takeSizes_73 rfl) (mpp 74 rfl ?_)
        refine mp_a (a_goto (t := 78) dX4_takeSizes_74 (by decide)) ?_
        have t34_ : chC P = chC Po := chC_eq (fun j => i_3.1 290 j (by omega)) i_3.2.1
        have t34_p : (fv P 289 2).toInt = (fv Po 289 2).toInt + ((v1.toInt.toNat : Nat) : Int) := by omega
        have t34_x20 := g21
        rw [t34_, t34_p] at t34_x20
        have w33_ : RUN D1 (chC Po) (fv Po 289 2).toInt v1.toInt.toNat := ⟨by omega, i_0, fun h8 => show ¬ (49 ≤ (chC Po ((fv Po 289 2).toInt + ((v1.toInt.toNat : Nat) : Int))).toInt ∧ (chC Po ((fv Po 289 2).toInt + ((v1.toInt.toNat : Nat) : Int))).toInt ≤ 57) from by omega⟩
        have w33_b := szI_bnd w33_.1 i_0
        rw [← i_2] at w33_b
        have u32 : 0 ≤ (1 : Int) ∧ (1 : Int) ≤ 1 ∧ (∃ k : Nat, RUN D1 (chC Po) (fv Po 289 2).toInt k ∧ (fv P 289 2).toInt = (fv Po 289 2).toInt + (k : Int) ∧ fv P 289 4 = szI (chC Po) (fv Po 289 2).toInt k ∧ (((1 : Int) = 1 ∧ 1 ≤ k) ∨ ((1 : Int) = 0 ∧ k = 0))) := ⟨by omega, by omega, _, w33_, by omega, i_2, Or.inl ⟨rfl, by rcases Nat.eq_zero_or_pos v1.toInt.toNat with e | e; rotate_left; exact e; have q := i_2; rw [e] at q; have q2 : (fv P 289 4).toInt = 0 := congrArg Int32.toInt q; omega⟩⟩
        have u35 : fv P 289 1 = fv Po 289 1 ∧ fv P 289 3 = fv Po 289 3 ∧ KI 289 290 Po P := ⟨i_3.2.1, i_3.2.2, i_3.1⟩
        exact mp_iret ⟨⟨_, rfl, u32⟩, hT, hK, u35⟩ dX4_takeSizes_78 (Or.inr ⟨rfl, by decide⟩)
    · have c23 : x20.toInt ≥ 49 := ti_lt_n c23
      refine mp_a (a_aload_n dX4_takeSizes_22 rfl) (mpp 23 rfl ?_)
      have p36 : 0 ≤ (fv P 289 2).toInt := by omega
      refine mt_callv (i := 37) (q' := q_98) (As := []) (rest := []) hT dX4_takeSizes_23 rfl qm_98 (by decide) rfl rl_289 (by decide) rfl (Nat.le_of_ble_eq_true rfl) rfl ⟨rfl, rfl⟩ ⟨Nat.le_of_ble_eq_true rfl, Nat.le_of_ble_eq_true rfl⟩ (EvP.mono (by decide) (c_CS_codeHere_Script hT (KW.xr hK hX) p36 )) (fun r37 P38 g39 => mpp 26 rfl ?_)
      obtain ⟨⟨x40, rfl, g41⟩, e42⟩ := g39
      have e42 := e42.symm
      subst e42
      have wx40 := ti_full x40
      replace g41 : x40.toInt = (chC P (fv P 289 2).toInt).toInt ∨ (x40.toInt = 0 ∧ (chC P (fv P 289 2).toInt).toInt = -1) := g41
      show MEvP _ none q_99 26 [(0, .ref 289), (1, .int v1)] [.int x40] _ _ _ _
      refine mp_a (a_bipush (v := 57) dX4_takeSizes_26 rfl) (mpp 28 rfl ?_)
      refine mp_Tb (t := 66) (j_icmp_gt dX4_takeSizes_28) (by decide) (fun c43 => ?_) (fun c43 => mpp 31 rfl ?_)
      · have c43 : x40.toInt > 57 := ti_gt c43
        refine mp_a (a_aload_n dX4_takeSizes_66 rfl) (mpp 67 rfl ?_)
        have g44 := ti_full (fv P 289 4)
        refine mt_getI (i := 63) (k := 4) hT dX4_takeSizes_67 rfl rl_289 (by decide) rfl (by decide) rfl (fun g45 g46 => mpp 70 rfl ?_)
        refine mp_Tb (t := 77) (j_if_le dX4_takeSizes_70) (by decide) (fun c47 => ?_) (fun c47 => mpp 73 rfl ?_)
        · have c47 : (fv P 289 4).toInt ≤ 0 := ti_le c47
          refine mp_a (a_iconst (v := 0) dX4_takeSizes_77 rfl) (mpp 78 rfl ?_)
          have t50_ : chC P = chC Po := chC_eq (fun j => i_3.1 290 j (by omega)) i_3.2.1
          have t50_p : (fv P 289 2).toInt = (fv Po 289 2).toInt + ((v1.toInt.toNat : Nat) : Int) := by omega
          have t50_x20 := g21
          rw [t50_, t50_p] at t50_x20
          have t50_x40 := g41
          rw [t50_, t50_p] at t50_x40
          have w49_ : RUN D1 (chC Po) (fv Po 289 2).toInt v1.toInt.toNat := ⟨by omega, i_0, fun h8 => show ¬ (49 ≤ (chC Po ((fv Po 289 2).toInt + ((v1.toInt.toNat : Nat) : Int))).toInt ∧ (chC Po ((fv Po 289 2).toInt + ((v1.toInt.toNat : Nat) : Int))).toInt ≤ 57) from by omega⟩
          have w49_b := szI_bnd w49_.1 i_0
          rw [← i_2] at w49_b
          have u48 : 0 ≤ (0 : Int) ∧ (0 : Int) ≤ 1 ∧ (∃ k : Nat, RUN D1 (chC Po) (fv Po 289 2).toInt k ∧ (fv P 289 2).toInt = (fv Po 289 2).toInt + (k : Int) ∧ fv P 289 4 = szI (chC Po) (fv Po 289 2).toInt k ∧ (((0 : Int) = 1 ∧ 1 ≤ k) ∨ ((0 : Int) = 0 ∧ k = 0))) := ⟨by omega, by omega, _, w49_, by omega, i_2, Or.inr ⟨rfl, by rcases Nat.eq_zero_or_pos v1.toInt.toNat with e | e; exact e; have q := w49_b.2.2 e; omega⟩⟩
          have u51 : fv P 289 1 = fv Po 289 1 ∧ fv P 289 3 = fv Po 289 3 ∧ KI 289 290 Po P := ⟨i_3.2.1, i_3.2.2, i_3.1⟩
          exact mp_iret ⟨⟨_, rfl, u48⟩, hT, hK, u51⟩ dX4_takeSizes_78 (Or.inr ⟨rfl, by decide⟩)
        · have c47 : (fv P 289 4).toInt > 0 := ti_le_n c47
          refine mp_a (a_iconst (v := 1) dX4_takeSizes_73 rfl) (mpp 74 rfl ?_)
          refine mp_a (a_goto (t := 78) dX4_takeSizes_74 (by decide)) ?_
          have t54_ : chC P = chC Po := chC_eq (fun j => i_3.1 290 j (by omega)) i_3.2.1
          have t54_p : (fv P 289 2).toInt = (fv Po 289 2).toInt + ((v1.toInt.toNat : Nat) : Int) := by omega
          have t54_x20 := g21
          rw [t54_, t54_p] at t54_x20
          have t54_x40 := g41
          rw [t54_, t54_p] at t54_x40
          have w53_ : RUN D1 (chC Po) (fv Po 289 2).toInt v1.toInt.toNat := ⟨by omega, i_0, fun h8 => show ¬ (49 ≤ (chC Po ((fv Po 289 2).toInt + ((v1.toInt.toNat : Nat) : Int))).toInt ∧ (chC Po ((fv Po 289 2).toInt + ((v1.toInt.toNat : Nat) : Int))).toInt ≤ 57) from by omega⟩
          have w53_b := szI_bnd w53_.1 i_0
          rw [← i_2] at w53_b
          have u52 : 0 ≤ (1 : Int) ∧ (1 : Int) ≤ 1 ∧ (∃ k : Nat, RUN D1 (chC Po) (fv Po 289 2).toInt k ∧ (fv P 289 2).toInt = (fv Po 289 2).toInt + (k : Int) ∧ fv P 289 4 = szI (chC Po) (fv Po 289 2).toInt k ∧ (((1 : Int) = 1 ∧ 1 ≤ k) ∨ ((1 : Int) = 0 ∧ k = 0))) := ⟨by omega, by omega, _, w53_, by omega, i_2, Or.inl ⟨rfl, by rcases Nat.eq_zero_or_pos v1.toInt.toNat with e | e; rotate_left; exact e; have q := i_2; rw [e] at q; have q2 : (fv P 289 4).toInt = 0 := congrArg Int32.toInt q; omega⟩⟩
          have u55 : fv P 289 1 = fv Po 289 1 ∧ fv P 289 3 = fv Po 289 3 ∧ KI 289 290 Po P := ⟨i_3.2.1, i_3.2.2, i_3.1⟩
          exact mp_iret ⟨⟨_, rfl, u52⟩, hT, hK, u55⟩ dX4_takeSizes_78 (Or.inr ⟨rfl, by decide⟩)
      · have c43 : x40.toInt ≤ 57 := ti_gt_n c43
        refine mp_a (a_aload_n dX4_takeSizes_31 rfl) (mpp 32 rfl ?_)
        refine mp_a (a_aload_n dX4_takeSizes_32 rfl) (mpp 33 rfl ?_)
        have g56 := ti_full (fv P 289 4)
        refine mt_getI (i := 63) (k := 4) hT dX4_takeSizes_33 rfl rl_289 (by decide) rfl (by decide) rfl (fun g57 g58 => mpp 36 rfl ?_)
        refine mp_a (a_bipush (v := 10) dX4_takeSizes_36 rfl) (mpp 38 rfl ?_)
        obtain ⟨z59, h60⟩ := ti_ex ((fv P 289 4) * 10 : Int32)
        have wz59 := ti_full z59
        refine mp_t (s_imul (v := z59) dX4_takeSizes_38 h60) (mpp 39 rfl ?_)
        try have e61 : z59.toInt = (fv P 289 4).toInt * 10 := ti_mulz h60 rfl rfl (by omega) (by omega)
        refine mp_a (a_aload_n dX4_takeSizes_39 rfl) (mpp 40 rfl ?_)
        have p62 : 0 ≤ (fv P 289 2).toInt := by omega
        refine mt_callv (i := 37) (q' := q_98) (As := []) (rest := [.int z59, .ref 289]) hT dX4_takeSizes_40 rfl qm_98 (by decide) rfl rl_289 (by decide) rfl (Nat.le_of_ble_eq_true rfl) rfl ⟨rfl, rfl⟩ ⟨Nat.le_of_ble_eq_true rfl, Nat.le_of_ble_eq_true rfl⟩ (EvP.mono (by decide) (c_CS_codeHere_Script hT (KW.xr hK hX) p62 )) (fun r63 P64 g65 => mpp 43 rfl ?_)
        obtain ⟨⟨x66, rfl, g67⟩, e68⟩ := g65
        have e68 := e68.symm
        subst e68
        have wx66 := ti_full x66
        replace g67 : x66.toInt = (chC P (fv P 289 2).toInt).toInt ∨ (x66.toInt = 0 ∧ (chC P (fv P 289 2).toInt).toInt = -1) := g67
        show MEvP _ none q_99 43 [(0, .ref 289), (1, .int v1)] [.int x66, .int z59, .ref 289] _ _ _ _
        obtain ⟨z69, h70⟩ := ti_ex (z59 + x66 : Int32)
        have wz69 := ti_full z69
        refine mp_t (s_iadd (v := z69) dX4_takeSizes_43 h70) (mpp 44 rfl ?_)
        try have e71 : z69.toInt = z59.toInt + x66.toInt := ti_addz h70 rfl rfl (by omega) (by omega)
        refine mp_a (a_bipush (v := 48) dX4_takeSizes_44 rfl) (mpp 46 rfl ?_)
        obtain ⟨z72, h73⟩ := ti_ex (z69 - 48 : Int32)
        have wz72 := ti_full z72
        refine mp_t (s_isub (v := z72) dX4_takeSizes_46 h73) (mpp 47 rfl ?_)
        try have e74 : z72.toInt = z69.toInt - 48 := ti_subz h73 rfl rfl (by omega) (by omega)
        refine mt_putI (i := 63) (k := 4) (x := z72) hT dX4_takeSizes_47 rfl rl_289 (by decide) rfl (by decide) rfl (ti_full z72) rfl rfl (fun P75 hT76 f77 f78 f79 => mpp 50 rfl ?_)
        have k80 : KW [514, 516] Po P75 := KW.step hK rl_289 rfl f78 f79
        have e81 : (fv P75 289 4).toInt = z72.toInt := congrArg Int32.toInt f77
        have t82_ : chC P = chC Po := chC_eq (fun j => i_3.1 290 j (by omega)) i_3.2.1
        have t82_p : (fv P 289 2).toInt = (fv Po 289 2).toInt + ((v1.toInt.toNat : Nat) : Int) := by omega
        have t82_x20 := g21
        rw [t82_, t82_p] at t82_x20
        have t82_x40 := g41
        rw [t82_, t82_p] at t82_x40
        have t82_x66 := g67
        rw [t82_, t82_p] at t82_x66
        have q83 : (0 : Int) ≤ (fv Po 289 1).toInt ∧ (fv Po 289 1).toInt ≤ 80 := by have q := i_3.2.1; have q2 : (0 : Int) ≤ (fv P 289 1).toInt ∧ (fv P 289 1).toInt ≤ 80 := Typ.rng hT rl_289 (by decide) (by decide) rfl; rw [q] at q2; exact q2
        have q84 := ch_lt (t := fun j => fv Po 290 j) (L := (fv Po 289 1).toInt) (i := (fv Po 289 2).toInt + ((v1.toInt.toNat : Nat) : Int)) (show ¬ (chC Po ((fv Po 289 2).toInt + ((v1.toInt.toNat : Nat) : Int))).toInt = -1 from by omega)
        refine mp_a (a_aload_n dX4_takeSizes_50 rfl) (mpp 51 rfl ?_)
        refine mp_t (s_dup dX4_takeSizes_51 rfl) (mpp 52 rfl ?_)
        have e85 : (fv P75 289 2).toInt = (fv P 289 2).toInt := congrArg Int32.toInt (f78 289 2 (ne_k rfl))
        refine mt_getI (i := 23) (k := 2) hT76 dX4_takeSizes_52 rfl rl_289 (by decide) rfl (by decide) rfl (fun g86 g87 => mpp 55 rfl ?_)
        refine mp_a (a_iconst (v := 1) dX4_takeSizes_55 rfl) (mpp 56 rfl ?_)
        obtain ⟨z88, h89⟩ := ti_ex ((fv P75 289 2) + 1 : Int32)
        have wz88 := ti_full z88
        refine mp_t (s_iadd (v := z88) dX4_takeSizes_56 h89) (mpp 57 rfl ?_)
        try have e90 : z88.toInt = (fv P75 289 2).toInt + 1 := ti_addz h89 rfl rfl (by omega) (by omega)
        refine mt_putI (i := 23) (k := 2) (x := z88) hT76 dX4_takeSizes_57 rfl rl_289 (by decide) rfl (by decide) rfl (ti_full z88) rfl rfl (fun P91 hT92 f93 f94 f95 => mpp 60 rfl ?_)
        have k96 : KW [514, 516] Po P91 := KW.step k80 rl_289 rfl f94 f95
        have e97 : (fv P91 289 2).toInt = z88.toInt := congrArg Int32.toInt f93
        obtain ⟨z98, h99⟩ := ti_ex (v1 + 1 : Int32)
        have wz98 := ti_full z98
        refine mp_a (a_iinc (v := z98) (L' := [(1, .int z98), (0, .ref 289)]) dX4_takeSizes_60 (by decide) rfl h99 rfl) (mpp 63 rfl ?_)
        try have e100 : z98.toInt = v1.toInt + 1 := ti_addz h99 rfl rfl (by omega) (by omega)
        refine mp_a (a_goto (t := 7) dX4_takeSizes_63 (by decide)) ?_
        refine MEvP.less (L := [(0, .ref 289), (1, .int z98)]) rfl rfl ⟨rfl, rfl, trivial⟩ ?_
        have t102_ : chC P = chC Po := chC_eq (fun j => i_3.1 290 j (by omega)) i_3.2.1
        have t102_p : (fv P 289 2).toInt = (fv Po 289 2).toInt + ((v1.toInt.toNat : Nat) : Int) := by omega
        have t102_x20 := g21
        rw [t102_, t102_p] at t102_x20
        have t102_x40 := g41
        rw [t102_, t102_p] at t102_x40
        have t102_x66 := g67
        rw [t102_, t102_p] at t102_x66
        have i101 : ∀ j : Nat, j < z98.toInt.toNat → D1 (chC Po ((fv Po 289 2).toInt + (j : Int))).toInt := RUN.grow i_0 rfl (show D1 (chC Po ((fv Po 289 2).toInt + ((v1.toInt.toNat : Nat) : Int))).toInt from ⟨by omega, by omega⟩) (by omega)
        have i103 : (fv P91 289 2).toInt = (fv Po 289 2).toInt + z98.toInt := by omega
        have i104 : fv P91 289 4 = szI (chC Po) (fv Po 289 2).toInt z98.toInt.toNat := by rw [f94 289 4 (by omega), f77]; exact szI.step i_2 (by omega) rfl (show x66.toInt = (chC Po ((fv Po 289 2).toInt + ((v1.toInt.toNat : Nat) : Int))).toInt from by omega) h60 h70 h73
        have i105 : KI 289 290 Po P91 ∧ fv P91 289 1 = fv Po 289 1 ∧ fv P91 289 3 = fv Po 289 3 := ⟨fun x j hx => by rw [f94 x j (by omega), f78 x j (by omega)]; exact i_3.1 x j hx, by rw [f94 289 1 (by omega), f78 289 1 (by omega)]; exact i_3.2.1, by rw [f94 289 3 (by omega), f78 289 3 (by omega)]; exact i_3.2.2⟩
        have i106 : z98.toInt ≤ 8 := by omega
        have i107 : 0 ≤ (fv Po 289 2).toInt := by omega
        have i108 : 0 ≤ z98.toInt := by omega
        exact ih _ (by omega) _ P91 hT92 k96 i101 i103 i104 i105 i106 i107 i108 rfl

set_option maxHeartbeats 4000000 in
theorem c_CS_takeSizes_Script {Po : mP}  (hT : Typ Po) (hX : XR Po)  (hp0 : 0 ≤ (fv Po 289 2).toInt)  : EvP 3 99 [.ref 289] Po (fun r P' => (∃ x : Int32, r = some (.int x) ∧ (0 ≤ x.toInt ∧ x.toInt ≤ 1 ∧ (∃ k : Nat, RUN D1 (chC Po) (fv Po 289 2).toInt k ∧ (fv P' 289 2).toInt = (fv Po 289 2).toInt + (k : Int) ∧ fv P' 289 4 = szI (chC Po) (fv Po 289 2).toInt k ∧ ((x.toInt = 1 ∧ 1 ≤ k) ∨ (x.toInt = 0 ∧ k = 0))))) ∧ Typ P' ∧ KW [514, 516] Po P' ∧ fv P' 289 1 = fv Po 289 1 ∧ fv P' 289 3 = fv Po 289 3 ∧ KI 289 290 Po P') := by
  refine EvP.of qm_99 (Nat.le_of_ble_eq_true rfl) rfl ?_
  show MEvP _ none q_99 0 [(0, .ref 289)] [] _ 0 0 _
  have g1 := ti_full (fv Po 289 2)
  refine mp_a (a_aload_n dX4_takeSizes_0 rfl) (mpp 1 rfl ?_)
  refine mp_a (a_iconst (v := 0) dX4_takeSizes_1 rfl) (mpp 2 rfl ?_)
  refine mt_putI (i := 63) (k := 4) (x := 0) hT dX4_takeSizes_2 rfl rl_289 (by decide) rfl (by decide) rfl (by decide) rfl rfl (fun P2 hT3 f4 f5 f6 => mpp 5 rfl ?_)
  have k7 : KW [514, 516] Po P2 := KW.step KW.refl rl_289 rfl f5 f6
  have e8 : (fv P2 289 4).toInt = 0 := congrArg Int32.toInt f4
  refine mp_a (a_iconst (v := 0) dX4_takeSizes_5 rfl) (mpp 6 rfl ?_)
  refine mp_a (a_istore_n (L' := [(1, .int 0), (0, .ref 289)]) dX4_takeSizes_6 (by decide) rfl) (mpp 7 rfl ?_)
  refine MEvP.less (L := [(0, .ref 289), (1, .int 0)]) rfl rfl ⟨rfl, rfl, trivial⟩ ?_
  have i9 : ∀ j : Nat, j < (0 : Int).toNat → D1 (chC Po ((fv Po 289 2).toInt + (j : Int))).toInt := fun j hj => absurd hj (Nat.not_lt_zero j)
  have e10 : (fv P2 289 2).toInt = (fv Po 289 2).toInt := congrArg Int32.toInt (f5 289 2 (ne_k rfl))
  have i11 : (fv P2 289 2).toInt = (fv Po 289 2).toInt + (0 : Int) := by omega
  have i12 : fv P2 289 4 = szI (chC Po) (fv Po 289 2).toInt (0 : Int).toNat := f4
  have i13 : KI 289 290 Po P2 ∧ fv P2 289 1 = fv Po 289 1 ∧ fv P2 289 3 = fv Po 289 3 := ⟨fun x j hx => by rw [f5 x j (by omega)], by rw [f5 289 1 (by omega)], by rw [f5 289 3 (by omega)]⟩
  have i14 : (0 : Int) ≤ 8 := by omega
  have i15 : 0 ≤ (fv Po 289 2).toInt := by omega
  have i16 : 0 ≤ (0 : Int) := by omega
  exact c_CS_takeSizes_Script_l7 hT hX  hp0 _ _ P2 hT3 k7 i9 i11 i12 i13 i14 i15 i16 rfl

set_option maxHeartbeats 4000000 in
theorem c_CS_takeSign_Script {Po : mP} {t1 : Int32} (hT : Typ Po) (hX : XR Po)  (hp0 : 0 ≤ (fv Po 289 2).toInt) (hp1 : 1 ≤ t1.toInt)  : EvP 3 100 [.ref 289, .int t1] Po (fun r P' => (∃ x : Int32, r = some (.int x) ∧ (0 ≤ x.toInt ∧ x.toInt ≤ 1 ∧ ((x.toInt = 1 ∧ (chC Po (fv Po 289 2).toInt).toInt = t1.toInt ∧ (fv P' 289 2).toInt = (fv Po 289 2).toInt + 1) ∨ (x.toInt = 0 ∧ ¬ (chC Po (fv Po 289 2).toInt).toInt = t1.toInt ∧ (fv P' 289 2).toInt = (fv Po 289 2).toInt)))) ∧ Typ P' ∧ KW [514] Po P' ∧ fv P' 289 1 = fv Po 289 1 ∧ fv P' 289 3 = fv Po 289 3 ∧ fv P' 289 4 = fv Po 289 4 ∧ fv P' 289 5 = fv Po 289 5 ∧ fv P' 289 6 = fv Po 289 6 ∧ fv P' 289 7 = fv Po 289 7 ∧ KI 289 290 Po P') := by
  refine EvP.of qm_100 (Nat.le_of_ble_eq_true rfl) rfl ?_
  show MEvP _ none q_100 0 [(0, .ref 289), (1, .int t1)] [] _ 0 0 _
  have w_t1 := ti_full t1
  have g1 := ti_full (fv Po 289 2)
  refine mp_a (a_aload_n dX4_takeSign_0 rfl) (mpp 1 rfl ?_)
  have p2 : 0 ≤ (fv Po 289 2).toInt := by omega
  refine mt_callv (i := 37) (q' := q_98) (As := []) (rest := []) hT dX4_takeSign_1 rfl qm_98 (by decide) rfl rl_289 (by decide) rfl (Nat.le_of_ble_eq_true rfl) rfl ⟨rfl, rfl⟩ ⟨Nat.le_of_ble_eq_true rfl, Nat.le_of_ble_eq_true rfl⟩ (EvP.mono (by decide) (c_CS_codeHere_Script hT hX p2 )) (fun r3 P4 g5 => mpp 4 rfl ?_)
  obtain ⟨⟨x6, rfl, g7⟩, e8⟩ := g5
  have e8 := e8.symm
  subst e8
  have wx6 := ti_full x6
  replace g7 : x6.toInt = (chC Po (fv Po 289 2).toInt).toInt ∨ (x6.toInt = 0 ∧ (chC Po (fv Po 289 2).toInt).toInt = -1) := g7
  show MEvP _ none q_100 4 [(0, .ref 289), (1, .int t1)] [.int x6] _ _ _ _
  refine mp_a (a_iload_n dX4_takeSign_4 rfl) (mpp 5 rfl ?_)
  refine mp_Tb (t := 10) (j_icmp_eq dX4_takeSign_5) (by decide) (fun c9 => ?_) (fun c9 => mpp 8 rfl ?_)
  · have c9 : x6.toInt = t1.toInt := ti_eq c9
    have q10 : (0 : Int) ≤ (fv Po 289 1).toInt ∧ (fv Po 289 1).toInt ≤ 80 := Typ.rng hT rl_289 (by decide) (by decide) rfl
    have q11 := ch_lt (t := fun j => fv Po 290 j) (L := (fv Po 289 1).toInt) (i := (fv Po 289 2).toInt) (show ¬ (chC Po (fv Po 289 2).toInt).toInt = -1 from by omega)
    refine mp_a (a_aload_n dX4_takeSign_10 rfl) (mpp 11 rfl ?_)
    refine mp_t (s_dup dX4_takeSign_11 rfl) (mpp 12 rfl ?_)
    refine mt_getI (i := 23) (k := 2) hT dX4_takeSign_12 rfl rl_289 (by decide) rfl (by decide) rfl (fun g12 g13 => mpp 15 rfl ?_)
    refine mp_a (a_iconst (v := 1) dX4_takeSign_15 rfl) (mpp 16 rfl ?_)
    obtain ⟨z14, h15⟩ := ti_ex ((fv Po 289 2) + 1 : Int32)
    have wz14 := ti_full z14
    refine mp_t (s_iadd (v := z14) dX4_takeSign_16 h15) (mpp 17 rfl ?_)
    try have e16 : z14.toInt = (fv Po 289 2).toInt + 1 := ti_addz h15 rfl rfl (by omega) (by omega)
    refine mt_putI (i := 23) (k := 2) (x := z14) hT dX4_takeSign_17 rfl rl_289 (by decide) rfl (by decide) rfl (ti_full z14) rfl rfl (fun P17 hT18 f19 f20 f21 => mpp 20 rfl ?_)
    have k22 : KW [514] Po P17 := KW.step KW.refl rl_289 rfl f20 f21
    have e23 : (fv P17 289 2).toInt = z14.toInt := congrArg Int32.toInt f19
    refine mp_a (a_iconst (v := 1) dX4_takeSign_20 rfl) (mpp 21 rfl ?_)
    have u24 : 0 ≤ (1 : Int) ∧ (1 : Int) ≤ 1 ∧ (((1 : Int) = 1 ∧ (chC Po (fv Po 289 2).toInt).toInt = t1.toInt ∧ (fv P17 289 2).toInt = (fv Po 289 2).toInt + 1) ∨ ((1 : Int) = 0 ∧ ¬ (chC Po (fv Po 289 2).toInt).toInt = t1.toInt ∧ (fv P17 289 2).toInt = (fv Po 289 2).toInt)) := by omega
    have u25 : fv P17 289 1 = fv Po 289 1 := by rw [f20 289 1 (by omega)]
    have u26 : fv P17 289 3 = fv Po 289 3 := by rw [f20 289 3 (by omega)]
    have u27 : fv P17 289 4 = fv Po 289 4 := by rw [f20 289 4 (by omega)]
    have u28 : fv P17 289 5 = fv Po 289 5 := by rw [f20 289 5 (by omega)]
    have u29 : fv P17 289 6 = fv Po 289 6 := by rw [f20 289 6 (by omega)]
    have u30 : fv P17 289 7 = fv Po 289 7 := by rw [f20 289 7 (by omega)]
    have u31 : KI 289 290 Po P17 := by
      intro x j hx
      rw [f20 x j (by omega)]
    exact mp_iret ⟨⟨_, rfl, u24⟩, hT18, k22, ⟨u25, u26, u27, u28, u29, u30, u31⟩⟩ dX4_takeSign_21 (Or.inr ⟨rfl, by decide⟩)
  · have c9 : x6.toInt ≠ t1.toInt := ti_eq_n c9
    refine mp_a (a_iconst (v := 0) dX4_takeSign_8 rfl) (mpp 9 rfl ?_)
    have u32 : 0 ≤ (0 : Int) ∧ (0 : Int) ≤ 1 ∧ (((0 : Int) = 1 ∧ (chC Po (fv Po 289 2).toInt).toInt = t1.toInt ∧ (fv Po 289 2).toInt = (fv Po 289 2).toInt + 1) ∨ ((0 : Int) = 0 ∧ ¬ (chC Po (fv Po 289 2).toInt).toInt = t1.toInt ∧ (fv Po 289 2).toInt = (fv Po 289 2).toInt)) := by omega
    have u33 : fv Po 289 1 = fv Po 289 1 := by rw []
    have u34 : fv Po 289 3 = fv Po 289 3 := by rw []
    have u35 : fv Po 289 4 = fv Po 289 4 := by rw []
    have u36 : fv Po 289 5 = fv Po 289 5 := by rw []
    have u37 : fv Po 289 6 = fv Po 289 6 := by rw []
    have u38 : fv Po 289 7 = fv Po 289 7 := by rw []
    have u39 : KI 289 290 Po Po := fun _ _ _ => rfl
    exact mp_iret ⟨⟨_, rfl, u32⟩, hT, KW.refl, ⟨u33, u34, u35, u36, u37, u38, u39⟩⟩ dX4_takeSign_9 (Or.inr ⟨rfl, by decide⟩)

