/-! methods on typed pools, 15 (written by a program) -/
set_option maxHeartbeats 4000000 in
theorem c_F_append {Po : mP} {t1 : Int32} (hT : Typ Po) (hX : XR Po)   : EvP 3 92 [.ref 0, .int t1] Po (fun r P' => (∃ x : Int32, r = some (.int x) ∧ ((x.toInt = -1002 ∧ (t1.toInt < 32 ∨ 126 < t1.toInt ∨ 80 ≤ (fv Po 289 1).toInt) ∧ (fv P' 289 1).toInt = (fv Po 289 1).toInt) ∨ (x.toInt = (fv Po 289 1).toInt + 1 ∧ 32 ≤ t1.toInt ∧ t1.toInt ≤ 126 ∧ (fv Po 289 1).toInt < 80 ∧ (fv P' 289 1).toInt = (fv Po 289 1).toInt + 1))) ∧ Typ P' ∧ KW [513, 576] Po P' ∧ True) := by
  refine EvP.of qm_92 (Nat.le_of_ble_eq_true rfl) rfl ?_
  show MEvP _ none q_92 0 [(0, .ref 0), (1, .int t1)] [] _ 0 0 _
  have w_t1 := ti_full t1
  have g1 : (0 : Int) ≤ (fv Po 289 1).toInt ∧ (fv Po 289 1).toInt ≤ 80 := Typ.rng hT rl_289 (by decide) (by decide) rfl
  refine mp_a (a_iload_n dX6_append_0 rfl) (mpp 1 rfl ?_)
  refine mp_a (a_bipush (v := 32) dX6_append_1 rfl) (mpp 3 rfl ?_)
  refine mp_Tb (t := 24) (j_icmp_lt dX6_append_3) (by decide) (fun c2 => ?_) (fun c2 => mpp 6 rfl ?_)
  · have c2 : t1.toInt < 32 := ti_lt c2
    refine mp_a (a_sipush (v := -1002) dX6_append_24 rfl) (mpp 27 rfl ?_)
    have u3 : ((-1002 : Int) = -1002 ∧ (t1.toInt < 32 ∨ 126 < t1.toInt ∨ 80 ≤ (fv Po 289 1).toInt) ∧ (fv Po 289 1).toInt = (fv Po 289 1).toInt) ∨ ((-1002 : Int) = (fv Po 289 1).toInt + 1 ∧ 32 ≤ t1.toInt ∧ t1.toInt ≤ 126 ∧ (fv Po 289 1).toInt < 80 ∧ (fv Po 289 1).toInt = (fv Po 289 1).toInt + 1) := by omega
    exact mp_iret ⟨⟨_, rfl, u3⟩, hT, KW.refl, trivial⟩ dX6_append_27 (Or.inl rfl)
  · have c2 : t1.toInt ≥ 32 := ti_lt_n c2
    refine mp_a (a_iload_n dX6_append_6 rfl) (mpp 7 rfl ?_)
    refine mp_a (a_bipush (v := 126) dX6_append_7 rfl) (mpp 9 rfl ?_)
    refine mp_Tb (t := 24) (j_icmp_gt dX6_append_9) (by decide) (fun c4 => ?_) (fun c4 => mpp 12 rfl ?_)
    · have c4 : t1.toInt > 126 := ti_gt c4
      refine mp_a (a_sipush (v := -1002) dX6_append_24 rfl) (mpp 27 rfl ?_)
      have u5 : ((-1002 : Int) = -1002 ∧ (t1.toInt < 32 ∨ 126 < t1.toInt ∨ 80 ≤ (fv Po 289 1).toInt) ∧ (fv Po 289 1).toInt = (fv Po 289 1).toInt) ∨ ((-1002 : Int) = (fv Po 289 1).toInt + 1 ∧ 32 ≤ t1.toInt ∧ t1.toInt ≤ 126 ∧ (fv Po 289 1).toInt < 80 ∧ (fv Po 289 1).toInt = (fv Po 289 1).toInt + 1) := by omega
      exact mp_iret ⟨⟨_, rfl, u5⟩, hT, KW.refl, trivial⟩ dX6_append_27 (Or.inl rfl)
    · have c4 : t1.toInt ≤ 126 := ti_gt_n c4
      refine mp_a (a_aload_n dX6_append_12 rfl) (mpp 13 rfl ?_)
      refine mt_getU (i := 32) (k := 4) (A := 289) hT dX6_append_13 rfl rl_0 (by decide) rfl (by decide) rfl un_8 (mpp 16 rfl ?_)
      refine mt_getI (i := 216) (k := 1) hT dX6_append_16 rfl rl_289 (by decide) rfl (by decide) rfl (fun g6 g7 => mpp 19 rfl ?_)
      refine mp_a (a_bipush (v := 80) dX6_append_19 rfl) (mpp 21 rfl ?_)
      refine mp_Tb (t := 28) (j_icmp_lt dX6_append_21) (by decide) (fun c8 => ?_) (fun c8 => mpp 24 rfl ?_)
      · have c8 : (fv Po 289 1).toInt < 80 := ti_lt c8
        refine mp_a (a_aload_n dX6_append_28 rfl) (mpp 29 rfl ?_)
        refine mt_getU (i := 32) (k := 4) (A := 289) hT dX6_append_29 rfl rl_0 (by decide) rfl (by decide) rfl un_8 (mpp 32 rfl ?_)
        refine mp_a (a_iload_n dX6_append_32 rfl) (mpp 33 rfl ?_)
        have p9 : (fv Po 289 1).toInt ≤ 79 := by omega
        refine mt_callv (i := 219) (q' := q_93) (As := [.int t1]) (rest := []) hT dX6_append_33 rfl qm_93 (by decide) rfl rl_289 (by decide) rfl (Nat.le_of_ble_eq_true rfl) rfl ⟨rfl, rfl⟩ ⟨Nat.le_of_ble_eq_true rfl, Nat.le_of_ble_eq_true rfl⟩ (EvP.mono (by decide) (c_CS_write_Script hT hX p9 )) (fun r10 P11 g12 => mpp 36 rfl ?_)
        obtain ⟨⟨rfl, g14⟩, hT15, k16, R17⟩ := g12
        have k18 : KW [513, 576] Po P11 := KW.trans KW.refl k16 rfl
        replace g14 : (fv P11 289 1).toInt = (fv Po 289 1).toInt + 1 := g14
        have g20 : (0 : Int) ≤ (fv P11 289 1).toInt ∧ (fv P11 289 1).toInt ≤ 80 := Typ.rng hT15 rl_289 (by decide) (by decide) rfl
        show MEvP _ none q_92 36 [(0, .ref 0), (1, .int t1)] [] _ _ _ _
        refine mp_a (a_aload_n dX6_append_36 rfl) (mpp 37 rfl ?_)
        refine mt_getU (i := 32) (k := 4) (A := 289) hT15 dX6_append_37 rfl rl_0 (by decide) rfl (by decide) rfl un_8 (mpp 40 rfl ?_)
        refine mt_getI (i := 216) (k := 1) hT15 dX6_append_40 rfl rl_289 (by decide) rfl (by decide) rfl (fun g21 g22 => mpp 43 rfl ?_)
        have u23 : ((fv P11 289 1).toInt = -1002 ∧ (t1.toInt < 32 ∨ 126 < t1.toInt ∨ 80 ≤ (fv Po 289 1).toInt) ∧ (fv P11 289 1).toInt = (fv Po 289 1).toInt) ∨ ((fv P11 289 1).toInt = (fv Po 289 1).toInt + 1 ∧ 32 ≤ t1.toInt ∧ t1.toInt ≤ 126 ∧ (fv Po 289 1).toInt < 80 ∧ (fv P11 289 1).toInt = (fv Po 289 1).toInt + 1) := by omega
        exact mp_iret ⟨⟨_, rfl, u23⟩, hT15, k18, trivial⟩ dX6_append_43 (Or.inl rfl)
      · have c8 : (fv Po 289 1).toInt ≥ 80 := ti_lt_n c8
        refine mp_a (a_sipush (v := -1002) dX6_append_24 rfl) (mpp 27 rfl ?_)
        have u24 : ((-1002 : Int) = -1002 ∧ (t1.toInt < 32 ∨ 126 < t1.toInt ∨ 80 ≤ (fv Po 289 1).toInt) ∧ (fv Po 289 1).toInt = (fv Po 289 1).toInt) ∨ ((-1002 : Int) = (fv Po 289 1).toInt + 1 ∧ 32 ≤ t1.toInt ∧ t1.toInt ≤ 126 ∧ (fv Po 289 1).toInt < 80 ∧ (fv Po 289 1).toInt = (fv Po 289 1).toInt + 1) := by omega
        exact mp_iret ⟨⟨_, rfl, u24⟩, hT, KW.refl, trivial⟩ dX6_append_27 (Or.inl rfl)

set_option maxHeartbeats 4000000 in
theorem c_CS_rewind_Script {Po : mP}  (hT : Typ Po) (hX : XR Po)   : EvP 1 96 [.ref 289] Po (fun r P' => (r = none ∧ (True)) ∧ Typ P' ∧ KW [514] Po P' ∧ True) := by
  refine EvP.of qm_96 (Nat.le_of_ble_eq_true rfl) rfl ?_
  show MEvP _ none q_96 0 [(0, .ref 289)] [] _ 0 0 _
  refine mp_a (a_aload_n dX4_rewind_0 rfl) (mpp 1 rfl ?_)
  refine mp_a (a_iconst (v := 0) dX4_rewind_1 rfl) (mpp 2 rfl ?_)
  refine mt_putI (i := 23) (k := 2) (x := 0) hT dX4_rewind_2 rfl rl_289 (by decide) rfl (by decide) rfl (by decide) rfl rfl (fun P1 hT2 f3 f4 f5 => mpp 5 rfl ?_)
  have k6 : KW [514] Po P1 := KW.step KW.refl rl_289 rfl f4 f5
  have e7 : (fv P1 289 2).toInt = 0 := congrArg Int32.toInt f3
  exact mp_ret ⟨⟨rfl, trivial⟩, hT2, k6, trivial⟩ dX4_rewind_5 rfl

set_option maxHeartbeats 4000000 in
theorem c_F_at_codes {Po : mP} {t1 : Int32} (hT : Typ Po) (hX : XR Po)   : EvP 1 12 [.ref 290, .int t1] Po (fun r P' => (∃ x : Int32, r = some (.int x) ∧ ((0 ≤ t1.toInt ∧ t1.toInt ≤ 79 ∧ x.toInt = (fv Po 290 t1.toInt.toNat).toInt) ∨ ((t1.toInt < 0 ∨ 80 ≤ t1.toInt) ∧ x.toInt = 0))) ∧ P' = Po) := by
  refine EvP.of qm_12 (Nat.le_of_ble_eq_true rfl) rfl ?_
  show MEvP _ none q_12 0 [(0, .ref 290), (1, .int t1)] [] _ 0 0 _
  have w_t1 := ti_full t1
  refine mp_a (a_iload_n dX6_at_0 rfl) (mpp 1 rfl ?_)
  refine mp_Tb (t := 16) (j_if_lt dX6_at_1) (by decide) (fun c1 => ?_) (fun c1 => mpp 4 rfl ?_)
  · have c1 : t1.toInt < 0 := ti_lt c1
    refine mp_a (a_iconst (v := 0) dX6_at_16 rfl) (mpp 17 rfl ?_)
    have u2 : (0 ≤ t1.toInt ∧ t1.toInt ≤ 79 ∧ (0 : Int) = (fv Po 290 t1.toInt.toNat).toInt) ∨ ((t1.toInt < 0 ∨ 80 ≤ t1.toInt) ∧ (0 : Int) = 0) := by omega
    exact mp_iret ⟨⟨_, rfl, u2⟩, rfl⟩ dX6_at_17 (Or.inl rfl)
  · have c1 : t1.toInt ≥ 0 := ti_lt_n c1
    refine mp_a (a_iload_n dX6_at_4 rfl) (mpp 5 rfl ?_)
    refine mp_a (a_aload_n dX6_at_5 rfl) (mpp 6 rfl ?_)
    refine mt_len (n := 80) hT dX6_at_6 rl_290 (by decide) (by decide) rfl (mpp 7 rfl ?_)
    refine mp_Tb (t := 16) (j_icmp_ge dX6_at_7) (by decide) (fun c3 => ?_) (fun c3 => mpp 10 rfl ?_)
    · have c3 : t1.toInt ≥ 80 := ti_ge c3
      refine mp_a (a_iconst (v := 0) dX6_at_16 rfl) (mpp 17 rfl ?_)
      have u4 : (0 ≤ t1.toInt ∧ t1.toInt ≤ 79 ∧ (0 : Int) = (fv Po 290 t1.toInt.toNat).toInt) ∨ ((t1.toInt < 0 ∨ 80 ≤ t1.toInt) ∧ (0 : Int) = 0) := by omega
      exact mp_iret ⟨⟨_, rfl, u4⟩, rfl⟩ dX6_at_17 (Or.inl rfl)
    · have c3 : t1.toInt < 80 := ti_ge_n c3
      refine mp_a (a_aload_n dX6_at_10 rfl) (mpp 11 rfl ?_)
      refine mp_a (a_iload_n dX6_at_11 rfl) (mpp 12 rfl ?_)
      refine mt_ial (n := 80) hT dX6_at_12 rl_290 (by decide) rfl rfl (by omega) (by omega) rfl (fun g5 g6 => mpp 13 rfl ?_)
      refine mp_a (a_goto (t := 17) dX6_at_13 (by decide)) ?_
      have u7 : (0 ≤ t1.toInt ∧ t1.toInt ≤ 79 ∧ (fv Po 290 t1.toInt.toNat).toInt = (fv Po 290 t1.toInt.toNat).toInt) ∨ ((t1.toInt < 0 ∨ 80 ≤ t1.toInt) ∧ (fv Po 290 t1.toInt.toNat).toInt = 0) := by omega
      exact mp_iret ⟨⟨_, rfl, u7⟩, rfl⟩ dX6_at_17 (Or.inl rfl)

set_option maxHeartbeats 4000000 in
theorem c_CS_codeHere_Script {Po : mP}  (hT : Typ Po) (hX : XR Po)   : EvP 2 98 [.ref 289] Po (fun r P' => (∃ x : Int32, r = some (.int x) ∧ (True)) ∧ P' = Po) := by
  refine EvP.of qm_98 (Nat.le_of_ble_eq_true rfl) rfl ?_
  show MEvP _ none q_98 0 [(0, .ref 289)] [] _ 0 0 _
  refine mp_a (a_aload_n dX4_codeHere_0 rfl) (mpp 1 rfl ?_)
  have g1 := ti_full (fv Po 289 2)
  refine mt_getI (i := 23) (k := 2) hT dX4_codeHere_1 rfl rl_289 (by decide) rfl (by decide) rfl (fun g2 g3 => mpp 4 rfl ?_)
  refine mp_a (a_aload_n dX4_codeHere_4 rfl) (mpp 5 rfl ?_)
  have g4 : (0 : Int) ≤ (fv Po 289 1).toInt ∧ (fv Po 289 1).toInt ≤ 80 := Typ.rng hT rl_289 (by decide) (by decide) rfl
  refine mt_getI (i := 15) (k := 1) hT dX4_codeHere_5 rfl rl_289 (by decide) rfl (by decide) rfl (fun g5 g6 => mpp 8 rfl ?_)
  refine mp_Tb (t := 25) (j_icmp_ge dX4_codeHere_8) (by decide) (fun c7 => ?_) (fun c7 => mpp 11 rfl ?_)
  · have c7 : (fv Po 289 2).toInt ≥ (fv Po 289 1).toInt := ti_ge c7
    refine mp_a (a_iconst (v := 0) dX4_codeHere_25 rfl) (mpp 26 rfl ?_)
    exact mp_iret ⟨⟨_, rfl, trivial⟩, rfl⟩ dX4_codeHere_26 (Or.inl rfl)
  · have c7 : (fv Po 289 2).toInt < (fv Po 289 1).toInt := ti_ge_n c7
    refine mp_a (a_aload_n dX4_codeHere_11 rfl) (mpp 12 rfl ?_)
    refine mt_getU (i := 9) (k := 0) (A := 290) hT dX4_codeHere_12 rfl rl_289 (by decide) rfl (by decide) rfl un_9 (mpp 15 rfl ?_)
    refine mp_a (a_aload_n dX4_codeHere_15 rfl) (mpp 16 rfl ?_)
    refine mt_getI (i := 23) (k := 2) hT dX4_codeHere_16 rfl rl_289 (by decide) rfl (by decide) rfl (fun g8 g9 => mpp 19 rfl ?_)
    refine mp_calls (i := 59) (q' := q_12) (As := [.ref 290, .int (fv Po 289 2)]) (rest := []) dX4_codeHere_19 rfl qm_12 (by decide) rfl (Nat.le_of_ble_eq_true rfl) rfl ⟨rfl, rfl⟩ ⟨Nat.le_of_ble_eq_true rfl, Nat.le_of_ble_eq_true rfl⟩ (EvP.mono (by decide) (c_F_at_codes hT hX )) (fun r10 P11 g12 => mpp 22 rfl ?_)
    obtain ⟨⟨x13, rfl, g14⟩, e15⟩ := g12
    have e15 := e15.symm
    subst e15
    have wx13 := ti_full x13
    replace g14 : (0 ≤ (fv Po 289 2).toInt ∧ (fv Po 289 2).toInt ≤ 79 ∧ x13.toInt = (fv Po 290 (fv Po 289 2).toInt.toNat).toInt) ∨ (((fv Po 289 2).toInt < 0 ∨ 80 ≤ (fv Po 289 2).toInt) ∧ x13.toInt = 0) := g14
    try replace g14 : x13.toInt = (fv Po 290 (fv Po 289 2).toInt.toNat).toInt := (g14.resolve_right (by omega)).2.2
    show MEvP _ none q_98 22 [(0, .ref 289)] [.int x13] _ _ _ _
    refine mp_a (a_goto (t := 26) dX4_codeHere_22 (by decide)) ?_
    exact mp_iret ⟨⟨_, rfl, trivial⟩, rfl⟩ dX4_codeHere_26 (Or.inl rfl)

set_option maxHeartbeats 4000000 in
theorem c_CS_takeSizes_Script_l7 {Po : mP}  (hTo : Typ Po) (hX : XR Po)  : ∀ (n : Nat) (v1 : Int32), ∀ (P : mP), Typ P → KW [514, 516] Po P → (0 ≤ v1.toInt) → (2147483647 - v1.toInt).toNat = n → MEvP 2 none q_99 7 [(0, .ref 289), (1, .int v1)] [] P 0 0 (fun r P' => (∃ x : Int32, r = some (.int x) ∧ (0 ≤ x.toInt ∧ x.toInt ≤ 1)) ∧ Typ P' ∧ KW [514, 516] Po P' ∧ True) := by
  intro n
  induction n using Nat.strongRecOn with | _ n ih => ?_
  intro v1 P hT hK i_0 hm
  have w_v1 := ti_full v1
  refine mp_a (a_iload_n dX4_takeSizes_7 rfl) (mpp 8 rfl ?_)
  refine mp_a (a_bipush (v := 8) dX4_takeSizes_8 rfl) (mpp 10 rfl ?_)
  refine mp_Tb (t := 66) (j_icmp_ge dX4_takeSizes_10) (by decide) (fun c1 => ?_) (fun c1 => mpp 13 rfl ?_)
  · have c1 : v1.toInt ≥ 8 := ti_ge c1
    refine mp_a (a_aload_n dX4_takeSizes_66 rfl) (mpp 67 rfl ?_)
    have g2 := ti_full (fv P 289 4)
    refine mt_getI (i := 63) (k := 4) hT dX4_takeSizes_67 rfl rl_289 (by decide) rfl (by decide) rfl (fun g3 g4 => mpp 70 rfl ?_)
    refine mp_Tb (t := 77) (j_if_le dX4_takeSizes_70) (by decide) (fun c5 => ?_) (fun c5 => mpp 73 rfl ?_)
    · have c5 : (fv P 289 4).toInt ≤ 0 := ti_le c5
      refine mp_a (a_iconst (v := 0) dX4_takeSizes_77 rfl) (mpp 78 rfl ?_)
      have u6 : 0 ≤ (0 : Int) ∧ (0 : Int) ≤ 1 := by omega
      exact mp_iret ⟨⟨_, rfl, u6⟩, hT, hK, trivial⟩ dX4_takeSizes_78 (Or.inr ⟨rfl, by decide⟩)
    · have c5 : (fv P 289 4).toInt > 0 := ti_le_n c5
      refine mp_a (a_iconst (v := 1) dX4_takeSizes_73 rfl) (mpp 74 rfl ?_)
      refine mp_a (a_goto (t := 78) dX4_takeSizes_74 (by decide)) ?_
      have u7 : 0 ≤ (1 : Int) ∧ (1 : Int) ≤ 1 := by omega
      exact mp_iret ⟨⟨_, rfl, u7⟩, hT, hK, trivial⟩ dX4_takeSizes_78 (Or.inr ⟨rfl, by decide⟩)
  · have c1 : v1.toInt < 8 := ti_ge_n c1
    refine mp_a (a_aload_n dX4_takeSizes_13 rfl) (mpp 14 rfl ?_)
    refine mt_callv (i := 37) (q' := q_98) (As := []) (rest := []) hT dX4_takeSizes_14 rfl qm_98 (by decide) rfl rl_289 (by decide) rfl (Nat.le_of_ble_eq_true rfl) rfl ⟨rfl, rfl⟩ ⟨Nat.le_of_ble_eq_true rfl, Nat.le_of_ble_eq_true rfl⟩ (EvP.mono (by decide) (c_CS_codeHere_Script hT (KW.xr hK hX) )) (fun r8 P9 g10 => mpp 17 rfl ?_)
    obtain ⟨⟨x11, rfl, g12⟩, e13⟩ := g10
    have e13 := e13.symm
    subst e13
    have wx11 := ti_full x11
    show MEvP _ none q_99 17 [(0, .ref 289), (1, .int v1)] [.int x11] _ _ _ _
    refine mp_a (a_bipush (v := 49) dX4_takeSizes_17 rfl) (mpp 19 rfl ?_)
    refine mp_Tb (t := 66) (j_icmp_lt dX4_takeSizes_19) (by decide) (fun c14 => ?_) (fun c14 => mpp 22 rfl ?_)
    · have c14 : x11.toInt < 49 := ti_lt c14
      refine mp_a (a_aload_n dX4_takeSizes_66 rfl) (mpp 67 rfl ?_)
      have g15 := ti_full (fv P 289 4)
      refine mt_getI (i := 63) (k := 4) hT dX4_takeSizes_67 rfl rl_289 (by decide) rfl (by decide) rfl (fun g16 g17 => mpp 70 rfl ?_)
      refine mp_Tb (t := 77) (j_if_le dX4_takeSizes_70) (by decide) (fun c18 => ?_) (fun c18 => mpp 73 rfl ?_)
      · have c18 : (fv P 289 4).toInt ≤ 0 := ti_le c18
        refine mp_a (a_iconst (v := 0) dX4_takeSizes_77 rfl) (mpp 78 rfl ?_)
        have u19 : 0 ≤ (0 : Int) ∧ (0 : Int) ≤ 1 := by omega
        exact mp_iret ⟨⟨_, rfl, u19⟩, hT, hK, trivial⟩ dX4_takeSizes_78 (Or.inr ⟨rfl, by decide⟩)
      · have c18 : (fv P 289 4).toInt > 0 := ti_le_n c18
        refine mp_a (a_iconst (v := 1) dX4_takeSizes_73 rfl) (mpp 74 rfl ?_)
        refine mp_a (a_goto (t := 78) dX4_takeSizes_74 (by decide)) ?_
        have u20 : 0 ≤ (1 : Int) ∧ (1 : Int) ≤ 1 := by omega
        exact mp_iret ⟨⟨_, rfl, u20⟩, hT, hK, trivial⟩ dX4_takeSizes_78 (Or.inr ⟨rfl, by decide⟩)
    · have c14 : x11.toInt ≥ 49 := ti_lt_n c14
      refine mp_a (a_aload_n dX4_takeSizes_22 rfl) (mpp 23 rfl ?_)
      refine mt_callv (i := 37) (q' := q_98) (As := []) (rest := []) hT dX4_takeSizes_23 rfl qm_98 (by decide) rfl rl_289 (by decide) rfl (Nat.le_of_ble_eq_true rfl) rfl ⟨rfl, rfl⟩ ⟨Nat.le_of_ble_eq_true rfl, Nat.le_of_ble_eq_true rfl⟩ (EvP.mono (by decide) (c_CS_codeHere_Script hT (KW.xr hK hX) )) (fun r21 P22 g23 => mpp 26 rfl ?_)
      obtain ⟨⟨x24, rfl, g25⟩, e26⟩ := g23
      have e26 := e26.symm
      subst e26
      have wx24 := ti_full x24
      show MEvP _ none q_99 26 [(0, .ref 289), (1, .int v1)] [.int x24] _ _ _ _
      refine mp_a (a_bipush (v := 57) dX4_takeSizes_26 rfl) (mpp 28 rfl ?_)
      refine mp_Tb (t := 66) (j_icmp_gt dX4_takeSizes_28) (by decide) (fun c27 => ?_) (fun c27 => mpp 31 rfl ?_)
      · have c27 : x24.toInt > 57 := ti_gt c27
        refine mp_a (a_aload_n dX4_takeSizes_66 rfl) (mpp 67 rfl ?_)
        have g28 := ti_full (fv P 289 4)
        refine mt_getI (i := 63) (k := 4) hT dX4_takeSizes_67 rfl rl_289 (by decide) rfl (by decide) rfl (fun g29 g30 => mpp 70 rfl ?_)
        refine mp_Tb (t := 77) (j_if_le dX4_takeSizes_70) (by decide) (fun c31 => ?_) (fun c31 => mpp 73 rfl ?_)
        · have c31 : (fv P 289 4).toInt ≤ 0 := ti_le c31
          refine mp_a (a_iconst (v := 0) dX4_takeSizes_77 rfl) (mpp 78 rfl ?_)
          have u32 : 0 ≤ (0 : Int) ∧ (0 : Int) ≤ 1 := by omega
          exact mp_iret ⟨⟨_, rfl, u32⟩, hT, hK, trivial⟩ dX4_takeSizes_78 (Or.inr ⟨rfl, by decide⟩)
        · have c31 : (fv P 289 4).toInt > 0 := ti_le_n c31
          refine mp_a (a_iconst (v := 1) dX4_takeSizes_73 rfl) (mpp 74 rfl ?_)
          refine mp_a (a_goto (t := 78) dX4_takeSizes_74 (by decide)) ?_
          have u33 : 0 ≤ (1 : Int) ∧ (1 : Int) ≤ 1 := by omega
          exact mp_iret ⟨⟨_, rfl, u33⟩, hT, hK, trivial⟩ dX4_takeSizes_78 (Or.inr ⟨rfl, by decide⟩)
      · have c27 : x24.toInt ≤ 57 := ti_gt_n c27
        refine mp_a (a_aload_n dX4_takeSizes_31 rfl) (mpp 32 rfl ?_)
        refine mp_a (a_aload_n dX4_takeSizes_32 rfl) (mpp 33 rfl ?_)
        have g34 := ti_full (fv P 289 4)
        refine mt_getI (i := 63) (k := 4) hT dX4_takeSizes_33 rfl rl_289 (by decide) rfl (by decide) rfl (fun g35 g36 => mpp 36 rfl ?_)
        refine mp_a (a_bipush (v := 10) dX4_takeSizes_36 rfl) (mpp 38 rfl ?_)
        obtain ⟨z37, h38⟩ := ti_ex ((fv P 289 4) * 10 : Int32)
        have wz37 := ti_full z37
        refine mp_t (s_imul (v := z37) dX4_takeSizes_38 h38) (mpp 39 rfl ?_)
        try have e39 : z37.toInt = (fv P 289 4).toInt * 10 := ti_mulz h38 rfl rfl (by omega) (by omega)
        refine mp_a (a_aload_n dX4_takeSizes_39 rfl) (mpp 40 rfl ?_)
        refine mt_callv (i := 37) (q' := q_98) (As := []) (rest := [.int z37, .ref 289]) hT dX4_takeSizes_40 rfl qm_98 (by decide) rfl rl_289 (by decide) rfl (Nat.le_of_ble_eq_true rfl) rfl ⟨rfl, rfl⟩ ⟨Nat.le_of_ble_eq_true rfl, Nat.le_of_ble_eq_true rfl⟩ (EvP.mono (by decide) (c_CS_codeHere_Script hT (KW.xr hK hX) )) (fun r40 P41 g42 => mpp 43 rfl ?_)
        obtain ⟨⟨x43, rfl, g44⟩, e45⟩ := g42
        have e45 := e45.symm
        subst e45
        have wx43 := ti_full x43
        show MEvP _ none q_99 43 [(0, .ref 289), (1, .int v1)] [.int x43, .int z37, .ref 289] _ _ _ _
        obtain ⟨z46, h47⟩ := ti_ex (z37 + x43 : Int32)
        have wz46 := ti_full z46
        refine mp_t (s_iadd (v := z46) dX4_takeSizes_43 h47) (mpp 44 rfl ?_)
        try have e48 : z46.toInt = z37.toInt + x43.toInt := ti_addz h47 rfl rfl (by omega) (by omega)
        refine mp_a (a_bipush (v := 48) dX4_takeSizes_44 rfl) (mpp 46 rfl ?_)
        obtain ⟨z49, h50⟩ := ti_ex (z46 - 48 : Int32)
        have wz49 := ti_full z49
        refine mp_t (s_isub (v := z49) dX4_takeSizes_46 h50) (mpp 47 rfl ?_)
        try have e51 : z49.toInt = z46.toInt - 48 := ti_subz h50 rfl rfl (by omega) (by omega)
        refine mt_putI (i := 63) (k := 4) (x := z49) hT dX4_takeSizes_47 rfl rl_289 (by decide) rfl (by decide) rfl (ti_full z49) rfl rfl (fun P52 hT53 f54 f55 f56 => mpp 50 rfl ?_)
        have k57 : KW [514, 516] Po P52 := KW.step hK rl_289 rfl f55 f56
        have e58 : (fv P52 289 4).toInt = z49.toInt := congrArg Int32.toInt f54
        refine mp_a (a_aload_n dX4_takeSizes_50 rfl) (mpp 51 rfl ?_)
        refine mp_t (s_dup dX4_takeSizes_51 rfl) (mpp 52 rfl ?_)
        have g59 := ti_full (fv P52 289 2)
        refine mt_getI (i := 23) (k := 2) hT53 dX4_takeSizes_52 rfl rl_289 (by decide) rfl (by decide) rfl (fun g60 g61 => mpp 55 rfl ?_)
        refine mp_a (a_iconst (v := 1) dX4_takeSizes_55 rfl) (mpp 56 rfl ?_)
        obtain ⟨z62, h63⟩ := ti_ex ((fv P52 289 2) + 1 : Int32)
        have wz62 := ti_full z62
        refine mp_t (s_iadd (v := z62) dX4_takeSizes_56 h63) (mpp 57 rfl ?_)
        try have e64 : z62.toInt = (fv P52 289 2).toInt + 1 := ti_addz h63 rfl rfl (by omega) (by omega)
        refine mt_putI (i := 23) (k := 2) (x := z62) hT53 dX4_takeSizes_57 rfl rl_289 (by decide) rfl (by decide) rfl (ti_full z62) rfl rfl (fun P65 hT66 f67 f68 f69 => mpp 60 rfl ?_)
        have k70 : KW [514, 516] Po P65 := KW.step k57 rl_289 rfl f68 f69
        have e71 : (fv P65 289 2).toInt = z62.toInt := congrArg Int32.toInt f67
        obtain ⟨z72, h73⟩ := ti_ex (v1 + 1 : Int32)
        have wz72 := ti_full z72
        refine mp_a (a_iinc (v := z72) (L' := [(1, .int z72), (0, .ref 289)]) dX4_takeSizes_60 (by decide) rfl h73 rfl) (mpp 63 rfl ?_)
        try have e74 : z72.toInt = v1.toInt + 1 := ti_addz h73 rfl rfl (by omega) (by omega)
        refine mp_a (a_goto (t := 7) dX4_takeSizes_63 (by decide)) ?_
        refine MEvP.less (L := [(0, .ref 289), (1, .int z72)]) rfl rfl ⟨rfl, rfl, trivial⟩ ?_
        have i75 : 0 ≤ z72.toInt := by omega
        exact ih _ (by omega) _ P65 hT66 k70 i75 rfl

set_option maxHeartbeats 4000000 in
theorem c_CS_takeSizes_Script {Po : mP}  (hT : Typ Po) (hX : XR Po)   : EvP 3 99 [.ref 289] Po (fun r P' => (∃ x : Int32, r = some (.int x) ∧ (0 ≤ x.toInt ∧ x.toInt ≤ 1)) ∧ Typ P' ∧ KW [514, 516] Po P' ∧ True) := by
  refine EvP.of qm_99 (Nat.le_of_ble_eq_true rfl) rfl ?_
  show MEvP _ none q_99 0 [(0, .ref 289)] [] _ 0 0 _
  refine mp_a (a_aload_n dX4_takeSizes_0 rfl) (mpp 1 rfl ?_)
  refine mp_a (a_iconst (v := 0) dX4_takeSizes_1 rfl) (mpp 2 rfl ?_)
  refine mt_putI (i := 63) (k := 4) (x := 0) hT dX4_takeSizes_2 rfl rl_289 (by decide) rfl (by decide) rfl (by decide) rfl rfl (fun P1 hT2 f3 f4 f5 => mpp 5 rfl ?_)
  have k6 : KW [514, 516] Po P1 := KW.step KW.refl rl_289 rfl f4 f5
  have e7 : (fv P1 289 4).toInt = 0 := congrArg Int32.toInt f3
  refine mp_a (a_iconst (v := 0) dX4_takeSizes_5 rfl) (mpp 6 rfl ?_)
  refine mp_a (a_istore_n (L' := [(1, .int 0), (0, .ref 289)]) dX4_takeSizes_6 (by decide) rfl) (mpp 7 rfl ?_)
  refine MEvP.less (L := [(0, .ref 289), (1, .int 0)]) rfl rfl ⟨rfl, rfl, trivial⟩ ?_
  have i8 : 0 ≤ (0 : Int) := by omega
  exact c_CS_takeSizes_Script_l7 hT hX   _ _ P1 hT2 k6 i8 rfl

set_option maxHeartbeats 4000000 in
theorem c_CS_takeSign_Script {Po : mP} {t1 : Int32} (hT : Typ Po) (hX : XR Po)   : EvP 3 100 [.ref 289, .int t1] Po (fun r P' => (∃ x : Int32, r = some (.int x) ∧ (0 ≤ x.toInt ∧ x.toInt ≤ 1)) ∧ Typ P' ∧ KW [514] Po P' ∧ True) := by
  refine EvP.of qm_100 (Nat.le_of_ble_eq_true rfl) rfl ?_
  show MEvP _ none q_100 0 [(0, .ref 289), (1, .int t1)] [] _ 0 0 _
  have w_t1 := ti_full t1
  refine mp_a (a_aload_n dX4_takeSign_0 rfl) (mpp 1 rfl ?_)
  refine mt_callv (i := 37) (q' := q_98) (As := []) (rest := []) hT dX4_takeSign_1 rfl qm_98 (by decide) rfl rl_289 (by decide) rfl (Nat.le_of_ble_eq_true rfl) rfl ⟨rfl, rfl⟩ ⟨Nat.le_of_ble_eq_true rfl, Nat.le_of_ble_eq_true rfl⟩ (EvP.mono (by decide) (c_CS_codeHere_Script hT hX )) (fun r1 P2 g3 => mpp 4 rfl ?_)
  obtain ⟨⟨x4, rfl, g5⟩, e6⟩ := g3
  have e6 := e6.symm
  subst e6
  have wx4 := ti_full x4
  show MEvP _ none q_100 4 [(0, .ref 289), (1, .int t1)] [.int x4] _ _ _ _
  refine mp_a (a_iload_n dX4_takeSign_4 rfl) (mpp 5 rfl ?_)
  refine mp_Tb (t := 10) (j_icmp_eq dX4_takeSign_5) (by decide) (fun c7 => ?_) (fun c7 => mpp 8 rfl ?_)
  · have c7 : x4.toInt = t1.toInt := ti_eq c7
    refine mp_a (a_aload_n dX4_takeSign_10 rfl) (mpp 11 rfl ?_)
    refine mp_t (s_dup dX4_takeSign_11 rfl) (mpp 12 rfl ?_)
    have g8 := ti_full (fv Po 289 2)
    refine mt_getI (i := 23) (k := 2) hT dX4_takeSign_12 rfl rl_289 (by decide) rfl (by decide) rfl (fun g9 g10 => mpp 15 rfl ?_)
    refine mp_a (a_iconst (v := 1) dX4_takeSign_15 rfl) (mpp 16 rfl ?_)
    obtain ⟨z11, h12⟩ := ti_ex ((fv Po 289 2) + 1 : Int32)
    have wz11 := ti_full z11
    refine mp_t (s_iadd (v := z11) dX4_takeSign_16 h12) (mpp 17 rfl ?_)
    try have e13 : z11.toInt = (fv Po 289 2).toInt + 1 := ti_addz h12 rfl rfl (by omega) (by omega)
    refine mt_putI (i := 23) (k := 2) (x := z11) hT dX4_takeSign_17 rfl rl_289 (by decide) rfl (by decide) rfl (ti_full z11) rfl rfl (fun P14 hT15 f16 f17 f18 => mpp 20 rfl ?_)
    have k19 : KW [514] Po P14 := KW.step KW.refl rl_289 rfl f17 f18
    have e20 : (fv P14 289 2).toInt = z11.toInt := congrArg Int32.toInt f16
    refine mp_a (a_iconst (v := 1) dX4_takeSign_20 rfl) (mpp 21 rfl ?_)
    have u21 : 0 ≤ (1 : Int) ∧ (1 : Int) ≤ 1 := by omega
    exact mp_iret ⟨⟨_, rfl, u21⟩, hT15, k19, trivial⟩ dX4_takeSign_21 (Or.inr ⟨rfl, by decide⟩)
  · have c7 : x4.toInt ≠ t1.toInt := ti_eq_n c7
    refine mp_a (a_iconst (v := 0) dX4_takeSign_8 rfl) (mpp 9 rfl ?_)
    have u22 : 0 ≤ (0 : Int) ∧ (0 : Int) ≤ 1 := by omega
    exact mp_iret ⟨⟨_, rfl, u22⟩, hT, KW.refl, trivial⟩ dX4_takeSign_9 (Or.inr ⟨rfl, by decide⟩)

set_option maxHeartbeats 4000000 in
theorem c_CS_takeKind_Script {Po : mP}  (hT : Typ Po) (hX : XR Po)   : EvP 3 102 [.ref 289] Po (fun r P' => (∃ x : Int32, r = some (.int x) ∧ (0 ≤ x.toInt ∧ x.toInt ≤ 1)) ∧ Typ P' ∧ KW [514, 519] Po P' ∧ True) := by
  refine EvP.of qm_102 (Nat.le_of_ble_eq_true rfl) rfl ?_
  show MEvP _ none q_102 0 [(0, .ref 289)] [] _ 0 0 _
  refine mp_a (a_aload_n dX4_takeKind_0 rfl) (mpp 1 rfl ?_)
  refine mt_callv (i := 37) (q' := q_98) (As := []) (rest := []) hT dX4_takeKind_1 rfl qm_98 (by decide) rfl rl_289 (by decide) rfl (Nat.le_of_ble_eq_true rfl) rfl ⟨rfl, rfl⟩ ⟨Nat.le_of_ble_eq_true rfl, Nat.le_of_ble_eq_true rfl⟩ (EvP.mono (by decide) (c_CS_codeHere_Script hT hX )) (fun r1 P2 g3 => mpp 4 rfl ?_)
  obtain ⟨⟨x4, rfl, g5⟩, e6⟩ := g3
  have e6 := e6.symm
  subst e6
  have wx4 := ti_full x4
  show MEvP _ none q_102 4 [(0, .ref 289)] [.int x4] _ _ _ _
  refine mp_a (a_istore_n (L' := [(1, .int x4), (0, .ref 289)]) dX4_takeKind_4 (by decide) rfl) (mpp 5 rfl ?_)
  refine mp_a (a_iload_n dX4_takeKind_5 rfl) (mpp 6 rfl ?_)
  refine mp_a (a_bipush (v := 111) dX4_takeKind_6 rfl) (mpp 8 rfl ?_)
  refine mp_Tb (t := 25) (j_icmp_eq dX4_takeKind_8) (by decide) (fun c7 => ?_) (fun c7 => mpp 11 rfl ?_)
  · have c7 : x4.toInt = 111 := ti_eq c7
    refine mp_a (a_aload_n dX4_takeKind_25 rfl) (mpp 26 rfl ?_)
    refine mp_a (a_iload_n dX4_takeKind_26 rfl) (mpp 27 rfl ?_)
    refine mp_a (a_bipush (v := 111) dX4_takeKind_27 rfl) (mpp 29 rfl ?_)
    refine mp_Tb (t := 36) (j_icmp_ne dX4_takeKind_29) (by decide) (fun c8 => ?_) (fun c8 => mpp 32 rfl ?_)
    · have c8 : x4.toInt ≠ 111 := ti_ne c8
      refine mp_a (a_iload_n dX4_takeKind_36 rfl) (mpp 37 rfl ?_)
      refine mp_a (a_bipush (v := 109) dX4_takeKind_37 rfl) (mpp 39 rfl ?_)
      refine mp_Tb (t := 46) (j_icmp_ne dX4_takeKind_39) (by decide) (fun c9 => ?_) (fun c9 => mpp 42 rfl ?_)
      · have c9 : x4.toInt ≠ 109 := ti_ne c9
        refine mp_a (a_iconst (v := 2) dX4_takeKind_46 rfl) (mpp 47 rfl ?_)
        refine mt_putI (i := 72) (k := 7) (x := 2) hT dX4_takeKind_47 rfl rl_289 (by decide) rfl (by decide) rfl (by decide) rfl rfl (fun P10 hT11 f12 f13 f14 => mpp 50 rfl ?_)
        have k15 : KW [514, 519] Po P10 := KW.step KW.refl rl_289 rfl f13 f14
        have e16 : (fv P10 289 7).toInt = 2 := congrArg Int32.toInt f12
        refine mp_a (a_aload_n dX4_takeKind_50 rfl) (mpp 51 rfl ?_)
        refine mp_t (s_dup dX4_takeKind_51 rfl) (mpp 52 rfl ?_)
        have g17 := ti_full (fv P10 289 2)
        refine mt_getI (i := 23) (k := 2) hT11 dX4_takeKind_52 rfl rl_289 (by decide) rfl (by decide) rfl (fun g18 g19 => mpp 55 rfl ?_)
        refine mp_a (a_iconst (v := 1) dX4_takeKind_55 rfl) (mpp 56 rfl ?_)
        obtain ⟨z20, h21⟩ := ti_ex ((fv P10 289 2) + 1 : Int32)
        have wz20 := ti_full z20
        refine mp_t (s_iadd (v := z20) dX4_takeKind_56 h21) (mpp 57 rfl ?_)
        try have e22 : z20.toInt = (fv P10 289 2).toInt + 1 := ti_addz h21 rfl rfl (by omega) (by omega)
        refine mt_putI (i := 23) (k := 2) (x := z20) hT11 dX4_takeKind_57 rfl rl_289 (by decide) rfl (by decide) rfl (ti_full z20) rfl rfl (fun P23 hT24 f25 f26 f27 => mpp 60 rfl ?_)
        have k28 : KW [514, 519] Po P23 := KW.step k15 rl_289 rfl f26 f27
        have e29 : (fv P23 289 2).toInt = z20.toInt := congrArg Int32.toInt f25
        refine mp_a (a_iconst (v := 1) dX4_takeKind_60 rfl) (mpp 61 rfl ?_)
        have u30 : 0 ≤ (1 : Int) ∧ (1 : Int) ≤ 1 := by omega
        exact mp_iret ⟨⟨_, rfl, u30⟩, hT24, k28, trivial⟩ dX4_takeKind_61 (Or.inr ⟨rfl, by decide⟩)
      · have c9 : x4.toInt = 109 := ti_ne_n c9
        refine mp_a (a_iconst (v := 1) dX4_takeKind_42 rfl) (mpp 43 rfl ?_)
        refine mp_a (a_goto (t := 47) dX4_takeKind_43 (by decide)) ?_
        refine mt_putI (i := 72) (k := 7) (x := 1) hT dX4_takeKind_47 rfl rl_289 (by decide) rfl (by decide) rfl (by decide) rfl rfl (fun P31 hT32 f33 f34 f35 => mpp 50 rfl ?_)
        have k36 : KW [514, 519] Po P31 := KW.step KW.refl rl_289 rfl f34 f35
        have e37 : (fv P31 289 7).toInt = 1 := congrArg Int32.toInt f33
        refine mp_a (a_aload_n dX4_takeKind_50 rfl) (mpp 51 rfl ?_)
        refine mp_t (s_dup dX4_takeKind_51 rfl) (mpp 52 rfl ?_)
        have g38 := ti_full (fv P31 289 2)
        refine mt_getI (i := 23) (k := 2) hT32 dX4_takeKind_52 rfl rl_289 (by decide) rfl (by decide) rfl (fun g39 g40 => mpp 55 rfl ?_)
        refine mp_a (a_iconst (v := 1) dX4_takeKind_55 rfl) (mpp 56 rfl ?_)
        obtain ⟨z41, h42⟩ := ti_ex ((fv P31 289 2) + 1 : Int32)
        have wz41 := ti_full z41
        refine mp_t (s_iadd (v := z41) dX4_takeKind_56 h42) (mpp 57 rfl ?_)
        try have e43 : z41.toInt = (fv P31 289 2).toInt + 1 := ti_addz h42 rfl rfl (by omega) (by omega)
        refine mt_putI (i := 23) (k := 2) (x := z41) hT32 dX4_takeKind_57 rfl rl_289 (by decide) rfl (by decide) rfl (ti_full z41) rfl rfl (fun P44 hT45 f46 f47 f48 => mpp 60 rfl ?_)
        have k49 : KW [514, 519] Po P44 := KW.step k36 rl_289 rfl f47 f48
        have e50 : (fv P44 289 2).toInt = z41.toInt := congrArg Int32.toInt f46
        refine mp_a (a_iconst (v := 1) dX4_takeKind_60 rfl) (mpp 61 rfl ?_)
        have u51 : 0 ≤ (1 : Int) ∧ (1 : Int) ≤ 1 := by omega
        exact mp_iret ⟨⟨_, rfl, u51⟩, hT45, k49, trivial⟩ dX4_takeKind_61 (Or.inr ⟨rfl, by decide⟩)
    · have c8 : x4.toInt = 111 := ti_ne_n c8
      refine mp_a (a_iconst (v := 0) dX4_takeKind_32 rfl) (mpp 33 rfl ?_)
      refine mp_a (a_goto (t := 47) dX4_takeKind_33 (by decide)) ?_
      refine mt_putI (i := 72) (k := 7) (x := 0) hT dX4_takeKind_47 rfl rl_289 (by decide) rfl (by decide) rfl (by decide) rfl rfl (fun P52 hT53 f54 f55 f56 => mpp 50 rfl ?_)
      have k57 : KW [514, 519] Po P52 := KW.step KW.refl rl_289 rfl f55 f56
      have e58 : (fv P52 289 7).toInt = 0 := congrArg Int32.toInt f54
      refine mp_a (a_aload_n dX4_takeKind_50 rfl) (mpp 51 rfl ?_)
      refine mp_t (s_dup dX4_takeKind_51 rfl) (mpp 52 rfl ?_)
      have g59 := ti_full (fv P52 289 2)
      refine mt_getI (i := 23) (k := 2) hT53 dX4_takeKind_52 rfl rl_289 (by decide) rfl (by decide) rfl (fun g60 g61 => mpp 55 rfl ?_)
      refine mp_a (a_iconst (v := 1) dX4_takeKind_55 rfl) (mpp 56 rfl ?_)
      obtain ⟨z62, h63⟩ := ti_ex ((fv P52 289 2) + 1 : Int32)
      have wz62 := ti_full z62
      refine mp_t (s_iadd (v := z62) dX4_takeKind_56 h63) (mpp 57 rfl ?_)
      try have e64 : z62.toInt = (fv P52 289 2).toInt + 1 := ti_addz h63 rfl rfl (by omega) (by omega)
      refine mt_putI (i := 23) (k := 2) (x := z62) hT53 dX4_takeKind_57 rfl rl_289 (by decide) rfl (by decide) rfl (ti_full z62) rfl rfl (fun P65 hT66 f67 f68 f69 => mpp 60 rfl ?_)
      have k70 : KW [514, 519] Po P65 := KW.step k57 rl_289 rfl f68 f69
      have e71 : (fv P65 289 2).toInt = z62.toInt := congrArg Int32.toInt f67
      refine mp_a (a_iconst (v := 1) dX4_takeKind_60 rfl) (mpp 61 rfl ?_)
      have u72 : 0 ≤ (1 : Int) ∧ (1 : Int) ≤ 1 := by omega
      exact mp_iret ⟨⟨_, rfl, u72⟩, hT66, k70, trivial⟩ dX4_takeKind_61 (Or.inr ⟨rfl, by decide⟩)
  · have c7 : x4.toInt ≠ 111 := ti_eq_n c7
    refine mp_a (a_iload_n dX4_takeKind_11 rfl) (mpp 12 rfl ?_)
    refine mp_a (a_bipush (v := 109) dX4_takeKind_12 rfl) (mpp 14 rfl ?_)
    refine mp_Tb (t := 25) (j_icmp_eq dX4_takeKind_14) (by decide) (fun c73 => ?_) (fun c73 => mpp 17 rfl ?_)
    · have c73 : x4.toInt = 109 := ti_eq c73
      refine mp_a (a_aload_n dX4_takeKind_25 rfl) (mpp 26 rfl ?_)
      refine mp_a (a_iload_n dX4_takeKind_26 rfl) (mpp 27 rfl ?_)
      refine mp_a (a_bipush (v := 111) dX4_takeKind_27 rfl) (mpp 29 rfl ?_)
      refine mp_Tb (t := 36) (j_icmp_ne dX4_takeKind_29) (by decide) (fun c74 => ?_) (fun c74 => mpp 32 rfl ?_)
      · have c74 : x4.toInt ≠ 111 := ti_ne c74
        refine mp_a (a_iload_n dX4_takeKind_36 rfl) (mpp 37 rfl ?_)
        refine mp_a (a_bipush (v := 109) dX4_takeKind_37 rfl) (mpp 39 rfl ?_)
        refine mp_Tb (t := 46) (j_icmp_ne dX4_takeKind_39) (by decide) (fun c75 => ?_) (fun c75 => mpp 42 rfl ?_)
        · have c75 : x4.toInt ≠ 109 := ti_ne c75
          refine mp_a (a_iconst (v := 2) dX4_takeKind_46 rfl) (mpp 47 rfl ?_)
          refine mt_putI (i := 72) (k := 7) (x := 2) hT dX4_takeKind_47 rfl rl_289 (by decide) rfl (by decide) rfl (by decide) rfl rfl (fun P76 hT77 f78 f79 f80 => mpp 50 rfl ?_)
          have k81 : KW [514, 519] Po P76 := KW.step KW.refl rl_289 rfl f79 f80
          have e82 : (fv P76 289 7).toInt = 2 := congrArg Int32.toInt f78
          refine mp_a (a_aload_n dX4_takeKind_50 rfl) (mpp 51 rfl ?_)
          refine mp_t (s_dup dX4_takeKind_51 rfl) (mpp 52 rfl ?_)
          have g83 := ti_full (fv P76 289 2)
          refine mt_getI (i := 23) (k := 2) hT77 dX4_takeKind_52 rfl rl_289 (by decide) rfl (by decide) rfl (fun g84 g85 => mpp 55 rfl ?_)
          refine mp_a (a_iconst (v := 1) dX4_takeKind_55 rfl) (mpp 56 rfl ?_)
          obtain ⟨z86, h87⟩ := ti_ex ((fv P76 289 2) + 1 : Int32)
          have wz86 := ti_full z86
          refine mp_t (s_iadd (v := z86) dX4_takeKind_56 h87) (mpp 57 rfl ?_)
          try have e88 : z86.toInt = (fv P76 289 2).toInt + 1 := ti_addz h87 rfl rfl (by omega) (by omega)
          refine mt_putI (i := 23) (k := 2) (x := z86) hT77 dX4_takeKind_57 rfl rl_289 (by decide) rfl (by decide) rfl (ti_full z86) rfl rfl (fun P89 hT90 f91 f92 f93 => mpp 60 rfl ?_)
          have k94 : KW [514, 519] Po P89 := KW.step k81 rl_289 rfl f92 f93
          have e95 : (fv P89 289 2).toInt = z86.toInt := congrArg Int32.toInt f91
          refine mp_a (a_iconst (v := 1) dX4_takeKind_60 rfl) (mpp 61 rfl ?_)
          have u96 : 0 ≤ (1 : Int) ∧ (1 : Int) ≤ 1 := by omega
          exact mp_iret ⟨⟨_, rfl, u96⟩, hT90, k94, trivial⟩ dX4_takeKind_61 (Or.inr ⟨rfl, by decide⟩)
        · have c75 : x4.toInt = 109 := ti_ne_n c75
          refine mp_a (a_iconst (v := 1) dX4_takeKind_42 rfl) (mpp 43 rfl ?_)
          refine mp_a (a_goto (t := 47) dX4_takeKind_43 (by decide)) ?_
          refine mt_putI (i := 72) (k := 7) (x := 1) hT dX4_takeKind_47 rfl rl_289 (by decide) rfl (by decide) rfl (by decide) rfl rfl (fun P97 hT98 f99 f100 f101 => mpp 50 rfl ?_)
          have k102 : KW [514, 519] Po P97 := KW.step KW.refl rl_289 rfl f100 f101
          have e103 : (fv P97 289 7).toInt = 1 := congrArg Int32.toInt f99
          refine mp_a (a_aload_n dX4_takeKind_50 rfl) (mpp 51 rfl ?_)
          refine mp_t (s_dup dX4_takeKind_51 rfl) (mpp 52 rfl ?_)
          have g104 := ti_full (fv P97 289 2)
          refine mt_getI (i := 23) (k := 2) hT98 dX4_takeKind_52 rfl rl_289 (by decide) rfl (by decide) rfl (fun g105 g106 => mpp 55 rfl ?_)
          refine mp_a (a_iconst (v := 1) dX4_takeKind_55 rfl) (mpp 56 rfl ?_)
          obtain ⟨z107, h108⟩ := ti_ex ((fv P97 289 2) + 1 : Int32)
          have wz107 := ti_full z107
          refine mp_t (s_iadd (v := z107) dX4_takeKind_56 h108) (mpp 57 rfl ?_)
          try have e109 : z107.toInt = (fv P97 289 2).toInt + 1 := ti_addz h108 rfl rfl (by omega) (by omega)
          refine mt_putI (i := 23) (k := 2) (x := z107) hT98 dX4_takeKind_57 rfl rl_289 (by decide) rfl (by decide) rfl (ti_full z107) rfl rfl (fun P110 hT111 f112 f113 f114 => mpp 60 rfl ?_)
          have k115 : KW [514, 519] Po P110 := KW.step k102 rl_289 rfl f113 f114
          have e116 : (fv P110 289 2).toInt = z107.toInt := congrArg Int32.toInt f112
          refine mp_a (a_iconst (v := 1) dX4_takeKind_60 rfl) (mpp 61 rfl ?_)
          have u117 : 0 ≤ (1 : Int) ∧ (1 : Int) ≤ 1 := by omega
          exact mp_iret ⟨⟨_, rfl, u117⟩, hT111, k115, trivial⟩ dX4_takeKind_61 (Or.inr ⟨rfl, by decide⟩)
      · have c74 : x4.toInt = 111 := ti_ne_n c74
        refine mp_a (a_iconst (v := 0) dX4_takeKind_32 rfl) (mpp 33 rfl ?_)
        refine mp_a (a_goto (t := 47) dX4_takeKind_33 (by decide)) ?_
        refine mt_putI (i := 72) (k := 7) (x := 0) hT dX4_takeKind_47 rfl rl_289 (by decide) rfl (by decide) rfl (by decide) rfl rfl (fun P118 hT119 f120 f121 f122 => mpp 50 rfl ?_)
        have k123 : KW [514, 519] Po P118 := KW.step KW.refl rl_289 rfl f121 f122
        have e124 : (fv P118 289 7).toInt = 0 := congrArg Int32.toInt f120
        refine mp_a (a_aload_n dX4_takeKind_50 rfl) (mpp 51 rfl ?_)
        refine mp_t (s_dup dX4_takeKind_51 rfl) (mpp 52 rfl ?_)
        have g125 := ti_full (fv P118 289 2)
        refine mt_getI (i := 23) (k := 2) hT119 dX4_takeKind_52 rfl rl_289 (by decide) rfl (by decide) rfl (fun g126 g127 => mpp 55 rfl ?_)
        refine mp_a (a_iconst (v := 1) dX4_takeKind_55 rfl) (mpp 56 rfl ?_)
        obtain ⟨z128, h129⟩ := ti_ex ((fv P118 289 2) + 1 : Int32)
        have wz128 := ti_full z128
        refine mp_t (s_iadd (v := z128) dX4_takeKind_56 h129) (mpp 57 rfl ?_)
        try have e130 : z128.toInt = (fv P118 289 2).toInt + 1 := ti_addz h129 rfl rfl (by omega) (by omega)
        refine mt_putI (i := 23) (k := 2) (x := z128) hT119 dX4_takeKind_57 rfl rl_289 (by decide) rfl (by decide) rfl (ti_full z128) rfl rfl (fun P131 hT132 f133 f134 f135 => mpp 60 rfl ?_)
        have k136 : KW [514, 519] Po P131 := KW.step k123 rl_289 rfl f134 f135
        have e137 : (fv P131 289 2).toInt = z128.toInt := congrArg Int32.toInt f133
        refine mp_a (a_iconst (v := 1) dX4_takeKind_60 rfl) (mpp 61 rfl ?_)
        have u138 : 0 ≤ (1 : Int) ∧ (1 : Int) ≤ 1 := by omega
        exact mp_iret ⟨⟨_, rfl, u138⟩, hT132, k136, trivial⟩ dX4_takeKind_61 (Or.inr ⟨rfl, by decide⟩)
    · have c73 : x4.toInt ≠ 109 := ti_eq_n c73
      refine mp_a (a_iload_n dX4_takeKind_17 rfl) (mpp 18 rfl ?_)
      refine mp_a (a_bipush (v := 118) dX4_takeKind_18 rfl) (mpp 20 rfl ?_)
      refine mp_Tb (t := 25) (j_icmp_eq dX4_takeKind_20) (by decide) (fun c139 => ?_) (fun c139 => mpp 23 rfl ?_)
      · have c139 : x4.toInt = 118 := ti_eq c139
        refine mp_a (a_aload_n dX4_takeKind_25 rfl) (mpp 26 rfl ?_)
        refine mp_a (a_iload_n dX4_takeKind_26 rfl) (mpp 27 rfl ?_)
        refine mp_a (a_bipush (v := 111) dX4_takeKind_27 rfl) (mpp 29 rfl ?_)
        refine mp_Tb (t := 36) (j_icmp_ne dX4_takeKind_29) (by decide) (fun c140 => ?_) (fun c140 => mpp 32 rfl ?_)
        · have c140 : x4.toInt ≠ 111 := ti_ne c140
          refine mp_a (a_iload_n dX4_takeKind_36 rfl) (mpp 37 rfl ?_)
          refine mp_a (a_bipush (v := 109) dX4_takeKind_37 rfl) (mpp 39 rfl ?_)
          refine mp_Tb (t := 46) (j_icmp_ne dX4_takeKind_39) (by decide) (fun c141 => ?_) (fun c141 => mpp 42 rfl ?_)
          · have c141 : x4.toInt ≠ 109 := ti_ne c141
            refine mp_a (a_iconst (v := 2) dX4_takeKind_46 rfl) (mpp 47 rfl ?_)
            refine mt_putI (i := 72) (k := 7) (x := 2) hT dX4_takeKind_47 rfl rl_289 (by decide) rfl (by decide) rfl (by decide) rfl rfl (fun P142 hT143 f144 f145 f146 => mpp 50 rfl ?_)
            have k147 : KW [514, 519] Po P142 := KW.step KW.refl rl_289 rfl f145 f146
            have e148 : (fv P142 289 7).toInt = 2 := congrArg Int32.toInt f144
            refine mp_a (a_aload_n dX4_takeKind_50 rfl) (mpp 51 rfl ?_)
            refine mp_t (s_dup dX4_takeKind_51 rfl) (mpp 52 rfl ?_)
            have g149 := ti_full (fv P142 289 2)
            refine mt_getI (i := 23) (k := 2) hT143 dX4_takeKind_52 rfl rl_289 (by decide) rfl (by decide) rfl (fun g150 g151 => mpp 55 rfl ?_)
            refine mp_a (a_iconst (v := 1) dX4_takeKind_55 rfl) (mpp 56 rfl ?_)
            obtain ⟨z152, h153⟩ := ti_ex ((fv P142 289 2) + 1 : Int32)
            have wz152 := ti_full z152
            refine mp_t (s_iadd (v := z152) dX4_takeKind_56 h153) (mpp 57 rfl ?_)
            try have e154 : z152.toInt = (fv P142 289 2).toInt + 1 := ti_addz h153 rfl rfl (by omega) (by omega)
            refine mt_putI (i := 23) (k := 2) (x := z152) hT143 dX4_takeKind_57 rfl rl_289 (by decide) rfl (by decide) rfl (ti_full z152) rfl rfl (fun P155 hT156 f157 f158 f159 => mpp 60 rfl ?_)
            have k160 : KW [514, 519] Po P155 := KW.step k147 rl_289 rfl f158 f159
            have e161 : (fv P155 289 2).toInt = z152.toInt := congrArg Int32.toInt f157
            refine mp_a (a_iconst (v := 1) dX4_takeKind_60 rfl) (mpp 61 rfl ?_)
            have u162 : 0 ≤ (1 : Int) ∧ (1 : Int) ≤ 1 := by omega
            exact mp_iret ⟨⟨_, rfl, u162⟩, hT156, k160, trivial⟩ dX4_takeKind_61 (Or.inr ⟨rfl, by decide⟩)
          · have c141 : x4.toInt = 109 := ti_ne_n c141
            refine mp_a (a_iconst (v := 1) dX4_takeKind_42 rfl) (mpp 43 rfl ?_)
            refine mp_a (a_goto (t := 47) dX4_takeKind_43 (by decide)) ?_
            refine mt_putI (i := 72) (k := 7) (x := 1) hT dX4_takeKind_47 rfl rl_289 (by decide) rfl (by decide) rfl (by decide) rfl rfl (fun P163 hT164 f165 f166 f167 => mpp 50 rfl ?_)
            have k168 : KW [514, 519] Po P163 := KW.step KW.refl rl_289 rfl f166 f167
            have e169 : (fv P163 289 7).toInt = 1 := congrArg Int32.toInt f165
            refine mp_a (a_aload_n dX4_takeKind_50 rfl) (mpp 51 rfl ?_)
            refine mp_t (s_dup dX4_takeKind_51 rfl) (mpp 52 rfl ?_)
            have g170 := ti_full (fv P163 289 2)
            refine mt_getI (i := 23) (k := 2) hT164 dX4_takeKind_52 rfl rl_289 (by decide) rfl (by decide) rfl (fun g171 g172 => mpp 55 rfl ?_)
            refine mp_a (a_iconst (v := 1) dX4_takeKind_55 rfl) (mpp 56 rfl ?_)
            obtain ⟨z173, h174⟩ := ti_ex ((fv P163 289 2) + 1 : Int32)
            have wz173 := ti_full z173
            refine mp_t (s_iadd (v := z173) dX4_takeKind_56 h174) (mpp 57 rfl ?_)
            try have e175 : z173.toInt = (fv P163 289 2).toInt + 1 := ti_addz h174 rfl rfl (by omega) (by omega)
            refine mt_putI (i := 23) (k := 2) (x := z173) hT164 dX4_takeKind_57 rfl rl_289 (by decide) rfl (by decide) rfl (ti_full z173) rfl rfl (fun P176 hT177 f178 f179 f180 => mpp 60 rfl ?_)
            have k181 : KW [514, 519] Po P176 := KW.step k168 rl_289 rfl f179 f180
            have e182 : (fv P176 289 2).toInt = z173.toInt := congrArg Int32.toInt f178
            refine mp_a (a_iconst (v := 1) dX4_takeKind_60 rfl) (mpp 61 rfl ?_)
            have u183 : 0 ≤ (1 : Int) ∧ (1 : Int) ≤ 1 := by omega
            exact mp_iret ⟨⟨_, rfl, u183⟩, hT177, k181, trivial⟩ dX4_takeKind_61 (Or.inr ⟨rfl, by decide⟩)
        · have c140 : x4.toInt = 111 := ti_ne_n c140
          refine mp_a (a_iconst (v := 0) dX4_takeKind_32 rfl) (mpp 33 rfl ?_)
          refine mp_a (a_goto (t := 47) dX4_takeKind_33 (by decide)) ?_
          refine mt_putI (i := 72) (k := 7) (x := 0) hT dX4_takeKind_47 rfl rl_289 (by decide) rfl (by decide) rfl (by decide) rfl rfl (fun P184 hT185 f186 f187 f188 => mpp 50 rfl ?_)
          have k189 : KW [514, 519] Po P184 := KW.step KW.refl rl_289 rfl f187 f188
          have e190 : (fv P184 289 7).toInt = 0 := congrArg Int32.toInt f186
          refine mp_a (a_aload_n dX4_takeKind_50 rfl) (mpp 51 rfl ?_)
          refine mp_t (s_dup dX4_takeKind_51 rfl) (mpp 52 rfl ?_)
          have g191 := ti_full (fv P184 289 2)
          refine mt_getI (i := 23) (k := 2) hT185 dX4_takeKind_52 rfl rl_289 (by decide) rfl (by decide) rfl (fun g192 g193 => mpp 55 rfl ?_)
          refine mp_a (a_iconst (v := 1) dX4_takeKind_55 rfl) (mpp 56 rfl ?_)
          obtain ⟨z194, h195⟩ := ti_ex ((fv P184 289 2) + 1 : Int32)
          have wz194 := ti_full z194
          refine mp_t (s_iadd (v := z194) dX4_takeKind_56 h195) (mpp 57 rfl ?_)
          try have e196 : z194.toInt = (fv P184 289 2).toInt + 1 := ti_addz h195 rfl rfl (by omega) (by omega)
          refine mt_putI (i := 23) (k := 2) (x := z194) hT185 dX4_takeKind_57 rfl rl_289 (by decide) rfl (by decide) rfl (ti_full z194) rfl rfl (fun P197 hT198 f199 f200 f201 => mpp 60 rfl ?_)
          have k202 : KW [514, 519] Po P197 := KW.step k189 rl_289 rfl f200 f201
          have e203 : (fv P197 289 2).toInt = z194.toInt := congrArg Int32.toInt f199
          refine mp_a (a_iconst (v := 1) dX4_takeKind_60 rfl) (mpp 61 rfl ?_)
          have u204 : 0 ≤ (1 : Int) ∧ (1 : Int) ≤ 1 := by omega
          exact mp_iret ⟨⟨_, rfl, u204⟩, hT198, k202, trivial⟩ dX4_takeKind_61 (Or.inr ⟨rfl, by decide⟩)
      · have c139 : x4.toInt ≠ 118 := ti_eq_n c139
        refine mp_a (a_iconst (v := 0) dX4_takeKind_23 rfl) (mpp 24 rfl ?_)
        have u205 : 0 ≤ (0 : Int) ∧ (0 : Int) ≤ 1 := by omega
        exact mp_iret ⟨⟨_, rfl, u205⟩, hT, KW.refl, trivial⟩ dX4_takeKind_24 (Or.inr ⟨rfl, by decide⟩)

set_option maxHeartbeats 4000000 in
theorem c_CS_takeCreases_Script_l12 {Po : mP}  (hTo : Typ Po) (hX : XR Po)  : ∀ (n : Nat) (v1 : Int32), ∀ (P : mP), Typ P → KW [514, 517, 518, 519] Po P → (0 ≤ v1.toInt) → (2147483647 - v1.toInt).toNat = n → MEvP 3 none q_101 12 [(0, .ref 289), (1, .int v1)] [] P 0 0 (fun r P' => (∃ x : Int32, r = some (.int x) ∧ (0 ≤ x.toInt ∧ x.toInt ≤ 1)) ∧ Typ P' ∧ KW [514, 517, 518, 519] Po P' ∧ True) := by
  intro n
  induction n using Nat.strongRecOn with | _ n ih => ?_
  intro v1 P hT hK i_0 hm
  have w_v1 := ti_full v1
  refine mp_a (a_iload_n dX4_takeCreases_12 rfl) (mpp 13 rfl ?_)
  refine mp_a (a_bipush (v := 8) dX4_takeCreases_13 rfl) (mpp 15 rfl ?_)
  refine mp_Tb (t := 57) (j_icmp_ge dX4_takeCreases_15) (by decide) (fun c1 => ?_) (fun c1 => mpp 18 rfl ?_)
  · have c1 : v1.toInt ≥ 8 := ti_ge c1
    refine mp_a (a_aload_n dX4_takeCreases_57 rfl) (mpp 58 rfl ?_)
    have g2 := ti_full (fv P 289 6)
    refine mt_getI (i := 69) (k := 6) hT dX4_takeCreases_58 rfl rl_289 (by decide) rfl (by decide) rfl (fun g3 g4 => mpp 61 rfl ?_)
    refine mp_Tb (t := 68) (j_if_le dX4_takeCreases_61) (by decide) (fun c5 => ?_) (fun c5 => mpp 64 rfl ?_)
    · have c5 : (fv P 289 6).toInt ≤ 0 := ti_le c5
      refine mp_a (a_iconst (v := 0) dX4_takeCreases_68 rfl) (mpp 69 rfl ?_)
      have u6 : 0 ≤ (0 : Int) ∧ (0 : Int) ≤ 1 := by omega
      exact mp_iret ⟨⟨_, rfl, u6⟩, hT, hK, trivial⟩ dX4_takeCreases_69 (Or.inr ⟨rfl, by decide⟩)
    · have c5 : (fv P 289 6).toInt > 0 := ti_le_n c5
      refine mp_a (a_iconst (v := 1) dX4_takeCreases_64 rfl) (mpp 65 rfl ?_)
      refine mp_a (a_goto (t := 69) dX4_takeCreases_65 (by decide)) ?_
      have u7 : 0 ≤ (1 : Int) ∧ (1 : Int) ≤ 1 := by omega
      exact mp_iret ⟨⟨_, rfl, u7⟩, hT, hK, trivial⟩ dX4_takeCreases_69 (Or.inr ⟨rfl, by decide⟩)
  · have c1 : v1.toInt < 8 := ti_ge_n c1
    refine mp_a (a_aload_n dX4_takeCreases_18 rfl) (mpp 19 rfl ?_)
    refine mt_callv (i := 56) (q' := q_102) (As := []) (rest := []) hT dX4_takeCreases_19 rfl qm_102 (by decide) rfl rl_289 (by decide) rfl (Nat.le_of_ble_eq_true rfl) rfl ⟨rfl, rfl⟩ ⟨Nat.le_of_ble_eq_true rfl, Nat.le_of_ble_eq_true rfl⟩ (EvP.mono (by decide) (c_CS_takeKind_Script hT (KW.xr hK hX) )) (fun r8 P9 g10 => mpp 22 rfl ?_)
    obtain ⟨⟨x11, rfl, g12⟩, hT13, k14, R15⟩ := g10
    have k16 : KW [514, 517, 518, 519] Po P9 := KW.trans hK k14 rfl
    have wx11 := ti_full x11
    replace g12 : 0 ≤ x11.toInt ∧ x11.toInt ≤ 1 := g12
    show MEvP _ none q_101 22 [(0, .ref 289), (1, .int v1)] [.int x11] _ _ _ _
    refine mp_Tb (t := 57) (j_if_eq dX4_takeCreases_22) (by decide) (fun c18 => ?_) (fun c18 => mpp 25 rfl ?_)
    · have c18 : x11.toInt = 0 := ti_eq c18
      refine mp_a (a_aload_n dX4_takeCreases_57 rfl) (mpp 58 rfl ?_)
      have g19 := ti_full (fv P9 289 6)
      refine mt_getI (i := 69) (k := 6) hT13 dX4_takeCreases_58 rfl rl_289 (by decide) rfl (by decide) rfl (fun g20 g21 => mpp 61 rfl ?_)
      refine mp_Tb (t := 68) (j_if_le dX4_takeCreases_61) (by decide) (fun c22 => ?_) (fun c22 => mpp 64 rfl ?_)
      · have c22 : (fv P9 289 6).toInt ≤ 0 := ti_le c22
        refine mp_a (a_iconst (v := 0) dX4_takeCreases_68 rfl) (mpp 69 rfl ?_)
        have u23 : 0 ≤ (0 : Int) ∧ (0 : Int) ≤ 1 := by omega
        exact mp_iret ⟨⟨_, rfl, u23⟩, hT13, k16, trivial⟩ dX4_takeCreases_69 (Or.inr ⟨rfl, by decide⟩)
      · have c22 : (fv P9 289 6).toInt > 0 := ti_le_n c22
        refine mp_a (a_iconst (v := 1) dX4_takeCreases_64 rfl) (mpp 65 rfl ?_)
        refine mp_a (a_goto (t := 69) dX4_takeCreases_65 (by decide)) ?_
        have u24 : 0 ≤ (1 : Int) ∧ (1 : Int) ≤ 1 := by omega
        exact mp_iret ⟨⟨_, rfl, u24⟩, hT13, k16, trivial⟩ dX4_takeCreases_69 (Or.inr ⟨rfl, by decide⟩)
    · have c18 : x11.toInt ≠ 0 := ti_eq_n c18
      refine mp_a (a_aload_n dX4_takeCreases_25 rfl) (mpp 26 rfl ?_)
      refine mp_a (a_aload_n dX4_takeCreases_26 rfl) (mpp 27 rfl ?_)
      have g25 := ti_full (fv P9 289 5)
      refine mt_getI (i := 66) (k := 5) hT13 dX4_takeCreases_27 rfl rl_289 (by decide) rfl (by decide) rfl (fun g26 g27 => mpp 30 rfl ?_)
      refine mp_a (a_bipush (v := 10) dX4_takeCreases_30 rfl) (mpp 32 rfl ?_)
      obtain ⟨z28, h29⟩ := ti_ex ((fv P9 289 5) * 10 : Int32)
      have wz28 := ti_full z28
      refine mp_t (s_imul (v := z28) dX4_takeCreases_32 h29) (mpp 33 rfl ?_)
      try have e30 : z28.toInt = (fv P9 289 5).toInt * 10 := ti_mulz h29 rfl rfl (by omega) (by omega)
      refine mp_a (a_aload_n dX4_takeCreases_33 rfl) (mpp 34 rfl ?_)
      have g31 := ti_full (fv P9 289 7)
      refine mt_getI (i := 72) (k := 7) hT13 dX4_takeCreases_34 rfl rl_289 (by decide) rfl (by decide) rfl (fun g32 g33 => mpp 37 rfl ?_)
      obtain ⟨z34, h35⟩ := ti_ex (z28 + (fv P9 289 7) : Int32)
      have wz34 := ti_full z34
      refine mp_t (s_iadd (v := z34) dX4_takeCreases_37 h35) (mpp 38 rfl ?_)
      try have e36 : z34.toInt = z28.toInt + (fv P9 289 7).toInt := ti_addz h35 rfl rfl (by omega) (by omega)
      refine mt_putI (i := 66) (k := 5) (x := z34) hT13 dX4_takeCreases_38 rfl rl_289 (by decide) rfl (by decide) rfl (ti_full z34) rfl rfl (fun P37 hT38 f39 f40 f41 => mpp 41 rfl ?_)
      have k42 : KW [514, 517, 518, 519] Po P37 := KW.step k16 rl_289 rfl f40 f41
      have e43 : (fv P37 289 5).toInt = z34.toInt := congrArg Int32.toInt f39
      refine mp_a (a_aload_n dX4_takeCreases_41 rfl) (mpp 42 rfl ?_)
      refine mp_t (s_dup dX4_takeCreases_42 rfl) (mpp 43 rfl ?_)
      have g44 := ti_full (fv P37 289 6)
      refine mt_getI (i := 69) (k := 6) hT38 dX4_takeCreases_43 rfl rl_289 (by decide) rfl (by decide) rfl (fun g45 g46 => mpp 46 rfl ?_)
      refine mp_a (a_iconst (v := 1) dX4_takeCreases_46 rfl) (mpp 47 rfl ?_)
      obtain ⟨z47, h48⟩ := ti_ex ((fv P37 289 6) + 1 : Int32)
      have wz47 := ti_full z47
      refine mp_t (s_iadd (v := z47) dX4_takeCreases_47 h48) (mpp 48 rfl ?_)
      try have e49 : z47.toInt = (fv P37 289 6).toInt + 1 := ti_addz h48 rfl rfl (by omega) (by omega)
      refine mt_putI (i := 69) (k := 6) (x := z47) hT38 dX4_takeCreases_48 rfl rl_289 (by decide) rfl (by decide) rfl (ti_full z47) rfl rfl (fun P50 hT51 f52 f53 f54 => mpp 51 rfl ?_)
      have k55 : KW [514, 517, 518, 519] Po P50 := KW.step k42 rl_289 rfl f53 f54
      have e56 : (fv P50 289 6).toInt = z47.toInt := congrArg Int32.toInt f52
      obtain ⟨z57, h58⟩ := ti_ex (v1 + 1 : Int32)
      have wz57 := ti_full z57
      refine mp_a (a_iinc (v := z57) (L' := [(1, .int z57), (0, .ref 289)]) dX4_takeCreases_51 (by decide) rfl h58 rfl) (mpp 54 rfl ?_)
      try have e59 : z57.toInt = v1.toInt + 1 := ti_addz h58 rfl rfl (by omega) (by omega)
      refine mp_a (a_goto (t := 12) dX4_takeCreases_54 (by decide)) ?_
      refine MEvP.less (L := [(0, .ref 289), (1, .int z57)]) rfl rfl ⟨rfl, rfl, trivial⟩ ?_
      have i60 : 0 ≤ z57.toInt := by omega
      exact ih _ (by omega) _ P50 hT51 k55 i60 rfl

set_option maxHeartbeats 4000000 in
theorem c_CS_takeCreases_Script {Po : mP}  (hT : Typ Po) (hX : XR Po)   : EvP 4 101 [.ref 289] Po (fun r P' => (∃ x : Int32, r = some (.int x) ∧ (0 ≤ x.toInt ∧ x.toInt ≤ 1)) ∧ Typ P' ∧ KW [514, 517, 518, 519] Po P' ∧ True) := by
  refine EvP.of qm_101 (Nat.le_of_ble_eq_true rfl) rfl ?_
  show MEvP _ none q_101 0 [(0, .ref 289)] [] _ 0 0 _
  refine mp_a (a_aload_n dX4_takeCreases_0 rfl) (mpp 1 rfl ?_)
  refine mp_a (a_iconst (v := 0) dX4_takeCreases_1 rfl) (mpp 2 rfl ?_)
  refine mt_putI (i := 66) (k := 5) (x := 0) hT dX4_takeCreases_2 rfl rl_289 (by decide) rfl (by decide) rfl (by decide) rfl rfl (fun P1 hT2 f3 f4 f5 => mpp 5 rfl ?_)
  have k6 : KW [514, 517, 518, 519] Po P1 := KW.step KW.refl rl_289 rfl f4 f5
  have e7 : (fv P1 289 5).toInt = 0 := congrArg Int32.toInt f3
  refine mp_a (a_aload_n dX4_takeCreases_5 rfl) (mpp 6 rfl ?_)
  refine mp_a (a_iconst (v := 0) dX4_takeCreases_6 rfl) (mpp 7 rfl ?_)
  refine mt_putI (i := 69) (k := 6) (x := 0) hT2 dX4_takeCreases_7 rfl rl_289 (by decide) rfl (by decide) rfl (by decide) rfl rfl (fun P8 hT9 f10 f11 f12 => mpp 10 rfl ?_)
  have k13 : KW [514, 517, 518, 519] Po P8 := KW.step k6 rl_289 rfl f11 f12
  have e14 : (fv P8 289 6).toInt = 0 := congrArg Int32.toInt f10
  refine mp_a (a_iconst (v := 0) dX4_takeCreases_10 rfl) (mpp 11 rfl ?_)
  refine mp_a (a_istore_n (L' := [(1, .int 0), (0, .ref 289)]) dX4_takeCreases_11 (by decide) rfl) (mpp 12 rfl ?_)
  refine MEvP.less (L := [(0, .ref 289), (1, .int 0)]) rfl rfl ⟨rfl, rfl, trivial⟩ ?_
  have i15 : 0 ≤ (0 : Int) := by omega
  exact c_CS_takeCreases_Script_l12 hT hX   _ _ P8 hT9 k13 i15 rfl

set_option maxHeartbeats 4000000 in
theorem c_CS_takeDigit_Script {Po : mP}  (hT : Typ Po) (hX : XR Po)   : EvP 3 104 [.ref 289] Po (fun r P' => (∃ x : Int32, r = some (.int x) ∧ (0 ≤ x.toInt ∧ x.toInt ≤ 1)) ∧ Typ P' ∧ KW [514] Po P' ∧ True) := by
  refine EvP.of qm_104 (Nat.le_of_ble_eq_true rfl) rfl ?_
  show MEvP _ none q_104 0 [(0, .ref 289)] [] _ 0 0 _
  refine mp_a (a_aload_n dX4_takeDigit_0 rfl) (mpp 1 rfl ?_)
  refine mt_callv (i := 37) (q' := q_98) (As := []) (rest := []) hT dX4_takeDigit_1 rfl qm_98 (by decide) rfl rl_289 (by decide) rfl (Nat.le_of_ble_eq_true rfl) rfl ⟨rfl, rfl⟩ ⟨Nat.le_of_ble_eq_true rfl, Nat.le_of_ble_eq_true rfl⟩ (EvP.mono (by decide) (c_CS_codeHere_Script hT hX )) (fun r1 P2 g3 => mpp 4 rfl ?_)
  obtain ⟨⟨x4, rfl, g5⟩, e6⟩ := g3
  have e6 := e6.symm
  subst e6
  have wx4 := ti_full x4
  show MEvP _ none q_104 4 [(0, .ref 289)] [.int x4] _ _ _ _
  refine mp_a (a_bipush (v := 48) dX4_takeDigit_4 rfl) (mpp 6 rfl ?_)
  refine mp_Tb (t := 18) (j_icmp_lt dX4_takeDigit_6) (by decide) (fun c7 => ?_) (fun c7 => mpp 9 rfl ?_)
  · have c7 : x4.toInt < 48 := ti_lt c7
    refine mp_a (a_iconst (v := 0) dX4_takeDigit_18 rfl) (mpp 19 rfl ?_)
    have u8 : 0 ≤ (0 : Int) ∧ (0 : Int) ≤ 1 := by omega
    exact mp_iret ⟨⟨_, rfl, u8⟩, hT, KW.refl, trivial⟩ dX4_takeDigit_19 (Or.inr ⟨rfl, by decide⟩)
  · have c7 : x4.toInt ≥ 48 := ti_lt_n c7
    refine mp_a (a_aload_n dX4_takeDigit_9 rfl) (mpp 10 rfl ?_)
    refine mt_callv (i := 37) (q' := q_98) (As := []) (rest := []) hT dX4_takeDigit_10 rfl qm_98 (by decide) rfl rl_289 (by decide) rfl (Nat.le_of_ble_eq_true rfl) rfl ⟨rfl, rfl⟩ ⟨Nat.le_of_ble_eq_true rfl, Nat.le_of_ble_eq_true rfl⟩ (EvP.mono (by decide) (c_CS_codeHere_Script hT hX )) (fun r9 P10 g11 => mpp 13 rfl ?_)
    obtain ⟨⟨x12, rfl, g13⟩, e14⟩ := g11
    have e14 := e14.symm
    subst e14
    have wx12 := ti_full x12
    show MEvP _ none q_104 13 [(0, .ref 289)] [.int x12] _ _ _ _
    refine mp_a (a_bipush (v := 57) dX4_takeDigit_13 rfl) (mpp 15 rfl ?_)
    refine mp_Tb (t := 20) (j_icmp_le dX4_takeDigit_15) (by decide) (fun c15 => ?_) (fun c15 => mpp 18 rfl ?_)
    · have c15 : x12.toInt ≤ 57 := ti_le c15
      refine mp_a (a_aload_n dX4_takeDigit_20 rfl) (mpp 21 rfl ?_)
      refine mp_t (s_dup dX4_takeDigit_21 rfl) (mpp 22 rfl ?_)
      have g16 := ti_full (fv Po 289 2)
      refine mt_getI (i := 23) (k := 2) hT dX4_takeDigit_22 rfl rl_289 (by decide) rfl (by decide) rfl (fun g17 g18 => mpp 25 rfl ?_)
      refine mp_a (a_iconst (v := 1) dX4_takeDigit_25 rfl) (mpp 26 rfl ?_)
      obtain ⟨z19, h20⟩ := ti_ex ((fv Po 289 2) + 1 : Int32)
      have wz19 := ti_full z19
      refine mp_t (s_iadd (v := z19) dX4_takeDigit_26 h20) (mpp 27 rfl ?_)
      try have e21 : z19.toInt = (fv Po 289 2).toInt + 1 := ti_addz h20 rfl rfl (by omega) (by omega)
      refine mt_putI (i := 23) (k := 2) (x := z19) hT dX4_takeDigit_27 rfl rl_289 (by decide) rfl (by decide) rfl (ti_full z19) rfl rfl (fun P22 hT23 f24 f25 f26 => mpp 30 rfl ?_)
      have k27 : KW [514] Po P22 := KW.step KW.refl rl_289 rfl f25 f26
      have e28 : (fv P22 289 2).toInt = z19.toInt := congrArg Int32.toInt f24
      refine mp_a (a_iconst (v := 1) dX4_takeDigit_30 rfl) (mpp 31 rfl ?_)
      have u29 : 0 ≤ (1 : Int) ∧ (1 : Int) ≤ 1 := by omega
      exact mp_iret ⟨⟨_, rfl, u29⟩, hT23, k27, trivial⟩ dX4_takeDigit_31 (Or.inr ⟨rfl, by decide⟩)
    · have c15 : x12.toInt > 57 := ti_le_n c15
      refine mp_a (a_iconst (v := 0) dX4_takeDigit_18 rfl) (mpp 19 rfl ?_)
      have u30 : 0 ≤ (0 : Int) ∧ (0 : Int) ≤ 1 := by omega
      exact mp_iret ⟨⟨_, rfl, u30⟩, hT, KW.refl, trivial⟩ dX4_takeDigit_19 (Or.inr ⟨rfl, by decide⟩)

