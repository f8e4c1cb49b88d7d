/-! methods on typed pools, 26 (written by a program) -/
set_option maxHeartbeats 4000000 in
theorem c_M_changed {Po : mP}  (hT : Typ Po) (hR : Rel Po)  : EvP 2 140 [.ref 301] Po (fun r P' => (r = none ∧ (True)) ∧ Typ P' ∧ KW [1092, 1344] Po P' ∧ Rel P' ∧ (((fv Po 301 4).toInt < 8 ∧ (fv P' 301 4).toInt = (fv Po 301 4).toInt + 1) ∨ ((fv Po 301 4).toInt = 8 ∧ (fv P' 301 4).toInt = 8)) ∧ (PUP Po P' (fv Po 301 4).toInt.toNat) ∧ (∀ x j : Nat, ¬ x = 305 → ¬ (x = 301 ∧ j = 4) → fv P' x j = fv Po x j) ∧ KI 301 306 Po P') := by
  refine EvP.of qm_140 (Nat.le_of_ble_eq_true rfl) rfl ?_
  show MEvP _ none q_140 0 [(0, .ref 301)] [] _ 0 0 _
  have g1 : (0 : Int) ≤ (fv Po 301 4).toInt ∧ (fv Po 301 4).toInt ≤ 8 := Typ.rng hT rl_301 (by decide) (by decide) rfl
  refine mp_a (a_aload_n dX7_changed_0 rfl) (mpp 1 rfl ?_)
  refine mt_getI (i := 58) (k := 4) hT dX7_changed_1 rfl rl_301 (by decide) rfl (by decide) rfl (fun g2 g3 => mpp 4 rfl ?_)
  refine mp_a (a_bipush (v := 8) dX7_changed_4 rfl) (mpp 6 rfl ?_)
  refine mp_Tb (t := 56) (j_icmp_ne dX7_changed_6) (by decide) (fun c4 => ?_) (fun c4 => mpp 9 rfl ?_)
  · have c4 : (fv Po 301 4).toInt ≠ 8 := ti_ne c4
    refine mp_a (a_aload_n dX7_changed_56 rfl) (mpp 57 rfl ?_)
    refine mt_getU (i := 13) (k := 1) (A := 303) hT dX7_changed_57 rfl rl_301 (by decide) rfl (by decide) rfl un_19 (mpp 60 rfl ?_)
    refine mp_a (a_iconst (v := 0) dX7_changed_60 rfl) (mpp 61 rfl ?_)
    refine mp_a (a_aload_n dX7_changed_61 rfl) (mpp 62 rfl ?_)
    refine mt_getU (i := 19) (k := 3) (A := 305) hT dX7_changed_62 rfl rl_301 (by decide) rfl (by decide) rfl un_21 (mpp 65 rfl ?_)
    refine mp_a (a_sipush (v := 155) dX7_changed_65 rfl) (mpp 68 rfl ?_)
    refine mp_a (a_aload_n dX7_changed_68 rfl) (mpp 69 rfl ?_)
    refine mt_getI (i := 58) (k := 4) hT dX7_changed_69 rfl rl_301 (by decide) rfl (by decide) rfl (fun g5 g6 => mpp 72 rfl ?_)
    obtain ⟨z7, h8⟩ := ti_ex (155 * (fv Po 301 4) : Int32)
    have wz7 := ti_full z7
    refine mp_t (s_imul (v := z7) dX7_changed_72 h8) (mpp 73 rfl ?_)
    try have e9 : z7.toInt = 155 * (fv Po 301 4).toInt := ti_mulz h8 rfl rfl (by omega) (by omega)
    have p10 : 0 ≤ (0 : Int) := by omega
    have p11 : (0 : Int) + 155 ≤ 155 := by omega
    have p12 : (0 : Int) % 155 = 0 := by omega
    have p13 : 0 ≤ z7.toInt := by omega
    have p14 : z7.toInt + 155 ≤ 1240 := by omega
    have p15 : z7.toInt % 155 = 0 := by omega
    refine mp_calls (i := 54) (q' := q_125) (As := [.ref 303, .int 0, .ref 305, .int z7]) (rest := []) dX7_changed_73 rfl qm_125 (by decide) rfl (Nat.le_of_ble_eq_true rfl) rfl ⟨rfl, rfl⟩ ⟨Nat.le_of_ble_eq_true rfl, Nat.le_of_ble_eq_true rfl⟩ (EvP.mono (by decide) (c_M_copies_was_past hT p10 p11 p12 p13 p14 p15 )) (fun r16 P17 g18 => mpp 76 rfl ?_)
    obtain ⟨⟨rfl, g20⟩, hT21, k22, R23⟩ := g18
    have k24 : KW [1092, 1344] Po P17 := KW.trans KW.refl k22 rfl
    replace g20 : CPY Po P17 303 (0 : Int).toNat 305 z7.toInt.toNat 155 := g20
    show MEvP _ none q_140 76 [(0, .ref 301)] [] _ _ _ _
    have R26 := Rel.cpy hR g20 (Or.inl ⟨by decide, by first | rfl | omega⟩) (Or.inr ⟨rfl, by first | rfl | omega, by first | decide | omega⟩)
    refine mp_a (a_aload_n dX7_changed_76 rfl) (mpp 77 rfl ?_)
    refine mp_t (s_dup dX7_changed_77 rfl) (mpp 78 rfl ?_)
    have e27 : (fv P17 301 4).toInt = (fv Po 301 4).toInt := congrArg Int32.toInt (KW.at k22 4 rl_301 rfl)
    refine mt_getI (i := 58) (k := 4) hT21 dX7_changed_78 rfl rl_301 (by decide) rfl (by decide) rfl (fun g28 g29 => mpp 81 rfl ?_)
    refine mp_a (a_iconst (v := 1) dX7_changed_81 rfl) (mpp 82 rfl ?_)
    obtain ⟨z30, h31⟩ := ti_ex ((fv P17 301 4) + 1 : Int32)
    have wz30 := ti_full z30
    refine mp_t (s_iadd (v := z30) dX7_changed_82 h31) (mpp 83 rfl ?_)
    try have e32 : z30.toInt = (fv P17 301 4).toInt + 1 := ti_addz h31 rfl rfl (by omega) (by omega)
    refine mt_putI (i := 58) (k := 4) (x := z30) hT21 dX7_changed_83 rfl rl_301 (by decide) rfl (by decide) rfl ⟨by omega, by omega⟩ rfl rfl (fun P33 hT34 f35 f36 f37 => mpp 86 rfl ?_)
    have k38 : KW [1092, 1344] Po P33 := KW.step k24 rl_301 rfl f36 f37
    have R39 := Rel.ne R26 rl_301 rfl f36
    have e40 : (fv P33 301 4).toInt = z30.toInt := congrArg Int32.toInt f35
    have u41 : (((fv Po 301 4).toInt < 8 ∧ (fv P33 301 4).toInt = (fv Po 301 4).toInt + 1) ∨ ((fv Po 301 4).toInt = 8 ∧ (fv P33 301 4).toInt = 8)) := by omega
    have u42 : (PUP Po P33 (fv Po 301 4).toInt.toNat) := PUP.a g20 f36 (by omega) (by omega)
    have u43 : (∀ x j : Nat, ¬ x = 305 → ¬ (x = 301 ∧ j = 4) → fv P33 x j = fv Po x j) := fun x j h1 h2 => by rw [f36 x j h2, g20.2 x j (fun e => h1 e.1)]
    have u44 : KI 301 306 Po P33 := fun x j hx => u43 x j (by omega) (by omega)
    exact mp_ret ⟨⟨rfl, trivial⟩, hT34, k38, R39, ⟨u41, u42, u43, u44⟩⟩ dX7_changed_86 rfl
  · have c4 : (fv Po 301 4).toInt = 8 := ti_ne_n c4
    refine mp_a (a_iconst (v := 1) dX7_changed_9 rfl) (mpp 10 rfl ?_)
    refine mp_a (a_istore_n (L' := [(1, .int 1), (0, .ref 301)]) dX7_changed_10 (by decide) rfl) (mpp 11 rfl ?_)
    refine MEvP.less (L := [(0, .ref 301), (1, .int 1)]) rfl rfl ⟨rfl, rfl, trivial⟩ ?_
    have i45 : (fv Po 301 4).toInt = 8 := by omega
    have i46 : SHF Po Po (1 : Int).toNat := SHF.start (by decide)
    have i47 : (1 : Int) ≤ 8 ∧ (fv Po 301 4).toInt = 8 := by omega
    have i48 : 1 ≤ (1 : Int) := by omega
    exact c_M_changed_l11    _ _ Po hT KW.refl hR i45 i46 i47 i48 rfl

set_option maxHeartbeats 4000000 in
theorem c_M_ends {Po : mP} {t1 : Int32} (hT : Typ Po) (hR : Rel Po)  : EvP 3 139 [.ref 301, .int t1] Po (fun r P' => (∃ x : Int32, r = some (.int x) ∧ (x.toInt = t1.toInt)) ∧ Typ P' ∧ KW [1092, 1095, 1344] Po P' ∧ Rel P' ∧ ((-1004 ≤ t1.toInt ∧ t1.toInt ≤ -1001) ∨ (PUP Po P' (fv Po 301 4).toInt.toNat ∧ (((fv Po 301 4).toInt < 8 ∧ (fv P' 301 4).toInt = (fv Po 301 4).toInt + 1) ∨ ((fv Po 301 4).toInt = 8 ∧ (fv P' 301 4).toInt = 8)))) ∧ ((t1.toInt < -1004 ∨ -1001 < t1.toInt) ∨ ∀ x j : Nat, ¬ (x = 301 ∧ j = 7) → fv P' x j = fv Po x j) ∧ (∀ x j : Nat, ¬ x = 305 → ¬ (x = 301 ∧ j = 4) → ¬ (x = 301 ∧ j = 7) → fv P' x j = fv Po x j) ∧ KI 301 306 Po P') := by
  refine EvP.of qm_139 (Nat.le_of_ble_eq_true rfl) rfl ?_
  show MEvP _ none q_139 0 [(0, .ref 301), (1, .int t1)] [] _ 0 0 _
  have w_t1 := ti_full t1
  have g1 : (0 : Int) ≤ (fv Po 301 4).toInt ∧ (fv Po 301 4).toInt ≤ 8 := Typ.rng hT rl_301 (by decide) (by decide) rfl
  refine mp_a (a_aload_n dX7_ends_0 rfl) (mpp 1 rfl ?_)
  refine mp_a (a_iload_n dX7_ends_1 rfl) (mpp 2 rfl ?_)
  refine mp_a (a_sipush (v := -1003) dX7_ends_2 rfl) (mpp 5 rfl ?_)
  refine mp_Tb (t := 14) (j_icmp_ne dX7_ends_5) (by decide) (fun c2 => ?_) (fun c2 => mpp 8 rfl ?_)
  · have c2 : t1.toInt ≠ (-1003) := ti_ne c2
    refine mp_a (a_aload_n dX7_ends_14 rfl) (mpp 15 rfl ?_)
    have g3 := ti_full (fv Po 301 7)
    refine mt_getI (i := 50) (k := 7) hT dX7_ends_15 rfl rl_301 (by decide) rfl (by decide) rfl (fun g4 g5 => mpp 18 rfl ?_)
    refine mt_putI (i := 50) (k := 7) (x := (fv Po 301 7)) hT dX7_ends_18 rfl rl_301 (by decide) rfl (by decide) rfl (ti_full (fv Po 301 7)) rfl rfl (fun P6 hT7 f8 f9 f10 => mpp 21 rfl ?_)
    have k11 : KW [1092, 1095, 1344] Po P6 := KW.step KW.refl rl_301 rfl f9 f10
    have R12 := Rel.ne hR rl_301 rfl f9
    have e13 : (fv P6 301 7).toInt = (fv Po 301 7).toInt := congrArg Int32.toInt f8
    refine mp_a (a_iload_n dX7_ends_21 rfl) (mpp 22 rfl ?_)
    refine mp_a (a_sipush (v := -1004) dX7_ends_22 rfl) (mpp 25 rfl ?_)
    refine mp_a (a_sipush (v := -1001) dX7_ends_25 rfl) (mpp 28 rfl ?_)
    refine mp_calls (i := 61) (q' := q_127) (As := [.int t1, .int (-1004), .int (-1001)]) (rest := []) dX7_ends_28 rfl qm_127 (by decide) rfl (Nat.le_of_ble_eq_true rfl) rfl ⟨rfl, rfl⟩ ⟨Nat.le_of_ble_eq_true rfl, Nat.le_of_ble_eq_true rfl⟩ (EvP.mono (by decide) (c_M_isIn hT7 )) (fun r14 P15 g16 => mpp 31 rfl ?_)
    obtain ⟨⟨x17, rfl, g18⟩, e19⟩ := g16
    have e19 := e19.symm
    subst e19
    have wx17 := ti_full x17
    replace g18 : 0 ≤ x17.toInt ∧ x17.toInt ≤ 1 ∧ ((x17.toInt = 1 ∧ (-1004 : Int) ≤ t1.toInt ∧ t1.toInt ≤ (-1001 : Int)) ∨ (x17.toInt = 0 ∧ (t1.toInt < (-1004 : Int) ∨ (-1001 : Int) < t1.toInt))) := g18
    show MEvP _ none q_139 31 [(0, .ref 301), (1, .int t1)] [.int x17] _ _ _ _
    refine mp_Tb (t := 38) (j_if_ne dX7_ends_31) (by decide) (fun c20 => ?_) (fun c20 => mpp 34 rfl ?_)
    · have c20 : x17.toInt ≠ 0 := ti_ne c20
      refine mp_a (a_iload_n dX7_ends_38 rfl) (mpp 39 rfl ?_)
      have u21 : t1.toInt = t1.toInt := by omega
      have u22 : ((-1004 ≤ t1.toInt ∧ t1.toInt ≤ -1001) ∨ (PUP Po P6 (fv Po 301 4).toInt.toNat ∧ (((fv Po 301 4).toInt < 8 ∧ (fv P6 301 4).toInt = (fv Po 301 4).toInt + 1) ∨ ((fv Po 301 4).toInt = 8 ∧ (fv P6 301 4).toInt = 8)))) := Or.inl (by omega)
      have u23 : ((t1.toInt < -1004 ∨ -1001 < t1.toInt) ∨ ∀ x j : Nat, ¬ (x = 301 ∧ j = 7) → fv P6 x j = fv Po x j) := Or.inr (fun x j h => f9 x j h)
      have u24 : (∀ x j : Nat, ¬ x = 305 → ¬ (x = 301 ∧ j = 4) → ¬ (x = 301 ∧ j = 7) → fv P6 x j = fv Po x j) := fun x j h1 h2 h3 => f9 x j h3
      have u25 : KI 301 306 Po P6 := fun x j hx => u24 x j (by omega) (by omega) (by omega)
      exact mp_iret ⟨⟨_, rfl, u21⟩, hT7, k11, R12, ⟨u22, u23, u24, u25⟩⟩ dX7_ends_39 (Or.inl rfl)
    · have c20 : x17.toInt = 0 := ti_ne_n c20
      refine mp_a (a_aload_n dX7_ends_34 rfl) (mpp 35 rfl ?_)
      refine mt_callv (i := 65) (q' := q_140) (As := []) (rest := []) hT7 dX7_ends_35 rfl qm_140 (by decide) rfl rl_301 (by decide) rfl (Nat.le_of_ble_eq_true rfl) rfl ⟨rfl, rfl⟩ ⟨Nat.le_of_ble_eq_true rfl, Nat.le_of_ble_eq_true rfl⟩ (EvP.mono (by decide) (c_M_changed hT7 R12 )) (fun r26 P27 g28 => mpp 38 rfl ?_)
      obtain ⟨⟨rfl, g30⟩, hT31, k32, R33r, R33⟩ := g28
      have k34 : KW [1092, 1095, 1344] Po P27 := KW.trans k11 k32 rfl
      show MEvP _ none q_139 38 [(0, .ref 301), (1, .int t1)] [] _ _ _ _
      refine mp_a (a_iload_n dX7_ends_38 rfl) (mpp 39 rfl ?_)
      have u36 : t1.toInt = t1.toInt := by omega
      have g38 : (0 : Int) ≤ (fv P27 301 4).toInt ∧ (fv P27 301 4).toInt ≤ 8 := Typ.rng hT31 rl_301 (by decide) (by decide) rfl
      have eq4 : (fv P6 301 4).toInt = (fv Po 301 4).toInt := congrArg Int32.toInt (f9 301 4 (ne_k rfl))
      have u37 : ((-1004 ≤ t1.toInt ∧ t1.toInt ≤ -1001) ∨ (PUP Po P27 (fv Po 301 4).toInt.toNat ∧ (((fv Po 301 4).toInt < 8 ∧ (fv P27 301 4).toInt = (fv Po 301 4).toInt + 1) ∨ ((fv Po 301 4).toInt = 8 ∧ (fv P27 301 4).toInt = 8)))) := Or.inr ⟨(congrArg Int.toNat eq4) ▸ PUP.src R33.2.1 (fun x j hx => f9 x j (fun e => hx e.1)), by have := R33.1; omega⟩
      have u39 : ((t1.toInt < -1004 ∨ -1001 < t1.toInt) ∨ ∀ x j : Nat, ¬ (x = 301 ∧ j = 7) → fv P27 x j = fv Po x j) := Or.inl (by omega)
      have u40 : (∀ x j : Nat, ¬ x = 305 → ¬ (x = 301 ∧ j = 4) → ¬ (x = 301 ∧ j = 7) → fv P27 x j = fv Po x j) := fun x j h1 h2 h3 => by rw [R33.2.2.1 x j h1 h2, f9 x j h3]
      have u41 : KI 301 306 Po P27 := fun x j hx => u40 x j (by omega) (by omega) (by omega)
      exact mp_iret ⟨⟨_, rfl, u36⟩, hT31, k34, R33r, ⟨u37, u39, u40, u41⟩⟩ dX7_ends_39 (Or.inl rfl)
  · have c2 : t1.toInt = (-1003) := ti_ne_n c2
    refine mp_a (a_sipush (v := -1004) dX7_ends_8 rfl) (mpp 11 rfl ?_)
    refine mp_a (a_goto (t := 18) dX7_ends_11 (by decide)) ?_
    refine mt_putI (i := 50) (k := 7) (x := (-1004)) hT dX7_ends_18 rfl rl_301 (by decide) rfl (by decide) rfl (by decide) rfl rfl (fun P42 hT43 f44 f45 f46 => mpp 21 rfl ?_)
    have k47 : KW [1092, 1095, 1344] Po P42 := KW.step KW.refl rl_301 rfl f45 f46
    have R48 := Rel.ne hR rl_301 rfl f45
    have e49 : (fv P42 301 7).toInt = (-1004) := congrArg Int32.toInt f44
    refine mp_a (a_iload_n dX7_ends_21 rfl) (mpp 22 rfl ?_)
    refine mp_a (a_sipush (v := -1004) dX7_ends_22 rfl) (mpp 25 rfl ?_)
    refine mp_a (a_sipush (v := -1001) dX7_ends_25 rfl) (mpp 28 rfl ?_)
    refine mp_calls (i := 61) (q' := q_127) (As := [.int t1, .int (-1004), .int (-1001)]) (rest := []) dX7_ends_28 rfl qm_127 (by decide) rfl (Nat.le_of_ble_eq_true rfl) rfl ⟨rfl, rfl⟩ ⟨Nat.le_of_ble_eq_true rfl, Nat.le_of_ble_eq_true rfl⟩ (EvP.mono (by decide) (c_M_isIn hT43 )) (fun r50 P51 g52 => mpp 31 rfl ?_)
    obtain ⟨⟨x53, rfl, g54⟩, e55⟩ := g52
    have e55 := e55.symm
    subst e55
    have wx53 := ti_full x53
    replace g54 : 0 ≤ x53.toInt ∧ x53.toInt ≤ 1 ∧ ((x53.toInt = 1 ∧ (-1004 : Int) ≤ t1.toInt ∧ t1.toInt ≤ (-1001 : Int)) ∨ (x53.toInt = 0 ∧ (t1.toInt < (-1004 : Int) ∨ (-1001 : Int) < t1.toInt))) := g54
    show MEvP _ none q_139 31 [(0, .ref 301), (1, .int t1)] [.int x53] _ _ _ _
    refine mp_Tb (t := 38) (j_if_ne dX7_ends_31) (by decide) (fun c56 => ?_) (fun c56 => mpp 34 rfl ?_)
    · have c56 : x53.toInt ≠ 0 := ti_ne c56
      refine mp_a (a_iload_n dX7_ends_38 rfl) (mpp 39 rfl ?_)
      have u57 : t1.toInt = t1.toInt := by omega
      have u58 : ((-1004 ≤ t1.toInt ∧ t1.toInt ≤ -1001) ∨ (PUP Po P42 (fv Po 301 4).toInt.toNat ∧ (((fv Po 301 4).toInt < 8 ∧ (fv P42 301 4).toInt = (fv Po 301 4).toInt + 1) ∨ ((fv Po 301 4).toInt = 8 ∧ (fv P42 301 4).toInt = 8)))) := Or.inl (by omega)
      have u59 : ((t1.toInt < -1004 ∨ -1001 < t1.toInt) ∨ ∀ x j : Nat, ¬ (x = 301 ∧ j = 7) → fv P42 x j = fv Po x j) := Or.inr (fun x j h => f45 x j h)
      have u60 : (∀ x j : Nat, ¬ x = 305 → ¬ (x = 301 ∧ j = 4) → ¬ (x = 301 ∧ j = 7) → fv P42 x j = fv Po x j) := fun x j h1 h2 h3 => f45 x j h3
      have u61 : KI 301 306 Po P42 := fun x j hx => u60 x j (by omega) (by omega) (by omega)
      exact mp_iret ⟨⟨_, rfl, u57⟩, hT43, k47, R48, ⟨u58, u59, u60, u61⟩⟩ dX7_ends_39 (Or.inl rfl)
    · have c56 : x53.toInt = 0 := ti_ne_n c56
      refine mp_a (a_aload_n dX7_ends_34 rfl) (mpp 35 rfl ?_)
      refine mt_callv (i := 65) (q' := q_140) (As := []) (rest := []) hT43 dX7_ends_35 rfl qm_140 (by decide) rfl rl_301 (by decide) rfl (Nat.le_of_ble_eq_true rfl) rfl ⟨rfl, rfl⟩ ⟨Nat.le_of_ble_eq_true rfl, Nat.le_of_ble_eq_true rfl⟩ (EvP.mono (by decide) (c_M_changed hT43 R48 )) (fun r62 P63 g64 => mpp 38 rfl ?_)
      obtain ⟨⟨rfl, g66⟩, hT67, k68, R69r, R69⟩ := g64
      have k70 : KW [1092, 1095, 1344] Po P63 := KW.trans k47 k68 rfl
      show MEvP _ none q_139 38 [(0, .ref 301), (1, .int t1)] [] _ _ _ _
      refine mp_a (a_iload_n dX7_ends_38 rfl) (mpp 39 rfl ?_)
      have u72 : t1.toInt = t1.toInt := by omega
      have g74 : (0 : Int) ≤ (fv P63 301 4).toInt ∧ (fv P63 301 4).toInt ≤ 8 := Typ.rng hT67 rl_301 (by decide) (by decide) rfl
      have eq4 : (fv P42 301 4).toInt = (fv Po 301 4).toInt := congrArg Int32.toInt (f45 301 4 (ne_k rfl))
      have u73 : ((-1004 ≤ t1.toInt ∧ t1.toInt ≤ -1001) ∨ (PUP Po P63 (fv Po 301 4).toInt.toNat ∧ (((fv Po 301 4).toInt < 8 ∧ (fv P63 301 4).toInt = (fv Po 301 4).toInt + 1) ∨ ((fv Po 301 4).toInt = 8 ∧ (fv P63 301 4).toInt = 8)))) := Or.inr ⟨(congrArg Int.toNat eq4) ▸ PUP.src R69.2.1 (fun x j hx => f45 x j (fun e => hx e.1)), by have := R69.1; omega⟩
      have u75 : ((t1.toInt < -1004 ∨ -1001 < t1.toInt) ∨ ∀ x j : Nat, ¬ (x = 301 ∧ j = 7) → fv P63 x j = fv Po x j) := Or.inl (by omega)
      have u76 : (∀ x j : Nat, ¬ x = 305 → ¬ (x = 301 ∧ j = 4) → ¬ (x = 301 ∧ j = 7) → fv P63 x j = fv Po x j) := fun x j h1 h2 h3 => by rw [R69.2.2.1 x j h1 h2, f45 x j h3]
      have u77 : KI 301 306 Po P63 := fun x j hx => u76 x j (by omega) (by omega) (by omega)
      exact mp_iret ⟨⟨_, rfl, u72⟩, hT67, k70, R69r, ⟨u73, u75, u76, u77⟩⟩ dX7_ends_39 (Or.inl rfl)

set_option maxHeartbeats 4000000 in
theorem c_M_stage {Po : mP} {t1 : Int32} (hT : Typ Po) (hR : Rel Po)  : EvP 8 182 [.ref 301, .int t1] Po (fun r P' => (∃ x : Int32, r = some (.int x) ∧ (TOPM Po P' x.toInt ∧ stagesM (sr Po) (sr P') x.toInt t1.toInt)) ∧ Typ P' ∧ KW [1092, 1093, 1094, 1095, 1152, 1216, 1344] Po P' ∧ Rel P') := by
  refine EvP.of qm_182 (Nat.le_of_ble_eq_true rfl) rfl ?_
  show MEvP _ none q_182 0 [(0, .ref 301), (1, .int t1)] [] _ 0 0 _
  have w_t1 := ti_full t1
  refine mp_a (a_aload_n dX7_stage_0 rfl) (mpp 1 rfl ?_)
  refine mt_callv (i := 117) (q' := q_124) (As := []) (rest := []) hT dX7_stage_1 rfl qm_124 (by decide) rfl rl_301 (by decide) rfl (Nat.le_of_ble_eq_true rfl) rfl ⟨rfl, rfl⟩ ⟨Nat.le_of_ble_eq_true rfl, Nat.le_of_ble_eq_true rfl⟩ (EvP.mono (by decide) (c_M_keeps hT hR )) (fun r1 P2 g3 => mpp 4 rfl ?_)
  obtain ⟨⟨rfl, g5⟩, hT6, k7, R8r, R8⟩ := g3
  have k9 : KW [1092, 1093, 1094, 1095, 1152, 1216, 1344] Po P2 := KW.trans KW.refl k7 rfl
  show MEvP _ none q_182 4 [(0, .ref 301), (1, .int t1)] [] _ _ _ _
  refine mp_a (a_aload_n dX7_stage_4 rfl) (mpp 5 rfl ?_)
  refine mp_a (a_aload_n dX7_stage_5 rfl) (mpp 6 rfl ?_)
  refine mp_a (a_iload_n dX7_stage_6 rfl) (mpp 7 rfl ?_)
  refine mt_callv (i := 234) (q' := q_183) (As := [.int t1]) (rest := [.ref 301]) hT6 dX7_stage_7 rfl qm_183 (by decide) rfl rl_301 (by decide) rfl (Nat.le_of_ble_eq_true rfl) rfl ⟨rfl, rfl⟩ ⟨Nat.le_of_ble_eq_true rfl, Nat.le_of_ble_eq_true rfl⟩ (EvP.mono (by decide) (c_M_stages hT6 R8r )) (fun r11 P12 g13 => mpp 10 rfl ?_)
  obtain ⟨⟨x14, rfl, g15⟩, hT16, k17, R18⟩ := g13
  have k19 : KW [1092, 1093, 1094, 1095, 1152, 1216, 1344] Po P12 := KW.trans k9 k17 rfl
  have wx14 := ti_full x14
  replace g15 : stagesM (sr P2) (sr P12) x14.toInt t1.toInt := g15
  show MEvP _ none q_182 10 [(0, .ref 301), (1, .int t1)] [.int x14, .ref 301] _ _ _ _
  refine mt_callv (i := 124) (q' := q_139) (As := [.int x14]) (rest := []) hT16 dX7_stage_10 rfl qm_139 (by decide) rfl rl_301 (by decide) rfl (Nat.le_of_ble_eq_true rfl) rfl ⟨rfl, rfl⟩ ⟨Nat.le_of_ble_eq_true rfl, Nat.le_of_ble_eq_true rfl⟩ (EvP.mono (by decide) (c_M_ends hT16 R18 )) (fun r21 P22 g23 => mpp 13 rfl ?_)
  obtain ⟨⟨x24, rfl, g25⟩, hT26, k27, R28r, R28⟩ := g23
  have k29 : KW [1092, 1093, 1094, 1095, 1152, 1216, 1344] Po P22 := KW.trans k19 k27 rfl
  have wx24 := ti_full x24
  replace g25 : x24.toInt = x14.toInt := g25
  show MEvP _ none q_182 13 [(0, .ref 301), (1, .int t1)] [.int x24] _ _ _ _
  have w32_a : sr P2 = sr Po := funext (fun j => R8.2 302 j (by omega))
  have w32_b : sr P12 = sr P22 := funext (fun j => (R28.2.2.1 302 j (by omega) (by omega) (by omega)).symm)
  have w32_g := g15
  rw [w32_a, w32_b] at w32_g
  have w32_x : x24.toInt = x14.toInt := by omega
  rw [← w32_x] at w32_g
  have w32_t : TOPM Po P22 x24.toInt := TOPM.mk R8.1 (fun j => KW.at k17 j rl_303 rfl) (fun j => KW.at k17 j rl_304 rfl) (fun j => KW.at k17 j rl_305 rfl) (fun j => KW.at k17 j rl_314 rfl) (KW.at k17 8 rl_301 rfl) (KW.at k17 4 rl_301 rfl) (KW.at k17 23 rl_301 rfl) (by rw [w32_x]; exact R28.1) (by rw [w32_x]; exact R28.2.1) R28.2.2.1
  have u31 : TOPM Po P22 x24.toInt ∧ stagesM (sr Po) (sr P22) x24.toInt t1.toInt := ⟨w32_t, w32_g⟩
  exact mp_iret ⟨⟨_, rfl, u31⟩, hT26, k29, R28r⟩ dX7_stage_13 (Or.inl rfl)

set_option maxHeartbeats 4000000 in
theorem c_M_digits_l4 {Po : mP} {t0 : Int32} (hT : Typ Po)  (hp0 : 0 ≤ t0.toInt)  : ∀ (n : Nat) (v1 : Int32) (v2 : Int32), (v2.toInt = dvF t0.toInt v1.toInt.toNat) → (∀ j : Nat, j < v1.toInt.toNat → 0 < dvF t0.toInt j) → (v1.toInt ≤ 10) → (0 ≤ v2.toInt) → (0 ≤ v1.toInt) → v2.toInt.toNat = n → MEvP 0 none q_129 4 [(0, .int t0), (1, .int v1), (2, .int v2)] [] Po 0 0 (fun r P' => (∃ x : Int32, r = some (.int x) ∧ (NDG t0.toInt x.toInt.toNat ∧ 0 ≤ x.toInt ∧ x.toInt ≤ 10)) ∧ P' = Po) := by
  intro n
  induction n using Nat.strongRecOn with | _ n ih => ?_
  intro v1 v2 i_0 i_1 i_2 i_3 i_4 hm
  have w_t0 := ti_full t0
  have w_v1 := ti_full v1
  have w_v2 := ti_full v2
  refine mp_a (a_iload_n dX7_digits_4 rfl) (mpp 5 rfl ?_)
  refine mp_Tb (t := 19) (j_if_le dX7_digits_5) (by decide) (fun c1 => ?_) (fun c1 => mpp 8 rfl ?_)
  · have c1 : v2.toInt ≤ 0 := ti_le c1
    refine mp_a (a_iload_n dX7_digits_19 rfl) (mpp 20 rfl ?_)
    have u2 : NDG t0.toInt v1.toInt.toNat ∧ 0 ≤ v1.toInt ∧ v1.toInt ≤ 10 := ⟨⟨by rw [← i_0]; omega, i_1⟩, by omega, by omega⟩
    exact mp_iret ⟨⟨_, rfl, u2⟩, rfl⟩ dX7_digits_20 (Or.inl rfl)
  · have c1 : v2.toInt > 0 := ti_le_n c1
    obtain ⟨z3, h4⟩ := ti_ex (v1 + 1 : Int32)
    have wz3 := ti_full z3
    refine mp_a (a_iinc (v := z3) (L' := [(1, .int z3), (0, .int t0), (2, .int v2)]) dX7_digits_8 (by decide) rfl h4 rfl) (mpp 11 rfl ?_)
    try have e5 : z3.toInt = v1.toInt + 1 := ti_addz h4 rfl rfl (by omega) (by omega)
    refine mp_a (a_iload_n dX7_digits_11 rfl) (mpp 12 rfl ?_)
    refine mp_a (a_bipush (v := 10) dX7_digits_12 rfl) (mpp 14 rfl ?_)
    obtain ⟨z6, h7⟩ := ti_ex (v2 / 10 : Int32)
    have wz6 := ti_full z6
    try have e8 : z6.toInt = v2.toInt / 10 := ti_div h7 (show (0 : Int) ≤ v2.toInt by omega) (show (0 : Int) < 10 by omega)
    refine mp_t (s_idiv (v := z6) dX7_digits_14 (by decide) h7) (mpp 15 rfl ?_)
    refine mp_a (a_istore_n (L' := [(2, .int z6), (1, .int z3), (0, .int t0)]) dX7_digits_15 (by decide) rfl) (mpp 16 rfl ?_)
    refine mp_a (a_goto (t := 4) dX7_digits_16 (by decide)) ?_
    refine MEvP.less (L := [(0, .int t0), (1, .int z3), (2, .int z6)]) rfl rfl ⟨rfl, rfl, rfl, trivial⟩ ?_
    have i9 : z6.toInt = dvF t0.toInt z3.toInt.toNat := dvF.next i_0 (by omega) (by omega)
    have i10 : ∀ j : Nat, j < z3.toInt.toNat → 0 < dvF t0.toInt j := NDG.grow i_1 i_0 (by omega) (by omega)
    have i11 : z3.toInt ≤ 10 := (Int.lt_or_le v1.toInt 10).elim (fun o0 => by omega) (fun o0 => by have q := dvF_10 (n := t0.toInt) hp0 w_t0.2; rw [show v1.toInt.toNat = 10 from by omega, q] at i_0; omega)
    have i12 : 0 ≤ z6.toInt := by omega
    have i13 : 0 ≤ z3.toInt := by omega
    exact ih _ (by omega) _ _ i9 i10 i11 i12 i13 rfl

set_option maxHeartbeats 4000000 in
theorem c_M_digits {Po : mP} {t0 : Int32} (hT : Typ Po)  (hp0 : 0 ≤ t0.toInt)  : EvP 1 129 [.int t0] Po (fun r P' => (∃ x : Int32, r = some (.int x) ∧ (NDG t0.toInt x.toInt.toNat ∧ 0 ≤ x.toInt ∧ x.toInt ≤ 10)) ∧ P' = Po) := by
  refine EvP.of qm_129 (Nat.le_of_ble_eq_true rfl) rfl ?_
  show MEvP _ none q_129 0 [(0, .int t0)] [] _ 0 0 _
  have w_t0 := ti_full t0
  refine mp_a (a_iconst (v := 0) dX7_digits_0 rfl) (mpp 1 rfl ?_)
  refine mp_a (a_istore_n (L' := [(1, .int 0), (0, .int t0)]) dX7_digits_1 (by decide) rfl) (mpp 2 rfl ?_)
  refine mp_a (a_iload_n dX7_digits_2 rfl) (mpp 3 rfl ?_)
  refine mp_a (a_istore_n (L' := [(2, .int t0), (1, .int 0), (0, .int t0)]) dX7_digits_3 (by decide) rfl) (mpp 4 rfl ?_)
  refine MEvP.less (L := [(0, .int t0), (1, .int 0), (2, .int t0)]) rfl rfl ⟨rfl, rfl, rfl, trivial⟩ ?_
  have i1 : t0.toInt = dvF t0.toInt (0 : Int).toNat := rfl
  have i2 : ∀ j : Nat, j < (0 : Int).toNat → 0 < dvF t0.toInt j := fun j hj => absurd hj (Nat.not_lt_zero j)
  have i3 : (0 : Int) ≤ 10 := by omega
  have i4 : 0 ≤ t0.toInt := by omega
  have i5 : 0 ≤ (0 : Int) := by omega
  exact c_M_digits_l4 hT  hp0 _ _ _ i1 i2 i3 i4 i5 rfl

set_option maxHeartbeats 4000000 in
theorem c_M_laysSizes_l35 {Po : mP} {t1 : Int32}  : ∀ (n : Nat) (v2 : Int32) (v3 : Int32) (v4 : Int32) (v5 : Int32), ∀ (P : mP), Typ P → KW [1408] Po P → (NDG t1.toInt v2.toInt.toNat ∧ 1 ≤ v2.toInt ∧ v2.toInt ≤ 8 ∧ 0 ≤ t1.toInt) → (v3.toInt = dvF t1.toInt (v2.toInt - 1 - v5.toInt).toNat) → ((-1) ≤ v5.toInt ∧ v5.toInt ≤ v2.toInt - 1) → (DGR P 306 t1.toInt v2.toInt.toNat v5.toInt) → ((v4.toInt = 1 ∧ NZ t1.toInt v2.toInt.toNat v5.toInt) ∨ (v4.toInt = 0 ∧ ∀ c : Nat, ¬ okD t1.toInt c)) → (v5.toInt + 1).toNat = n → MEvP 1 none q_128 35 [(0, .ref 301), (1, .int t1), (2, .int v2), (3, .int v3), (4, .int v4), (5, .int v5)] [] P 0 0 (fun r P' => (∃ x : Int32, r = some (.int x) ∧ ((x.toInt = 0 ∧ ∀ c : Nat, ¬ okD t1.toInt c) ∨ (okD t1.toInt x.toInt.toNat ∧ 1 ≤ x.toInt ∧ x.toInt ≤ 8 ∧ ∀ j : Nat, j < x.toInt.toNat → fv P' 306 j = dgI t1.toInt x.toInt.toNat j))) ∧ Typ P' ∧ KW [1408] Po P' ∧ True) := by
  intro n
  induction n using Nat.strongRecOn with | _ n ih => ?_
  intro v2 v3 v4 v5 P hT hK i_0 i_1 i_2 i_3 i_4 hm
  have w_t1 := ti_full t1
  have w_v2 := ti_full v2
  have w_v3 := ti_full v3
  have w_v4 := ti_full v4
  have w_v5 := ti_full v5
  refine mp_a (a_iload dX7_laysSizes_35 rfl) (mpp 37 rfl ?_)
  refine mp_Tb (t := 84) (j_if_lt dX7_laysSizes_37) (by decide) (fun c1 => ?_) (fun c1 => mpp 40 rfl ?_)
  · have c1 : v5.toInt < 0 := ti_lt c1
    refine mp_a (a_iload dX7_laysSizes_84 rfl) (mpp 86 rfl ?_)
    refine mp_Tb (t := 93) (j_if_eq dX7_laysSizes_86) (by decide) (fun c2 => ?_) (fun c2 => mpp 89 rfl ?_)
    · have c2 : v4.toInt = 0 := ti_eq c2
      refine mp_a (a_iconst (v := 0) dX7_laysSizes_93 rfl) (mpp 94 rfl ?_)
      have u3 : ((0 : Int) = 0 ∧ ∀ c : Nat, ¬ okD t1.toInt c) ∨ (okD t1.toInt (0 : Int).toNat ∧ 1 ≤ (0 : Int) ∧ (0 : Int) ≤ 8 ∧ ∀ j : Nat, j < (0 : Int).toNat → fv P 306 j = dgI t1.toInt (0 : Int).toNat j) := Or.inl ⟨rfl, (i_4.resolve_left (by omega)).2⟩
      exact mp_iret ⟨⟨_, rfl, u3⟩, hT, hK, trivial⟩ dX7_laysSizes_94 (Or.inl rfl)
    · have c2 : v4.toInt ≠ 0 := ti_eq_n c2
      refine mp_a (a_iload_n dX7_laysSizes_89 rfl) (mpp 90 rfl ?_)
      refine mp_a (a_goto (t := 94) dX7_laysSizes_90 (by decide)) ?_
      have u4 : (v2.toInt = 0 ∧ ∀ c : Nat, ¬ okD t1.toInt c) ∨ (okD t1.toInt v2.toInt.toNat ∧ 1 ≤ v2.toInt ∧ v2.toInt ≤ 8 ∧ ∀ j : Nat, j < v2.toInt.toNat → fv P 306 j = dgI t1.toInt v2.toInt.toNat j) := Or.inr ⟨⟨i_0.1, by omega, by omega, fun i hi => (i_4.resolve_right (by omega)).2 i (by omega)⟩, by omega, by omega, fun j hj => i_3 j (by omega) hj⟩
      exact mp_iret ⟨⟨_, rfl, u4⟩, hT, hK, trivial⟩ dX7_laysSizes_94 (Or.inl rfl)
  · have c1 : v5.toInt ≥ 0 := ti_lt_n c1
    have hq := dvF_nonneg (n := t1.toInt) (by omega) (v2.toInt - 1 - v5.toInt).toNat
    refine mp_a (a_aload_n dX7_laysSizes_40 rfl) (mpp 41 rfl ?_)
    refine mt_getU (i := 22) (k := 9) (A := 306) hT dX7_laysSizes_41 rfl rl_301 (by decide) rfl (by decide) rfl un_22 (mpp 44 rfl ?_)
    refine mp_a (a_iload dX7_laysSizes_44 rfl) (mpp 46 rfl ?_)
    refine mp_a (a_iload_n dX7_laysSizes_46 rfl) (mpp 47 rfl ?_)
    refine mp_a (a_bipush (v := 10) dX7_laysSizes_47 rfl) (mpp 49 rfl ?_)
    obtain ⟨z5, h6⟩ := ti_ex (v3 - v3 / 10 * 10 : Int32)
    have wz5 := ti_full z5
    try have e8 : z5.toInt = v3.toInt % 10 := ti_remx h6 (show (0 : Int) ≤ v3.toInt by omega) (show (0 : Int) < 10 by omega)
    try have e7 : 0 ≤ z5.toInt ∧ z5.toInt < 10 := ti_rem h6 (show (0 : Int) ≤ v3.toInt by omega) (show (0 : Int) < 10 by omega)
    refine mp_t (s_irem (v := z5) dX7_laysSizes_49 (by decide) h6) (mpp 50 rfl ?_)
    refine mt_ias (n := 8) hT dX7_laysSizes_50 rl_306 (by decide) rfl rfl (by omega) (by omega) rfl (ti_full z5) (fun P9 hT10 f11 f12 f13 => mpp 51 rfl ?_)
    have k14 : KW [1408] Po P9 := KW.step hK rl_306 rfl f12 f13
    refine mp_a (a_iload_n dX7_laysSizes_51 rfl) (mpp 52 rfl ?_)
    refine mp_a (a_bipush (v := 10) dX7_laysSizes_52 rfl) (mpp 54 rfl ?_)
    obtain ⟨z15, h16⟩ := ti_ex (v3 / 10 : Int32)
    have wz15 := ti_full z15
    try have e17 : z15.toInt = v3.toInt / 10 := ti_div h16 (show (0 : Int) ≤ v3.toInt by omega) (show (0 : Int) < 10 by omega)
    refine mp_t (s_idiv (v := z15) dX7_laysSizes_54 (by decide) h16) (mpp 55 rfl ?_)
    refine mp_a (a_istore_n (L' := [(3, .int z15), (0, .ref 301), (1, .int t1), (2, .int v2), (4, .int v4), (5, .int v5)]) dX7_laysSizes_55 (by decide) rfl) (mpp 56 rfl ?_)
    refine mp_a (a_iload dX7_laysSizes_56 rfl) (mpp 58 rfl ?_)
    refine mp_Tb (t := 75) (j_if_eq dX7_laysSizes_58) (by decide) (fun c18 => ?_) (fun c18 => mpp 61 rfl ?_)
    · have c18 : v4.toInt = 0 := ti_eq c18
      refine mp_a (a_iconst (v := 0) dX7_laysSizes_75 rfl) (mpp 76 rfl ?_)
      refine mp_a (a_istore (L' := [(4, .int 0), (3, .int z15), (0, .ref 301), (1, .int t1), (2, .int v2), (5, .int v5)]) dX7_laysSizes_76 (by decide) rfl) (mpp 78 rfl ?_)
      obtain ⟨z19, h20⟩ := ti_ex (v5 + (-1) : Int32)
      have wz19 := ti_full z19
      refine mp_a (a_iinc (v := z19) (L' := [(5, .int z19), (4, .int 0), (3, .int z15), (0, .ref 301), (1, .int t1), (2, .int v2)]) dX7_laysSizes_78 (by decide) rfl h20 rfl) (mpp 81 rfl ?_)
      try have e21 : z19.toInt = v5.toInt + (-1) := ti_addz h20 rfl rfl (by omega) (by omega)
      refine mp_a (a_goto (t := 35) dX7_laysSizes_81 (by decide)) ?_
      refine MEvP.less (L := [(0, .ref 301), (1, .int t1), (2, .int v2), (3, .int z15), (4, .int 0), (5, .int z19)]) rfl rfl ⟨rfl, rfl, rfl, rfl, rfl, rfl, trivial⟩ ?_
      have i22 : NDG t1.toInt v2.toInt.toNat ∧ 1 ≤ v2.toInt ∧ v2.toInt ≤ 8 ∧ 0 ≤ t1.toInt := i_0
      have i23 : z15.toInt = dvF t1.toInt (v2.toInt - 1 - z19.toInt).toNat := dvF.next i_1 (by omega) (by omega)
      have i24 : (-1) ≤ z19.toInt ∧ z19.toInt ≤ v2.toInt - 1 := by omega
      have i25 : DGR P9 306 t1.toInt v2.toInt.toNat z19.toInt := DGR.step (k := v5.toInt.toNat) i_3 (by omega) (by omega) (congrArg Int32.toInt f11) (by rw [show v2.toInt.toNat - 1 - v5.toInt.toNat = (v2.toInt - 1 - v5.toInt).toNat from by omega, ← i_1]; omega) (fun j hj => f12 _ _ (fun e => hj e.2))
      have i26 : ((0 : Int) = 1 ∧ NZ t1.toInt v2.toInt.toNat z19.toInt) ∨ ((0 : Int) = 0 ∧ ∀ c : Nat, ¬ okD t1.toInt c) := Or.inr ⟨rfl, (i_4.resolve_left (by omega)).2⟩
      exact ih _ (by omega) _ _ _ _ P9 hT10 k14 i22 i23 i24 i25 i26 rfl
    · have c18 : v4.toInt ≠ 0 := ti_eq_n c18
      have q27 := congrArg Int32.toInt f11
      refine mp_a (a_aload_n dX7_laysSizes_61 rfl) (mpp 62 rfl ?_)
      refine mt_getU (i := 22) (k := 9) (A := 306) hT10 dX7_laysSizes_62 rfl rl_301 (by decide) rfl (by decide) rfl un_22 (mpp 65 rfl ?_)
      refine mp_a (a_iload dX7_laysSizes_65 rfl) (mpp 67 rfl ?_)
      refine mt_ial (n := 8) hT10 dX7_laysSizes_67 rl_306 (by decide) rfl rfl (by omega) (by omega) rfl (fun g28 g29 => mpp 68 rfl ?_)
      refine mp_Tb (t := 75) (j_if_le dX7_laysSizes_68) (by decide) (fun c30 => ?_) (fun c30 => mpp 71 rfl ?_)
      · have c30 : (fv P9 306 v5.toInt.toNat).toInt ≤ 0 := ti_le c30
        refine mp_a (a_iconst (v := 0) dX7_laysSizes_75 rfl) (mpp 76 rfl ?_)
        refine mp_a (a_istore (L' := [(4, .int 0), (3, .int z15), (0, .ref 301), (1, .int t1), (2, .int v2), (5, .int v5)]) dX7_laysSizes_76 (by decide) rfl) (mpp 78 rfl ?_)
        obtain ⟨z31, h32⟩ := ti_ex (v5 + (-1) : Int32)
        have wz31 := ti_full z31
        refine mp_a (a_iinc (v := z31) (L' := [(5, .int z31), (4, .int 0), (3, .int z15), (0, .ref 301), (1, .int t1), (2, .int v2)]) dX7_laysSizes_78 (by decide) rfl h32 rfl) (mpp 81 rfl ?_)
        try have e33 : z31.toInt = v5.toInt + (-1) := ti_addz h32 rfl rfl (by omega) (by omega)
        refine mp_a (a_goto (t := 35) dX7_laysSizes_81 (by decide)) ?_
        refine MEvP.less (L := [(0, .ref 301), (1, .int t1), (2, .int v2), (3, .int z15), (4, .int 0), (5, .int z31)]) rfl rfl ⟨rfl, rfl, rfl, rfl, rfl, rfl, trivial⟩ ?_
        have i34 : NDG t1.toInt v2.toInt.toNat ∧ 1 ≤ v2.toInt ∧ v2.toInt ≤ 8 ∧ 0 ≤ t1.toInt := i_0
        have i35 : z15.toInt = dvF t1.toInt (v2.toInt - 1 - z31.toInt).toNat := dvF.next i_1 (by omega) (by omega)
        have i36 : (-1) ≤ z31.toInt ∧ z31.toInt ≤ v2.toInt - 1 := by omega
        have i37 : DGR P9 306 t1.toInt v2.toInt.toNat z31.toInt := DGR.step (k := v5.toInt.toNat) i_3 (by omega) (by omega) (congrArg Int32.toInt f11) (by rw [show v2.toInt.toNat - 1 - v5.toInt.toNat = (v2.toInt - 1 - v5.toInt).toNat from by omega, ← i_1]; omega) (fun j hj => f12 _ _ (fun e => hj e.2))
        have i38 : ((0 : Int) = 1 ∧ NZ t1.toInt v2.toInt.toNat z31.toInt) ∨ ((0 : Int) = 0 ∧ ∀ c : Nat, ¬ okD t1.toInt c) := Or.inr ⟨rfl, fun c => okD.zero i_0.1 (i := (v2.toInt - 1 - v5.toInt).toNat) (by omega) (by rw [← i_1]; omega)⟩
        exact ih _ (by omega) _ _ _ _ P9 hT10 k14 i34 i35 i36 i37 i38 rfl
      · have c30 : (fv P9 306 v5.toInt.toNat).toInt > 0 := ti_le_n c30
        refine mp_a (a_iconst (v := 1) dX7_laysSizes_71 rfl) (mpp 72 rfl ?_)
        refine mp_a (a_goto (t := 76) dX7_laysSizes_72 (by decide)) ?_
        refine mp_a (a_istore (L' := [(4, .int 1), (3, .int z15), (0, .ref 301), (1, .int t1), (2, .int v2), (5, .int v5)]) dX7_laysSizes_76 (by decide) rfl) (mpp 78 rfl ?_)
        obtain ⟨z39, h40⟩ := ti_ex (v5 + (-1) : Int32)
        have wz39 := ti_full z39
        refine mp_a (a_iinc (v := z39) (L' := [(5, .int z39), (4, .int 1), (3, .int z15), (0, .ref 301), (1, .int t1), (2, .int v2)]) dX7_laysSizes_78 (by decide) rfl h40 rfl) (mpp 81 rfl ?_)
        try have e41 : z39.toInt = v5.toInt + (-1) := ti_addz h40 rfl rfl (by omega) (by omega)
        refine mp_a (a_goto (t := 35) dX7_laysSizes_81 (by decide)) ?_
        refine MEvP.less (L := [(0, .ref 301), (1, .int t1), (2, .int v2), (3, .int z15), (4, .int 1), (5, .int z39)]) rfl rfl ⟨rfl, rfl, rfl, rfl, rfl, rfl, trivial⟩ ?_
        have i42 : NDG t1.toInt v2.toInt.toNat ∧ 1 ≤ v2.toInt ∧ v2.toInt ≤ 8 ∧ 0 ≤ t1.toInt := i_0
        have i43 : z15.toInt = dvF t1.toInt (v2.toInt - 1 - z39.toInt).toNat := dvF.next i_1 (by omega) (by omega)
        have i44 : (-1) ≤ z39.toInt ∧ z39.toInt ≤ v2.toInt - 1 := by omega
        have i45 : DGR P9 306 t1.toInt v2.toInt.toNat z39.toInt := DGR.step (k := v5.toInt.toNat) i_3 (by omega) (by omega) (congrArg Int32.toInt f11) (by rw [show v2.toInt.toNat - 1 - v5.toInt.toNat = (v2.toInt - 1 - v5.toInt).toNat from by omega, ← i_1]; omega) (fun j hj => f12 _ _ (fun e => hj e.2))
        have i46 : ((1 : Int) = 1 ∧ NZ t1.toInt v2.toInt.toNat z39.toInt) ∨ ((1 : Int) = 0 ∧ ∀ c : Nat, ¬ okD t1.toInt c) := Or.inl ⟨rfl, NZ.step (k := (v2.toInt - 1 - v5.toInt).toNat) (i_4.resolve_right (by omega)).2 (by omega) (by omega) (by rw [← i_1]; omega)⟩
        exact ih _ (by omega) _ _ _ _ P9 hT10 k14 i42 i43 i44 i45 i46 rfl

set_option maxHeartbeats 4000000 in
theorem c_M_laysSizes {Po : mP} {t1 : Int32} (hT : Typ Po)   : EvP 2 128 [.ref 301, .int t1] Po (fun r P' => (∃ x : Int32, r = some (.int x) ∧ ((x.toInt = 0 ∧ ∀ c : Nat, ¬ okD t1.toInt c) ∨ (okD t1.toInt x.toInt.toNat ∧ 1 ≤ x.toInt ∧ x.toInt ≤ 8 ∧ ∀ j : Nat, j < x.toInt.toNat → fv P' 306 j = dgI t1.toInt x.toInt.toNat j))) ∧ Typ P' ∧ KW [1408] Po P' ∧ True) := by
  refine EvP.of qm_128 (Nat.le_of_ble_eq_true rfl) rfl ?_
  show MEvP _ none q_128 0 [(0, .ref 301), (1, .int t1)] [] _ 0 0 _
  have w_t1 := ti_full t1
  refine mp_a (a_iload_n dX7_laysSizes_0 rfl) (mpp 1 rfl ?_)
  refine mp_Tb (t := 8) (j_if_ge dX7_laysSizes_1) (by decide) (fun c1 => ?_) (fun c1 => mpp 4 rfl ?_)
  · have c1 : t1.toInt ≥ 0 := ti_ge c1
    refine mp_a (a_iload_n dX7_laysSizes_8 rfl) (mpp 9 rfl ?_)
    have p2 : 0 ≤ t1.toInt := by omega
    refine mp_calls (i := 95) (q' := q_129) (As := [.int t1]) (rest := []) dX7_laysSizes_9 rfl qm_129 (by decide) rfl (Nat.le_of_ble_eq_true rfl) rfl ⟨rfl, rfl⟩ ⟨Nat.le_of_ble_eq_true rfl, Nat.le_of_ble_eq_true rfl⟩ (EvP.mono (by decide) (c_M_digits hT p2 )) (fun r3 P4 g5 => mpp 12 rfl ?_)
    obtain ⟨⟨x6, rfl, g7⟩, e8⟩ := g5
    have e8 := e8.symm
    subst e8
    have wx6 := ti_full x6
    replace g7 : NDG t1.toInt x6.toInt.toNat ∧ 0 ≤ x6.toInt ∧ x6.toInt ≤ 10 := g7
    show MEvP _ none q_128 12 [(0, .ref 301), (1, .int t1)] [.int x6] _ _ _ _
    refine mp_a (a_istore_n (L' := [(2, .int x6), (0, .ref 301), (1, .int t1)]) dX7_laysSizes_12 (by decide) rfl) (mpp 13 rfl ?_)
    refine mp_a (a_iload_n dX7_laysSizes_13 rfl) (mpp 14 rfl ?_)
    refine mp_a (a_iconst (v := 1) dX7_laysSizes_14 rfl) (mpp 15 rfl ?_)
    refine mp_a (a_bipush (v := 8) dX7_laysSizes_15 rfl) (mpp 17 rfl ?_)
    refine mp_calls (i := 61) (q' := q_127) (As := [.int x6, .int 1, .int 8]) (rest := []) dX7_laysSizes_17 rfl qm_127 (by decide) rfl (Nat.le_of_ble_eq_true rfl) rfl ⟨rfl, rfl⟩ ⟨Nat.le_of_ble_eq_true rfl, Nat.le_of_ble_eq_true rfl⟩ (EvP.mono (by decide) (c_M_isIn hT )) (fun r9 P10 g11 => mpp 20 rfl ?_)
    obtain ⟨⟨x12, rfl, g13⟩, e14⟩ := g11
    have e14 := e14.symm
    subst e14
    have wx12 := ti_full x12
    replace g13 : 0 ≤ x12.toInt ∧ x12.toInt ≤ 1 ∧ ((x12.toInt = 1 ∧ (1 : Int) ≤ x6.toInt ∧ x6.toInt ≤ (8 : Int)) ∨ (x12.toInt = 0 ∧ (x6.toInt < (1 : Int) ∨ (8 : Int) < x6.toInt))) := g13
    show MEvP _ none q_128 20 [(2, .int x6), (0, .ref 301), (1, .int t1)] [.int x12] _ _ _ _
    refine mp_Tb (t := 25) (j_if_ne dX7_laysSizes_20) (by decide) (fun c15 => ?_) (fun c15 => mpp 23 rfl ?_)
    · have c15 : x12.toInt ≠ 0 := ti_ne c15
      refine mp_a (a_iload_n dX7_laysSizes_25 rfl) (mpp 26 rfl ?_)
      refine mp_a (a_istore_n (L' := [(3, .int t1), (2, .int x6), (0, .ref 301), (1, .int t1)]) dX7_laysSizes_26 (by decide) rfl) (mpp 27 rfl ?_)
      refine mp_a (a_iconst (v := 1) dX7_laysSizes_27 rfl) (mpp 28 rfl ?_)
      refine mp_a (a_istore (L' := [(4, .int 1), (3, .int t1), (2, .int x6), (0, .ref 301), (1, .int t1)]) dX7_laysSizes_28 (by decide) rfl) (mpp 30 rfl ?_)
      refine mp_a (a_iload_n dX7_laysSizes_30 rfl) (mpp 31 rfl ?_)
      refine mp_a (a_iconst (v := 1) dX7_laysSizes_31 rfl) (mpp 32 rfl ?_)
      obtain ⟨z16, h17⟩ := ti_ex (x6 - 1 : Int32)
      have wz16 := ti_full z16
      refine mp_t (s_isub (v := z16) dX7_laysSizes_32 h17) (mpp 33 rfl ?_)
      try have e18 : z16.toInt = x6.toInt - 1 := ti_subz h17 rfl rfl (by omega) (by omega)
      refine mp_a (a_istore (L' := [(5, .int z16), (4, .int 1), (3, .int t1), (2, .int x6), (0, .ref 301), (1, .int t1)]) dX7_laysSizes_33 (by decide) rfl) (mpp 35 rfl ?_)
      refine MEvP.less (L := [(0, .ref 301), (1, .int t1), (2, .int x6), (3, .int t1), (4, .int 1), (5, .int z16)]) rfl rfl ⟨rfl, rfl, rfl, rfl, rfl, rfl, trivial⟩ ?_
      have i19 : NDG t1.toInt x6.toInt.toNat ∧ 1 ≤ x6.toInt ∧ x6.toInt ≤ 8 ∧ 0 ≤ t1.toInt := ⟨g7.1, by omega, by omega, by omega⟩
      have i20 : t1.toInt = dvF t1.toInt (x6.toInt - 1 - z16.toInt).toNat := by rw [show (x6.toInt - 1 - z16.toInt).toNat = 0 from by omega]; rfl
      have i21 : (-1) ≤ z16.toInt ∧ z16.toInt ≤ x6.toInt - 1 := by omega
      have i22 : DGR Po 306 t1.toInt x6.toInt.toNat z16.toInt := DGR.start (by omega)
      have i23 : ((1 : Int) = 1 ∧ NZ t1.toInt x6.toInt.toNat z16.toInt) ∨ ((1 : Int) = 0 ∧ ∀ c : Nat, ¬ okD t1.toInt c) := Or.inl ⟨rfl, NZ.start (by omega)⟩
      exact c_M_laysSizes_l35    _ _ _ _ _ Po hT KW.refl i19 i20 i21 i22 i23 rfl
    · have c15 : x12.toInt = 0 := ti_ne_n c15
      refine mp_a (a_iconst (v := 0) dX7_laysSizes_23 rfl) (mpp 24 rfl ?_)
      have u24 : ((0 : Int) = 0 ∧ ∀ c : Nat, ¬ okD t1.toInt c) ∨ (okD t1.toInt (0 : Int).toNat ∧ 1 ≤ (0 : Int) ∧ (0 : Int) ≤ 8 ∧ ∀ j : Nat, j < (0 : Int).toNat → fv Po 306 j = dgI t1.toInt (0 : Int).toNat j) := Or.inl ⟨rfl, fun c h => by have e := h.1.uniq g7.1; have := h.2.1; have := h.2.2.1; omega⟩
      exact mp_iret ⟨⟨_, rfl, u24⟩, hT, KW.refl, trivial⟩ dX7_laysSizes_24 (Or.inl rfl)
  · have c1 : t1.toInt < 0 := ti_ge_n c1
    refine mp_a (a_iconst (v := 0) dX7_laysSizes_4 rfl) (mpp 5 rfl ?_)
    refine mp_a (a_goto (t := 12) dX7_laysSizes_5 (by decide)) ?_
    refine mp_a (a_istore_n (L' := [(2, .int 0), (0, .ref 301), (1, .int t1)]) dX7_laysSizes_12 (by decide) rfl) (mpp 13 rfl ?_)
    refine mp_a (a_iload_n dX7_laysSizes_13 rfl) (mpp 14 rfl ?_)
    refine mp_a (a_iconst (v := 1) dX7_laysSizes_14 rfl) (mpp 15 rfl ?_)
    refine mp_a (a_bipush (v := 8) dX7_laysSizes_15 rfl) (mpp 17 rfl ?_)
    refine mp_calls (i := 61) (q' := q_127) (As := [.int 0, .int 1, .int 8]) (rest := []) dX7_laysSizes_17 rfl qm_127 (by decide) rfl (Nat.le_of_ble_eq_true rfl) rfl ⟨rfl, rfl⟩ ⟨Nat.le_of_ble_eq_true rfl, Nat.le_of_ble_eq_true rfl⟩ (EvP.mono (by decide) (c_M_isIn hT )) (fun r25 P26 g27 => mpp 20 rfl ?_)
    obtain ⟨⟨x28, rfl, g29⟩, e30⟩ := g27
    have e30 := e30.symm
    subst e30
    have wx28 := ti_full x28
    replace g29 : 0 ≤ x28.toInt ∧ x28.toInt ≤ 1 ∧ ((x28.toInt = 1 ∧ (1 : Int) ≤ (0 : Int) ∧ (0 : Int) ≤ (8 : Int)) ∨ (x28.toInt = 0 ∧ ((0 : Int) < (1 : Int) ∨ (8 : Int) < (0 : Int)))) := g29
    show MEvP _ none q_128 20 [(2, .int 0), (0, .ref 301), (1, .int t1)] [.int x28] _ _ _ _
    refine mp_Tb (t := 25) (j_if_ne dX7_laysSizes_20) (by decide) (fun c31 => ?_) (fun c31 => mpp 23 rfl ?_)
    · have c31 : x28.toInt ≠ 0 := ti_ne c31
      refine mp_a (a_iload_n dX7_laysSizes_25 rfl) (mpp 26 rfl ?_)
      refine mp_a (a_istore_n (L' := [(3, .int t1), (2, .int 0), (0, .ref 301), (1, .int t1)]) dX7_laysSizes_26 (by decide) rfl) (mpp 27 rfl ?_)
      refine mp_a (a_iconst (v := 1) dX7_laysSizes_27 rfl) (mpp 28 rfl ?_)
      refine mp_a (a_istore (L' := [(4, .int 1), (3, .int t1), (2, .int 0), (0, .ref 301), (1, .int t1)]) dX7_laysSizes_28 (by decide) rfl) (mpp 30 rfl ?_)
      refine mp_a (a_iload_n dX7_laysSizes_30 rfl) (mpp 31 rfl ?_)
      refine mp_a (a_iconst (v := 1) dX7_laysSizes_31 rfl) (mpp 32 rfl ?_)
      refine mp_t (s_isub (v := (-1)) dX7_laysSizes_32 rfl) (mpp 33 rfl ?_)
      refine mp_a (a_istore (L' := [(5, .int (-1)), (4, .int 1), (3, .int t1), (2, .int 0), (0, .ref 301), (1, .int t1)]) dX7_laysSizes_33 (by decide) rfl) (mpp 35 rfl ?_)
      refine MEvP.less (L := [(0, .ref 301), (1, .int t1), (2, .int 0), (3, .int t1), (4, .int 1), (5, .int (-1))]) rfl rfl ⟨rfl, rfl, rfl, rfl, rfl, rfl, trivial⟩ ?_
      have i32 : NDG t1.toInt (0 : Int).toNat ∧ 1 ≤ (0 : Int) ∧ (0 : Int) ≤ 8 ∧ 0 ≤ t1.toInt := by exfalso; omega
      have i33 : t1.toInt = dvF t1.toInt ((0 : Int) - 1 - (-1 : Int)).toNat := by rw [show ((0 : Int) - 1 - (-1 : Int)).toNat = 0 from by omega]; rfl
      have i34 : (-1) ≤ (-1 : Int) ∧ (-1 : Int) ≤ (0 : Int) - 1 := by omega
      have i35 : DGR Po 306 t1.toInt (0 : Int).toNat (-1 : Int) := DGR.start (by omega)
      have i36 : ((1 : Int) = 1 ∧ NZ t1.toInt (0 : Int).toNat (-1 : Int)) ∨ ((1 : Int) = 0 ∧ ∀ c : Nat, ¬ okD t1.toInt c) := Or.inl ⟨rfl, NZ.start (by omega)⟩
      exact c_M_laysSizes_l35    _ _ _ _ _ Po hT KW.refl i32 i33 i34 i35 i36 rfl
    · have c31 : x28.toInt = 0 := ti_ne_n c31
      refine mp_a (a_iconst (v := 0) dX7_laysSizes_23 rfl) (mpp 24 rfl ?_)
      have u37 : ((0 : Int) = 0 ∧ ∀ c : Nat, ¬ okD t1.toInt c) ∨ (okD t1.toInt (0 : Int).toNat ∧ 1 ≤ (0 : Int) ∧ (0 : Int) ≤ 8 ∧ ∀ j : Nat, j < (0 : Int).toNat → fv Po 306 j = dgI t1.toInt (0 : Int).toNat j) := Or.inl ⟨rfl, fun c h => by have o1 := h.1.2 0 (by have := h.2.1; omega); have o2 : 0 < t1.toInt := o1; omega⟩
      exact mp_iret ⟨⟨_, rfl, u37⟩, hT, KW.refl, trivial⟩ dX7_laysSizes_24 (Or.inl rfl)

set_option maxHeartbeats 4000000 in
theorem c_M_sumOfNew_l4 {Po : mP} {t1 : Int32} (hT : Typ Po)  (hp0 : t1.toInt ≤ 8)  : ∀ (n : Nat) (v2 : Int32) (v3 : Int32), (v2 = smF (fun j : Nat => fv Po 306 j) v3.toInt.toNat) → (v3.toInt ≤ t1.toInt ∨ v3.toInt = 0) → (0 ≤ v3.toInt) → (2147483647 - v3.toInt).toNat = n → MEvP 0 none q_131 4 [(0, .ref 301), (1, .int t1), (2, .int v2), (3, .int v3)] [] Po 0 0 (fun r P' => (∃ x : Int32, r = some (.int x) ∧ (x.toInt = (smF (fun j : Nat => fv Po 306 j) t1.toInt.toNat).toInt)) ∧ P' = Po) := by
  intro n
  induction n using Nat.strongRecOn with | _ n ih => ?_
  intro v2 v3 i_0 i_1 i_2 hm
  have w_t1 := ti_full t1
  have w_v2 := ti_full v2
  have w_v3 := ti_full v3
  refine mp_a (a_iload_n dX7_sumOfNew_4 rfl) (mpp 5 rfl ?_)
  refine mp_a (a_iload_n dX7_sumOfNew_5 rfl) (mpp 6 rfl ?_)
  refine mp_Tb (t := 24) (j_icmp_ge dX7_sumOfNew_6) (by decide) (fun c1 => ?_) (fun c1 => mpp 9 rfl ?_)
  · have c1 : v3.toInt ≥ t1.toInt := ti_ge c1
    refine mp_a (a_iload_n dX7_sumOfNew_24 rfl) (mpp 25 rfl ?_)
    have u2 : v2.toInt = (smF (fun j : Nat => fv Po 306 j) t1.toInt.toNat).toInt := congrArg Int32.toInt (i_0.trans (congrArg (smF _) (by omega)))
    exact mp_iret ⟨⟨_, rfl, u2⟩, rfl⟩ dX7_sumOfNew_25 (Or.inl rfl)
  · have c1 : v3.toInt < t1.toInt := ti_ge_n c1
    refine mp_a (a_iload_n dX7_sumOfNew_9 rfl) (mpp 10 rfl ?_)
    refine mp_a (a_aload_n dX7_sumOfNew_10 rfl) (mpp 11 rfl ?_)
    refine mt_getU (i := 22) (k := 9) (A := 306) hT dX7_sumOfNew_11 rfl rl_301 (by decide) rfl (by decide) rfl un_22 (mpp 14 rfl ?_)
    refine mp_a (a_iload_n dX7_sumOfNew_14 rfl) (mpp 15 rfl ?_)
    refine mt_ial (n := 8) hT dX7_sumOfNew_15 rl_306 (by decide) rfl rfl (by omega) (by omega) rfl (fun g3 g4 => mpp 16 rfl ?_)
    obtain ⟨z5, h6⟩ := ti_ex (v2 + (fv Po 306 v3.toInt.toNat) : Int32)
    have wz5 := ti_full z5
    refine mp_t (s_iadd (v := z5) dX7_sumOfNew_16 h6) (mpp 17 rfl ?_)
    try have e7 : z5.toInt = v2.toInt + (fv Po 306 v3.toInt.toNat).toInt := ti_addz h6 rfl rfl (by omega) (by omega)
    refine mp_a (a_istore_n (L' := [(2, .int z5), (0, .ref 301), (1, .int t1), (3, .int v3)]) dX7_sumOfNew_17 (by decide) rfl) (mpp 18 rfl ?_)
    obtain ⟨z8, h9⟩ := ti_ex (v3 + 1 : Int32)
    have wz8 := ti_full z8
    refine mp_a (a_iinc (v := z8) (L' := [(3, .int z8), (2, .int z5), (0, .ref 301), (1, .int t1)]) dX7_sumOfNew_18 (by decide) rfl h9 rfl) (mpp 21 rfl ?_)
    try have e10 : z8.toInt = v3.toInt + 1 := ti_addz h9 rfl rfl (by omega) (by omega)
    refine mp_a (a_goto (t := 4) dX7_sumOfNew_21 (by decide)) ?_
    refine MEvP.less (L := [(0, .ref 301), (1, .int t1), (2, .int z5), (3, .int z8)]) rfl rfl ⟨rfl, rfl, rfl, rfl, trivial⟩ ?_
    have i11 : z5 = smF (fun j : Nat => fv Po 306 j) z8.toInt.toNat := smF.step i_0 (by omega) rfl h6
    have i12 : z8.toInt ≤ t1.toInt ∨ z8.toInt = 0 := by omega
    have i13 : 0 ≤ z8.toInt := by omega
    exact ih _ (by omega) _ _ i11 i12 i13 rfl

set_option maxHeartbeats 4000000 in
theorem c_M_sumOfNew {Po : mP} {t1 : Int32} (hT : Typ Po)  (hp0 : t1.toInt ≤ 8)  : EvP 1 131 [.ref 301, .int t1] Po (fun r P' => (∃ x : Int32, r = some (.int x) ∧ (x.toInt = (smF (fun j : Nat => fv Po 306 j) t1.toInt.toNat).toInt)) ∧ P' = Po) := by
  refine EvP.of qm_131 (Nat.le_of_ble_eq_true rfl) rfl ?_
  show MEvP _ none q_131 0 [(0, .ref 301), (1, .int t1)] [] _ 0 0 _
  have w_t1 := ti_full t1
  refine mp_a (a_iconst (v := 0) dX7_sumOfNew_0 rfl) (mpp 1 rfl ?_)
  refine mp_a (a_istore_n (L' := [(2, .int 0), (0, .ref 301), (1, .int t1)]) dX7_sumOfNew_1 (by decide) rfl) (mpp 2 rfl ?_)
  refine mp_a (a_iconst (v := 0) dX7_sumOfNew_2 rfl) (mpp 3 rfl ?_)
  refine mp_a (a_istore_n (L' := [(3, .int 0), (2, .int 0), (0, .ref 301), (1, .int t1)]) dX7_sumOfNew_3 (by decide) rfl) (mpp 4 rfl ?_)
  refine MEvP.less (L := [(0, .ref 301), (1, .int t1), (2, .int 0), (3, .int 0)]) rfl rfl ⟨rfl, rfl, rfl, rfl, trivial⟩ ?_
  have i1 : 0 = smF (fun j : Nat => fv Po 306 j) (0 : Int).toNat := rfl
  have i2 : (0 : Int) ≤ t1.toInt ∨ (0 : Int) = 0 := by omega
  have i3 : 0 ≤ (0 : Int) := by omega
  exact c_M_sumOfNew_l4 hT  hp0 _ _ _ i1 i2 i3 rfl

set_option maxHeartbeats 4000000 in
theorem c_M_areSizes {Po : mP} {t1 : Int32} {t2 : Int32} (hT : Typ Po)  (hp0 : t2.toInt ≤ 8)  : EvP 2 130 [.ref 301, .int t1, .int t2] Po (fun r P' => (∃ x : Int32, r = some (.int x) ∧ (0 ≤ x.toInt ∧ x.toInt ≤ 1 ∧ ((x.toInt = 1 ∧ ((t1.toInt = 0 ∧ 2 ≤ t2.toInt ∧ t2.toInt ≤ 7) ∨ (¬ t1.toInt = 0 ∧ (t2.toInt = 4 ∨ t2.toInt = 6 ∨ t2.toInt = 8) ∧ (smF (fun j : Nat => fv Po 306 j) t2.toInt.toNat).toInt = 24))) ∨ (x.toInt = 0 ∧ ¬ ((t1.toInt = 0 ∧ 2 ≤ t2.toInt ∧ t2.toInt ≤ 7) ∨ (¬ t1.toInt = 0 ∧ (t2.toInt = 4 ∨ t2.toInt = 6 ∨ t2.toInt = 8) ∧ (smF (fun j : Nat => fv Po 306 j) t2.toInt.toNat).toInt = 24)))))) ∧ P' = Po) := by
  refine EvP.of qm_130 (Nat.le_of_ble_eq_true rfl) rfl ?_
  show MEvP _ none q_130 0 [(0, .ref 301), (1, .int t1), (2, .int t2)] [] _ 0 0 _
  have w_t1 := ti_full t1
  have w_t2 := ti_full t2
  refine mp_a (a_iload_n dX7_areSizes_0 rfl) (mpp 1 rfl ?_)
  refine mp_Tb (t := 14) (j_if_ne dX7_areSizes_1) (by decide) (fun c1 => ?_) (fun c1 => mpp 4 rfl ?_)
  · have c1 : t1.toInt ≠ 0 := ti_ne c1
    refine mp_a (a_iload_n dX7_areSizes_14 rfl) (mpp 15 rfl ?_)
    refine mp_a (a_iconst (v := 4) dX7_areSizes_15 rfl) (mpp 16 rfl ?_)
    refine mp_Tb (t := 31) (j_icmp_eq dX7_areSizes_16) (by decide) (fun c2 => ?_) (fun c2 => mpp 19 rfl ?_)
    · have c2 : t2.toInt = 4 := ti_eq c2
      refine mp_a (a_aload_n dX7_areSizes_31 rfl) (mpp 32 rfl ?_)
      refine mp_a (a_iload_n dX7_areSizes_32 rfl) (mpp 33 rfl ?_)
      have p3 : t2.toInt ≤ 8 := by omega
      refine mt_callv (i := 98) (q' := q_131) (As := [.int t2]) (rest := []) hT dX7_areSizes_33 rfl qm_131 (by decide) rfl rl_301 (by decide) rfl (Nat.le_of_ble_eq_true rfl) rfl ⟨rfl, rfl⟩ ⟨Nat.le_of_ble_eq_true rfl, Nat.le_of_ble_eq_true rfl⟩ (EvP.mono (by decide) (c_M_sumOfNew hT p3 )) (fun r4 P5 g6 => mpp 36 rfl ?_)
      obtain ⟨⟨x7, rfl, g8⟩, e9⟩ := g6
      have e9 := e9.symm
      subst e9
      have wx7 := ti_full x7
      replace g8 : x7.toInt = (smF (fun j : Nat => fv Po 306 j) t2.toInt.toNat).toInt := g8
      show MEvP _ none q_130 36 [(0, .ref 301), (1, .int t1), (2, .int t2)] [.int x7] _ _ _ _
      refine mp_a (a_bipush (v := 24) dX7_areSizes_36 rfl) (mpp 38 rfl ?_)
      refine mp_Tb (t := 45) (j_icmp_ne dX7_areSizes_38) (by decide) (fun c10 => ?_) (fun c10 => mpp 41 rfl ?_)
      · have c10 : x7.toInt ≠ 24 := ti_ne c10
        refine mp_a (a_iconst (v := 0) dX7_areSizes_45 rfl) (mpp 46 rfl ?_)
        have u11 : 0 ≤ (0 : Int) ∧ (0 : Int) ≤ 1 ∧ (((0 : Int) = 1 ∧ ((t1.toInt = 0 ∧ 2 ≤ t2.toInt ∧ t2.toInt ≤ 7) ∨ (¬ t1.toInt = 0 ∧ (t2.toInt = 4 ∨ t2.toInt = 6 ∨ t2.toInt = 8) ∧ (smF (fun j : Nat => fv Po 306 j) t2.toInt.toNat).toInt = 24))) ∨ ((0 : Int) = 0 ∧ ¬ ((t1.toInt = 0 ∧ 2 ≤ t2.toInt ∧ t2.toInt ≤ 7) ∨ (¬ t1.toInt = 0 ∧ (t2.toInt = 4 ∨ t2.toInt = 6 ∨ t2.toInt = 8) ∧ (smF (fun j : Nat => fv Po 306 j) t2.toInt.toNat).toInt = 24)))) := by omega
        exact mp_iret ⟨⟨_, rfl, u11⟩, rfl⟩ dX7_areSizes_46 (Or.inr ⟨rfl, by decide⟩)
      · have c10 : x7.toInt = 24 := ti_ne_n c10
        refine mp_a (a_iconst (v := 1) dX7_areSizes_41 rfl) (mpp 42 rfl ?_)
        refine mp_a (a_goto (t := 46) dX7_areSizes_42 (by decide)) ?_
        have u12 : 0 ≤ (1 : Int) ∧ (1 : Int) ≤ 1 ∧ (((1 : Int) = 1 ∧ ((t1.toInt = 0 ∧ 2 ≤ t2.toInt ∧ t2.toInt ≤ 7) ∨ (¬ t1.toInt = 0 ∧ (t2.toInt = 4 ∨ t2.toInt = 6 ∨ t2.toInt = 8) ∧ (smF (fun j : Nat => fv Po 306 j) t2.toInt.toNat).toInt = 24))) ∨ ((1 : Int) = 0 ∧ ¬ ((t1.toInt = 0 ∧ 2 ≤ t2.toInt ∧ t2.toInt ≤ 7) ∨ (¬ t1.toInt = 0 ∧ (t2.toInt = 4 ∨ t2.toInt = 6 ∨ t2.toInt = 8) ∧ (smF (fun j : Nat => fv Po 306 j) t2.toInt.toNat).toInt = 24)))) := by omega
        exact mp_iret ⟨⟨_, rfl, u12⟩, rfl⟩ dX7_areSizes_46 (Or.inr ⟨rfl, by decide⟩)
    · have c2 : t2.toInt ≠ 4 := ti_eq_n c2
      refine mp_a (a_iload_n dX7_areSizes_19 rfl) (mpp 20 rfl ?_)
      refine mp_a (a_bipush (v := 6) dX7_areSizes_20 rfl) (mpp 22 rfl ?_)
      refine mp_Tb (t := 31) (j_icmp_eq dX7_areSizes_22) (by decide) (fun c13 => ?_) (fun c13 => mpp 25 rfl ?_)
      · have c13 : t2.toInt = 6 := ti_eq c13
        refine mp_a (a_aload_n dX7_areSizes_31 rfl) (mpp 32 rfl ?_)
        refine mp_a (a_iload_n dX7_areSizes_32 rfl) (mpp 33 rfl ?_)
        have p14 : t2.toInt ≤ 8 := by omega
        refine mt_callv (i := 98) (q' := q_131) (As := [.int t2]) (rest := []) hT dX7_areSizes_33 rfl qm_131 (by decide) rfl rl_301 (by decide) rfl (Nat.le_of_ble_eq_true rfl) rfl ⟨rfl, rfl⟩ ⟨Nat.le_of_ble_eq_true rfl, Nat.le_of_ble_eq_true rfl⟩ (EvP.mono (by decide) (c_M_sumOfNew hT p14 )) (fun r15 P16 g17 => mpp 36 rfl ?_)
        obtain ⟨⟨x18, rfl, g19⟩, e20⟩ := g17
        have e20 := e20.symm
        subst e20
        have wx18 := ti_full x18
        replace g19 : x18.toInt = (smF (fun j : Nat => fv Po 306 j) t2.toInt.toNat).toInt := g19
        show MEvP _ none q_130 36 [(0, .ref 301), (1, .int t1), (2, .int t2)] [.int x18] _ _ _ _
        refine mp_a (a_bipush (v := 24) dX7_areSizes_36 rfl) (mpp 38 rfl ?_)
        refine mp_Tb (t := 45) (j_icmp_ne dX7_areSizes_38) (by decide) (fun c21 => ?_) (fun c21 => mpp 41 rfl ?_)
        · have c21 : x18.toInt ≠ 24 := ti_ne c21
          refine mp_a (a_iconst (v := 0) dX7_areSizes_45 rfl) (mpp 46 rfl ?_)
          have u22 : 0 ≤ (0 : Int) ∧ (0 : Int) ≤ 1 ∧ (((0 : Int) = 1 ∧ ((t1.toInt = 0 ∧ 2 ≤ t2.toInt ∧ t2.toInt ≤ 7) ∨ (¬ t1.toInt = 0 ∧ (t2.toInt = 4 ∨ t2.toInt = 6 ∨ t2.toInt = 8) ∧ (smF (fun j : Nat => fv Po 306 j) t2.toInt.toNat).toInt = 24))) ∨ ((0 : Int) = 0 ∧ ¬ ((t1.toInt = 0 ∧ 2 ≤ t2.toInt ∧ t2.toInt ≤ 7) ∨ (¬ t1.toInt = 0 ∧ (t2.toInt = 4 ∨ t2.toInt = 6 ∨ t2.toInt = 8) ∧ (smF (fun j : Nat => fv Po 306 j) t2.toInt.toNat).toInt = 24)))) := by omega
          exact mp_iret ⟨⟨_, rfl, u22⟩, rfl⟩ dX7_areSizes_46 (Or.inr ⟨rfl, by decide⟩)
        · have c21 : x18.toInt = 24 := ti_ne_n c21
          refine mp_a (a_iconst (v := 1) dX7_areSizes_41 rfl) (mpp 42 rfl ?_)
          refine mp_a (a_goto (t := 46) dX7_areSizes_42 (by decide)) ?_
          have u23 : 0 ≤ (1 : Int) ∧ (1 : Int) ≤ 1 ∧ (((1 : Int) = 1 ∧ ((t1.toInt = 0 ∧ 2 ≤ t2.toInt ∧ t2.toInt ≤ 7) ∨ (¬ t1.toInt = 0 ∧ (t2.toInt = 4 ∨ t2.toInt = 6 ∨ t2.toInt = 8) ∧ (smF (fun j : Nat => fv Po 306 j) t2.toInt.toNat).toInt = 24))) ∨ ((1 : Int) = 0 ∧ ¬ ((t1.toInt = 0 ∧ 2 ≤ t2.toInt ∧ t2.toInt ≤ 7) ∨ (¬ t1.toInt = 0 ∧ (t2.toInt = 4 ∨ t2.toInt = 6 ∨ t2.toInt = 8) ∧ (smF (fun j : Nat => fv Po 306 j) t2.toInt.toNat).toInt = 24)))) := by omega
          exact mp_iret ⟨⟨_, rfl, u23⟩, rfl⟩ dX7_areSizes_46 (Or.inr ⟨rfl, by decide⟩)
      · have c13 : t2.toInt ≠ 6 := ti_eq_n c13
        refine mp_a (a_iload_n dX7_areSizes_25 rfl) (mpp 26 rfl ?_)
        refine mp_a (a_bipush (v := 8) dX7_areSizes_26 rfl) (mpp 28 rfl ?_)
        refine mp_Tb (t := 45) (j_icmp_ne dX7_areSizes_28) (by decide) (fun c24 => ?_) (fun c24 => mpp 31 rfl ?_)
        · have c24 : t2.toInt ≠ 8 := ti_ne c24
          refine mp_a (a_iconst (v := 0) dX7_areSizes_45 rfl) (mpp 46 rfl ?_)
          have u25 : 0 ≤ (0 : Int) ∧ (0 : Int) ≤ 1 ∧ (((0 : Int) = 1 ∧ ((t1.toInt = 0 ∧ 2 ≤ t2.toInt ∧ t2.toInt ≤ 7) ∨ (¬ t1.toInt = 0 ∧ (t2.toInt = 4 ∨ t2.toInt = 6 ∨ t2.toInt = 8) ∧ (smF (fun j : Nat => fv Po 306 j) t2.toInt.toNat).toInt = 24))) ∨ ((0 : Int) = 0 ∧ ¬ ((t1.toInt = 0 ∧ 2 ≤ t2.toInt ∧ t2.toInt ≤ 7) ∨ (¬ t1.toInt = 0 ∧ (t2.toInt = 4 ∨ t2.toInt = 6 ∨ t2.toInt = 8) ∧ (smF (fun j : Nat => fv Po 306 j) t2.toInt.toNat).toInt = 24)))) := by omega
          exact mp_iret ⟨⟨_, rfl, u25⟩, rfl⟩ dX7_areSizes_46 (Or.inr ⟨rfl, by decide⟩)
        · have c24 : t2.toInt = 8 := ti_ne_n c24
          refine mp_a (a_aload_n dX7_areSizes_31 rfl) (mpp 32 rfl ?_)
          refine mp_a (a_iload_n dX7_areSizes_32 rfl) (mpp 33 rfl ?_)
          have p26 : t2.toInt ≤ 8 := by omega
          refine mt_callv (i := 98) (q' := q_131) (As := [.int t2]) (rest := []) hT dX7_areSizes_33 rfl qm_131 (by decide) rfl rl_301 (by decide) rfl (Nat.le_of_ble_eq_true rfl) rfl ⟨rfl, rfl⟩ ⟨Nat.le_of_ble_eq_true rfl, Nat.le_of_ble_eq_true rfl⟩ (EvP.mono (by decide) (c_M_sumOfNew hT p26 )) (fun r27 P28 g29 => mpp 36 rfl ?_)
          obtain ⟨⟨x30, rfl, g31⟩, e32⟩ := g29
          have e32 := e32.symm
          subst e32
          have wx30 := ti_full x30
          replace g31 : x30.toInt = (smF (fun j : Nat => fv Po 306 j) t2.toInt.toNat).toInt := g31
          show MEvP _ none q_130 36 [(0, .ref 301), (1, .int t1), (2, .int t2)] [.int x30] _ _ _ _
          refine mp_a (a_bipush (v := 24) dX7_areSizes_36 rfl) (mpp 38 rfl ?_)
          refine mp_Tb (t := 45) (j_icmp_ne dX7_areSizes_38) (by decide) (fun c33 => ?_) (fun c33 => mpp 41 rfl ?_)
          · have c33 : x30.toInt ≠ 24 := ti_ne c33
            refine mp_a (a_iconst (v := 0) dX7_areSizes_45 rfl) (mpp 46 rfl ?_)
            have u34 : 0 ≤ (0 : Int) ∧ (0 : Int) ≤ 1 ∧ (((0 : Int) = 1 ∧ ((t1.toInt = 0 ∧ 2 ≤ t2.toInt ∧ t2.toInt ≤ 7) ∨ (¬ t1.toInt = 0 ∧ (t2.toInt = 4 ∨ t2.toInt = 6 ∨ t2.toInt = 8) ∧ (smF (fun j : Nat => fv Po 306 j) t2.toInt.toNat).toInt = 24))) ∨ ((0 : Int) = 0 ∧ ¬ ((t1.toInt = 0 ∧ 2 ≤ t2.toInt ∧ t2.toInt ≤ 7) ∨ (¬ t1.toInt = 0 ∧ (t2.toInt = 4 ∨ t2.toInt = 6 ∨ t2.toInt = 8) ∧ (smF (fun j : Nat => fv Po 306 j) t2.toInt.toNat).toInt = 24)))) := by omega
            exact mp_iret ⟨⟨_, rfl, u34⟩, rfl⟩ dX7_areSizes_46 (Or.inr ⟨rfl, by decide⟩)
          · have c33 : x30.toInt = 24 := ti_ne_n c33
            refine mp_a (a_iconst (v := 1) dX7_areSizes_41 rfl) (mpp 42 rfl ?_)
            refine mp_a (a_goto (t := 46) dX7_areSizes_42 (by decide)) ?_
            have u35 : 0 ≤ (1 : Int) ∧ (1 : Int) ≤ 1 ∧ (((1 : Int) = 1 ∧ ((t1.toInt = 0 ∧ 2 ≤ t2.toInt ∧ t2.toInt ≤ 7) ∨ (¬ t1.toInt = 0 ∧ (t2.toInt = 4 ∨ t2.toInt = 6 ∨ t2.toInt = 8) ∧ (smF (fun j : Nat => fv Po 306 j) t2.toInt.toNat).toInt = 24))) ∨ ((1 : Int) = 0 ∧ ¬ ((t1.toInt = 0 ∧ 2 ≤ t2.toInt ∧ t2.toInt ≤ 7) ∨ (¬ t1.toInt = 0 ∧ (t2.toInt = 4 ∨ t2.toInt = 6 ∨ t2.toInt = 8) ∧ (smF (fun j : Nat => fv Po 306 j) t2.toInt.toNat).toInt = 24)))) := by omega
            exact mp_iret ⟨⟨_, rfl, u35⟩, rfl⟩ dX7_areSizes_46 (Or.inr ⟨rfl, by decide⟩)
  · have c1 : t1.toInt = 0 := ti_ne_n c1
    refine mp_a (a_iload_n dX7_areSizes_4 rfl) (mpp 5 rfl ?_)
    refine mp_a (a_iconst (v := 2) dX7_areSizes_5 rfl) (mpp 6 rfl ?_)
    refine mp_a (a_bipush (v := 7) dX7_areSizes_6 rfl) (mpp 8 rfl ?_)
    refine mp_calls (i := 61) (q' := q_127) (As := [.int t2, .int 2, .int 7]) (rest := []) dX7_areSizes_8 rfl qm_127 (by decide) rfl (Nat.le_of_ble_eq_true rfl) rfl ⟨rfl, rfl⟩ ⟨Nat.le_of_ble_eq_true rfl, Nat.le_of_ble_eq_true rfl⟩ (EvP.mono (by decide) (c_M_isIn hT )) (fun r36 P37 g38 => mpp 11 rfl ?_)
    obtain ⟨⟨x39, rfl, g40⟩, e41⟩ := g38
    have e41 := e41.symm
    subst e41
    have wx39 := ti_full x39
    replace g40 : 0 ≤ x39.toInt ∧ x39.toInt ≤ 1 ∧ ((x39.toInt = 1 ∧ (2 : Int) ≤ t2.toInt ∧ t2.toInt ≤ (7 : Int)) ∨ (x39.toInt = 0 ∧ (t2.toInt < (2 : Int) ∨ (7 : Int) < t2.toInt))) := g40
    show MEvP _ none q_130 11 [(0, .ref 301), (1, .int t1), (2, .int t2)] [.int x39] _ _ _ _
    refine mp_a (a_goto (t := 46) dX7_areSizes_11 (by decide)) ?_
    have u42 : 0 ≤ x39.toInt ∧ x39.toInt ≤ 1 ∧ ((x39.toInt = 1 ∧ ((t1.toInt = 0 ∧ 2 ≤ t2.toInt ∧ t2.toInt ≤ 7) ∨ (¬ t1.toInt = 0 ∧ (t2.toInt = 4 ∨ t2.toInt = 6 ∨ t2.toInt = 8) ∧ (smF (fun j : Nat => fv Po 306 j) t2.toInt.toNat).toInt = 24))) ∨ (x39.toInt = 0 ∧ ¬ ((t1.toInt = 0 ∧ 2 ≤ t2.toInt ∧ t2.toInt ≤ 7) ∨ (¬ t1.toInt = 0 ∧ (t2.toInt = 4 ∨ t2.toInt = 6 ∨ t2.toInt = 8) ∧ (smF (fun j : Nat => fv Po 306 j) t2.toInt.toNat).toInt = 24)))) := by omega
    exact mp_iret ⟨⟨_, rfl, u42⟩, rfl⟩ dX7_areSizes_46 (Or.inr ⟨rfl, ti_01 (by omega)⟩)

set_option maxHeartbeats 4000000 in
theorem c_M_laysCreases_l24 {Po : mP} {t1 : Int32} {t2 : Int32} (hp0 : 0 ≤ t2.toInt) (hp1 : t2.toInt ≤ 8)  : ∀ (n : Nat) (v3 : Int32) (v4 : Int32) (v5 : Int32), ∀ (P : mP), Typ P → KW [1472] Po P → (0 ≤ t1.toInt ∧ dvF t1.toInt t2.toInt.toNat = 0) → (v3.toInt = dvF t1.toInt (t2.toInt - 1 - v5.toInt).toNat) → ((-1) ≤ v5.toInt ∧ v5.toInt ≤ t2.toInt - 1) → (DGR P 307 t1.toInt t2.toInt.toNat v5.toInt) → ((v4.toInt = 1 ∧ SM2 t1.toInt t2.toInt.toNat v5.toInt) ∨ (v4.toInt = 0 ∧ ¬ okCr t1.toInt t2.toInt.toNat)) → (v5.toInt + 1).toNat = n → MEvP 1 none q_132 24 [(0, .ref 301), (1, .int t1), (2, .int t2), (3, .int v3), (4, .int v4), (5, .int v5)] [] P 0 0 (fun r P' => (∃ x : Int32, r = some (.int x) ∧ (0 ≤ x.toInt ∧ x.toInt ≤ 1 ∧ ((x.toInt = 1 ∧ okCr t1.toInt t2.toInt.toNat ∧ ∀ j : Nat, j < t2.toInt.toNat → fv P' 307 j = dgI t1.toInt t2.toInt.toNat j) ∨ (x.toInt = 0 ∧ ¬ okCr t1.toInt t2.toInt.toNat)))) ∧ Typ P' ∧ KW [1472] Po P' ∧ True) := by
  intro n
  induction n using Nat.strongRecOn with | _ n ih => ?_
  intro v3 v4 v5 P hT hK i_0 i_1 i_2 i_3 i_4 hm
  have w_t1 := ti_full t1
  have w_t2 := ti_full t2
  have w_v3 := ti_full v3
  have w_v4 := ti_full v4
  have w_v5 := ti_full v5
  refine mp_a (a_iload dX7_laysCreases_24 rfl) (mpp 26 rfl ?_)
  refine mp_Tb (t := 74) (j_if_lt dX7_laysCreases_26) (by decide) (fun c1 => ?_) (fun c1 => mpp 29 rfl ?_)
  · have c1 : v5.toInt < 0 := ti_lt c1
    refine mp_a (a_iload dX7_laysCreases_74 rfl) (mpp 76 rfl ?_)
    have u2 : 0 ≤ v4.toInt ∧ v4.toInt ≤ 1 ∧ ((v4.toInt = 1 ∧ okCr t1.toInt t2.toInt.toNat ∧ ∀ j : Nat, j < t2.toInt.toNat → fv P 307 j = dgI t1.toInt t2.toInt.toNat j) ∨ (v4.toInt = 0 ∧ ¬ okCr t1.toInt t2.toInt.toNat)) := ⟨by omega, by omega, i_4.imp (fun h => ⟨h.1, ⟨i_0.1, i_0.2, fun i hi => h.2 i (by omega)⟩, fun j hj => i_3 j (by omega) hj⟩) id⟩
    exact mp_iret ⟨⟨_, rfl, u2⟩, hT, hK, trivial⟩ dX7_laysCreases_76 (Or.inr ⟨rfl, ti_01 (by omega)⟩)
  · have c1 : v5.toInt ≥ 0 := ti_lt_n c1
    have hq := dvF_nonneg (n := t1.toInt) (by omega) (t2.toInt - 1 - v5.toInt).toNat
    refine mp_a (a_aload_n dX7_laysCreases_29 rfl) (mpp 30 rfl ?_)
    refine mt_getU (i := 25) (k := 10) (A := 307) hT dX7_laysCreases_30 rfl rl_301 (by decide) rfl (by decide) rfl un_23 (mpp 33 rfl ?_)
    refine mp_a (a_iload dX7_laysCreases_33 rfl) (mpp 35 rfl ?_)
    refine mp_a (a_iload_n dX7_laysCreases_35 rfl) (mpp 36 rfl ?_)
    refine mp_a (a_bipush (v := 10) dX7_laysCreases_36 rfl) (mpp 38 rfl ?_)
    obtain ⟨z3, h4⟩ := ti_ex (v3 - v3 / 10 * 10 : Int32)
    have wz3 := ti_full z3
    try have e6 : z3.toInt = v3.toInt % 10 := ti_remx h4 (show (0 : Int) ≤ v3.toInt by omega) (show (0 : Int) < 10 by omega)
    try have e5 : 0 ≤ z3.toInt ∧ z3.toInt < 10 := ti_rem h4 (show (0 : Int) ≤ v3.toInt by omega) (show (0 : Int) < 10 by omega)
    refine mp_t (s_irem (v := z3) dX7_laysCreases_38 (by decide) h4) (mpp 39 rfl ?_)
    refine mt_ias (n := 8) hT dX7_laysCreases_39 rl_307 (by decide) rfl rfl (by omega) (by omega) rfl (ti_full z3) (fun P7 hT8 f9 f10 f11 => mpp 40 rfl ?_)
    have k12 : KW [1472] Po P7 := KW.step hK rl_307 rfl f10 f11
    refine mp_a (a_iload_n dX7_laysCreases_40 rfl) (mpp 41 rfl ?_)
    refine mp_a (a_bipush (v := 10) dX7_laysCreases_41 rfl) (mpp 43 rfl ?_)
    obtain ⟨z13, h14⟩ := ti_ex (v3 / 10 : Int32)
    have wz13 := ti_full z13
    try have e15 : z13.toInt = v3.toInt / 10 := ti_div h14 (show (0 : Int) ≤ v3.toInt by omega) (show (0 : Int) < 10 by omega)
    refine mp_t (s_idiv (v := z13) dX7_laysCreases_43 (by decide) h14) (mpp 44 rfl ?_)
    refine mp_a (a_istore_n (L' := [(3, .int z13), (0, .ref 301), (1, .int t1), (2, .int t2), (4, .int v4), (5, .int v5)]) dX7_laysCreases_44 (by decide) rfl) (mpp 45 rfl ?_)
    refine mp_a (a_iload dX7_laysCreases_45 rfl) (mpp 47 rfl ?_)
    refine mp_Tb (t := 65) (j_if_eq dX7_laysCreases_47) (by decide) (fun c16 => ?_) (fun c16 => mpp 50 rfl ?_)
    · have c16 : v4.toInt = 0 := ti_eq c16
      refine mp_a (a_iconst (v := 0) dX7_laysCreases_65 rfl) (mpp 66 rfl ?_)
      refine mp_a (a_istore (L' := [(4, .int 0), (3, .int z13), (0, .ref 301), (1, .int t1), (2, .int t2), (5, .int v5)]) dX7_laysCreases_66 (by decide) rfl) (mpp 68 rfl ?_)
      obtain ⟨z17, h18⟩ := ti_ex (v5 + (-1) : Int32)
      have wz17 := ti_full z17
      refine mp_a (a_iinc (v := z17) (L' := [(5, .int z17), (4, .int 0), (3, .int z13), (0, .ref 301), (1, .int t1), (2, .int t2)]) dX7_laysCreases_68 (by decide) rfl h18 rfl) (mpp 71 rfl ?_)
      try have e19 : z17.toInt = v5.toInt + (-1) := ti_addz h18 rfl rfl (by omega) (by omega)
      refine mp_a (a_goto (t := 24) dX7_laysCreases_71 (by decide)) ?_
      refine MEvP.less (L := [(0, .ref 301), (1, .int t1), (2, .int t2), (3, .int z13), (4, .int 0), (5, .int z17)]) rfl rfl ⟨rfl, rfl, rfl, rfl, rfl, rfl, trivial⟩ ?_
      have i20 : 0 ≤ t1.toInt ∧ dvF t1.toInt t2.toInt.toNat = 0 := i_0
      have i21 : z13.toInt = dvF t1.toInt (t2.toInt - 1 - z17.toInt).toNat := dvF.next i_1 (by omega) (by omega)
      have i22 : (-1) ≤ z17.toInt ∧ z17.toInt ≤ t2.toInt - 1 := by omega
      have i23 : DGR P7 307 t1.toInt t2.toInt.toNat z17.toInt := DGR.step (k := v5.toInt.toNat) i_3 (by omega) (by omega) (congrArg Int32.toInt f9) (by rw [show t2.toInt.toNat - 1 - v5.toInt.toNat = (t2.toInt - 1 - v5.toInt).toNat from by omega, ← i_1]; omega) (fun j hj => f10 _ _ (fun e => hj e.2))
      have i24 : ((0 : Int) = 1 ∧ SM2 t1.toInt t2.toInt.toNat z17.toInt) ∨ ((0 : Int) = 0 ∧ ¬ okCr t1.toInt t2.toInt.toNat) := Or.inr ⟨rfl, (i_4.resolve_left (by omega)).2⟩
      exact ih _ (by omega) _ _ _ P7 hT8 k12 i20 i21 i22 i23 i24 rfl
    · have c16 : v4.toInt ≠ 0 := ti_eq_n c16
      have q25 := congrArg Int32.toInt f9
      refine mp_a (a_aload_n dX7_laysCreases_50 rfl) (mpp 51 rfl ?_)
      refine mt_getU (i := 25) (k := 10) (A := 307) hT8 dX7_laysCreases_51 rfl rl_301 (by decide) rfl (by decide) rfl un_23 (mpp 54 rfl ?_)
      refine mp_a (a_iload dX7_laysCreases_54 rfl) (mpp 56 rfl ?_)
      refine mt_ial (n := 8) hT8 dX7_laysCreases_56 rl_307 (by decide) rfl rfl (by omega) (by omega) rfl (fun g26 g27 => mpp 57 rfl ?_)
      refine mp_a (a_iconst (v := 2) dX7_laysCreases_57 rfl) (mpp 58 rfl ?_)
      refine mp_Tb (t := 65) (j_icmp_gt dX7_laysCreases_58) (by decide) (fun c28 => ?_) (fun c28 => mpp 61 rfl ?_)
      · have c28 : (fv P7 307 v5.toInt.toNat).toInt > 2 := ti_gt c28
        refine mp_a (a_iconst (v := 0) dX7_laysCreases_65 rfl) (mpp 66 rfl ?_)
        refine mp_a (a_istore (L' := [(4, .int 0), (3, .int z13), (0, .ref 301), (1, .int t1), (2, .int t2), (5, .int v5)]) dX7_laysCreases_66 (by decide) rfl) (mpp 68 rfl ?_)
        obtain ⟨z29, h30⟩ := ti_ex (v5 + (-1) : Int32)
        have wz29 := ti_full z29
        refine mp_a (a_iinc (v := z29) (L' := [(5, .int z29), (4, .int 0), (3, .int z13), (0, .ref 301), (1, .int t1), (2, .int t2)]) dX7_laysCreases_68 (by decide) rfl h30 rfl) (mpp 71 rfl ?_)
        try have e31 : z29.toInt = v5.toInt + (-1) := ti_addz h30 rfl rfl (by omega) (by omega)
        refine mp_a (a_goto (t := 24) dX7_laysCreases_71 (by decide)) ?_
        refine MEvP.less (L := [(0, .ref 301), (1, .int t1), (2, .int t2), (3, .int z13), (4, .int 0), (5, .int z29)]) rfl rfl ⟨rfl, rfl, rfl, rfl, rfl, rfl, trivial⟩ ?_
        have i32 : 0 ≤ t1.toInt ∧ dvF t1.toInt t2.toInt.toNat = 0 := i_0
        have i33 : z13.toInt = dvF t1.toInt (t2.toInt - 1 - z29.toInt).toNat := dvF.next i_1 (by omega) (by omega)
        have i34 : (-1) ≤ z29.toInt ∧ z29.toInt ≤ t2.toInt - 1 := by omega
        have i35 : DGR P7 307 t1.toInt t2.toInt.toNat z29.toInt := DGR.step (k := v5.toInt.toNat) i_3 (by omega) (by omega) (congrArg Int32.toInt f9) (by rw [show t2.toInt.toNat - 1 - v5.toInt.toNat = (t2.toInt - 1 - v5.toInt).toNat from by omega, ← i_1]; omega) (fun j hj => f10 _ _ (fun e => hj e.2))
        have i36 : ((0 : Int) = 1 ∧ SM2 t1.toInt t2.toInt.toNat z29.toInt) ∨ ((0 : Int) = 0 ∧ ¬ okCr t1.toInt t2.toInt.toNat) := Or.inr ⟨rfl, fun h => by have w2 := h.2.2 (t2.toInt - 1 - v5.toInt).toNat (by omega); rw [← i_1] at w2; omega⟩
        exact ih _ (by omega) _ _ _ P7 hT8 k12 i32 i33 i34 i35 i36 rfl
      · have c28 : (fv P7 307 v5.toInt.toNat).toInt ≤ 2 := ti_gt_n c28
        refine mp_a (a_iconst (v := 1) dX7_laysCreases_61 rfl) (mpp 62 rfl ?_)
        refine mp_a (a_goto (t := 66) dX7_laysCreases_62 (by decide)) ?_
        refine mp_a (a_istore (L' := [(4, .int 1), (3, .int z13), (0, .ref 301), (1, .int t1), (2, .int t2), (5, .int v5)]) dX7_laysCreases_66 (by decide) rfl) (mpp 68 rfl ?_)
        obtain ⟨z37, h38⟩ := ti_ex (v5 + (-1) : Int32)
        have wz37 := ti_full z37
        refine mp_a (a_iinc (v := z37) (L' := [(5, .int z37), (4, .int 1), (3, .int z13), (0, .ref 301), (1, .int t1), (2, .int t2)]) dX7_laysCreases_68 (by decide) rfl h38 rfl) (mpp 71 rfl ?_)
        try have e39 : z37.toInt = v5.toInt + (-1) := ti_addz h38 rfl rfl (by omega) (by omega)
        refine mp_a (a_goto (t := 24) dX7_laysCreases_71 (by decide)) ?_
        refine MEvP.less (L := [(0, .ref 301), (1, .int t1), (2, .int t2), (3, .int z13), (4, .int 1), (5, .int z37)]) rfl rfl ⟨rfl, rfl, rfl, rfl, rfl, rfl, trivial⟩ ?_
        have i40 : 0 ≤ t1.toInt ∧ dvF t1.toInt t2.toInt.toNat = 0 := i_0
        have i41 : z13.toInt = dvF t1.toInt (t2.toInt - 1 - z37.toInt).toNat := dvF.next i_1 (by omega) (by omega)
        have i42 : (-1) ≤ z37.toInt ∧ z37.toInt ≤ t2.toInt - 1 := by omega
        have i43 : DGR P7 307 t1.toInt t2.toInt.toNat z37.toInt := DGR.step (k := v5.toInt.toNat) i_3 (by omega) (by omega) (congrArg Int32.toInt f9) (by rw [show t2.toInt.toNat - 1 - v5.toInt.toNat = (t2.toInt - 1 - v5.toInt).toNat from by omega, ← i_1]; omega) (fun j hj => f10 _ _ (fun e => hj e.2))
        have i44 : ((1 : Int) = 1 ∧ SM2 t1.toInt t2.toInt.toNat z37.toInt) ∨ ((1 : Int) = 0 ∧ ¬ okCr t1.toInt t2.toInt.toNat) := Or.inl ⟨rfl, SM2.step (k := (t2.toInt - 1 - v5.toInt).toNat) (i_4.resolve_right (by omega)).2 (by omega) (by omega) (by rw [← i_1]; omega)⟩
        exact ih _ (by omega) _ _ _ P7 hT8 k12 i40 i41 i42 i43 i44 rfl

