/-! methods on typed pools, 41 (written by a program) -/
set_option maxHeartbeats 4000000 in
theorem c_M_append {Po : mP} {t1 : Int32} (hT : Typ Po)   : EvP 2 214 [.ref 301, .int t1] Po (fun r P' => (∃ x : Int32, r = some (.int x) ∧ ((x.toInt = -1002 ∧ (t1.toInt < 32 ∨ 126 < t1.toInt ∨ 80 ≤ (fv Po 301 23).toInt) ∧ (fv P' 301 23).toInt = (fv Po 301 23).toInt ∧ ∀ j : Nat, fv P' 314 j = fv Po 314 j) ∨ (x.toInt = (fv Po 301 23).toInt + 1 ∧ 32 ≤ t1.toInt ∧ t1.toInt ≤ 126 ∧ (fv Po 301 23).toInt < 80 ∧ (fv P' 301 23).toInt = (fv Po 301 23).toInt + 1 ∧ (fv P' 314 (fv Po 301 23).toInt.toNat).toInt = t1.toInt ∧ ∀ j : Nat, ¬ j = (fv Po 301 23).toInt.toNat → fv P' 314 j = fv Po 314 j))) ∧ Typ P' ∧ KW [1111, 1920] Po P' ∧ True) := by
  refine EvP.of qm_214 (Nat.le_of_ble_eq_true rfl) rfl ?_
  show MEvP _ none q_214 0 [(0, .ref 301), (1, .int t1)] [] _ 0 0 _
  have w_t1 := ti_full t1
  have g1 : (0 : Int) ≤ (fv Po 301 23).toInt ∧ (fv Po 301 23).toInt ≤ 80 := Typ.rng hT rl_301 (by decide) (by decide) rfl
  refine mp_a (a_iload_n dX7_append_0 rfl) (mpp 1 rfl ?_)
  refine mp_a (a_bipush (v := 32) dX7_append_1 rfl) (mpp 3 rfl ?_)
  refine mp_a (a_bipush (v := 126) dX7_append_3 rfl) (mpp 5 rfl ?_)
  refine mp_calls (i := 61) (q' := q_127) (As := [.int t1, .int 32, .int 126]) (rest := []) dX7_append_5 rfl qm_127 (by decide) rfl (Nat.le_of_ble_eq_true rfl) rfl ⟨rfl, rfl⟩ ⟨Nat.le_of_ble_eq_true rfl, Nat.le_of_ble_eq_true rfl⟩ (EvP.mono (by decide) (c_M_isIn hT )) (fun r2 P3 g4 => mpp 8 rfl ?_)
  obtain ⟨⟨x5, rfl, g6⟩, e7⟩ := g4
  have e7 := e7.symm
  subst e7
  have wx5 := ti_full x5
  replace g6 : 0 ≤ x5.toInt ∧ x5.toInt ≤ 1 ∧ ((x5.toInt = 1 ∧ (32 : Int) ≤ t1.toInt ∧ t1.toInt ≤ (126 : Int)) ∨ (x5.toInt = 0 ∧ (t1.toInt < (32 : Int) ∨ (126 : Int) < t1.toInt))) := g6
  show MEvP _ none q_214 8 [(0, .ref 301), (1, .int t1)] [.int x5] _ _ _ _
  refine mp_Tb (t := 20) (j_if_eq dX7_append_8) (by decide) (fun c8 => ?_) (fun c8 => mpp 11 rfl ?_)
  · have c8 : x5.toInt = 0 := ti_eq c8
    refine mp_a (a_sipush (v := -1002) dX7_append_20 rfl) (mpp 23 rfl ?_)
    have u9 : ((-1002 : Int) = -1002 ∧ (t1.toInt < 32 ∨ 126 < t1.toInt ∨ 80 ≤ (fv Po 301 23).toInt) ∧ (fv Po 301 23).toInt = (fv Po 301 23).toInt ∧ ∀ j : Nat, fv Po 314 j = fv Po 314 j) ∨ ((-1002 : Int) = (fv Po 301 23).toInt + 1 ∧ 32 ≤ t1.toInt ∧ t1.toInt ≤ 126 ∧ (fv Po 301 23).toInt < 80 ∧ (fv Po 301 23).toInt = (fv Po 301 23).toInt + 1 ∧ (fv Po 314 (fv Po 301 23).toInt.toNat).toInt = t1.toInt ∧ ∀ j : Nat, ¬ j = (fv Po 301 23).toInt.toNat → fv Po 314 j = fv Po 314 j) := Or.inl ⟨rfl, by omega, by omega, fun _ => rfl⟩
    exact mp_iret ⟨⟨_, rfl, u9⟩, hT, KW.refl, trivial⟩ dX7_append_23 (Or.inl rfl)
  · have c8 : x5.toInt ≠ 0 := ti_eq_n c8
    refine mp_a (a_aload_n dX7_append_11 rfl) (mpp 12 rfl ?_)
    refine mt_getI (i := 291) (k := 23) hT dX7_append_12 rfl rl_301 (by decide) rfl (by decide) rfl (fun g10 g11 => mpp 15 rfl ?_)
    refine mp_a (a_bipush (v := 80) dX7_append_15 rfl) (mpp 17 rfl ?_)
    refine mp_Tb (t := 24) (j_icmp_ne dX7_append_17) (by decide) (fun c12 => ?_) (fun c12 => mpp 20 rfl ?_)
    · have c12 : (fv Po 301 23).toInt ≠ 80 := ti_ne c12
      refine mp_a (a_aload_n dX7_append_24 rfl) (mpp 25 rfl ?_)
      refine mt_getU (i := 47) (k := 22) (A := 314) hT dX7_append_25 rfl rl_301 (by decide) rfl (by decide) rfl un_30 (mpp 28 rfl ?_)
      refine mp_a (a_aload_n dX7_append_28 rfl) (mpp 29 rfl ?_)
      refine mt_getI (i := 291) (k := 23) hT dX7_append_29 rfl rl_301 (by decide) rfl (by decide) rfl (fun g13 g14 => mpp 32 rfl ?_)
      refine mp_a (a_iload_n dX7_append_32 rfl) (mpp 33 rfl ?_)
      refine mt_ias (n := 80) hT dX7_append_33 rl_314 (by decide) rfl rfl (by omega) (by omega) rfl (ti_full t1) (fun P15 hT16 f17 f18 f19 => mpp 34 rfl ?_)
      have k20 : KW [1111, 1920] Po P15 := KW.step KW.refl rl_314 rfl f18 f19
      refine mp_a (a_aload_n dX7_append_34 rfl) (mpp 35 rfl ?_)
      refine mp_t (s_dup dX7_append_35 rfl) (mpp 36 rfl ?_)
      have e21 : (fv P15 301 23).toInt = (fv Po 301 23).toInt := congrArg Int32.toInt (f18 301 23 (ne_r rl_301 rl_314 rfl))
      refine mt_getI (i := 291) (k := 23) hT16 dX7_append_36 rfl rl_301 (by decide) rfl (by decide) rfl (fun g22 g23 => mpp 39 rfl ?_)
      refine mp_a (a_iconst (v := 1) dX7_append_39 rfl) (mpp 40 rfl ?_)
      obtain ⟨z24, h25⟩ := ti_ex ((fv P15 301 23) + 1 : Int32)
      have wz24 := ti_full z24
      refine mp_t (s_iadd (v := z24) dX7_append_40 h25) (mpp 41 rfl ?_)
      try have e26 : z24.toInt = (fv P15 301 23).toInt + 1 := ti_addz h25 rfl rfl (by omega) (by omega)
      refine mt_putI (i := 291) (k := 23) (x := z24) hT16 dX7_append_41 rfl rl_301 (by decide) rfl (by decide) rfl ⟨by omega, by omega⟩ rfl rfl (fun P27 hT28 f29 f30 f31 => mpp 44 rfl ?_)
      have k32 : KW [1111, 1920] Po P27 := KW.step k20 rl_301 rfl f30 f31
      have e33 : (fv P27 301 23).toInt = z24.toInt := congrArg Int32.toInt f29
      refine mp_a (a_aload_n dX7_append_44 rfl) (mpp 45 rfl ?_)
      refine mt_getI (i := 291) (k := 23) hT28 dX7_append_45 rfl rl_301 (by decide) rfl (by decide) rfl (fun g34 g35 => mpp 48 rfl ?_)
      have u36 : ((fv P27 301 23).toInt = -1002 ∧ (t1.toInt < 32 ∨ 126 < t1.toInt ∨ 80 ≤ (fv Po 301 23).toInt) ∧ (fv P27 301 23).toInt = (fv Po 301 23).toInt ∧ ∀ j : Nat, fv P27 314 j = fv Po 314 j) ∨ ((fv P27 301 23).toInt = (fv Po 301 23).toInt + 1 ∧ 32 ≤ t1.toInt ∧ t1.toInt ≤ 126 ∧ (fv Po 301 23).toInt < 80 ∧ (fv P27 301 23).toInt = (fv Po 301 23).toInt + 1 ∧ (fv P27 314 (fv Po 301 23).toInt.toNat).toInt = t1.toInt ∧ ∀ j : Nat, ¬ j = (fv Po 301 23).toInt.toNat → fv P27 314 j = fv Po 314 j) := Or.inr ⟨by omega, by omega, by omega, by omega, by omega, by rw [f30 314 _ (by omega)]; exact congrArg Int32.toInt f17, fun j hj => (f30 314 j (by omega)).trans (f18 314 j (fun e => hj e.2))⟩
      exact mp_iret ⟨⟨_, rfl, u36⟩, hT28, k32, trivial⟩ dX7_append_48 (Or.inl rfl)
    · have c12 : (fv Po 301 23).toInt = 80 := ti_ne_n c12
      refine mp_a (a_sipush (v := -1002) dX7_append_20 rfl) (mpp 23 rfl ?_)
      have u37 : ((-1002 : Int) = -1002 ∧ (t1.toInt < 32 ∨ 126 < t1.toInt ∨ 80 ≤ (fv Po 301 23).toInt) ∧ (fv Po 301 23).toInt = (fv Po 301 23).toInt ∧ ∀ j : Nat, fv Po 314 j = fv Po 314 j) ∨ ((-1002 : Int) = (fv Po 301 23).toInt + 1 ∧ 32 ≤ t1.toInt ∧ t1.toInt ≤ 126 ∧ (fv Po 301 23).toInt < 80 ∧ (fv Po 301 23).toInt = (fv Po 301 23).toInt + 1 ∧ (fv Po 314 (fv Po 301 23).toInt.toNat).toInt = t1.toInt ∧ ∀ j : Nat, ¬ j = (fv Po 301 23).toInt.toNat → fv Po 314 j = fv Po 314 j) := Or.inl ⟨rfl, by omega, by omega, fun _ => rfl⟩
      exact mp_iret ⟨⟨_, rfl, u37⟩, hT, KW.refl, trivial⟩ dX7_append_23 (Or.inl rfl)

set_option maxHeartbeats 4000000 in
theorem c_M_sign {Po : mP}  (hT : Typ Po)   : EvP 1 218 [.ref 301] Po (fun r P' => (∃ x : Int32, r = some (.int x) ∧ (x.toInt = -1 ∨ (fv Po 301 24).toInt + 1 ≤ (fv Po 301 23).toInt)) ∧ P' = Po) := by
  refine EvP.of qm_218 (Nat.le_of_ble_eq_true rfl) rfl ?_
  show MEvP _ none q_218 0 [(0, .ref 301)] [] _ 0 0 _
  have g1 : (0 : Int) ≤ (fv Po 301 24).toInt ∧ (fv Po 301 24).toInt ≤ 81 := Typ.rng hT rl_301 (by decide) (by decide) rfl
  have g2 : (0 : Int) ≤ (fv Po 301 23).toInt ∧ (fv Po 301 23).toInt ≤ 80 := Typ.rng hT rl_301 (by decide) (by decide) rfl
  refine mp_a (a_aload_n dX7_sign_0 rfl) (mpp 1 rfl ?_)
  refine mt_getI (i := 294) (k := 24) hT dX7_sign_1 rfl rl_301 (by decide) rfl (by decide) rfl (fun g3 g4 => mpp 4 rfl ?_)
  refine mp_a (a_aload_n dX7_sign_4 rfl) (mpp 5 rfl ?_)
  refine mt_getI (i := 291) (k := 23) hT dX7_sign_5 rfl rl_301 (by decide) rfl (by decide) rfl (fun g5 g6 => mpp 8 rfl ?_)
  refine mp_Tb (t := 23) (j_icmp_ge dX7_sign_8) (by decide) (fun c7 => ?_) (fun c7 => mpp 11 rfl ?_)
  · have c7 : (fv Po 301 24).toInt ≥ (fv Po 301 23).toInt := ti_ge c7
    refine mp_a (a_iconst (v := -1) dX7_sign_23 rfl) (mpp 24 rfl ?_)
    have u8 : (-1 : Int) = -1 ∨ (fv Po 301 24).toInt + 1 ≤ (fv Po 301 23).toInt := by omega
    exact mp_iret ⟨⟨_, rfl, u8⟩, rfl⟩ dX7_sign_24 (Or.inl rfl)
  · have c7 : (fv Po 301 24).toInt < (fv Po 301 23).toInt := ti_ge_n c7
    refine mp_a (a_aload_n dX7_sign_11 rfl) (mpp 12 rfl ?_)
    refine mt_getU (i := 47) (k := 22) (A := 314) hT dX7_sign_12 rfl rl_301 (by decide) rfl (by decide) rfl un_30 (mpp 15 rfl ?_)
    refine mp_a (a_aload_n dX7_sign_15 rfl) (mpp 16 rfl ?_)
    refine mt_getI (i := 294) (k := 24) hT dX7_sign_16 rfl rl_301 (by decide) rfl (by decide) rfl (fun g9 g10 => mpp 19 rfl ?_)
    refine mt_ial (n := 80) hT dX7_sign_19 rl_314 (by decide) rfl rfl (by omega) (by omega) rfl (fun g11 g12 => mpp 20 rfl ?_)
    refine mp_a (a_goto (t := 24) dX7_sign_20 (by decide)) ?_
    have u13 : (fv Po 314 (fv Po 301 24).toInt.toNat).toInt = -1 ∨ (fv Po 301 24).toInt + 1 ≤ (fv Po 301 23).toInt := by omega
    exact mp_iret ⟨⟨_, rfl, u13⟩, rfl⟩ dX7_sign_24 (Or.inl rfl)

set_option maxHeartbeats 4000000 in
theorem c_M_readsSizes_l7 {Po : mP}  (hp0 : (fv Po 301 24).toInt ≤ (fv Po 301 23).toInt)  : ∀ (n : Nat) (v1 : Int32), ∀ (P : mP), Typ P → KW [1112, 1114] Po P → ((fv Po 301 24).toInt ≤ (fv P 301 24).toInt) → ((fv P 301 24).toInt ≤ (fv P 301 23).toInt) → (0 ≤ v1.toInt) → (2147483647 - v1.toInt).toNat = n → MEvP 1 none q_219 7 [(0, .ref 301), (1, .int v1)] [] P 0 0 (fun r P' => (∃ x : Int32, r = some (.int x) ∧ (0 ≤ x.toInt ∧ x.toInt ≤ 1 ∧ ((fv Po 301 24).toInt ≤ (fv P' 301 24).toInt ∧ (fv P' 301 24).toInt ≤ (fv Po 301 23).toInt))) ∧ Typ P' ∧ KW [1112, 1114] Po P' ∧ True) := by
  intro n
  induction n using Nat.strongRecOn with | _ n ih => ?_
  intro v1 P hT hK i_0 i_1 i_2 hm
  have w_v1 := ti_full v1
  have g1 : (0 : Int) ≤ (fv P 301 24).toInt ∧ (fv P 301 24).toInt ≤ 81 := Typ.rng hT rl_301 (by decide) (by decide) rfl
  have g2 : (0 : Int) ≤ (fv P 301 24).toInt ∧ (fv P 301 24).toInt ≤ 81 := Typ.rng hT rl_301 (by decide) (by decide) rfl
  have e3 : (fv P 301 23).toInt = (fv Po 301 23).toInt := congrArg Int32.toInt (KW.at hK 23 rl_301 rfl)
  have g4 : (0 : Int) ≤ (fv P 301 23).toInt ∧ (fv P 301 23).toInt ≤ 80 := Typ.rng hT rl_301 (by decide) (by decide) rfl
  refine mp_a (a_iload_n dX7_readsSizes_7 rfl) (mpp 8 rfl ?_)
  refine mp_a (a_bipush (v := 8) dX7_readsSizes_8 rfl) (mpp 10 rfl ?_)
  refine mp_Tb (t := 62) (j_icmp_ge dX7_readsSizes_10) (by decide) (fun c5 => ?_) (fun c5 => mpp 13 rfl ?_)
  · have c5 : v1.toInt ≥ 8 := ti_ge c5
    refine mp_a (a_iload_n dX7_readsSizes_62 rfl) (mpp 63 rfl ?_)
    refine mp_Tb (t := 70) (j_if_le dX7_readsSizes_63) (by decide) (fun c6 => ?_) (fun c6 => mpp 66 rfl ?_)
    · have c6 : v1.toInt ≤ 0 := ti_le c6
      refine mp_a (a_iconst (v := 0) dX7_readsSizes_70 rfl) (mpp 71 rfl ?_)
      have u7 : 0 ≤ (0 : Int) ∧ (0 : Int) ≤ 1 ∧ ((fv Po 301 24).toInt ≤ (fv P 301 24).toInt ∧ (fv P 301 24).toInt ≤ (fv Po 301 23).toInt) := by omega
      exact mp_iret ⟨⟨_, rfl, u7⟩, hT, hK, trivial⟩ dX7_readsSizes_71 (Or.inr ⟨rfl, by decide⟩)
    · have c6 : v1.toInt > 0 := ti_le_n c6
      refine mp_a (a_iconst (v := 1) dX7_readsSizes_66 rfl) (mpp 67 rfl ?_)
      refine mp_a (a_goto (t := 71) dX7_readsSizes_67 (by decide)) ?_
      have u8 : 0 ≤ (1 : Int) ∧ (1 : Int) ≤ 1 ∧ ((fv Po 301 24).toInt ≤ (fv P 301 24).toInt ∧ (fv P 301 24).toInt ≤ (fv Po 301 23).toInt) := by omega
      exact mp_iret ⟨⟨_, rfl, u8⟩, hT, hK, trivial⟩ dX7_readsSizes_71 (Or.inr ⟨rfl, by decide⟩)
  · have c5 : v1.toInt < 8 := ti_ge_n c5
    refine mp_a (a_aload_n dX7_readsSizes_13 rfl) (mpp 14 rfl ?_)
    refine mt_callv (i := 297) (q' := q_218) (As := []) (rest := []) hT dX7_readsSizes_14 rfl qm_218 (by decide) rfl rl_301 (by decide) rfl (Nat.le_of_ble_eq_true rfl) rfl ⟨rfl, rfl⟩ ⟨Nat.le_of_ble_eq_true rfl, Nat.le_of_ble_eq_true rfl⟩ (EvP.mono (by decide) (c_M_sign hT )) (fun r9 P10 g11 => mpp 17 rfl ?_)
    obtain ⟨⟨x12, rfl, g13⟩, e14⟩ := g11
    have e14 := e14.symm
    subst e14
    have wx12 := ti_full x12
    replace g13 : x12.toInt = -1 ∨ (fv P 301 24).toInt + 1 ≤ (fv P 301 23).toInt := g13
    show MEvP _ none q_219 17 [(0, .ref 301), (1, .int v1)] [.int x12] _ _ _ _
    refine mp_a (a_bipush (v := 49) dX7_readsSizes_17 rfl) (mpp 19 rfl ?_)
    refine mp_a (a_bipush (v := 57) dX7_readsSizes_19 rfl) (mpp 21 rfl ?_)
    refine mp_calls (i := 61) (q' := q_127) (As := [.int x12, .int 49, .int 57]) (rest := []) dX7_readsSizes_21 rfl qm_127 (by decide) rfl (Nat.le_of_ble_eq_true rfl) rfl ⟨rfl, rfl⟩ ⟨Nat.le_of_ble_eq_true rfl, Nat.le_of_ble_eq_true rfl⟩ (EvP.mono (by decide) (c_M_isIn hT )) (fun r15 P16 g17 => mpp 24 rfl ?_)
    obtain ⟨⟨x18, rfl, g19⟩, e20⟩ := g17
    have e20 := e20.symm
    subst e20
    have wx18 := ti_full x18
    replace g19 : 0 ≤ x18.toInt ∧ x18.toInt ≤ 1 ∧ ((x18.toInt = 1 ∧ (49 : Int) ≤ x12.toInt ∧ x12.toInt ≤ (57 : Int)) ∨ (x18.toInt = 0 ∧ (x12.toInt < (49 : Int) ∨ (57 : Int) < x12.toInt))) := g19
    show MEvP _ none q_219 24 [(0, .ref 301), (1, .int v1)] [.int x18] _ _ _ _
    refine mp_Tb (t := 62) (j_if_eq dX7_readsSizes_24) (by decide) (fun c21 => ?_) (fun c21 => mpp 27 rfl ?_)
    · have c21 : x18.toInt = 0 := ti_eq c21
      refine mp_a (a_iload_n dX7_readsSizes_62 rfl) (mpp 63 rfl ?_)
      refine mp_Tb (t := 70) (j_if_le dX7_readsSizes_63) (by decide) (fun c22 => ?_) (fun c22 => mpp 66 rfl ?_)
      · have c22 : v1.toInt ≤ 0 := ti_le c22
        refine mp_a (a_iconst (v := 0) dX7_readsSizes_70 rfl) (mpp 71 rfl ?_)
        have u23 : 0 ≤ (0 : Int) ∧ (0 : Int) ≤ 1 ∧ ((fv Po 301 24).toInt ≤ (fv P 301 24).toInt ∧ (fv P 301 24).toInt ≤ (fv Po 301 23).toInt) := by omega
        exact mp_iret ⟨⟨_, rfl, u23⟩, hT, hK, trivial⟩ dX7_readsSizes_71 (Or.inr ⟨rfl, by decide⟩)
      · have c22 : v1.toInt > 0 := ti_le_n c22
        refine mp_a (a_iconst (v := 1) dX7_readsSizes_66 rfl) (mpp 67 rfl ?_)
        refine mp_a (a_goto (t := 71) dX7_readsSizes_67 (by decide)) ?_
        have u24 : 0 ≤ (1 : Int) ∧ (1 : Int) ≤ 1 ∧ ((fv Po 301 24).toInt ≤ (fv P 301 24).toInt ∧ (fv P 301 24).toInt ≤ (fv Po 301 23).toInt) := by omega
        exact mp_iret ⟨⟨_, rfl, u24⟩, hT, hK, trivial⟩ dX7_readsSizes_71 (Or.inr ⟨rfl, by decide⟩)
    · have c21 : x18.toInt ≠ 0 := ti_eq_n c21
      refine mp_a (a_aload_n dX7_readsSizes_27 rfl) (mpp 28 rfl ?_)
      refine mp_a (a_bipush (v := 10) dX7_readsSizes_28 rfl) (mpp 30 rfl ?_)
      refine mp_a (a_aload_n dX7_readsSizes_30 rfl) (mpp 31 rfl ?_)
      have g25 := ti_full (fv P 301 26)
      refine mt_getI (i := 300) (k := 26) hT dX7_readsSizes_31 rfl rl_301 (by decide) rfl (by decide) rfl (fun g26 g27 => mpp 34 rfl ?_)
      obtain ⟨z28, h29⟩ := ti_ex (10 * (fv P 301 26) : Int32)
      have wz28 := ti_full z28
      refine mp_t (s_imul (v := z28) dX7_readsSizes_34 h29) (mpp 35 rfl ?_)
      try have e30 : z28.toInt = 10 * (fv P 301 26).toInt := ti_mulz h29 rfl rfl (by omega) (by omega)
      refine mp_a (a_aload_n dX7_readsSizes_35 rfl) (mpp 36 rfl ?_)
      refine mt_callv (i := 297) (q' := q_218) (As := []) (rest := [.int z28, .ref 301]) hT dX7_readsSizes_36 rfl qm_218 (by decide) rfl rl_301 (by decide) rfl (Nat.le_of_ble_eq_true rfl) rfl ⟨rfl, rfl⟩ ⟨Nat.le_of_ble_eq_true rfl, Nat.le_of_ble_eq_true rfl⟩ (EvP.mono (by decide) (c_M_sign hT )) (fun r31 P32 g33 => mpp 39 rfl ?_)
      obtain ⟨⟨x34, rfl, g35⟩, e36⟩ := g33
      have e36 := e36.symm
      subst e36
      have wx34 := ti_full x34
      replace g35 : x34.toInt = -1 ∨ (fv P 301 24).toInt + 1 ≤ (fv P 301 23).toInt := g35
      show MEvP _ none q_219 39 [(0, .ref 301), (1, .int v1)] [.int x34, .int z28, .ref 301] _ _ _ _
      obtain ⟨z37, h38⟩ := ti_ex (z28 + x34 : Int32)
      have wz37 := ti_full z37
      refine mp_t (s_iadd (v := z37) dX7_readsSizes_39 h38) (mpp 40 rfl ?_)
      try have e39 : z37.toInt = z28.toInt + x34.toInt := ti_addz h38 rfl rfl (by omega) (by omega)
      refine mp_a (a_bipush (v := 48) dX7_readsSizes_40 rfl) (mpp 42 rfl ?_)
      obtain ⟨z40, h41⟩ := ti_ex (z37 - 48 : Int32)
      have wz40 := ti_full z40
      refine mp_t (s_isub (v := z40) dX7_readsSizes_42 h41) (mpp 43 rfl ?_)
      try have e42 : z40.toInt = z37.toInt - 48 := ti_subz h41 rfl rfl (by omega) (by omega)
      refine mt_putI (i := 300) (k := 26) (x := z40) hT dX7_readsSizes_43 rfl rl_301 (by decide) rfl (by decide) rfl (ti_full z40) rfl rfl (fun P43 hT44 f45 f46 f47 => mpp 46 rfl ?_)
      have k48 : KW [1112, 1114] Po P43 := KW.step hK rl_301 rfl f46 f47
      have e49 : (fv P43 301 26).toInt = z40.toInt := congrArg Int32.toInt f45
      refine mp_a (a_aload_n dX7_readsSizes_46 rfl) (mpp 47 rfl ?_)
      refine mp_t (s_dup dX7_readsSizes_47 rfl) (mpp 48 rfl ?_)
      have e50 : (fv P43 301 24).toInt = (fv P 301 24).toInt := congrArg Int32.toInt (f46 301 24 (ne_k rfl))
      refine mt_getI (i := 294) (k := 24) hT44 dX7_readsSizes_48 rfl rl_301 (by decide) rfl (by decide) rfl (fun g51 g52 => mpp 51 rfl ?_)
      refine mp_a (a_iconst (v := 1) dX7_readsSizes_51 rfl) (mpp 52 rfl ?_)
      obtain ⟨z53, h54⟩ := ti_ex ((fv P43 301 24) + 1 : Int32)
      have wz53 := ti_full z53
      refine mp_t (s_iadd (v := z53) dX7_readsSizes_52 h54) (mpp 53 rfl ?_)
      try have e55 : z53.toInt = (fv P43 301 24).toInt + 1 := ti_addz h54 rfl rfl (by omega) (by omega)
      refine mt_putI (i := 294) (k := 24) (x := z53) hT44 dX7_readsSizes_53 rfl rl_301 (by decide) rfl (by decide) rfl ⟨by omega, by omega⟩ rfl rfl (fun P56 hT57 f58 f59 f60 => mpp 56 rfl ?_)
      have k61 : KW [1112, 1114] Po P56 := KW.step k48 rl_301 rfl f59 f60
      have e62 : (fv P56 301 24).toInt = z53.toInt := congrArg Int32.toInt f58
      obtain ⟨z63, h64⟩ := ti_ex (v1 + 1 : Int32)
      have wz63 := ti_full z63
      refine mp_a (a_iinc (v := z63) (L' := [(1, .int z63), (0, .ref 301)]) dX7_readsSizes_56 (by decide) rfl h64 rfl) (mpp 59 rfl ?_)
      try have e65 : z63.toInt = v1.toInt + 1 := ti_addz h64 rfl rfl (by omega) (by omega)
      refine mp_a (a_goto (t := 7) dX7_readsSizes_59 (by decide)) ?_
      refine MEvP.less (L := [(0, .ref 301), (1, .int z63)]) rfl rfl ⟨rfl, rfl, trivial⟩ ?_
      have i66 : (fv Po 301 24).toInt ≤ (fv P56 301 24).toInt := by omega
      have e67 : (fv P56 301 23).toInt = (fv P 301 23).toInt := congrArg Int32.toInt ((f59 301 23 (ne_k rfl)).trans (f46 301 23 (ne_k rfl)))
      have i68 : (fv P56 301 24).toInt ≤ (fv P56 301 23).toInt := by omega
      have i69 : 0 ≤ z63.toInt := by omega
      exact ih _ (by omega) _ P56 hT57 k61 i66 i68 i69 rfl

set_option maxHeartbeats 4000000 in
theorem c_M_readsSizes {Po : mP}  (hT : Typ Po)  (hp0 : (fv Po 301 24).toInt ≤ (fv Po 301 23).toInt)  : EvP 2 219 [.ref 301] Po (fun r P' => (∃ x : Int32, r = some (.int x) ∧ (0 ≤ x.toInt ∧ x.toInt ≤ 1 ∧ ((fv Po 301 24).toInt ≤ (fv P' 301 24).toInt ∧ (fv P' 301 24).toInt ≤ (fv Po 301 23).toInt))) ∧ Typ P' ∧ KW [1112, 1114] Po P' ∧ True) := by
  refine EvP.of qm_219 (Nat.le_of_ble_eq_true rfl) rfl ?_
  show MEvP _ none q_219 0 [(0, .ref 301)] [] _ 0 0 _
  have g1 : (0 : Int) ≤ (fv Po 301 24).toInt ∧ (fv Po 301 24).toInt ≤ 81 := Typ.rng hT rl_301 (by decide) (by decide) rfl
  have g2 : (0 : Int) ≤ (fv Po 301 23).toInt ∧ (fv Po 301 23).toInt ≤ 80 := Typ.rng hT rl_301 (by decide) (by decide) rfl
  refine mp_a (a_aload_n dX7_readsSizes_0 rfl) (mpp 1 rfl ?_)
  refine mp_a (a_iconst (v := 0) dX7_readsSizes_1 rfl) (mpp 2 rfl ?_)
  refine mt_putI (i := 300) (k := 26) (x := 0) hT dX7_readsSizes_2 rfl rl_301 (by decide) rfl (by decide) rfl (by decide) rfl rfl (fun P3 hT4 f5 f6 f7 => mpp 5 rfl ?_)
  have k8 : KW [1112, 1114] Po P3 := KW.step KW.refl rl_301 rfl f6 f7
  have e9 : (fv P3 301 26).toInt = 0 := congrArg Int32.toInt f5
  refine mp_a (a_iconst (v := 0) dX7_readsSizes_5 rfl) (mpp 6 rfl ?_)
  refine mp_a (a_istore_n (L' := [(1, .int 0), (0, .ref 301)]) dX7_readsSizes_6 (by decide) rfl) (mpp 7 rfl ?_)
  refine MEvP.less (L := [(0, .ref 301), (1, .int 0)]) rfl rfl ⟨rfl, rfl, trivial⟩ ?_
  have e10 : (fv P3 301 24).toInt = (fv Po 301 24).toInt := congrArg Int32.toInt (f6 301 24 (ne_k rfl))
  have i11 : (fv Po 301 24).toInt ≤ (fv P3 301 24).toInt := by omega
  have e12 : (fv P3 301 23).toInt = (fv Po 301 23).toInt := congrArg Int32.toInt (f6 301 23 (ne_k rfl))
  have i13 : (fv P3 301 24).toInt ≤ (fv P3 301 23).toInt := by omega
  have i14 : 0 ≤ (0 : Int) := by omega
  exact c_M_readsSizes_l7   hp0 _ _ P3 hT4 k8 i11 i13 i14 rfl

set_option maxHeartbeats 4000000 in
theorem c_M_takes {Po : mP} {t1 : Int32} (hT : Typ Po)  (hp0 : 0 ≤ t1.toInt)  : EvP 2 220 [.ref 301, .int t1] Po (fun r P' => (∃ x : Int32, r = some (.int x) ∧ (0 ≤ x.toInt ∧ x.toInt ≤ 1 ∧ ((x.toInt = 1 ∧ (fv P' 301 24).toInt = (fv Po 301 24).toInt + 1 ∧ (fv P' 301 24).toInt ≤ (fv Po 301 23).toInt) ∨ (x.toInt = 0 ∧ (fv P' 301 24).toInt = (fv Po 301 24).toInt)))) ∧ Typ P' ∧ KW [1112] Po P' ∧ True) := by
  refine EvP.of qm_220 (Nat.le_of_ble_eq_true rfl) rfl ?_
  show MEvP _ none q_220 0 [(0, .ref 301), (1, .int t1)] [] _ 0 0 _
  have w_t1 := ti_full t1
  have g1 : (0 : Int) ≤ (fv Po 301 24).toInt ∧ (fv Po 301 24).toInt ≤ 81 := Typ.rng hT rl_301 (by decide) (by decide) rfl
  have g2 : (0 : Int) ≤ (fv Po 301 23).toInt ∧ (fv Po 301 23).toInt ≤ 80 := Typ.rng hT rl_301 (by decide) (by decide) rfl
  refine mp_a (a_aload_n dX7_takes_0 rfl) (mpp 1 rfl ?_)
  refine mt_callv (i := 297) (q' := q_218) (As := []) (rest := []) hT dX7_takes_1 rfl qm_218 (by decide) rfl rl_301 (by decide) rfl (Nat.le_of_ble_eq_true rfl) rfl ⟨rfl, rfl⟩ ⟨Nat.le_of_ble_eq_true rfl, Nat.le_of_ble_eq_true rfl⟩ (EvP.mono (by decide) (c_M_sign hT )) (fun r3 P4 g5 => mpp 4 rfl ?_)
  obtain ⟨⟨x6, rfl, g7⟩, e8⟩ := g5
  have e8 := e8.symm
  subst e8
  have wx6 := ti_full x6
  replace g7 : x6.toInt = -1 ∨ (fv Po 301 24).toInt + 1 ≤ (fv Po 301 23).toInt := g7
  show MEvP _ none q_220 4 [(0, .ref 301), (1, .int t1)] [.int x6] _ _ _ _
  refine mp_a (a_iload_n dX7_takes_4 rfl) (mpp 5 rfl ?_)
  refine mp_Tb (t := 12) (j_icmp_ne dX7_takes_5) (by decide) (fun c9 => ?_) (fun c9 => mpp 8 rfl ?_)
  · have c9 : x6.toInt ≠ t1.toInt := ti_ne c9
    refine mp_a (a_iconst (v := 0) dX7_takes_12 rfl) (mpp 13 rfl ?_)
    refine mp_a (a_istore_n (L' := [(2, .int 0), (0, .ref 301), (1, .int t1)]) dX7_takes_13 (by decide) rfl) (mpp 14 rfl ?_)
    refine mp_a (a_aload_n dX7_takes_14 rfl) (mpp 15 rfl ?_)
    refine mp_t (s_dup dX7_takes_15 rfl) (mpp 16 rfl ?_)
    refine mt_getI (i := 294) (k := 24) hT dX7_takes_16 rfl rl_301 (by decide) rfl (by decide) rfl (fun g10 g11 => mpp 19 rfl ?_)
    refine mp_a (a_iload_n dX7_takes_19 rfl) (mpp 20 rfl ?_)
    refine mp_Tt (t := 27) (j_if_eq dX7_takes_20) (by decide) (by decide) ?_
    refine mp_a (a_iconst (v := 0) dX7_takes_27 rfl) (mpp 28 rfl ?_)
    obtain ⟨z12, h13⟩ := ti_ex ((fv Po 301 24) + 0 : Int32)
    have wz12 := ti_full z12
    refine mp_t (s_iadd (v := z12) dX7_takes_28 h13) (mpp 29 rfl ?_)
    try have e14 : z12.toInt = (fv Po 301 24).toInt + 0 := ti_addz h13 rfl rfl (by omega) (by omega)
    refine mt_putI (i := 294) (k := 24) (x := z12) hT dX7_takes_29 rfl rl_301 (by decide) rfl (by decide) rfl ⟨by omega, by omega⟩ rfl rfl (fun P15 hT16 f17 f18 f19 => mpp 32 rfl ?_)
    have k20 : KW [1112] Po P15 := KW.step KW.refl rl_301 rfl f18 f19
    have e21 : (fv P15 301 24).toInt = z12.toInt := congrArg Int32.toInt f17
    refine mp_a (a_iload_n dX7_takes_32 rfl) (mpp 33 rfl ?_)
    have u22 : 0 ≤ (0 : Int) ∧ (0 : Int) ≤ 1 ∧ (((0 : Int) = 1 ∧ (fv P15 301 24).toInt = (fv Po 301 24).toInt + 1 ∧ (fv P15 301 24).toInt ≤ (fv Po 301 23).toInt) ∨ ((0 : Int) = 0 ∧ (fv P15 301 24).toInt = (fv Po 301 24).toInt)) := by omega
    exact mp_iret ⟨⟨_, rfl, u22⟩, hT16, k20, trivial⟩ dX7_takes_33 (Or.inr ⟨rfl, by decide⟩)
  · have c9 : x6.toInt = t1.toInt := ti_ne_n c9
    refine mp_a (a_iconst (v := 1) dX7_takes_8 rfl) (mpp 9 rfl ?_)
    refine mp_a (a_goto (t := 13) dX7_takes_9 (by decide)) ?_
    refine mp_a (a_istore_n (L' := [(2, .int 1), (0, .ref 301), (1, .int t1)]) dX7_takes_13 (by decide) rfl) (mpp 14 rfl ?_)
    refine mp_a (a_aload_n dX7_takes_14 rfl) (mpp 15 rfl ?_)
    refine mp_t (s_dup dX7_takes_15 rfl) (mpp 16 rfl ?_)
    refine mt_getI (i := 294) (k := 24) hT dX7_takes_16 rfl rl_301 (by decide) rfl (by decide) rfl (fun g23 g24 => mpp 19 rfl ?_)
    refine mp_a (a_iload_n dX7_takes_19 rfl) (mpp 20 rfl ?_)
    refine mp_Tf (t := 27) (j_if_eq dX7_takes_20) (by decide) (by decide) (mpp 23 rfl ?_)
    refine mp_a (a_iconst (v := 1) dX7_takes_23 rfl) (mpp 24 rfl ?_)
    refine mp_a (a_goto (t := 28) dX7_takes_24 (by decide)) ?_
    obtain ⟨z25, h26⟩ := ti_ex ((fv Po 301 24) + 1 : Int32)
    have wz25 := ti_full z25
    refine mp_t (s_iadd (v := z25) dX7_takes_28 h26) (mpp 29 rfl ?_)
    try have e27 : z25.toInt = (fv Po 301 24).toInt + 1 := ti_addz h26 rfl rfl (by omega) (by omega)
    refine mt_putI (i := 294) (k := 24) (x := z25) hT dX7_takes_29 rfl rl_301 (by decide) rfl (by decide) rfl ⟨by omega, by omega⟩ rfl rfl (fun P28 hT29 f30 f31 f32 => mpp 32 rfl ?_)
    have k33 : KW [1112] Po P28 := KW.step KW.refl rl_301 rfl f31 f32
    have e34 : (fv P28 301 24).toInt = z25.toInt := congrArg Int32.toInt f30
    refine mp_a (a_iload_n dX7_takes_32 rfl) (mpp 33 rfl ?_)
    have u35 : 0 ≤ (1 : Int) ∧ (1 : Int) ≤ 1 ∧ (((1 : Int) = 1 ∧ (fv P28 301 24).toInt = (fv Po 301 24).toInt + 1 ∧ (fv P28 301 24).toInt ≤ (fv Po 301 23).toInt) ∨ ((1 : Int) = 0 ∧ (fv P28 301 24).toInt = (fv Po 301 24).toInt)) := by omega
    exact mp_iret ⟨⟨_, rfl, u35⟩, hT29, k33, trivial⟩ dX7_takes_33 (Or.inr ⟨rfl, by decide⟩)

set_option maxHeartbeats 4000000 in
theorem c_M_kindOf {Po : mP} {t0 : Int32} (hT : Typ Po)   : EvP 1 222 [.int t0] Po (fun r P' => (∃ x : Int32, r = some (.int x) ∧ (x.toInt = -1 ∨ 1 ≤ t0.toInt)) ∧ P' = Po) := by
  refine EvP.of qm_222 (Nat.le_of_ble_eq_true rfl) rfl ?_
  show MEvP _ none q_222 0 [(0, .int t0)] [] _ 0 0 _
  have w_t0 := ti_full t0
  refine mp_a (a_iload_n dX7_kindOf_0 rfl) (mpp 1 rfl ?_)
  refine mp_a (a_bipush (v := 111) dX7_kindOf_1 rfl) (mpp 3 rfl ?_)
  refine mp_Tb (t := 10) (j_icmp_ne dX7_kindOf_3) (by decide) (fun c1 => ?_) (fun c1 => mpp 6 rfl ?_)
  · have c1 : t0.toInt ≠ 111 := ti_ne c1
    refine mp_a (a_iload_n dX7_kindOf_10 rfl) (mpp 11 rfl ?_)
    refine mp_a (a_bipush (v := 109) dX7_kindOf_11 rfl) (mpp 13 rfl ?_)
    refine mp_Tb (t := 20) (j_icmp_ne dX7_kindOf_13) (by decide) (fun c2 => ?_) (fun c2 => mpp 16 rfl ?_)
    · have c2 : t0.toInt ≠ 109 := ti_ne c2
      refine mp_a (a_iload_n dX7_kindOf_20 rfl) (mpp 21 rfl ?_)
      refine mp_a (a_bipush (v := 118) dX7_kindOf_21 rfl) (mpp 23 rfl ?_)
      refine mp_Tb (t := 30) (j_icmp_ne dX7_kindOf_23) (by decide) (fun c3 => ?_) (fun c3 => mpp 26 rfl ?_)
      · have c3 : t0.toInt ≠ 118 := ti_ne c3
        refine mp_a (a_iconst (v := -1) dX7_kindOf_30 rfl) (mpp 31 rfl ?_)
        have u4 : (-1 : Int) = -1 ∨ 1 ≤ t0.toInt := by omega
        exact mp_iret ⟨⟨_, rfl, u4⟩, rfl⟩ dX7_kindOf_31 (Or.inl rfl)
      · have c3 : t0.toInt = 118 := ti_ne_n c3
        refine mp_a (a_iconst (v := 2) dX7_kindOf_26 rfl) (mpp 27 rfl ?_)
        refine mp_a (a_goto (t := 31) dX7_kindOf_27 (by decide)) ?_
        have u5 : (2 : Int) = -1 ∨ 1 ≤ t0.toInt := by omega
        exact mp_iret ⟨⟨_, rfl, u5⟩, rfl⟩ dX7_kindOf_31 (Or.inl rfl)
    · have c2 : t0.toInt = 109 := ti_ne_n c2
      refine mp_a (a_iconst (v := 1) dX7_kindOf_16 rfl) (mpp 17 rfl ?_)
      refine mp_a (a_goto (t := 31) dX7_kindOf_17 (by decide)) ?_
      have u6 : (1 : Int) = -1 ∨ 1 ≤ t0.toInt := by omega
      exact mp_iret ⟨⟨_, rfl, u6⟩, rfl⟩ dX7_kindOf_31 (Or.inl rfl)
  · have c1 : t0.toInt = 111 := ti_ne_n c1
    refine mp_a (a_iconst (v := 0) dX7_kindOf_6 rfl) (mpp 7 rfl ?_)
    refine mp_a (a_goto (t := 31) dX7_kindOf_7 (by decide)) ?_
    have u7 : (0 : Int) = -1 ∨ 1 ≤ t0.toInt := by omega
    exact mp_iret ⟨⟨_, rfl, u7⟩, rfl⟩ dX7_kindOf_31 (Or.inl rfl)

set_option maxHeartbeats 4000000 in
theorem c_M_readsSigns_l10 {Po : mP}  (hp0 : (fv Po 301 24).toInt ≤ (fv Po 301 23).toInt)  : ∀ (n : Nat), ∀ (P : mP), Typ P → KW [1112, 1115, 1116] Po P → ((fv Po 301 24).toInt ≤ (fv P 301 24).toInt) → ((fv P 301 24).toInt ≤ (fv P 301 23).toInt) → (8 - (fv P 301 28).toInt).toNat = n → MEvP 1 none q_221 10 [(0, .ref 301)] [] P 0 0 (fun r P' => (∃ x : Int32, r = some (.int x) ∧ (0 ≤ x.toInt ∧ x.toInt ≤ 1 ∧ ((fv Po 301 24).toInt ≤ (fv P' 301 24).toInt ∧ (fv P' 301 24).toInt ≤ (fv Po 301 23).toInt))) ∧ Typ P' ∧ KW [1112, 1115, 1116] Po P' ∧ True) := by
  intro n
  induction n using Nat.strongRecOn with | _ n ih => ?_
  intro  P hT hK i_0 i_1 hm
  have g1 : (0 : Int) ≤ (fv P 301 24).toInt ∧ (fv P 301 24).toInt ≤ 81 := Typ.rng hT rl_301 (by decide) (by decide) rfl
  have g2 : (0 : Int) ≤ (fv P 301 24).toInt ∧ (fv P 301 24).toInt ≤ 81 := Typ.rng hT rl_301 (by decide) (by decide) rfl
  have e3 : (fv P 301 23).toInt = (fv Po 301 23).toInt := congrArg Int32.toInt (KW.at hK 23 rl_301 rfl)
  have g4 : (0 : Int) ≤ (fv P 301 23).toInt ∧ (fv P 301 23).toInt ≤ 80 := Typ.rng hT rl_301 (by decide) (by decide) rfl
  have g5 := ti_full (fv P 301 28)
  have g6 := ti_full (fv P 301 28)
  refine mp_a (a_aload_n dX7_readsSigns_10 rfl) (mpp 11 rfl ?_)
  refine mt_getI (i := 306) (k := 28) hT dX7_readsSigns_11 rfl rl_301 (by decide) rfl (by decide) rfl (fun g7 g8 => mpp 14 rfl ?_)
  refine mp_a (a_bipush (v := 8) dX7_readsSigns_14 rfl) (mpp 16 rfl ?_)
  refine mp_Tb (t := 71) (j_icmp_ge dX7_readsSigns_16) (by decide) (fun c9 => ?_) (fun c9 => mpp 19 rfl ?_)
  · have c9 : (fv P 301 28).toInt ≥ 8 := ti_ge c9
    refine mp_a (a_aload_n dX7_readsSigns_71 rfl) (mpp 72 rfl ?_)
    refine mt_getI (i := 306) (k := 28) hT dX7_readsSigns_72 rfl rl_301 (by decide) rfl (by decide) rfl (fun g10 g11 => mpp 75 rfl ?_)
    refine mp_Tb (t := 82) (j_if_le dX7_readsSigns_75) (by decide) (fun c12 => ?_) (fun c12 => mpp 78 rfl ?_)
    · have c12 : (fv P 301 28).toInt ≤ 0 := ti_le c12
      refine mp_a (a_iconst (v := 0) dX7_readsSigns_82 rfl) (mpp 83 rfl ?_)
      have u13 : 0 ≤ (0 : Int) ∧ (0 : Int) ≤ 1 ∧ ((fv Po 301 24).toInt ≤ (fv P 301 24).toInt ∧ (fv P 301 24).toInt ≤ (fv Po 301 23).toInt) := by omega
      exact mp_iret ⟨⟨_, rfl, u13⟩, hT, hK, trivial⟩ dX7_readsSigns_83 (Or.inr ⟨rfl, by decide⟩)
    · have c12 : (fv P 301 28).toInt > 0 := ti_le_n c12
      refine mp_a (a_iconst (v := 1) dX7_readsSigns_78 rfl) (mpp 79 rfl ?_)
      refine mp_a (a_goto (t := 83) dX7_readsSigns_79 (by decide)) ?_
      have u14 : 0 ≤ (1 : Int) ∧ (1 : Int) ≤ 1 ∧ ((fv Po 301 24).toInt ≤ (fv P 301 24).toInt ∧ (fv P 301 24).toInt ≤ (fv Po 301 23).toInt) := by omega
      exact mp_iret ⟨⟨_, rfl, u14⟩, hT, hK, trivial⟩ dX7_readsSigns_83 (Or.inr ⟨rfl, by decide⟩)
  · have c9 : (fv P 301 28).toInt < 8 := ti_ge_n c9
    refine mp_a (a_aload_n dX7_readsSigns_19 rfl) (mpp 20 rfl ?_)
    refine mt_callv (i := 297) (q' := q_218) (As := []) (rest := []) hT dX7_readsSigns_20 rfl qm_218 (by decide) rfl rl_301 (by decide) rfl (Nat.le_of_ble_eq_true rfl) rfl ⟨rfl, rfl⟩ ⟨Nat.le_of_ble_eq_true rfl, Nat.le_of_ble_eq_true rfl⟩ (EvP.mono (by decide) (c_M_sign hT )) (fun r15 P16 g17 => mpp 23 rfl ?_)
    obtain ⟨⟨x18, rfl, g19⟩, e20⟩ := g17
    have e20 := e20.symm
    subst e20
    have wx18 := ti_full x18
    replace g19 : x18.toInt = -1 ∨ (fv P 301 24).toInt + 1 ≤ (fv P 301 23).toInt := g19
    show MEvP _ none q_221 23 [(0, .ref 301)] [.int x18] _ _ _ _
    refine mp_calls (i := 309) (q' := q_222) (As := [.int x18]) (rest := []) dX7_readsSigns_23 rfl qm_222 (by decide) rfl (Nat.le_of_ble_eq_true rfl) rfl ⟨rfl, rfl⟩ ⟨Nat.le_of_ble_eq_true rfl, Nat.le_of_ble_eq_true rfl⟩ (EvP.mono (by decide) (c_M_kindOf hT )) (fun r21 P22 g23 => mpp 26 rfl ?_)
    obtain ⟨⟨x24, rfl, g25⟩, e26⟩ := g23
    have e26 := e26.symm
    subst e26
    have wx24 := ti_full x24
    replace g25 : x24.toInt = -1 ∨ 1 ≤ x18.toInt := g25
    show MEvP _ none q_221 26 [(0, .ref 301)] [.int x24] _ _ _ _
    refine mp_Tb (t := 71) (j_if_lt dX7_readsSigns_26) (by decide) (fun c27 => ?_) (fun c27 => mpp 29 rfl ?_)
    · have c27 : x24.toInt < 0 := ti_lt c27
      refine mp_a (a_aload_n dX7_readsSigns_71 rfl) (mpp 72 rfl ?_)
      refine mt_getI (i := 306) (k := 28) hT dX7_readsSigns_72 rfl rl_301 (by decide) rfl (by decide) rfl (fun g28 g29 => mpp 75 rfl ?_)
      refine mp_Tb (t := 82) (j_if_le dX7_readsSigns_75) (by decide) (fun c30 => ?_) (fun c30 => mpp 78 rfl ?_)
      · have c30 : (fv P 301 28).toInt ≤ 0 := ti_le c30
        refine mp_a (a_iconst (v := 0) dX7_readsSigns_82 rfl) (mpp 83 rfl ?_)
        have u31 : 0 ≤ (0 : Int) ∧ (0 : Int) ≤ 1 ∧ ((fv Po 301 24).toInt ≤ (fv P 301 24).toInt ∧ (fv P 301 24).toInt ≤ (fv Po 301 23).toInt) := by omega
        exact mp_iret ⟨⟨_, rfl, u31⟩, hT, hK, trivial⟩ dX7_readsSigns_83 (Or.inr ⟨rfl, by decide⟩)
      · have c30 : (fv P 301 28).toInt > 0 := ti_le_n c30
        refine mp_a (a_iconst (v := 1) dX7_readsSigns_78 rfl) (mpp 79 rfl ?_)
        refine mp_a (a_goto (t := 83) dX7_readsSigns_79 (by decide)) ?_
        have u32 : 0 ≤ (1 : Int) ∧ (1 : Int) ≤ 1 ∧ ((fv Po 301 24).toInt ≤ (fv P 301 24).toInt ∧ (fv P 301 24).toInt ≤ (fv Po 301 23).toInt) := by omega
        exact mp_iret ⟨⟨_, rfl, u32⟩, hT, hK, trivial⟩ dX7_readsSigns_83 (Or.inr ⟨rfl, by decide⟩)
    · have c27 : x24.toInt ≥ 0 := ti_lt_n c27
      refine mp_a (a_aload_n dX7_readsSigns_29 rfl) (mpp 30 rfl ?_)
      refine mp_a (a_bipush (v := 10) dX7_readsSigns_30 rfl) (mpp 32 rfl ?_)
      refine mp_a (a_aload_n dX7_readsSigns_32 rfl) (mpp 33 rfl ?_)
      have g33 := ti_full (fv P 301 27)
      refine mt_getI (i := 303) (k := 27) hT dX7_readsSigns_33 rfl rl_301 (by decide) rfl (by decide) rfl (fun g34 g35 => mpp 36 rfl ?_)
      obtain ⟨z36, h37⟩ := ti_ex (10 * (fv P 301 27) : Int32)
      have wz36 := ti_full z36
      refine mp_t (s_imul (v := z36) dX7_readsSigns_36 h37) (mpp 37 rfl ?_)
      try have e38 : z36.toInt = 10 * (fv P 301 27).toInt := ti_mulz h37 rfl rfl (by omega) (by omega)
      refine mp_a (a_aload_n dX7_readsSigns_37 rfl) (mpp 38 rfl ?_)
      refine mt_callv (i := 297) (q' := q_218) (As := []) (rest := [.int z36, .ref 301]) hT dX7_readsSigns_38 rfl qm_218 (by decide) rfl rl_301 (by decide) rfl (Nat.le_of_ble_eq_true rfl) rfl ⟨rfl, rfl⟩ ⟨Nat.le_of_ble_eq_true rfl, Nat.le_of_ble_eq_true rfl⟩ (EvP.mono (by decide) (c_M_sign hT )) (fun r39 P40 g41 => mpp 41 rfl ?_)
      obtain ⟨⟨x42, rfl, g43⟩, e44⟩ := g41
      have e44 := e44.symm
      subst e44
      have wx42 := ti_full x42
      replace g43 : x42.toInt = -1 ∨ (fv P 301 24).toInt + 1 ≤ (fv P 301 23).toInt := g43
      show MEvP _ none q_221 41 [(0, .ref 301)] [.int x42, .int z36, .ref 301] _ _ _ _
      refine mp_calls (i := 309) (q' := q_222) (As := [.int x42]) (rest := [.int z36, .ref 301]) dX7_readsSigns_41 rfl qm_222 (by decide) rfl (Nat.le_of_ble_eq_true rfl) rfl ⟨rfl, rfl⟩ ⟨Nat.le_of_ble_eq_true rfl, Nat.le_of_ble_eq_true rfl⟩ (EvP.mono (by decide) (c_M_kindOf hT )) (fun r45 P46 g47 => mpp 44 rfl ?_)
      obtain ⟨⟨x48, rfl, g49⟩, e50⟩ := g47
      have e50 := e50.symm
      subst e50
      have wx48 := ti_full x48
      replace g49 : x48.toInt = -1 ∨ 1 ≤ x42.toInt := g49
      show MEvP _ none q_221 44 [(0, .ref 301)] [.int x48, .int z36, .ref 301] _ _ _ _
      obtain ⟨z51, h52⟩ := ti_ex (z36 + x48 : Int32)
      have wz51 := ti_full z51
      refine mp_t (s_iadd (v := z51) dX7_readsSigns_44 h52) (mpp 45 rfl ?_)
      try have e53 : z51.toInt = z36.toInt + x48.toInt := ti_addz h52 rfl rfl (by omega) (by omega)
      refine mt_putI (i := 303) (k := 27) (x := z51) hT dX7_readsSigns_45 rfl rl_301 (by decide) rfl (by decide) rfl (ti_full z51) rfl rfl (fun P54 hT55 f56 f57 f58 => mpp 48 rfl ?_)
      have k59 : KW [1112, 1115, 1116] Po P54 := KW.step hK rl_301 rfl f57 f58
      have e60 : (fv P54 301 27).toInt = z51.toInt := congrArg Int32.toInt f56
      refine mp_a (a_aload_n dX7_readsSigns_48 rfl) (mpp 49 rfl ?_)
      refine mp_t (s_dup dX7_readsSigns_49 rfl) (mpp 50 rfl ?_)
      have e61 : (fv P54 301 24).toInt = (fv P 301 24).toInt := congrArg Int32.toInt (f57 301 24 (ne_k rfl))
      refine mt_getI (i := 294) (k := 24) hT55 dX7_readsSigns_50 rfl rl_301 (by decide) rfl (by decide) rfl (fun g62 g63 => mpp 53 rfl ?_)
      refine mp_a (a_iconst (v := 1) dX7_readsSigns_53 rfl) (mpp 54 rfl ?_)
      obtain ⟨z64, h65⟩ := ti_ex ((fv P54 301 24) + 1 : Int32)
      have wz64 := ti_full z64
      refine mp_t (s_iadd (v := z64) dX7_readsSigns_54 h65) (mpp 55 rfl ?_)
      try have e66 : z64.toInt = (fv P54 301 24).toInt + 1 := ti_addz h65 rfl rfl (by omega) (by omega)
      refine mt_putI (i := 294) (k := 24) (x := z64) hT55 dX7_readsSigns_55 rfl rl_301 (by decide) rfl (by decide) rfl ⟨by omega, by omega⟩ rfl rfl (fun P67 hT68 f69 f70 f71 => mpp 58 rfl ?_)
      have k72 : KW [1112, 1115, 1116] Po P67 := KW.step k59 rl_301 rfl f70 f71
      have e73 : (fv P67 301 24).toInt = z64.toInt := congrArg Int32.toInt f69
      refine mp_a (a_aload_n dX7_readsSigns_58 rfl) (mpp 59 rfl ?_)
      refine mp_t (s_dup dX7_readsSigns_59 rfl) (mpp 60 rfl ?_)
      have e74 : (fv P67 301 28).toInt = (fv P 301 28).toInt := congrArg Int32.toInt ((f70 301 28 (ne_k rfl)).trans (f57 301 28 (ne_k rfl)))
      refine mt_getI (i := 306) (k := 28) hT68 dX7_readsSigns_60 rfl rl_301 (by decide) rfl (by decide) rfl (fun g75 g76 => mpp 63 rfl ?_)
      refine mp_a (a_iconst (v := 1) dX7_readsSigns_63 rfl) (mpp 64 rfl ?_)
      obtain ⟨z77, h78⟩ := ti_ex ((fv P67 301 28) + 1 : Int32)
      have wz77 := ti_full z77
      refine mp_t (s_iadd (v := z77) dX7_readsSigns_64 h78) (mpp 65 rfl ?_)
      try have e79 : z77.toInt = (fv P67 301 28).toInt + 1 := ti_addz h78 rfl rfl (by omega) (by omega)
      refine mt_putI (i := 306) (k := 28) (x := z77) hT68 dX7_readsSigns_65 rfl rl_301 (by decide) rfl (by decide) rfl (ti_full z77) rfl rfl (fun P80 hT81 f82 f83 f84 => mpp 68 rfl ?_)
      have k85 : KW [1112, 1115, 1116] Po P80 := KW.step k72 rl_301 rfl f83 f84
      have e86 : (fv P80 301 28).toInt = z77.toInt := congrArg Int32.toInt f82
      refine mp_a (a_goto (t := 10) dX7_readsSigns_68 (by decide)) ?_
      have e87 : (fv P80 301 24).toInt = (fv P67 301 24).toInt := congrArg Int32.toInt (f83 301 24 (ne_k rfl))
      have i88 : (fv Po 301 24).toInt ≤ (fv P80 301 24).toInt := by omega
      have e89 : (fv P80 301 23).toInt = (fv P 301 23).toInt := congrArg Int32.toInt ((f83 301 23 (ne_k rfl)).trans ((f70 301 23 (ne_k rfl)).trans (f57 301 23 (ne_k rfl))))
      have i90 : (fv P80 301 24).toInt ≤ (fv P80 301 23).toInt := by omega
      exact ih _ (by omega)  P80 hT81 k85 i88 i90 rfl

set_option maxHeartbeats 4000000 in
theorem c_M_readsSigns {Po : mP}  (hT : Typ Po)  (hp0 : (fv Po 301 24).toInt ≤ (fv Po 301 23).toInt)  : EvP 2 221 [.ref 301] Po (fun r P' => (∃ x : Int32, r = some (.int x) ∧ (0 ≤ x.toInt ∧ x.toInt ≤ 1 ∧ ((fv Po 301 24).toInt ≤ (fv P' 301 24).toInt ∧ (fv P' 301 24).toInt ≤ (fv Po 301 23).toInt))) ∧ Typ P' ∧ KW [1112, 1115, 1116] Po P' ∧ True) := by
  refine EvP.of qm_221 (Nat.le_of_ble_eq_true rfl) rfl ?_
  show MEvP _ none q_221 0 [(0, .ref 301)] [] _ 0 0 _
  have g1 : (0 : Int) ≤ (fv Po 301 24).toInt ∧ (fv Po 301 24).toInt ≤ 81 := Typ.rng hT rl_301 (by decide) (by decide) rfl
  have g2 : (0 : Int) ≤ (fv Po 301 23).toInt ∧ (fv Po 301 23).toInt ≤ 80 := Typ.rng hT rl_301 (by decide) (by decide) rfl
  refine mp_a (a_aload_n dX7_readsSigns_0 rfl) (mpp 1 rfl ?_)
  refine mp_a (a_iconst (v := 0) dX7_readsSigns_1 rfl) (mpp 2 rfl ?_)
  refine mt_putI (i := 303) (k := 27) (x := 0) hT dX7_readsSigns_2 rfl rl_301 (by decide) rfl (by decide) rfl (by decide) rfl rfl (fun P3 hT4 f5 f6 f7 => mpp 5 rfl ?_)
  have k8 : KW [1112, 1115, 1116] Po P3 := KW.step KW.refl rl_301 rfl f6 f7
  have e9 : (fv P3 301 27).toInt = 0 := congrArg Int32.toInt f5
  refine mp_a (a_aload_n dX7_readsSigns_5 rfl) (mpp 6 rfl ?_)
  refine mp_a (a_iconst (v := 0) dX7_readsSigns_6 rfl) (mpp 7 rfl ?_)
  refine mt_putI (i := 306) (k := 28) (x := 0) hT4 dX7_readsSigns_7 rfl rl_301 (by decide) rfl (by decide) rfl (by decide) rfl rfl (fun P10 hT11 f12 f13 f14 => mpp 10 rfl ?_)
  have k15 : KW [1112, 1115, 1116] Po P10 := KW.step k8 rl_301 rfl f13 f14
  have e16 : (fv P10 301 28).toInt = 0 := congrArg Int32.toInt f12
  have e17 : (fv P10 301 24).toInt = (fv Po 301 24).toInt := congrArg Int32.toInt ((f13 301 24 (ne_k rfl)).trans (f6 301 24 (ne_k rfl)))
  have i18 : (fv Po 301 24).toInt ≤ (fv P10 301 24).toInt := by omega
  have e19 : (fv P10 301 23).toInt = (fv Po 301 23).toInt := congrArg Int32.toInt ((f13 301 23 (ne_k rfl)).trans (f6 301 23 (ne_k rfl)))
  have i20 : (fv P10 301 24).toInt ≤ (fv P10 301 23).toInt := by omega
  exact c_M_readsSigns_l10   hp0 _  P10 hT11 k15 i18 i20 rfl

set_option maxHeartbeats 4000000 in
theorem c_M_digit {Po : mP}  (hT : Typ Po)  (hp0 : (fv Po 301 24).toInt ≤ (fv Po 301 23).toInt)  : EvP 2 223 [.ref 301] Po (fun r P' => (∃ x : Int32, r = some (.int x) ∧ ((fv Po 301 24).toInt ≤ (fv P' 301 24).toInt ∧ (fv P' 301 24).toInt ≤ (fv Po 301 23).toInt)) ∧ Typ P' ∧ KW [1112] Po P' ∧ True) := by
  refine EvP.of qm_223 (Nat.le_of_ble_eq_true rfl) rfl ?_
  show MEvP _ none q_223 0 [(0, .ref 301)] [] _ 0 0 _
  have g1 : (0 : Int) ≤ (fv Po 301 24).toInt ∧ (fv Po 301 24).toInt ≤ 81 := Typ.rng hT rl_301 (by decide) (by decide) rfl
  have g2 : (0 : Int) ≤ (fv Po 301 23).toInt ∧ (fv Po 301 23).toInt ≤ 80 := Typ.rng hT rl_301 (by decide) (by decide) rfl
  refine mp_a (a_aload_n dX7_digit_0 rfl) (mpp 1 rfl ?_)
  refine mt_callv (i := 297) (q' := q_218) (As := []) (rest := []) hT dX7_digit_1 rfl qm_218 (by decide) rfl rl_301 (by decide) rfl (Nat.le_of_ble_eq_true rfl) rfl ⟨rfl, rfl⟩ ⟨Nat.le_of_ble_eq_true rfl, Nat.le_of_ble_eq_true rfl⟩ (EvP.mono (by decide) (c_M_sign hT )) (fun r3 P4 g5 => mpp 4 rfl ?_)
  obtain ⟨⟨x6, rfl, g7⟩, e8⟩ := g5
  have e8 := e8.symm
  subst e8
  have wx6 := ti_full x6
  replace g7 : x6.toInt = -1 ∨ (fv Po 301 24).toInt + 1 ≤ (fv Po 301 23).toInt := g7
  show MEvP _ none q_223 4 [(0, .ref 301)] [.int x6] _ _ _ _
  refine mp_a (a_bipush (v := 48) dX7_digit_4 rfl) (mpp 6 rfl ?_)
  refine mp_a (a_bipush (v := 57) dX7_digit_6 rfl) (mpp 8 rfl ?_)
  refine mp_calls (i := 61) (q' := q_127) (As := [.int x6, .int 48, .int 57]) (rest := []) dX7_digit_8 rfl qm_127 (by decide) rfl (Nat.le_of_ble_eq_true rfl) rfl ⟨rfl, rfl⟩ ⟨Nat.le_of_ble_eq_true rfl, Nat.le_of_ble_eq_true rfl⟩ (EvP.mono (by decide) (c_M_isIn hT )) (fun r9 P10 g11 => mpp 11 rfl ?_)
  obtain ⟨⟨x12, rfl, g13⟩, e14⟩ := g11
  have e14 := e14.symm
  subst e14
  have wx12 := ti_full x12
  replace g13 : 0 ≤ x12.toInt ∧ x12.toInt ≤ 1 ∧ ((x12.toInt = 1 ∧ (48 : Int) ≤ x6.toInt ∧ x6.toInt ≤ (57 : Int)) ∨ (x12.toInt = 0 ∧ (x6.toInt < (48 : Int) ∨ (57 : Int) < x6.toInt))) := g13
  show MEvP _ none q_223 11 [(0, .ref 301)] [.int x12] _ _ _ _
  refine mp_Tb (t := 16) (j_if_ne dX7_digit_11) (by decide) (fun c15 => ?_) (fun c15 => mpp 14 rfl ?_)
  · have c15 : x12.toInt ≠ 0 := ti_ne c15
    refine mp_a (a_aload_n dX7_digit_16 rfl) (mpp 17 rfl ?_)
    refine mp_t (s_dup dX7_digit_17 rfl) (mpp 18 rfl ?_)
    refine mt_getI (i := 294) (k := 24) hT dX7_digit_18 rfl rl_301 (by decide) rfl (by decide) rfl (fun g16 g17 => mpp 21 rfl ?_)
    refine mp_a (a_iconst (v := 1) dX7_digit_21 rfl) (mpp 22 rfl ?_)
    obtain ⟨z18, h19⟩ := ti_ex ((fv Po 301 24) + 1 : Int32)
    have wz18 := ti_full z18
    refine mp_t (s_iadd (v := z18) dX7_digit_22 h19) (mpp 23 rfl ?_)
    try have e20 : z18.toInt = (fv Po 301 24).toInt + 1 := ti_addz h19 rfl rfl (by omega) (by omega)
    refine mt_putI (i := 294) (k := 24) (x := z18) hT dX7_digit_23 rfl rl_301 (by decide) rfl (by decide) rfl ⟨by omega, by omega⟩ rfl rfl (fun P21 hT22 f23 f24 f25 => mpp 26 rfl ?_)
    have k26 : KW [1112] Po P21 := KW.step KW.refl rl_301 rfl f24 f25
    have e27 : (fv P21 301 24).toInt = z18.toInt := congrArg Int32.toInt f23
    refine mp_a (a_aload_n dX7_digit_26 rfl) (mpp 27 rfl ?_)
    refine mt_getU (i := 47) (k := 22) (A := 314) hT22 dX7_digit_27 rfl rl_301 (by decide) rfl (by decide) rfl un_30 (mpp 30 rfl ?_)
    refine mp_a (a_aload_n dX7_digit_30 rfl) (mpp 31 rfl ?_)
    refine mt_getI (i := 294) (k := 24) hT22 dX7_digit_31 rfl rl_301 (by decide) rfl (by decide) rfl (fun g28 g29 => mpp 34 rfl ?_)
    refine mp_a (a_iconst (v := 1) dX7_digit_34 rfl) (mpp 35 rfl ?_)
    obtain ⟨z30, h31⟩ := ti_ex ((fv P21 301 24) - 1 : Int32)
    have wz30 := ti_full z30
    refine mp_t (s_isub (v := z30) dX7_digit_35 h31) (mpp 36 rfl ?_)
    try have e32 : z30.toInt = (fv P21 301 24).toInt - 1 := ti_subz h31 rfl rfl (by omega) (by omega)
    refine mt_ial (n := 80) hT22 dX7_digit_36 rl_314 (by decide) rfl rfl (by omega) (by omega) rfl (fun g33 g34 => mpp 37 rfl ?_)
    refine mp_a (a_bipush (v := 48) dX7_digit_37 rfl) (mpp 39 rfl ?_)
    obtain ⟨z35, h36⟩ := ti_ex ((fv P21 314 z30.toInt.toNat) - 48 : Int32)
    have wz35 := ti_full z35
    refine mp_t (s_isub (v := z35) dX7_digit_39 h36) (mpp 40 rfl ?_)
    try have e37 : z35.toInt = (fv P21 314 z30.toInt.toNat).toInt - 48 := ti_subz h36 rfl rfl (by omega) (by omega)
    have u38 : (fv Po 301 24).toInt ≤ (fv P21 301 24).toInt ∧ (fv P21 301 24).toInt ≤ (fv Po 301 23).toInt := by omega
    exact mp_iret ⟨⟨_, rfl, u38⟩, hT22, k26, trivial⟩ dX7_digit_40 (Or.inl rfl)
  · have c15 : x12.toInt = 0 := ti_ne_n c15
    refine mp_a (a_iconst (v := -1) dX7_digit_14 rfl) (mpp 15 rfl ?_)
    have u39 : (fv Po 301 24).toInt ≤ (fv Po 301 24).toInt ∧ (fv Po 301 24).toInt ≤ (fv Po 301 23).toInt := by omega
    exact mp_iret ⟨⟨_, rfl, u39⟩, hT, KW.refl, trivial⟩ dX7_digit_15 (Or.inl rfl)

set_option maxHeartbeats 4000000 in
theorem c_M_readsMark {Po : mP}  (hT : Typ Po)  (hp0 : (fv Po 301 24).toInt ≤ (fv Po 301 23).toInt)  : EvP 3 224 [.ref 301] Po (fun r P' => (∃ x : Int32, r = some (.int x) ∧ (0 ≤ x.toInt ∧ x.toInt ≤ 1 ∧ ((fv Po 301 24).toInt ≤ (fv P' 301 24).toInt ∧ (fv P' 301 24).toInt ≤ (fv Po 301 23).toInt))) ∧ Typ P' ∧ KW [1112, 1115, 1117] Po P' ∧ True) := by
  refine EvP.of qm_224 (Nat.le_of_ble_eq_true rfl) rfl ?_
  show MEvP _ none q_224 0 [(0, .ref 301)] [] _ 0 0 _
  have g1 : (0 : Int) ≤ (fv Po 301 24).toInt ∧ (fv Po 301 24).toInt ≤ 81 := Typ.rng hT rl_301 (by decide) (by decide) rfl
  have g2 : (0 : Int) ≤ (fv Po 301 23).toInt ∧ (fv Po 301 23).toInt ≤ 80 := Typ.rng hT rl_301 (by decide) (by decide) rfl
  refine mp_a (a_aload_n dX7_readsMark_0 rfl) (mpp 1 rfl ?_)
  refine mp_a (a_bipush (v := 46) dX7_readsMark_1 rfl) (mpp 3 rfl ?_)
  have p3 : 0 ≤ (46 : Int) := by omega
  refine mt_callv (i := 312) (q' := q_220) (As := [.int 46]) (rest := []) hT dX7_readsMark_3 rfl qm_220 (by decide) rfl rl_301 (by decide) rfl (Nat.le_of_ble_eq_true rfl) rfl ⟨rfl, rfl⟩ ⟨Nat.le_of_ble_eq_true rfl, Nat.le_of_ble_eq_true rfl⟩ (EvP.mono (by decide) (c_M_takes hT p3 )) (fun r4 P5 g6 => mpp 6 rfl ?_)
  obtain ⟨⟨x7, rfl, g8⟩, hT9, k10, R11⟩ := g6
  have k12 : KW [1112, 1115, 1117] Po P5 := KW.trans KW.refl k10 rfl
  have wx7 := ti_full x7
  replace g8 : 0 ≤ x7.toInt ∧ x7.toInt ≤ 1 ∧ ((x7.toInt = 1 ∧ (fv P5 301 24).toInt = (fv Po 301 24).toInt + 1 ∧ (fv P5 301 24).toInt ≤ (fv Po 301 23).toInt) ∨ (x7.toInt = 0 ∧ (fv P5 301 24).toInt = (fv Po 301 24).toInt)) := g8
  have g14 : (0 : Int) ≤ (fv P5 301 24).toInt ∧ (fv P5 301 24).toInt ≤ 81 := Typ.rng hT9 rl_301 (by decide) (by decide) rfl
  have g15 : (0 : Int) ≤ (fv P5 301 24).toInt ∧ (fv P5 301 24).toInt ≤ 81 := Typ.rng hT9 rl_301 (by decide) (by decide) rfl
  have g16 : (0 : Int) ≤ (fv P5 301 24).toInt ∧ (fv P5 301 24).toInt ≤ 81 := Typ.rng hT9 rl_301 (by decide) (by decide) rfl
  show MEvP _ none q_224 6 [(0, .ref 301)] [.int x7] _ _ _ _
  refine mp_Tb (t := 11) (j_if_ne dX7_readsMark_6) (by decide) (fun c17 => ?_) (fun c17 => mpp 9 rfl ?_)
  · have c17 : x7.toInt ≠ 0 := ti_ne c17
    refine mp_a (a_aload_n dX7_readsMark_11 rfl) (mpp 12 rfl ?_)
    refine mp_a (a_aload_n dX7_readsMark_12 rfl) (mpp 13 rfl ?_)
    have e18 : (fv P5 301 23).toInt = (fv Po 301 23).toInt := congrArg Int32.toInt (KW.at k10 23 rl_301 rfl)
    have p19 : (fv P5 301 24).toInt ≤ (fv P5 301 23).toInt := by omega
    refine mt_callv (i := 315) (q' := q_223) (As := []) (rest := [.ref 301]) hT9 dX7_readsMark_13 rfl qm_223 (by decide) rfl rl_301 (by decide) rfl (Nat.le_of_ble_eq_true rfl) rfl ⟨rfl, rfl⟩ ⟨Nat.le_of_ble_eq_true rfl, Nat.le_of_ble_eq_true rfl⟩ (EvP.mono (by decide) (c_M_digit hT9 p19 )) (fun r20 P21 g22 => mpp 16 rfl ?_)
    obtain ⟨⟨x23, rfl, g24⟩, hT25, k26, R27⟩ := g22
    have k28 : KW [1112, 1115, 1117] Po P21 := KW.trans k12 k26 rfl
    have wx23 := ti_full x23
    replace g24 : (fv P5 301 24).toInt ≤ (fv P21 301 24).toInt ∧ (fv P21 301 24).toInt ≤ (fv P5 301 23).toInt := g24
    have g30 : (0 : Int) ≤ (fv P21 301 24).toInt ∧ (fv P21 301 24).toInt ≤ 81 := Typ.rng hT25 rl_301 (by decide) (by decide) rfl
    have g31 : (0 : Int) ≤ (fv P21 301 24).toInt ∧ (fv P21 301 24).toInt ≤ 81 := Typ.rng hT25 rl_301 (by decide) (by decide) rfl
    show MEvP _ none q_224 16 [(0, .ref 301)] [.int x23, .ref 301] _ _ _ _
    refine mt_putI (i := 303) (k := 27) (x := x23) hT25 dX7_readsMark_16 rfl rl_301 (by decide) rfl (by decide) rfl (ti_full x23) rfl rfl (fun P32 hT33 f34 f35 f36 => mpp 19 rfl ?_)
    have k37 : KW [1112, 1115, 1117] Po P32 := KW.step k28 rl_301 rfl f35 f36
    have e38 : (fv P32 301 27).toInt = x23.toInt := congrArg Int32.toInt f34
    refine mp_a (a_aload_n dX7_readsMark_19 rfl) (mpp 20 rfl ?_)
    refine mt_getI (i := 303) (k := 27) hT33 dX7_readsMark_20 rfl rl_301 (by decide) rfl (by decide) rfl (fun g39 g40 => mpp 23 rfl ?_)
    refine mp_Tb (t := 35) (j_if_lt dX7_readsMark_23) (by decide) (fun c41 => ?_) (fun c41 => mpp 26 rfl ?_)
    · have c41 : (fv P32 301 27).toInt < 0 := ti_lt c41
      refine mp_a (a_iconst (v := 0) dX7_readsMark_35 rfl) (mpp 36 rfl ?_)
      have e42 : (fv P32 301 24).toInt = (fv P21 301 24).toInt := congrArg Int32.toInt (f35 301 24 (ne_k rfl))
      have u43 : 0 ≤ (0 : Int) ∧ (0 : Int) ≤ 1 ∧ ((fv Po 301 24).toInt ≤ (fv P32 301 24).toInt ∧ (fv P32 301 24).toInt ≤ (fv Po 301 23).toInt) := by omega
      exact mp_iret ⟨⟨_, rfl, u43⟩, hT33, k37, trivial⟩ dX7_readsMark_36 (Or.inr ⟨rfl, by decide⟩)
    · have c41 : (fv P32 301 27).toInt ≥ 0 := ti_lt_n c41
      refine mp_a (a_aload_n dX7_readsMark_26 rfl) (mpp 27 rfl ?_)
      refine mp_a (a_bipush (v := 61) dX7_readsMark_27 rfl) (mpp 29 rfl ?_)
      have p44 : 0 ≤ (61 : Int) := by omega
      refine mt_callv (i := 312) (q' := q_220) (As := [.int 61]) (rest := []) hT33 dX7_readsMark_29 rfl qm_220 (by decide) rfl rl_301 (by decide) rfl (Nat.le_of_ble_eq_true rfl) rfl ⟨rfl, rfl⟩ ⟨Nat.le_of_ble_eq_true rfl, Nat.le_of_ble_eq_true rfl⟩ (EvP.mono (by decide) (c_M_takes hT33 p44 )) (fun r45 P46 g47 => mpp 32 rfl ?_)
      obtain ⟨⟨x48, rfl, g49⟩, hT50, k51, R52⟩ := g47
      have k53 : KW [1112, 1115, 1117] Po P46 := KW.trans k37 k51 rfl
      have wx48 := ti_full x48
      replace g49 : 0 ≤ x48.toInt ∧ x48.toInt ≤ 1 ∧ ((x48.toInt = 1 ∧ (fv P46 301 24).toInt = (fv P32 301 24).toInt + 1 ∧ (fv P46 301 24).toInt ≤ (fv P32 301 23).toInt) ∨ (x48.toInt = 0 ∧ (fv P46 301 24).toInt = (fv P32 301 24).toInt)) := g49
      have g55 : (0 : Int) ≤ (fv P46 301 24).toInt ∧ (fv P46 301 24).toInt ≤ 81 := Typ.rng hT50 rl_301 (by decide) (by decide) rfl
      have e56 : (fv P32 301 24).toInt = (fv P21 301 24).toInt := congrArg Int32.toInt (f35 301 24 (ne_k rfl))
      have g57 : (0 : Int) ≤ (fv P46 301 24).toInt ∧ (fv P46 301 24).toInt ≤ 81 := Typ.rng hT50 rl_301 (by decide) (by decide) rfl
      have e58 : (fv P32 301 23).toInt = (fv P5 301 23).toInt := congrArg Int32.toInt ((f35 301 23 (ne_k rfl)).trans (KW.at k26 23 rl_301 rfl))
      have g59 : (0 : Int) ≤ (fv P46 301 24).toInt ∧ (fv P46 301 24).toInt ≤ 81 := Typ.rng hT50 rl_301 (by decide) (by decide) rfl
      show MEvP _ none q_224 32 [(0, .ref 301)] [.int x48] _ _ _ _
      refine mp_Tb (t := 37) (j_if_ne dX7_readsMark_32) (by decide) (fun c60 => ?_) (fun c60 => mpp 35 rfl ?_)
      · have c60 : x48.toInt ≠ 0 := ti_ne c60
        refine mp_a (a_aload_n dX7_readsMark_37 rfl) (mpp 38 rfl ?_)
        refine mp_a (a_aload_n dX7_readsMark_38 rfl) (mpp 39 rfl ?_)
        refine mt_callv (i := 297) (q' := q_218) (As := []) (rest := [.ref 301]) hT50 dX7_readsMark_39 rfl qm_218 (by decide) rfl rl_301 (by decide) rfl (Nat.le_of_ble_eq_true rfl) rfl ⟨rfl, rfl⟩ ⟨Nat.le_of_ble_eq_true rfl, Nat.le_of_ble_eq_true rfl⟩ (EvP.mono (by decide) (c_M_sign hT50 )) (fun r61 P62 g63 => mpp 42 rfl ?_)
        obtain ⟨⟨x64, rfl, g65⟩, e66⟩ := g63
        have e66 := e66.symm
        subst e66
        have wx64 := ti_full x64
        replace g65 : x64.toInt = -1 ∨ (fv P46 301 24).toInt + 1 ≤ (fv P46 301 23).toInt := g65
        have e67 : (fv P46 301 23).toInt = (fv P32 301 23).toInt := congrArg Int32.toInt (KW.at k51 23 rl_301 rfl)
        show MEvP _ none q_224 42 [(0, .ref 301)] [.int x64, .ref 301] _ _ _ _
        refine mp_calls (i := 309) (q' := q_222) (As := [.int x64]) (rest := [.ref 301]) dX7_readsMark_42 rfl qm_222 (by decide) rfl (Nat.le_of_ble_eq_true rfl) rfl ⟨rfl, rfl⟩ ⟨Nat.le_of_ble_eq_true rfl, Nat.le_of_ble_eq_true rfl⟩ (EvP.mono (by decide) (c_M_kindOf hT50 )) (fun r68 P69 g70 => mpp 45 rfl ?_)
        obtain ⟨⟨x71, rfl, g72⟩, e73⟩ := g70
        have e73 := e73.symm
        subst e73
        have wx71 := ti_full x71
        replace g72 : x71.toInt = -1 ∨ 1 ≤ x64.toInt := g72
        show MEvP _ none q_224 45 [(0, .ref 301)] [.int x71, .ref 301] _ _ _ _
        refine mt_putI (i := 318) (k := 29) (x := x71) hT50 dX7_readsMark_45 rfl rl_301 (by decide) rfl (by decide) rfl (ti_full x71) rfl rfl (fun P74 hT75 f76 f77 f78 => mpp 48 rfl ?_)
        have k79 : KW [1112, 1115, 1117] Po P74 := KW.step k53 rl_301 rfl f77 f78
        have e80 : (fv P74 301 29).toInt = x71.toInt := congrArg Int32.toInt f76
        refine mp_a (a_aload_n dX7_readsMark_48 rfl) (mpp 49 rfl ?_)
        refine mp_t (s_dup dX7_readsMark_49 rfl) (mpp 50 rfl ?_)
        have e81 : (fv P74 301 24).toInt = (fv P46 301 24).toInt := congrArg Int32.toInt (f77 301 24 (ne_k rfl))
        refine mt_getI (i := 294) (k := 24) hT75 dX7_readsMark_50 rfl rl_301 (by decide) rfl (by decide) rfl (fun g82 g83 => mpp 53 rfl ?_)
        refine mp_a (a_aload_n dX7_readsMark_53 rfl) (mpp 54 rfl ?_)
        refine mt_getI (i := 318) (k := 29) hT75 dX7_readsMark_54 rfl rl_301 (by decide) rfl (by decide) rfl (fun g84 g85 => mpp 57 rfl ?_)
        refine mp_Tb (t := 64) (j_if_lt dX7_readsMark_57) (by decide) (fun c86 => ?_) (fun c86 => mpp 60 rfl ?_)
        · have c86 : (fv P74 301 29).toInt < 0 := ti_lt c86
          refine mp_a (a_iconst (v := 0) dX7_readsMark_64 rfl) (mpp 65 rfl ?_)
          obtain ⟨z87, h88⟩ := ti_ex ((fv P74 301 24) + 0 : Int32)
          have wz87 := ti_full z87
          refine mp_t (s_iadd (v := z87) dX7_readsMark_65 h88) (mpp 66 rfl ?_)
          try have e89 : z87.toInt = (fv P74 301 24).toInt + 0 := ti_addz h88 rfl rfl (by omega) (by omega)
          refine mt_putI (i := 294) (k := 24) (x := z87) hT75 dX7_readsMark_66 rfl rl_301 (by decide) rfl (by decide) rfl ⟨by omega, by omega⟩ rfl rfl (fun P90 hT91 f92 f93 f94 => mpp 69 rfl ?_)
          have k95 : KW [1112, 1115, 1117] Po P90 := KW.step k79 rl_301 rfl f93 f94
          have e96 : (fv P90 301 24).toInt = z87.toInt := congrArg Int32.toInt f92
          refine mp_a (a_aload_n dX7_readsMark_69 rfl) (mpp 70 rfl ?_)
          have e97 : (fv P90 301 29).toInt = (fv P74 301 29).toInt := congrArg Int32.toInt (f93 301 29 (ne_k rfl))
          refine mt_getI (i := 318) (k := 29) hT91 dX7_readsMark_70 rfl rl_301 (by decide) rfl (by decide) rfl (fun g98 g99 => mpp 73 rfl ?_)
          refine mp_Tb (t := 80) (j_if_lt dX7_readsMark_73) (by decide) (fun c100 => ?_) (fun c100 => mpp 76 rfl ?_)
          · have c100 : (fv P90 301 29).toInt < 0 := ti_lt c100
            refine mp_a (a_iconst (v := 0) dX7_readsMark_80 rfl) (mpp 81 rfl ?_)
            have u101 : 0 ≤ (0 : Int) ∧ (0 : Int) ≤ 1 ∧ ((fv Po 301 24).toInt ≤ (fv P90 301 24).toInt ∧ (fv P90 301 24).toInt ≤ (fv Po 301 23).toInt) := by omega
            exact mp_iret ⟨⟨_, rfl, u101⟩, hT91, k95, trivial⟩ dX7_readsMark_81 (Or.inr ⟨rfl, by decide⟩)
          · have c100 : (fv P90 301 29).toInt ≥ 0 := ti_lt_n c100
            refine mp_a (a_iconst (v := 1) dX7_readsMark_76 rfl) (mpp 77 rfl ?_)
            refine mp_a (a_goto (t := 81) dX7_readsMark_77 (by decide)) ?_
            have u102 : 0 ≤ (1 : Int) ∧ (1 : Int) ≤ 1 ∧ ((fv Po 301 24).toInt ≤ (fv P90 301 24).toInt ∧ (fv P90 301 24).toInt ≤ (fv Po 301 23).toInt) := by omega
            exact mp_iret ⟨⟨_, rfl, u102⟩, hT91, k95, trivial⟩ dX7_readsMark_81 (Or.inr ⟨rfl, by decide⟩)
        · have c86 : (fv P74 301 29).toInt ≥ 0 := ti_lt_n c86
          refine mp_a (a_iconst (v := 1) dX7_readsMark_60 rfl) (mpp 61 rfl ?_)
          refine mp_a (a_goto (t := 65) dX7_readsMark_61 (by decide)) ?_
          obtain ⟨z103, h104⟩ := ti_ex ((fv P74 301 24) + 1 : Int32)
          have wz103 := ti_full z103
          refine mp_t (s_iadd (v := z103) dX7_readsMark_65 h104) (mpp 66 rfl ?_)
          try have e105 : z103.toInt = (fv P74 301 24).toInt + 1 := ti_addz h104 rfl rfl (by omega) (by omega)
          refine mt_putI (i := 294) (k := 24) (x := z103) hT75 dX7_readsMark_66 rfl rl_301 (by decide) rfl (by decide) rfl ⟨by omega, by omega⟩ rfl rfl (fun P106 hT107 f108 f109 f110 => mpp 69 rfl ?_)
          have k111 : KW [1112, 1115, 1117] Po P106 := KW.step k79 rl_301 rfl f109 f110
          have e112 : (fv P106 301 24).toInt = z103.toInt := congrArg Int32.toInt f108
          refine mp_a (a_aload_n dX7_readsMark_69 rfl) (mpp 70 rfl ?_)
          have e113 : (fv P106 301 29).toInt = (fv P74 301 29).toInt := congrArg Int32.toInt (f109 301 29 (ne_k rfl))
          refine mt_getI (i := 318) (k := 29) hT107 dX7_readsMark_70 rfl rl_301 (by decide) rfl (by decide) rfl (fun g114 g115 => mpp 73 rfl ?_)
          refine mp_Tb (t := 80) (j_if_lt dX7_readsMark_73) (by decide) (fun c116 => ?_) (fun c116 => mpp 76 rfl ?_)
          · have c116 : (fv P106 301 29).toInt < 0 := ti_lt c116
            refine mp_a (a_iconst (v := 0) dX7_readsMark_80 rfl) (mpp 81 rfl ?_)
            have u117 : 0 ≤ (0 : Int) ∧ (0 : Int) ≤ 1 ∧ ((fv Po 301 24).toInt ≤ (fv P106 301 24).toInt ∧ (fv P106 301 24).toInt ≤ (fv Po 301 23).toInt) := by omega
            exact mp_iret ⟨⟨_, rfl, u117⟩, hT107, k111, trivial⟩ dX7_readsMark_81 (Or.inr ⟨rfl, by decide⟩)
          · have c116 : (fv P106 301 29).toInt ≥ 0 := ti_lt_n c116
            refine mp_a (a_iconst (v := 1) dX7_readsMark_76 rfl) (mpp 77 rfl ?_)
            refine mp_a (a_goto (t := 81) dX7_readsMark_77 (by decide)) ?_
            have u118 : 0 ≤ (1 : Int) ∧ (1 : Int) ≤ 1 ∧ ((fv Po 301 24).toInt ≤ (fv P106 301 24).toInt ∧ (fv P106 301 24).toInt ≤ (fv Po 301 23).toInt) := by omega
            exact mp_iret ⟨⟨_, rfl, u118⟩, hT107, k111, trivial⟩ dX7_readsMark_81 (Or.inr ⟨rfl, by decide⟩)
      · have c60 : x48.toInt = 0 := ti_ne_n c60
        refine mp_a (a_iconst (v := 0) dX7_readsMark_35 rfl) (mpp 36 rfl ?_)
        have u119 : 0 ≤ (0 : Int) ∧ (0 : Int) ≤ 1 ∧ ((fv Po 301 24).toInt ≤ (fv P46 301 24).toInt ∧ (fv P46 301 24).toInt ≤ (fv Po 301 23).toInt) := by omega
        exact mp_iret ⟨⟨_, rfl, u119⟩, hT50, k53, trivial⟩ dX7_readsMark_36 (Or.inr ⟨rfl, by decide⟩)
  · have c17 : x7.toInt = 0 := ti_ne_n c17
    refine mp_a (a_iconst (v := 0) dX7_readsMark_9 rfl) (mpp 10 rfl ?_)
    have u120 : 0 ≤ (0 : Int) ∧ (0 : Int) ≤ 1 ∧ ((fv Po 301 24).toInt ≤ (fv P5 301 24).toInt ∧ (fv P5 301 24).toInt ≤ (fv Po 301 23).toInt) := by omega
    exact mp_iret ⟨⟨_, rfl, u120⟩, hT9, k12, trivial⟩ dX7_readsMark_10 (Or.inr ⟨rfl, by decide⟩)

