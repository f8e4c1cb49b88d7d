/-! methods on typed pools, 35 (written by a program) -/
set_option maxHeartbeats 4000000 in
theorem c_M_append {Po : mP} {t1 : Int32} (hT : Typ Po)   : EvP 2 214 [.ref 301, .int t1] Po (fun r P' => (∃ x : Int32, r = some (.int x) ∧ ((x.toInt = -1002 ∧ (t1.toInt < 32 ∨ 126 < t1.toInt ∨ 80 ≤ (fv Po 301 23).toInt) ∧ (fv P' 301 23).toInt = (fv Po 301 23).toInt) ∨ (x.toInt = (fv Po 301 23).toInt + 1 ∧ 32 ≤ t1.toInt ∧ t1.toInt ≤ 126 ∧ (fv Po 301 23).toInt < 80 ∧ (fv P' 301 23).toInt = (fv Po 301 23).toInt + 1))) ∧ Typ P' ∧ KW [1111, 1920] Po P' ∧ True) := by
  refine EvP.of qm_214 (Nat.le_of_ble_eq_true rfl) rfl ?_
  show MEvP _ none q_214 0 [(0, .ref 301), (1, .int t1)] [] _ 0 0 _
  have g1 : (0 : Int) ≤ (fv Po 301 23).toInt ∧ (fv Po 301 23).toInt ≤ 80 := Typ.rng hT rl_301 (by decide) (by decide) rfl
  refine mp_a (a_iload_n dX7_append_0 rfl) (mpp 1 rfl ?_)
  refine mp_a (a_bipush (v := 32) dX7_append_1 rfl) (mpp 3 rfl ?_)
  refine mp_a (a_bipush (v := 126) dX7_append_3 rfl) (mpp 5 rfl ?_)
  refine mp_calls (i := 61) (q' := q_127) (As := [.int t1, .int 32, .int 126]) (rest := []) dX7_append_5 rfl qm_127 (by decide) rfl (Nat.le_of_ble_eq_true rfl) rfl ⟨rfl, rfl⟩ ⟨Nat.le_of_ble_eq_true rfl, Nat.le_of_ble_eq_true rfl⟩ (EvP.mono (by decide) (c_M_isIn hT )) (fun r2 P3 g4 => mpp 8 rfl ?_)
  obtain ⟨⟨x5, rfl, g6⟩, e7⟩ := g4
  have e7 := e7.symm
  subst e7
  have wx5 := ti_full x5
  have g6 : 0 ≤ x5.toInt ∧ x5.toInt ≤ 1 ∧ ((x5.toInt = 1 ∧ (32 : Int) ≤ t1.toInt ∧ t1.toInt ≤ (126 : Int)) ∨ (x5.toInt = 0 ∧ (t1.toInt < (32 : Int) ∨ (126 : Int) < t1.toInt))) := g6
  show MEvP _ none q_214 8 [(0, .ref 301), (1, .int t1)] [.int x5] _ _ _ _
  refine mp_Tb (t := 20) (j_if_eq dX7_append_8) (by decide) (fun c8 => ?_) (fun c8 => mpp 11 rfl ?_)
  · have c8 : x5.toInt = 0 := ti_eq c8
    refine mp_a (a_sipush (v := -1002) dX7_append_20 rfl) (mpp 23 rfl ?_)
    have u9 : ((-1002 : Int) = -1002 ∧ (t1.toInt < 32 ∨ 126 < t1.toInt ∨ 80 ≤ (fv Po 301 23).toInt) ∧ (fv Po 301 23).toInt = (fv Po 301 23).toInt) ∨ ((-1002 : Int) = (fv Po 301 23).toInt + 1 ∧ 32 ≤ t1.toInt ∧ t1.toInt ≤ 126 ∧ (fv Po 301 23).toInt < 80 ∧ (fv Po 301 23).toInt = (fv Po 301 23).toInt + 1) := by omega
    exact mp_iret ⟨⟨_, rfl, u9⟩, hT, KW.refl, trivial⟩ dX7_append_23 (Or.inl rfl)
  · have c8 : x5.toInt ≠ 0 := ti_eq_n c8
    refine mp_a (a_aload_n dX7_append_11 rfl) (mpp 12 rfl ?_)
    refine mt_getI (i := 291) (k := 23) hT dX7_append_12 rfl rl_301 (by decide) rfl (by decide) rfl (fun g10 g11 => mpp 15 rfl ?_)
    refine mp_a (a_bipush (v := 80) dX7_append_15 rfl) (mpp 17 rfl ?_)
    refine mp_Tb (t := 24) (j_icmp_ne dX7_append_17) (by decide) (fun c12 => ?_) (fun c12 => mpp 20 rfl ?_)
    · have c12 : (fv Po 301 23).toInt ≠ 80 := ti_ne c12
      refine mp_a (a_aload_n dX7_append_24 rfl) (mpp 25 rfl ?_)
      refine mt_getU (i := 47) (k := 22) (A := 314) hT dX7_append_25 rfl rl_301 (by decide) rfl (by decide) rfl un_30 (mpp 28 rfl ?_)
      refine mp_a (a_aload_n dX7_append_28 rfl) (mpp 29 rfl ?_)
      refine mt_getI (i := 291) (k := 23) hT dX7_append_29 rfl rl_301 (by decide) rfl (by decide) rfl (fun g13 g14 => mpp 32 rfl ?_)
      refine mp_a (a_iload_n dX7_append_32 rfl) (mpp 33 rfl ?_)
      refine mt_ias (n := 80) hT dX7_append_33 rl_314 (by decide) rfl rfl (by omega) (by omega) rfl (ti_full t1) (fun P15 hT16 f17 f18 => mpp 34 rfl ?_)
      have k19 : KW [1111, 1920] Po P15 := KW.step KW.refl rl_314 rfl f18
      refine mp_a (a_aload_n dX7_append_34 rfl) (mpp 35 rfl ?_)
      refine mp_t (s_dup dX7_append_35 rfl) (mpp 36 rfl ?_)
      have e20 : (fv P15 301 23).toInt = (fv Po 301 23).toInt := congrArg Int32.toInt (f18 301 23 (ne_r rl_301 rl_314 rfl))
      refine mt_getI (i := 291) (k := 23) hT16 dX7_append_36 rfl rl_301 (by decide) rfl (by decide) rfl (fun g21 g22 => mpp 39 rfl ?_)
      refine mp_a (a_iconst (v := 1) dX7_append_39 rfl) (mpp 40 rfl ?_)
      obtain ⟨z23, h24⟩ := ti_ex ((fv P15 301 23) + 1 : Int32)
      have wz23 := ti_full z23
      refine mp_t (s_iadd (v := z23) dX7_append_40 h24) (mpp 41 rfl ?_)
      try have e25 : z23.toInt = (fv P15 301 23).toInt + 1 := ti_addz h24 rfl rfl (by omega) (by omega)
      refine mt_putI (i := 291) (k := 23) (x := z23) hT16 dX7_append_41 rfl rl_301 (by decide) rfl (by decide) rfl ⟨by omega, by omega⟩ rfl rfl (fun P26 hT27 f28 f29 => mpp 44 rfl ?_)
      have k30 : KW [1111, 1920] Po P26 := KW.step k19 rl_301 rfl f29
      have e31 : (fv P26 301 23).toInt = z23.toInt := congrArg Int32.toInt f28
      refine mp_a (a_aload_n dX7_append_44 rfl) (mpp 45 rfl ?_)
      refine mt_getI (i := 291) (k := 23) hT27 dX7_append_45 rfl rl_301 (by decide) rfl (by decide) rfl (fun g32 g33 => mpp 48 rfl ?_)
      have u34 : ((fv P26 301 23).toInt = -1002 ∧ (t1.toInt < 32 ∨ 126 < t1.toInt ∨ 80 ≤ (fv Po 301 23).toInt) ∧ (fv P26 301 23).toInt = (fv Po 301 23).toInt) ∨ ((fv P26 301 23).toInt = (fv Po 301 23).toInt + 1 ∧ 32 ≤ t1.toInt ∧ t1.toInt ≤ 126 ∧ (fv Po 301 23).toInt < 80 ∧ (fv P26 301 23).toInt = (fv Po 301 23).toInt + 1) := by omega
      exact mp_iret ⟨⟨_, rfl, u34⟩, hT27, k30, trivial⟩ dX7_append_48 (Or.inl rfl)
    · have c12 : (fv Po 301 23).toInt = 80 := ti_ne_n c12
      refine mp_a (a_sipush (v := -1002) dX7_append_20 rfl) (mpp 23 rfl ?_)
      have u35 : ((-1002 : Int) = -1002 ∧ (t1.toInt < 32 ∨ 126 < t1.toInt ∨ 80 ≤ (fv Po 301 23).toInt) ∧ (fv Po 301 23).toInt = (fv Po 301 23).toInt) ∨ ((-1002 : Int) = (fv Po 301 23).toInt + 1 ∧ 32 ≤ t1.toInt ∧ t1.toInt ≤ 126 ∧ (fv Po 301 23).toInt < 80 ∧ (fv Po 301 23).toInt = (fv Po 301 23).toInt + 1) := by omega
      exact mp_iret ⟨⟨_, rfl, u35⟩, hT, KW.refl, trivial⟩ dX7_append_23 (Or.inl rfl)

set_option maxHeartbeats 4000000 in
theorem c_M_sign {Po : mP}  (hT : Typ Po)   : EvP 1 218 [.ref 301] Po (fun r P' => (∃ x : Int32, r = some (.int x) ∧ (x.toInt = -1 ∨ (fv Po 301 24).toInt + 1 ≤ (fv Po 301 23).toInt)) ∧ P' = Po) := by
  refine EvP.of qm_218 (Nat.le_of_ble_eq_true rfl) rfl ?_
  show MEvP _ none q_218 0 [(0, .ref 301)] [] _ 0 0 _
  have g1 : (0 : Int) ≤ (fv Po 301 24).toInt ∧ (fv Po 301 24).toInt ≤ 81 := Typ.rng hT rl_301 (by decide) (by decide) rfl
  have g2 : (0 : Int) ≤ (fv Po 301 23).toInt ∧ (fv Po 301 23).toInt ≤ 80 := Typ.rng hT rl_301 (by decide) (by decide) rfl
  refine mp_a (a_aload_n dX7_sign_0 rfl) (mpp 1 rfl ?_)
  refine mt_getI (i := 294) (k := 24) hT dX7_sign_1 rfl rl_301 (by decide) rfl (by decide) rfl (fun g3 g4 => mpp 4 rfl ?_)
  refine mp_a (a_aload_n dX7_sign_4 rfl) (mpp 5 rfl ?_)
  refine mt_getI (i := 291) (k := 23) hT dX7_sign_5 rfl rl_301 (by decide) rfl (by decide) rfl (fun g5 g6 => mpp 8 rfl ?_)
  refine mp_Tb (t := 23) (j_icmp_ge dX7_sign_8) (by decide) (fun c7 => ?_) (fun c7 => mpp 11 rfl ?_)
  · have c7 : (fv Po 301 24).toInt ≥ (fv Po 301 23).toInt := ti_ge c7
    refine mp_a (a_iconst (v := -1) dX7_sign_23 rfl) (mpp 24 rfl ?_)
    have u8 : (-1 : Int) = -1 ∨ (fv Po 301 24).toInt + 1 ≤ (fv Po 301 23).toInt := by omega
    exact mp_iret ⟨⟨_, rfl, u8⟩, rfl⟩ dX7_sign_24 (Or.inl rfl)
  · have c7 : (fv Po 301 24).toInt < (fv Po 301 23).toInt := ti_ge_n c7
    refine mp_a (a_aload_n dX7_sign_11 rfl) (mpp 12 rfl ?_)
    refine mt_getU (i := 47) (k := 22) (A := 314) hT dX7_sign_12 rfl rl_301 (by decide) rfl (by decide) rfl un_30 (mpp 15 rfl ?_)
    refine mp_a (a_aload_n dX7_sign_15 rfl) (mpp 16 rfl ?_)
    refine mt_getI (i := 294) (k := 24) hT dX7_sign_16 rfl rl_301 (by decide) rfl (by decide) rfl (fun g9 g10 => mpp 19 rfl ?_)
    refine mt_ial (n := 80) hT dX7_sign_19 rl_314 (by decide) rfl rfl (by omega) (by omega) rfl (fun g11 g12 => mpp 20 rfl ?_)
    refine mp_a (a_goto (t := 24) dX7_sign_20 (by decide)) ?_
    have u13 : (fv Po 314 (fv Po 301 24).toInt.toNat).toInt = -1 ∨ (fv Po 301 24).toInt + 1 ≤ (fv Po 301 23).toInt := by omega
    exact mp_iret ⟨⟨_, rfl, u13⟩, rfl⟩ dX7_sign_24 (Or.inl rfl)

set_option maxHeartbeats 4000000 in
theorem c_M_readsSizes_l7 {Po : mP}  (hp0 : (fv Po 301 24).toInt ≤ (fv Po 301 23).toInt)  : ∀ (n : Nat) (v1 : Int32), ∀ (P : mP), Typ P → KW [1112, 1114] Po P → ((fv Po 301 24).toInt ≤ (fv P 301 24).toInt) → ((fv P 301 24).toInt ≤ (fv P 301 23).toInt) → (0 ≤ v1.toInt) → (2147483647 - v1.toInt).toNat = n → MEvP 1 none q_219 7 [(0, .ref 301), (1, .int v1)] [] P 0 0 (fun r P' => (∃ x : Int32, r = some (.int x) ∧ (0 ≤ x.toInt ∧ x.toInt ≤ 1 ∧ ((fv Po 301 24).toInt ≤ (fv P' 301 24).toInt ∧ (fv P' 301 24).toInt ≤ (fv Po 301 23).toInt))) ∧ Typ P' ∧ KW [1112, 1114] Po P' ∧ True) := by
  intro n
  induction n using Nat.strongRecOn with | _ n ih => ?_
  intro v1 P hT hK i_0 i_1 i_2 hm
  have w_v1 := ti_full v1
  have g1 : (0 : Int) ≤ (fv P 301 24).toInt ∧ (fv P 301 24).toInt ≤ 81 := Typ.rng hT rl_301 (by decide) (by decide) rfl
  have g2 : (0 : Int) ≤ (fv P 301 24).toInt ∧ (fv P 301 24).toInt ≤ 81 := Typ.rng hT rl_301 (by decide) (by decide) rfl
  have e3 : (fv P 301 23).toInt = (fv Po 301 23).toInt := congrArg Int32.toInt (KW.at hK 23 rl_301 rfl)
  have g4 : (0 : Int) ≤ (fv P 301 23).toInt ∧ (fv P 301 23).toInt ≤ 80 := Typ.rng hT rl_301 (by decide) (by decide) rfl
  refine mp_a (a_iload_n dX7_readsSizes_7 rfl) (mpp 8 rfl ?_)
  refine mp_a (a_bipush (v := 8) dX7_readsSizes_8 rfl) (mpp 10 rfl ?_)
  refine mp_Tb (t := 62) (j_icmp_ge dX7_readsSizes_10) (by decide) (fun c5 => ?_) (fun c5 => mpp 13 rfl ?_)
  · have c5 : v1.toInt ≥ 8 := ti_ge c5
    refine mp_a (a_iload_n dX7_readsSizes_62 rfl) (mpp 63 rfl ?_)
    refine mp_Tb (t := 70) (j_if_le dX7_readsSizes_63) (by decide) (fun c6 => ?_) (fun c6 => mpp 66 rfl ?_)
    · have c6 : v1.toInt ≤ 0 := ti_le c6
      refine mp_a (a_iconst (v := 0) dX7_readsSizes_70 rfl) (mpp 71 rfl ?_)
      have u7 : 0 ≤ (0 : Int) ∧ (0 : Int) ≤ 1 ∧ ((fv Po 301 24).toInt ≤ (fv P 301 24).toInt ∧ (fv P 301 24).toInt ≤ (fv Po 301 23).toInt) := by omega
      exact mp_iret ⟨⟨_, rfl, u7⟩, hT, hK, trivial⟩ dX7_readsSizes_71 (Or.inr ⟨rfl, by decide⟩)
    · have c6 : v1.toInt > 0 := ti_le_n c6
      refine mp_a (a_iconst (v := 1) dX7_readsSizes_66 rfl) (mpp 67 rfl ?_)
      refine mp_a (a_goto (t := 71) dX7_readsSizes_67 (by decide)) ?_
      have u8 : 0 ≤ (1 : Int) ∧ (1 : Int) ≤ 1 ∧ ((fv Po 301 24).toInt ≤ (fv P 301 24).toInt ∧ (fv P 301 24).toInt ≤ (fv Po 301 23).toInt) := by omega
      exact mp_iret ⟨⟨_, rfl, u8⟩, hT, hK, trivial⟩ dX7_readsSizes_71 (Or.inr ⟨rfl, by decide⟩)
  · have c5 : v1.toInt < 8 := ti_ge_n c5
    refine mp_a (a_aload_n dX7_readsSizes_13 rfl) (mpp 14 rfl ?_)
    refine mt_callv (i := 297) (q' := q_218) (As := []) (rest := []) hT dX7_readsSizes_14 rfl qm_218 (by decide) rfl rl_301 (by decide) rfl (Nat.le_of_ble_eq_true rfl) rfl ⟨rfl, rfl⟩ ⟨Nat.le_of_ble_eq_true rfl, Nat.le_of_ble_eq_true rfl⟩ (EvP.mono (by decide) (c_M_sign hT )) (fun r9 P10 g11 => mpp 17 rfl ?_)
    obtain ⟨⟨x12, rfl, g13⟩, e14⟩ := g11
    have e14 := e14.symm
    subst e14
    have wx12 := ti_full x12
    have g13 : x12.toInt = -1 ∨ (fv P 301 24).toInt + 1 ≤ (fv P 301 23).toInt := g13
    show MEvP _ none q_219 17 [(0, .ref 301), (1, .int v1)] [.int x12] _ _ _ _
    refine mp_a (a_bipush (v := 49) dX7_readsSizes_17 rfl) (mpp 19 rfl ?_)
    refine mp_a (a_bipush (v := 57) dX7_readsSizes_19 rfl) (mpp 21 rfl ?_)
    refine mp_calls (i := 61) (q' := q_127) (As := [.int x12, .int 49, .int 57]) (rest := []) dX7_readsSizes_21 rfl qm_127 (by decide) rfl (Nat.le_of_ble_eq_true rfl) rfl ⟨rfl, rfl⟩ ⟨Nat.le_of_ble_eq_true rfl, Nat.le_of_ble_eq_true rfl⟩ (EvP.mono (by decide) (c_M_isIn hT )) (fun r15 P16 g17 => mpp 24 rfl ?_)
    obtain ⟨⟨x18, rfl, g19⟩, e20⟩ := g17
    have e20 := e20.symm
    subst e20
    have wx18 := ti_full x18
    have g19 : 0 ≤ x18.toInt ∧ x18.toInt ≤ 1 ∧ ((x18.toInt = 1 ∧ (49 : Int) ≤ x12.toInt ∧ x12.toInt ≤ (57 : Int)) ∨ (x18.toInt = 0 ∧ (x12.toInt < (49 : Int) ∨ (57 : Int) < x12.toInt))) := g19
    show MEvP _ none q_219 24 [(0, .ref 301), (1, .int v1)] [.int x18] _ _ _ _
    refine mp_Tb (t := 62) (j_if_eq dX7_readsSizes_24) (by decide) (fun c21 => ?_) (fun c21 => mpp 27 rfl ?_)
    · have c21 : x18.toInt = 0 := ti_eq c21
      refine mp_a (a_iload_n dX7_readsSizes_62 rfl) (mpp 63 rfl ?_)
      refine mp_Tb (t := 70) (j_if_le dX7_readsSizes_63) (by decide) (fun c22 => ?_) (fun c22 => mpp 66 rfl ?_)
      · have c22 : v1.toInt ≤ 0 := ti_le c22
        refine mp_a (a_iconst (v := 0) dX7_readsSizes_70 rfl) (mpp 71 rfl ?_)
        have u23 : 0 ≤ (0 : Int) ∧ (0 : Int) ≤ 1 ∧ ((fv Po 301 24).toInt ≤ (fv P 301 24).toInt ∧ (fv P 301 24).toInt ≤ (fv Po 301 23).toInt) := by omega
        exact mp_iret ⟨⟨_, rfl, u23⟩, hT, hK, trivial⟩ dX7_readsSizes_71 (Or.inr ⟨rfl, by decide⟩)
      · have c22 : v1.toInt > 0 := ti_le_n c22
        refine mp_a (a_iconst (v := 1) dX7_readsSizes_66 rfl) (mpp 67 rfl ?_)
        refine mp_a (a_goto (t := 71) dX7_readsSizes_67 (by decide)) ?_
        have u24 : 0 ≤ (1 : Int) ∧ (1 : Int) ≤ 1 ∧ ((fv Po 301 24).toInt ≤ (fv P 301 24).toInt ∧ (fv P 301 24).toInt ≤ (fv Po 301 23).toInt) := by omega
        exact mp_iret ⟨⟨_, rfl, u24⟩, hT, hK, trivial⟩ dX7_readsSizes_71 (Or.inr ⟨rfl, by decide⟩)
    · have c21 : x18.toInt ≠ 0 := ti_eq_n c21
      refine mp_a (a_aload_n dX7_readsSizes_27 rfl) (mpp 28 rfl ?_)
      refine mp_a (a_bipush (v := 10) dX7_readsSizes_28 rfl) (mpp 30 rfl ?_)
      refine mp_a (a_aload_n dX7_readsSizes_30 rfl) (mpp 31 rfl ?_)
      have g25 := ti_full (fv P 301 26)
      refine mt_getI (i := 300) (k := 26) hT dX7_readsSizes_31 rfl rl_301 (by decide) rfl (by decide) rfl (fun g26 g27 => mpp 34 rfl ?_)
      obtain ⟨z28, h29⟩ := ti_ex (10 * (fv P 301 26) : Int32)
      have wz28 := ti_full z28
      refine mp_t (s_imul (v := z28) dX7_readsSizes_34 h29) (mpp 35 rfl ?_)
      try have e30 : z28.toInt = 10 * (fv P 301 26).toInt := ti_mulz h29 rfl rfl (by omega) (by omega)
      refine mp_a (a_aload_n dX7_readsSizes_35 rfl) (mpp 36 rfl ?_)
      refine mt_callv (i := 297) (q' := q_218) (As := []) (rest := [.int z28, .ref 301]) hT dX7_readsSizes_36 rfl qm_218 (by decide) rfl rl_301 (by decide) rfl (Nat.le_of_ble_eq_true rfl) rfl ⟨rfl, rfl⟩ ⟨Nat.le_of_ble_eq_true rfl, Nat.le_of_ble_eq_true rfl⟩ (EvP.mono (by decide) (c_M_sign hT )) (fun r31 P32 g33 => mpp 39 rfl ?_)
      obtain ⟨⟨x34, rfl, g35⟩, e36⟩ := g33
      have e36 := e36.symm
      subst e36
      have wx34 := ti_full x34
      have g35 : x34.toInt = -1 ∨ (fv P 301 24).toInt + 1 ≤ (fv P 301 23).toInt := g35
      show MEvP _ none q_219 39 [(0, .ref 301), (1, .int v1)] [.int x34, .int z28, .ref 301] _ _ _ _
      obtain ⟨z37, h38⟩ := ti_ex (z28 + x34 : Int32)
      have wz37 := ti_full z37
      refine mp_t (s_iadd (v := z37) dX7_readsSizes_39 h38) (mpp 40 rfl ?_)
      try have e39 : z37.toInt = z28.toInt + x34.toInt := ti_addz h38 rfl rfl (by omega) (by omega)
      refine mp_a (a_bipush (v := 48) dX7_readsSizes_40 rfl) (mpp 42 rfl ?_)
      obtain ⟨z40, h41⟩ := ti_ex (z37 - 48 : Int32)
      have wz40 := ti_full z40
      refine mp_t (s_isub (v := z40) dX7_readsSizes_42 h41) (mpp 43 rfl ?_)
      try have e42 : z40.toInt = z37.toInt - 48 := ti_subz h41 rfl rfl (by omega) (by omega)
      refine mt_putI (i := 300) (k := 26) (x := z40) hT dX7_readsSizes_43 rfl rl_301 (by decide) rfl (by decide) rfl (ti_full z40) rfl rfl (fun P43 hT44 f45 f46 => mpp 46 rfl ?_)
      have k47 : KW [1112, 1114] Po P43 := KW.step hK rl_301 rfl f46
      have e48 : (fv P43 301 26).toInt = z40.toInt := congrArg Int32.toInt f45
      refine mp_a (a_aload_n dX7_readsSizes_46 rfl) (mpp 47 rfl ?_)
      refine mp_t (s_dup dX7_readsSizes_47 rfl) (mpp 48 rfl ?_)
      have e49 : (fv P43 301 24).toInt = (fv P 301 24).toInt := congrArg Int32.toInt (f46 301 24 (ne_k rfl))
      refine mt_getI (i := 294) (k := 24) hT44 dX7_readsSizes_48 rfl rl_301 (by decide) rfl (by decide) rfl (fun g50 g51 => mpp 51 rfl ?_)
      refine mp_a (a_iconst (v := 1) dX7_readsSizes_51 rfl) (mpp 52 rfl ?_)
      obtain ⟨z52, h53⟩ := ti_ex ((fv P43 301 24) + 1 : Int32)
      have wz52 := ti_full z52
      refine mp_t (s_iadd (v := z52) dX7_readsSizes_52 h53) (mpp 53 rfl ?_)
      try have e54 : z52.toInt = (fv P43 301 24).toInt + 1 := ti_addz h53 rfl rfl (by omega) (by omega)
      refine mt_putI (i := 294) (k := 24) (x := z52) hT44 dX7_readsSizes_53 rfl rl_301 (by decide) rfl (by decide) rfl ⟨by omega, by omega⟩ rfl rfl (fun P55 hT56 f57 f58 => mpp 56 rfl ?_)
      have k59 : KW [1112, 1114] Po P55 := KW.step k47 rl_301 rfl f58
      have e60 : (fv P55 301 24).toInt = z52.toInt := congrArg Int32.toInt f57
      obtain ⟨z61, h62⟩ := ti_ex (v1 + 1 : Int32)
      have wz61 := ti_full z61
      refine mp_a (a_iinc (v := z61) (L' := [(1, .int z61), (0, .ref 301)]) dX7_readsSizes_56 (by decide) rfl h62 rfl) (mpp 59 rfl ?_)
      try have e63 : z61.toInt = v1.toInt + 1 := ti_addz h62 rfl rfl (by omega) (by omega)
      refine mp_a (a_goto (t := 7) dX7_readsSizes_59 (by decide)) ?_
      refine MEvP.less (L := [(0, .ref 301), (1, .int z61)]) rfl rfl ⟨rfl, rfl, trivial⟩ ?_
      have i64 : (fv Po 301 24).toInt ≤ (fv P55 301 24).toInt := by omega
      have e65 : (fv P55 301 23).toInt = (fv P 301 23).toInt := congrArg Int32.toInt ((f58 301 23 (ne_k rfl)).trans (f46 301 23 (ne_k rfl)))
      have i66 : (fv P55 301 24).toInt ≤ (fv P55 301 23).toInt := by omega
      have i67 : 0 ≤ z61.toInt := by omega
      exact ih _ (by omega) _ P55 hT56 k59 i64 i66 i67 rfl

set_option maxHeartbeats 4000000 in
theorem c_M_readsSizes {Po : mP}  (hT : Typ Po)  (hp0 : (fv Po 301 24).toInt ≤ (fv Po 301 23).toInt)  : EvP 2 219 [.ref 301] Po (fun r P' => (∃ x : Int32, r = some (.int x) ∧ (0 ≤ x.toInt ∧ x.toInt ≤ 1 ∧ ((fv Po 301 24).toInt ≤ (fv P' 301 24).toInt ∧ (fv P' 301 24).toInt ≤ (fv Po 301 23).toInt))) ∧ Typ P' ∧ KW [1112, 1114] Po P' ∧ True) := by
  refine EvP.of qm_219 (Nat.le_of_ble_eq_true rfl) rfl ?_
  show MEvP _ none q_219 0 [(0, .ref 301)] [] _ 0 0 _
  have g1 : (0 : Int) ≤ (fv Po 301 24).toInt ∧ (fv Po 301 24).toInt ≤ 81 := Typ.rng hT rl_301 (by decide) (by decide) rfl
  have g2 : (0 : Int) ≤ (fv Po 301 23).toInt ∧ (fv Po 301 23).toInt ≤ 80 := Typ.rng hT rl_301 (by decide) (by decide) rfl
  refine mp_a (a_aload_n dX7_readsSizes_0 rfl) (mpp 1 rfl ?_)
  refine mp_a (a_iconst (v := 0) dX7_readsSizes_1 rfl) (mpp 2 rfl ?_)
  refine mt_putI (i := 300) (k := 26) (x := 0) hT dX7_readsSizes_2 rfl rl_301 (by decide) rfl (by decide) rfl (by decide) rfl rfl (fun P3 hT4 f5 f6 => mpp 5 rfl ?_)
  have k7 : KW [1112, 1114] Po P3 := KW.step KW.refl rl_301 rfl f6
  have e8 : (fv P3 301 26).toInt = 0 := congrArg Int32.toInt f5
  refine mp_a (a_iconst (v := 0) dX7_readsSizes_5 rfl) (mpp 6 rfl ?_)
  refine mp_a (a_istore_n (L' := [(1, .int 0), (0, .ref 301)]) dX7_readsSizes_6 (by decide) rfl) (mpp 7 rfl ?_)
  refine MEvP.less (L := [(0, .ref 301), (1, .int 0)]) rfl rfl ⟨rfl, rfl, trivial⟩ ?_
  have e9 : (fv P3 301 24).toInt = (fv Po 301 24).toInt := congrArg Int32.toInt (f6 301 24 (ne_k rfl))
  have i10 : (fv Po 301 24).toInt ≤ (fv P3 301 24).toInt := by omega
  have e11 : (fv P3 301 23).toInt = (fv Po 301 23).toInt := congrArg Int32.toInt (f6 301 23 (ne_k rfl))
  have i12 : (fv P3 301 24).toInt ≤ (fv P3 301 23).toInt := by omega
  have i13 : 0 ≤ (0 : Int) := by omega
  exact c_M_readsSizes_l7  hp0 _ _ P3 hT4 k7 i10 i12 i13 rfl

set_option maxHeartbeats 4000000 in
theorem c_M_takes {Po : mP} {t1 : Int32} (hT : Typ Po)  (hp0 : 0 ≤ t1.toInt)  : EvP 2 220 [.ref 301, .int t1] Po (fun r P' => (∃ x : Int32, r = some (.int x) ∧ (0 ≤ x.toInt ∧ x.toInt ≤ 1 ∧ ((x.toInt = 1 ∧ (fv P' 301 24).toInt = (fv Po 301 24).toInt + 1 ∧ (fv P' 301 24).toInt ≤ (fv Po 301 23).toInt) ∨ (x.toInt = 0 ∧ (fv P' 301 24).toInt = (fv Po 301 24).toInt)))) ∧ Typ P' ∧ KW [1112] Po P' ∧ True) := by
  refine EvP.of qm_220 (Nat.le_of_ble_eq_true rfl) rfl ?_
  show MEvP _ none q_220 0 [(0, .ref 301), (1, .int t1)] [] _ 0 0 _
  have g1 : (0 : Int) ≤ (fv Po 301 24).toInt ∧ (fv Po 301 24).toInt ≤ 81 := Typ.rng hT rl_301 (by decide) (by decide) rfl
  have g2 : (0 : Int) ≤ (fv Po 301 23).toInt ∧ (fv Po 301 23).toInt ≤ 80 := Typ.rng hT rl_301 (by decide) (by decide) rfl
  refine mp_a (a_aload_n dX7_takes_0 rfl) (mpp 1 rfl ?_)
  refine mt_callv (i := 297) (q' := q_218) (As := []) (rest := []) hT dX7_takes_1 rfl qm_218 (by decide) rfl rl_301 (by decide) rfl (Nat.le_of_ble_eq_true rfl) rfl ⟨rfl, rfl⟩ ⟨Nat.le_of_ble_eq_true rfl, Nat.le_of_ble_eq_true rfl⟩ (EvP.mono (by decide) (c_M_sign hT )) (fun r3 P4 g5 => mpp 4 rfl ?_)
  obtain ⟨⟨x6, rfl, g7⟩, e8⟩ := g5
  have e8 := e8.symm
  subst e8
  have wx6 := ti_full x6
  have g7 : x6.toInt = -1 ∨ (fv Po 301 24).toInt + 1 ≤ (fv Po 301 23).toInt := g7
  show MEvP _ none q_220 4 [(0, .ref 301), (1, .int t1)] [.int x6] _ _ _ _
  refine mp_a (a_iload_n dX7_takes_4 rfl) (mpp 5 rfl ?_)
  refine mp_Tb (t := 12) (j_icmp_ne dX7_takes_5) (by decide) (fun c9 => ?_) (fun c9 => mpp 8 rfl ?_)
  · have c9 : x6.toInt ≠ t1.toInt := ti_ne c9
    refine mp_a (a_iconst (v := 0) dX7_takes_12 rfl) (mpp 13 rfl ?_)
    refine mp_a (a_istore_n (L' := [(2, .int 0), (0, .ref 301), (1, .int t1)]) dX7_takes_13 (by decide) rfl) (mpp 14 rfl ?_)
    refine mp_a (a_aload_n dX7_takes_14 rfl) (mpp 15 rfl ?_)
    refine mp_t (s_dup dX7_takes_15 rfl) (mpp 16 rfl ?_)
    refine mt_getI (i := 294) (k := 24) hT dX7_takes_16 rfl rl_301 (by decide) rfl (by decide) rfl (fun g10 g11 => mpp 19 rfl ?_)
    refine mp_a (a_iload_n dX7_takes_19 rfl) (mpp 20 rfl ?_)
    refine mp_Tt (t := 27) (j_if_eq dX7_takes_20) (by decide) (by decide) ?_
    refine mp_a (a_iconst (v := 0) dX7_takes_27 rfl) (mpp 28 rfl ?_)
    obtain ⟨z12, h13⟩ := ti_ex ((fv Po 301 24) + 0 : Int32)
    have wz12 := ti_full z12
    refine mp_t (s_iadd (v := z12) dX7_takes_28 h13) (mpp 29 rfl ?_)
    try have e14 : z12.toInt = (fv Po 301 24).toInt + 0 := ti_addz h13 rfl rfl (by omega) (by omega)
    refine mt_putI (i := 294) (k := 24) (x := z12) hT dX7_takes_29 rfl rl_301 (by decide) rfl (by decide) rfl ⟨by omega, by omega⟩ rfl rfl (fun P15 hT16 f17 f18 => mpp 32 rfl ?_)
    have k19 : KW [1112] Po P15 := KW.step KW.refl rl_301 rfl f18
    have e20 : (fv P15 301 24).toInt = z12.toInt := congrArg Int32.toInt f17
    refine mp_a (a_iload_n dX7_takes_32 rfl) (mpp 33 rfl ?_)
    have u21 : 0 ≤ (0 : Int) ∧ (0 : Int) ≤ 1 ∧ (((0 : Int) = 1 ∧ (fv P15 301 24).toInt = (fv Po 301 24).toInt + 1 ∧ (fv P15 301 24).toInt ≤ (fv Po 301 23).toInt) ∨ ((0 : Int) = 0 ∧ (fv P15 301 24).toInt = (fv Po 301 24).toInt)) := by omega
    exact mp_iret ⟨⟨_, rfl, u21⟩, hT16, k19, trivial⟩ dX7_takes_33 (Or.inr ⟨rfl, by decide⟩)
  · have c9 : x6.toInt = t1.toInt := ti_ne_n c9
    refine mp_a (a_iconst (v := 1) dX7_takes_8 rfl) (mpp 9 rfl ?_)
    refine mp_a (a_goto (t := 13) dX7_takes_9 (by decide)) ?_
    refine mp_a (a_istore_n (L' := [(2, .int 1), (0, .ref 301), (1, .int t1)]) dX7_takes_13 (by decide) rfl) (mpp 14 rfl ?_)
    refine mp_a (a_aload_n dX7_takes_14 rfl) (mpp 15 rfl ?_)
    refine mp_t (s_dup dX7_takes_15 rfl) (mpp 16 rfl ?_)
    refine mt_getI (i := 294) (k := 24) hT dX7_takes_16 rfl rl_301 (by decide) rfl (by decide) rfl (fun g22 g23 => mpp 19 rfl ?_)
    refine mp_a (a_iload_n dX7_takes_19 rfl) (mpp 20 rfl ?_)
    refine mp_Tf (t := 27) (j_if_eq dX7_takes_20) (by decide) (by decide) (mpp 23 rfl ?_)
    refine mp_a (a_iconst (v := 1) dX7_takes_23 rfl) (mpp 24 rfl ?_)
    refine mp_a (a_goto (t := 28) dX7_takes_24 (by decide)) ?_
    obtain ⟨z24, h25⟩ := ti_ex ((fv Po 301 24) + 1 : Int32)
    have wz24 := ti_full z24
    refine mp_t (s_iadd (v := z24) dX7_takes_28 h25) (mpp 29 rfl ?_)
    try have e26 : z24.toInt = (fv Po 301 24).toInt + 1 := ti_addz h25 rfl rfl (by omega) (by omega)
    refine mt_putI (i := 294) (k := 24) (x := z24) hT dX7_takes_29 rfl rl_301 (by decide) rfl (by decide) rfl ⟨by omega, by omega⟩ rfl rfl (fun P27 hT28 f29 f30 => mpp 32 rfl ?_)
    have k31 : KW [1112] Po P27 := KW.step KW.refl rl_301 rfl f30
    have e32 : (fv P27 301 24).toInt = z24.toInt := congrArg Int32.toInt f29
    refine mp_a (a_iload_n dX7_takes_32 rfl) (mpp 33 rfl ?_)
    have u33 : 0 ≤ (1 : Int) ∧ (1 : Int) ≤ 1 ∧ (((1 : Int) = 1 ∧ (fv P27 301 24).toInt = (fv Po 301 24).toInt + 1 ∧ (fv P27 301 24).toInt ≤ (fv Po 301 23).toInt) ∨ ((1 : Int) = 0 ∧ (fv P27 301 24).toInt = (fv Po 301 24).toInt)) := by omega
    exact mp_iret ⟨⟨_, rfl, u33⟩, hT28, k31, trivial⟩ dX7_takes_33 (Or.inr ⟨rfl, by decide⟩)

set_option maxHeartbeats 4000000 in
theorem c_M_kindOf {Po : mP} {t0 : Int32} (hT : Typ Po)   : EvP 1 222 [.int t0] Po (fun r P' => (∃ x : Int32, r = some (.int x) ∧ (x.toInt = -1 ∨ 1 ≤ t0.toInt)) ∧ P' = Po) := by
  refine EvP.of qm_222 (Nat.le_of_ble_eq_true rfl) rfl ?_
  show MEvP _ none q_222 0 [(0, .int t0)] [] _ 0 0 _
  refine mp_a (a_iload_n dX7_kindOf_0 rfl) (mpp 1 rfl ?_)
  refine mp_a (a_bipush (v := 111) dX7_kindOf_1 rfl) (mpp 3 rfl ?_)
  refine mp_Tb (t := 10) (j_icmp_ne dX7_kindOf_3) (by decide) (fun c1 => ?_) (fun c1 => mpp 6 rfl ?_)
  · have c1 : t0.toInt ≠ 111 := ti_ne c1
    refine mp_a (a_iload_n dX7_kindOf_10 rfl) (mpp 11 rfl ?_)
    refine mp_a (a_bipush (v := 109) dX7_kindOf_11 rfl) (mpp 13 rfl ?_)
    refine mp_Tb (t := 20) (j_icmp_ne dX7_kindOf_13) (by decide) (fun c2 => ?_) (fun c2 => mpp 16 rfl ?_)
    · have c2 : t0.toInt ≠ 109 := ti_ne c2
      refine mp_a (a_iload_n dX7_kindOf_20 rfl) (mpp 21 rfl ?_)
      refine mp_a (a_bipush (v := 118) dX7_kindOf_21 rfl) (mpp 23 rfl ?_)
      refine mp_Tb (t := 30) (j_icmp_ne dX7_kindOf_23) (by decide) (fun c3 => ?_) (fun c3 => mpp 26 rfl ?_)
      · have c3 : t0.toInt ≠ 118 := ti_ne c3
        refine mp_a (a_iconst (v := -1) dX7_kindOf_30 rfl) (mpp 31 rfl ?_)
        have u4 : (-1 : Int) = -1 ∨ 1 ≤ t0.toInt := by omega
        exact mp_iret ⟨⟨_, rfl, u4⟩, rfl⟩ dX7_kindOf_31 (Or.inl rfl)
      · have c3 : t0.toInt = 118 := ti_ne_n c3
        refine mp_a (a_iconst (v := 2) dX7_kindOf_26 rfl) (mpp 27 rfl ?_)
        refine mp_a (a_goto (t := 31) dX7_kindOf_27 (by decide)) ?_
        have u5 : (2 : Int) = -1 ∨ 1 ≤ t0.toInt := by omega
        exact mp_iret ⟨⟨_, rfl, u5⟩, rfl⟩ dX7_kindOf_31 (Or.inl rfl)
    · have c2 : t0.toInt = 109 := ti_ne_n c2
      refine mp_a (a_iconst (v := 1) dX7_kindOf_16 rfl) (mpp 17 rfl ?_)
      refine mp_a (a_goto (t := 31) dX7_kindOf_17 (by decide)) ?_
      have u6 : (1 : Int) = -1 ∨ 1 ≤ t0.toInt := by omega
      exact mp_iret ⟨⟨_, rfl, u6⟩, rfl⟩ dX7_kindOf_31 (Or.inl rfl)
  · have c1 : t0.toInt = 111 := ti_ne_n c1
    refine mp_a (a_iconst (v := 0) dX7_kindOf_6 rfl) (mpp 7 rfl ?_)
    refine mp_a (a_goto (t := 31) dX7_kindOf_7 (by decide)) ?_
    have u7 : (0 : Int) = -1 ∨ 1 ≤ t0.toInt := by omega
    exact mp_iret ⟨⟨_, rfl, u7⟩, rfl⟩ dX7_kindOf_31 (Or.inl rfl)

set_option maxHeartbeats 4000000 in
theorem c_M_readsSigns_l10 {Po : mP}  (hp0 : (fv Po 301 24).toInt ≤ (fv Po 301 23).toInt)  : ∀ (n : Nat), ∀ (P : mP), Typ P → KW [1112, 1115, 1116] Po P → ((fv Po 301 24).toInt ≤ (fv P 301 24).toInt) → ((fv P 301 24).toInt ≤ (fv P 301 23).toInt) → (8 - (fv P 301 28).toInt).toNat = n → MEvP 1 none q_221 10 [(0, .ref 301)] [] P 0 0 (fun r P' => (∃ x : Int32, r = some (.int x) ∧ (0 ≤ x.toInt ∧ x.toInt ≤ 1 ∧ ((fv Po 301 24).toInt ≤ (fv P' 301 24).toInt ∧ (fv P' 301 24).toInt ≤ (fv Po 301 23).toInt))) ∧ Typ P' ∧ KW [1112, 1115, 1116] Po P' ∧ True) := by
  intro n
  induction n using Nat.strongRecOn with | _ n ih => ?_
  intro  P hT hK i_0 i_1 hm
  have g1 : (0 : Int) ≤ (fv P 301 24).toInt ∧ (fv P 301 24).toInt ≤ 81 := Typ.rng hT rl_301 (by decide) (by decide) rfl
  have g2 : (0 : Int) ≤ (fv P 301 24).toInt ∧ (fv P 301 24).toInt ≤ 81 := Typ.rng hT rl_301 (by decide) (by decide) rfl
  have e3 : (fv P 301 23).toInt = (fv Po 301 23).toInt := congrArg Int32.toInt (KW.at hK 23 rl_301 rfl)
  have g4 : (0 : Int) ≤ (fv P 301 23).toInt ∧ (fv P 301 23).toInt ≤ 80 := Typ.rng hT rl_301 (by decide) (by decide) rfl
  have g5 := ti_full (fv P 301 28)
  have g6 := ti_full (fv P 301 28)
  refine mp_a (a_aload_n dX7_readsSigns_10 rfl) (mpp 11 rfl ?_)
  refine mt_getI (i := 306) (k := 28) hT dX7_readsSigns_11 rfl rl_301 (by decide) rfl (by decide) rfl (fun g7 g8 => mpp 14 rfl ?_)
  refine mp_a (a_bipush (v := 8) dX7_readsSigns_14 rfl) (mpp 16 rfl ?_)
  refine mp_Tb (t := 71) (j_icmp_ge dX7_readsSigns_16) (by decide) (fun c9 => ?_) (fun c9 => mpp 19 rfl ?_)
  · have c9 : (fv P 301 28).toInt ≥ 8 := ti_ge c9
    refine mp_a (a_aload_n dX7_readsSigns_71 rfl) (mpp 72 rfl ?_)
    refine mt_getI (i := 306) (k := 28) hT dX7_readsSigns_72 rfl rl_301 (by decide) rfl (by decide) rfl (fun g10 g11 => mpp 75 rfl ?_)
    refine mp_Tb (t := 82) (j_if_le dX7_readsSigns_75) (by decide) (fun c12 => ?_) (fun c12 => mpp 78 rfl ?_)
    · have c12 : (fv P 301 28).toInt ≤ 0 := ti_le c12
      refine mp_a (a_iconst (v := 0) dX7_readsSigns_82 rfl) (mpp 83 rfl ?_)
      have u13 : 0 ≤ (0 : Int) ∧ (0 : Int) ≤ 1 ∧ ((fv Po 301 24).toInt ≤ (fv P 301 24).toInt ∧ (fv P 301 24).toInt ≤ (fv Po 301 23).toInt) := by omega
      exact mp_iret ⟨⟨_, rfl, u13⟩, hT, hK, trivial⟩ dX7_readsSigns_83 (Or.inr ⟨rfl, by decide⟩)
    · have c12 : (fv P 301 28).toInt > 0 := ti_le_n c12
      refine mp_a (a_iconst (v := 1) dX7_readsSigns_78 rfl) (mpp 79 rfl ?_)
      refine mp_a (a_goto (t := 83) dX7_readsSigns_79 (by decide)) ?_
      have u14 : 0 ≤ (1 : Int) ∧ (1 : Int) ≤ 1 ∧ ((fv Po 301 24).toInt ≤ (fv P 301 24).toInt ∧ (fv P 301 24).toInt ≤ (fv Po 301 23).toInt) := by omega
      exact mp_iret ⟨⟨_, rfl, u14⟩, hT, hK, trivial⟩ dX7_readsSigns_83 (Or.inr ⟨rfl, by decide⟩)
  · have c9 : (fv P 301 28).toInt < 8 := ti_ge_n c9
    refine mp_a (a_aload_n dX7_readsSigns_19 rfl) (mpp 20 rfl ?_)
    refine mt_callv (i := 297) (q' := q_218) (As := []) (rest := []) hT dX7_readsSigns_20 rfl qm_218 (by decide) rfl rl_301 (by decide) rfl (Nat.le_of_ble_eq_true rfl) rfl ⟨rfl, rfl⟩ ⟨Nat.le_of_ble_eq_true rfl, Nat.le_of_ble_eq_true rfl⟩ (EvP.mono (by decide) (c_M_sign hT )) (fun r15 P16 g17 => mpp 23 rfl ?_)
    obtain ⟨⟨x18, rfl, g19⟩, e20⟩ := g17
    have e20 := e20.symm
    subst e20
    have wx18 := ti_full x18
    have g19 : x18.toInt = -1 ∨ (fv P 301 24).toInt + 1 ≤ (fv P 301 23).toInt := g19
    show MEvP _ none q_221 23 [(0, .ref 301)] [.int x18] _ _ _ _
    refine mp_calls (i := 309) (q' := q_222) (As := [.int x18]) (rest := []) dX7_readsSigns_23 rfl qm_222 (by decide) rfl (Nat.le_of_ble_eq_true rfl) rfl ⟨rfl, rfl⟩ ⟨Nat.le_of_ble_eq_true rfl, Nat.le_of_ble_eq_true rfl⟩ (EvP.mono (by decide) (c_M_kindOf hT )) (fun r21 P22 g23 => mpp 26 rfl ?_)
    obtain ⟨⟨x24, rfl, g25⟩, e26⟩ := g23
    have e26 := e26.symm
    subst e26
    have wx24 := ti_full x24
    have g25 : x24.toInt = -1 ∨ 1 ≤ x18.toInt := g25
    show MEvP _ none q_221 26 [(0, .ref 301)] [.int x24] _ _ _ _
    refine mp_Tb (t := 71) (j_if_lt dX7_readsSigns_26) (by decide) (fun c27 => ?_) (fun c27 => mpp 29 rfl ?_)
    · have c27 : x24.toInt < 0 := ti_lt c27
      refine mp_a (a_aload_n dX7_readsSigns_71 rfl) (mpp 72 rfl ?_)
      refine mt_getI (i := 306) (k := 28) hT dX7_readsSigns_72 rfl rl_301 (by decide) rfl (by decide) rfl (fun g28 g29 => mpp 75 rfl ?_)
      refine mp_Tb (t := 82) (j_if_le dX7_readsSigns_75) (by decide) (fun c30 => ?_) (fun c30 => mpp 78 rfl ?_)
      · have c30 : (fv P 301 28).toInt ≤ 0 := ti_le c30
        refine mp_a (a_iconst (v := 0) dX7_readsSigns_82 rfl) (mpp 83 rfl ?_)
        have u31 : 0 ≤ (0 : Int) ∧ (0 : Int) ≤ 1 ∧ ((fv Po 301 24).toInt ≤ (fv P 301 24).toInt ∧ (fv P 301 24).toInt ≤ (fv Po 301 23).toInt) := by omega
        exact mp_iret ⟨⟨_, rfl, u31⟩, hT, hK, trivial⟩ dX7_readsSigns_83 (Or.inr ⟨rfl, by decide⟩)
      · have c30 : (fv P 301 28).toInt > 0 := ti_le_n c30
        refine mp_a (a_iconst (v := 1) dX7_readsSigns_78 rfl) (mpp 79 rfl ?_)
        refine mp_a (a_goto (t := 83) dX7_readsSigns_79 (by decide)) ?_
        have u32 : 0 ≤ (1 : Int) ∧ (1 : Int) ≤ 1 ∧ ((fv Po 301 24).toInt ≤ (fv P 301 24).toInt ∧ (fv P 301 24).toInt ≤ (fv Po 301 23).toInt) := by omega
        exact mp_iret ⟨⟨_, rfl, u32⟩, hT, hK, trivial⟩ dX7_readsSigns_83 (Or.inr ⟨rfl, by decide⟩)
    · have c27 : x24.toInt ≥ 0 := ti_lt_n c27
      refine mp_a (a_aload_n dX7_readsSigns_29 rfl) (mpp 30 rfl ?_)
      refine mp_a (a_bipush (v := 10) dX7_readsSigns_30 rfl) (mpp 32 rfl ?_)
      refine mp_a (a_aload_n dX7_readsSigns_32 rfl) (mpp 33 rfl ?_)
      have g33 := ti_full (fv P 301 27)
      refine mt_getI (i := 303) (k := 27) hT dX7_readsSigns_33 rfl rl_301 (by decide) rfl (by decide) rfl (fun g34 g35 => mpp 36 rfl ?_)
      obtain ⟨z36, h37⟩ := ti_ex (10 * (fv P 301 27) : Int32)
      have wz36 := ti_full z36
      refine mp_t (s_imul (v := z36) dX7_readsSigns_36 h37) (mpp 37 rfl ?_)
      try have e38 : z36.toInt = 10 * (fv P 301 27).toInt := ti_mulz h37 rfl rfl (by omega) (by omega)
      refine mp_a (a_aload_n dX7_readsSigns_37 rfl) (mpp 38 rfl ?_)
      refine mt_callv (i := 297) (q' := q_218) (As := []) (rest := [.int z36, .ref 301]) hT dX7_readsSigns_38 rfl qm_218 (by decide) rfl rl_301 (by decide) rfl (Nat.le_of_ble_eq_true rfl) rfl ⟨rfl, rfl⟩ ⟨Nat.le_of_ble_eq_true rfl, Nat.le_of_ble_eq_true rfl⟩ (EvP.mono (by decide) (c_M_sign hT )) (fun r39 P40 g41 => mpp 41 rfl ?_)
      obtain ⟨⟨x42, rfl, g43⟩, e44⟩ := g41
      have e44 := e44.symm
      subst e44
      have wx42 := ti_full x42
      have g43 : x42.toInt = -1 ∨ (fv P 301 24).toInt + 1 ≤ (fv P 301 23).toInt := g43
      show MEvP _ none q_221 41 [(0, .ref 301)] [.int x42, .int z36, .ref 301] _ _ _ _
      refine mp_calls (i := 309) (q' := q_222) (As := [.int x42]) (rest := [.int z36, .ref 301]) dX7_readsSigns_41 rfl qm_222 (by decide) rfl (Nat.le_of_ble_eq_true rfl) rfl ⟨rfl, rfl⟩ ⟨Nat.le_of_ble_eq_true rfl, Nat.le_of_ble_eq_true rfl⟩ (EvP.mono (by decide) (c_M_kindOf hT )) (fun r45 P46 g47 => mpp 44 rfl ?_)
      obtain ⟨⟨x48, rfl, g49⟩, e50⟩ := g47
      have e50 := e50.symm
      subst e50
      have wx48 := ti_full x48
      have g49 : x48.toInt = -1 ∨ 1 ≤ x42.toInt := g49
      show MEvP _ none q_221 44 [(0, .ref 301)] [.int x48, .int z36, .ref 301] _ _ _ _
      obtain ⟨z51, h52⟩ := ti_ex (z36 + x48 : Int32)
      have wz51 := ti_full z51
      refine mp_t (s_iadd (v := z51) dX7_readsSigns_44 h52) (mpp 45 rfl ?_)
      try have e53 : z51.toInt = z36.toInt + x48.toInt := ti_addz h52 rfl rfl (by omega) (by omega)
      refine mt_putI (i := 303) (k := 27) (x := z51) hT dX7_readsSigns_45 rfl rl_301 (by decide) rfl (by decide) rfl (ti_full z51) rfl rfl (fun P54 hT55 f56 f57 => mpp 48 rfl ?_)
      have k58 : KW [1112, 1115, 1116] Po P54 := KW.step hK rl_301 rfl f57
      have e59 : (fv P54 301 27).toInt = z51.toInt := congrArg Int32.toInt f56
      refine mp_a (a_aload_n dX7_readsSigns_48 rfl) (mpp 49 rfl ?_)
      refine mp_t (s_dup dX7_readsSigns_49 rfl) (mpp 50 rfl ?_)
      have e60 : (fv P54 301 24).toInt = (fv P 301 24).toInt := congrArg Int32.toInt (f57 301 24 (ne_k rfl))
      refine mt_getI (i := 294) (k := 24) hT55 dX7_readsSigns_50 rfl rl_301 (by decide) rfl (by decide) rfl (fun g61 g62 => mpp 53 rfl ?_)
      refine mp_a (a_iconst (v := 1) dX7_readsSigns_53 rfl) (mpp 54 rfl ?_)
      obtain ⟨z63, h64⟩ := ti_ex ((fv P54 301 24) + 1 : Int32)
      have wz63 := ti_full z63
      refine mp_t (s_iadd (v := z63) dX7_readsSigns_54 h64) (mpp 55 rfl ?_)
      try have e65 : z63.toInt = (fv P54 301 24).toInt + 1 := ti_addz h64 rfl rfl (by omega) (by omega)
      refine mt_putI (i := 294) (k := 24) (x := z63) hT55 dX7_readsSigns_55 rfl rl_301 (by decide) rfl (by decide) rfl ⟨by omega, by omega⟩ rfl rfl (fun P66 hT67 f68 f69 => mpp 58 rfl ?_)
      have k70 : KW [1112, 1115, 1116] Po P66 := KW.step k58 rl_301 rfl f69
      have e71 : (fv P66 301 24).toInt = z63.toInt := congrArg Int32.toInt f68
      refine mp_a (a_aload_n dX7_readsSigns_58 rfl) (mpp 59 rfl ?_)
      refine mp_t (s_dup dX7_readsSigns_59 rfl) (mpp 60 rfl ?_)
      have e72 : (fv P66 301 28).toInt = (fv P 301 28).toInt := congrArg Int32.toInt ((f69 301 28 (ne_k rfl)).trans (f57 301 28 (ne_k rfl)))
      refine mt_getI (i := 306) (k := 28) hT67 dX7_readsSigns_60 rfl rl_301 (by decide) rfl (by decide) rfl (fun g73 g74 => mpp 63 rfl ?_)
      refine mp_a (a_iconst (v := 1) dX7_readsSigns_63 rfl) (mpp 64 rfl ?_)
      obtain ⟨z75, h76⟩ := ti_ex ((fv P66 301 28) + 1 : Int32)
      have wz75 := ti_full z75
      refine mp_t (s_iadd (v := z75) dX7_readsSigns_64 h76) (mpp 65 rfl ?_)
      try have e77 : z75.toInt = (fv P66 301 28).toInt + 1 := ti_addz h76 rfl rfl (by omega) (by omega)
      refine mt_putI (i := 306) (k := 28) (x := z75) hT67 dX7_readsSigns_65 rfl rl_301 (by decide) rfl (by decide) rfl (ti_full z75) rfl rfl (fun P78 hT79 f80 f81 => mpp 68 rfl ?_)
      have k82 : KW [1112, 1115, 1116] Po P78 := KW.step k70 rl_301 rfl f81
      have e83 : (fv P78 301 28).toInt = z75.toInt := congrArg Int32.toInt f80
      refine mp_a (a_goto (t := 10) dX7_readsSigns_68 (by decide)) ?_
      have e84 : (fv P78 301 24).toInt = (fv P66 301 24).toInt := congrArg Int32.toInt (f81 301 24 (ne_k rfl))
      have i85 : (fv Po 301 24).toInt ≤ (fv P78 301 24).toInt := by omega
      have e86 : (fv P78 301 23).toInt = (fv P 301 23).toInt := congrArg Int32.toInt ((f81 301 23 (ne_k rfl)).trans ((f69 301 23 (ne_k rfl)).trans (f57 301 23 (ne_k rfl))))
      have i87 : (fv P78 301 24).toInt ≤ (fv P78 301 23).toInt := by omega
      exact ih _ (by omega)  P78 hT79 k82 i85 i87 rfl

set_option maxHeartbeats 4000000 in
theorem c_M_readsSigns {Po : mP}  (hT : Typ Po)  (hp0 : (fv Po 301 24).toInt ≤ (fv Po 301 23).toInt)  : EvP 2 221 [.ref 301] Po (fun r P' => (∃ x : Int32, r = some (.int x) ∧ (0 ≤ x.toInt ∧ x.toInt ≤ 1 ∧ ((fv Po 301 24).toInt ≤ (fv P' 301 24).toInt ∧ (fv P' 301 24).toInt ≤ (fv Po 301 23).toInt))) ∧ Typ P' ∧ KW [1112, 1115, 1116] Po P' ∧ True) := by
  refine EvP.of qm_221 (Nat.le_of_ble_eq_true rfl) rfl ?_
  show MEvP _ none q_221 0 [(0, .ref 301)] [] _ 0 0 _
  have g1 : (0 : Int) ≤ (fv Po 301 24).toInt ∧ (fv Po 301 24).toInt ≤ 81 := Typ.rng hT rl_301 (by decide) (by decide) rfl
  have g2 : (0 : Int) ≤ (fv Po 301 23).toInt ∧ (fv Po 301 23).toInt ≤ 80 := Typ.rng hT rl_301 (by decide) (by decide) rfl
  refine mp_a (a_aload_n dX7_readsSigns_0 rfl) (mpp 1 rfl ?_)
  refine mp_a (a_iconst (v := 0) dX7_readsSigns_1 rfl) (mpp 2 rfl ?_)
  refine mt_putI (i := 303) (k := 27) (x := 0) hT dX7_readsSigns_2 rfl rl_301 (by decide) rfl (by decide) rfl (by decide) rfl rfl (fun P3 hT4 f5 f6 => mpp 5 rfl ?_)
  have k7 : KW [1112, 1115, 1116] Po P3 := KW.step KW.refl rl_301 rfl f6
  have e8 : (fv P3 301 27).toInt = 0 := congrArg Int32.toInt f5
  refine mp_a (a_aload_n dX7_readsSigns_5 rfl) (mpp 6 rfl ?_)
  refine mp_a (a_iconst (v := 0) dX7_readsSigns_6 rfl) (mpp 7 rfl ?_)
  refine mt_putI (i := 306) (k := 28) (x := 0) hT4 dX7_readsSigns_7 rfl rl_301 (by decide) rfl (by decide) rfl (by decide) rfl rfl (fun P9 hT10 f11 f12 => mpp 10 rfl ?_)
  have k13 : KW [1112, 1115, 1116] Po P9 := KW.step k7 rl_301 rfl f12
  have e14 : (fv P9 301 28).toInt = 0 := congrArg Int32.toInt f11
  have e15 : (fv P9 301 24).toInt = (fv Po 301 24).toInt := congrArg Int32.toInt ((f12 301 24 (ne_k rfl)).trans (f6 301 24 (ne_k rfl)))
  have i16 : (fv Po 301 24).toInt ≤ (fv P9 301 24).toInt := by omega
  have e17 : (fv P9 301 23).toInt = (fv Po 301 23).toInt := congrArg Int32.toInt ((f12 301 23 (ne_k rfl)).trans (f6 301 23 (ne_k rfl)))
  have i18 : (fv P9 301 24).toInt ≤ (fv P9 301 23).toInt := by omega
  exact c_M_readsSigns_l10  hp0 _  P9 hT10 k13 i16 i18 rfl

set_option maxHeartbeats 4000000 in
theorem c_M_digit {Po : mP}  (hT : Typ Po)  (hp0 : (fv Po 301 24).toInt ≤ (fv Po 301 23).toInt)  : EvP 2 223 [.ref 301] Po (fun r P' => (∃ x : Int32, r = some (.int x) ∧ ((fv Po 301 24).toInt ≤ (fv P' 301 24).toInt ∧ (fv P' 301 24).toInt ≤ (fv Po 301 23).toInt)) ∧ Typ P' ∧ KW [1112] Po P' ∧ True) := by
  refine EvP.of qm_223 (Nat.le_of_ble_eq_true rfl) rfl ?_
  show MEvP _ none q_223 0 [(0, .ref 301)] [] _ 0 0 _
  have g1 : (0 : Int) ≤ (fv Po 301 24).toInt ∧ (fv Po 301 24).toInt ≤ 81 := Typ.rng hT rl_301 (by decide) (by decide) rfl
  have g2 : (0 : Int) ≤ (fv Po 301 23).toInt ∧ (fv Po 301 23).toInt ≤ 80 := Typ.rng hT rl_301 (by decide) (by decide) rfl
  refine mp_a (a_aload_n dX7_digit_0 rfl) (mpp 1 rfl ?_)
  refine mt_callv (i := 297) (q' := q_218) (As := []) (rest := []) hT dX7_digit_1 rfl qm_218 (by decide) rfl rl_301 (by decide) rfl (Nat.le_of_ble_eq_true rfl) rfl ⟨rfl, rfl⟩ ⟨Nat.le_of_ble_eq_true rfl, Nat.le_of_ble_eq_true rfl⟩ (EvP.mono (by decide) (c_M_sign hT )) (fun r3 P4 g5 => mpp 4 rfl ?_)
  obtain ⟨⟨x6, rfl, g7⟩, e8⟩ := g5
  have e8 := e8.symm
  subst e8
  have wx6 := ti_full x6
  have g7 : x6.toInt = -1 ∨ (fv Po 301 24).toInt + 1 ≤ (fv Po 301 23).toInt := g7
  show MEvP _ none q_223 4 [(0, .ref 301)] [.int x6] _ _ _ _
  refine mp_a (a_bipush (v := 48) dX7_digit_4 rfl) (mpp 6 rfl ?_)
  refine mp_a (a_bipush (v := 57) dX7_digit_6 rfl) (mpp 8 rfl ?_)
  refine mp_calls (i := 61) (q' := q_127) (As := [.int x6, .int 48, .int 57]) (rest := []) dX7_digit_8 rfl qm_127 (by decide) rfl (Nat.le_of_ble_eq_true rfl) rfl ⟨rfl, rfl⟩ ⟨Nat.le_of_ble_eq_true rfl, Nat.le_of_ble_eq_true rfl⟩ (EvP.mono (by decide) (c_M_isIn hT )) (fun r9 P10 g11 => mpp 11 rfl ?_)
  obtain ⟨⟨x12, rfl, g13⟩, e14⟩ := g11
  have e14 := e14.symm
  subst e14
  have wx12 := ti_full x12
  have g13 : 0 ≤ x12.toInt ∧ x12.toInt ≤ 1 ∧ ((x12.toInt = 1 ∧ (48 : Int) ≤ x6.toInt ∧ x6.toInt ≤ (57 : Int)) ∨ (x12.toInt = 0 ∧ (x6.toInt < (48 : Int) ∨ (57 : Int) < x6.toInt))) := g13
  show MEvP _ none q_223 11 [(0, .ref 301)] [.int x12] _ _ _ _
  refine mp_Tb (t := 16) (j_if_ne dX7_digit_11) (by decide) (fun c15 => ?_) (fun c15 => mpp 14 rfl ?_)
  · have c15 : x12.toInt ≠ 0 := ti_ne c15
    refine mp_a (a_aload_n dX7_digit_16 rfl) (mpp 17 rfl ?_)
    refine mp_t (s_dup dX7_digit_17 rfl) (mpp 18 rfl ?_)
    refine mt_getI (i := 294) (k := 24) hT dX7_digit_18 rfl rl_301 (by decide) rfl (by decide) rfl (fun g16 g17 => mpp 21 rfl ?_)
    refine mp_a (a_iconst (v := 1) dX7_digit_21 rfl) (mpp 22 rfl ?_)
    obtain ⟨z18, h19⟩ := ti_ex ((fv Po 301 24) + 1 : Int32)
    have wz18 := ti_full z18
    refine mp_t (s_iadd (v := z18) dX7_digit_22 h19) (mpp 23 rfl ?_)
    try have e20 : z18.toInt = (fv Po 301 24).toInt + 1 := ti_addz h19 rfl rfl (by omega) (by omega)
    refine mt_putI (i := 294) (k := 24) (x := z18) hT dX7_digit_23 rfl rl_301 (by decide) rfl (by decide) rfl ⟨by omega, by omega⟩ rfl rfl (fun P21 hT22 f23 f24 => mpp 26 rfl ?_)
    have k25 : KW [1112] Po P21 := KW.step KW.refl rl_301 rfl f24
    have e26 : (fv P21 301 24).toInt = z18.toInt := congrArg Int32.toInt f23
    refine mp_a (a_aload_n dX7_digit_26 rfl) (mpp 27 rfl ?_)
    refine mt_getU (i := 47) (k := 22) (A := 314) hT22 dX7_digit_27 rfl rl_301 (by decide) rfl (by decide) rfl un_30 (mpp 30 rfl ?_)
    refine mp_a (a_aload_n dX7_digit_30 rfl) (mpp 31 rfl ?_)
    refine mt_getI (i := 294) (k := 24) hT22 dX7_digit_31 rfl rl_301 (by decide) rfl (by decide) rfl (fun g27 g28 => mpp 34 rfl ?_)
    refine mp_a (a_iconst (v := 1) dX7_digit_34 rfl) (mpp 35 rfl ?_)
    obtain ⟨z29, h30⟩ := ti_ex ((fv P21 301 24) - 1 : Int32)
    have wz29 := ti_full z29
    refine mp_t (s_isub (v := z29) dX7_digit_35 h30) (mpp 36 rfl ?_)
    try have e31 : z29.toInt = (fv P21 301 24).toInt - 1 := ti_subz h30 rfl rfl (by omega) (by omega)
    refine mt_ial (n := 80) hT22 dX7_digit_36 rl_314 (by decide) rfl rfl (by omega) (by omega) rfl (fun g32 g33 => mpp 37 rfl ?_)
    refine mp_a (a_bipush (v := 48) dX7_digit_37 rfl) (mpp 39 rfl ?_)
    obtain ⟨z34, h35⟩ := ti_ex ((fv P21 314 z29.toInt.toNat) - 48 : Int32)
    have wz34 := ti_full z34
    refine mp_t (s_isub (v := z34) dX7_digit_39 h35) (mpp 40 rfl ?_)
    try have e36 : z34.toInt = (fv P21 314 z29.toInt.toNat).toInt - 48 := ti_subz h35 rfl rfl (by omega) (by omega)
    have u37 : (fv Po 301 24).toInt ≤ (fv P21 301 24).toInt ∧ (fv P21 301 24).toInt ≤ (fv Po 301 23).toInt := by omega
    exact mp_iret ⟨⟨_, rfl, u37⟩, hT22, k25, trivial⟩ dX7_digit_40 (Or.inl rfl)
  · have c15 : x12.toInt = 0 := ti_ne_n c15
    refine mp_a (a_iconst (v := -1) dX7_digit_14 rfl) (mpp 15 rfl ?_)
    have u38 : (fv Po 301 24).toInt ≤ (fv Po 301 24).toInt ∧ (fv Po 301 24).toInt ≤ (fv Po 301 23).toInt := by omega
    exact mp_iret ⟨⟨_, rfl, u38⟩, hT, KW.refl, trivial⟩ dX7_digit_15 (Or.inl rfl)

set_option maxHeartbeats 4000000 in
theorem c_M_readsMark {Po : mP}  (hT : Typ Po)  (hp0 : (fv Po 301 24).toInt ≤ (fv Po 301 23).toInt)  : EvP 3 224 [.ref 301] Po (fun r P' => (∃ x : Int32, r = some (.int x) ∧ (0 ≤ x.toInt ∧ x.toInt ≤ 1 ∧ ((fv Po 301 24).toInt ≤ (fv P' 301 24).toInt ∧ (fv P' 301 24).toInt ≤ (fv Po 301 23).toInt))) ∧ Typ P' ∧ KW [1112, 1115, 1117] Po P' ∧ True) := by
  refine EvP.of qm_224 (Nat.le_of_ble_eq_true rfl) rfl ?_
  show MEvP _ none q_224 0 [(0, .ref 301)] [] _ 0 0 _
  have g1 : (0 : Int) ≤ (fv Po 301 24).toInt ∧ (fv Po 301 24).toInt ≤ 81 := Typ.rng hT rl_301 (by decide) (by decide) rfl
  have g2 : (0 : Int) ≤ (fv Po 301 23).toInt ∧ (fv Po 301 23).toInt ≤ 80 := Typ.rng hT rl_301 (by decide) (by decide) rfl
  refine mp_a (a_aload_n dX7_readsMark_0 rfl) (mpp 1 rfl ?_)
  refine mp_a (a_bipush (v := 46) dX7_readsMark_1 rfl) (mpp 3 rfl ?_)
  have p3 : 0 ≤ (46 : Int) := by omega
  refine mt_callv (i := 312) (q' := q_220) (As := [.int 46]) (rest := []) hT dX7_readsMark_3 rfl qm_220 (by decide) rfl rl_301 (by decide) rfl (Nat.le_of_ble_eq_true rfl) rfl ⟨rfl, rfl⟩ ⟨Nat.le_of_ble_eq_true rfl, Nat.le_of_ble_eq_true rfl⟩ (EvP.mono (by decide) (c_M_takes hT p3 )) (fun r4 P5 g6 => mpp 6 rfl ?_)
  obtain ⟨⟨x7, rfl, g8⟩, hT9, k10, R11⟩ := g6
  have k12 : KW [1112, 1115, 1117] Po P5 := KW.trans KW.refl k10 rfl
  have wx7 := ti_full x7
  have g8 : 0 ≤ x7.toInt ∧ x7.toInt ≤ 1 ∧ ((x7.toInt = 1 ∧ (fv P5 301 24).toInt = (fv Po 301 24).toInt + 1 ∧ (fv P5 301 24).toInt ≤ (fv Po 301 23).toInt) ∨ (x7.toInt = 0 ∧ (fv P5 301 24).toInt = (fv Po 301 24).toInt)) := g8
  have g13 : (0 : Int) ≤ (fv P5 301 24).toInt ∧ (fv P5 301 24).toInt ≤ 81 := Typ.rng hT9 rl_301 (by decide) (by decide) rfl
  have g14 : (0 : Int) ≤ (fv P5 301 24).toInt ∧ (fv P5 301 24).toInt ≤ 81 := Typ.rng hT9 rl_301 (by decide) (by decide) rfl
  have g15 : (0 : Int) ≤ (fv P5 301 24).toInt ∧ (fv P5 301 24).toInt ≤ 81 := Typ.rng hT9 rl_301 (by decide) (by decide) rfl
  show MEvP _ none q_224 6 [(0, .ref 301)] [.int x7] _ _ _ _
  refine mp_Tb (t := 11) (j_if_ne dX7_readsMark_6) (by decide) (fun c16 => ?_) (fun c16 => mpp 9 rfl ?_)
  · have c16 : x7.toInt ≠ 0 := ti_ne c16
    refine mp_a (a_aload_n dX7_readsMark_11 rfl) (mpp 12 rfl ?_)
    refine mp_a (a_aload_n dX7_readsMark_12 rfl) (mpp 13 rfl ?_)
    have e17 : (fv P5 301 23).toInt = (fv Po 301 23).toInt := congrArg Int32.toInt (KW.at k10 23 rl_301 rfl)
    have p18 : (fv P5 301 24).toInt ≤ (fv P5 301 23).toInt := by omega
    refine mt_callv (i := 315) (q' := q_223) (As := []) (rest := [.ref 301]) hT9 dX7_readsMark_13 rfl qm_223 (by decide) rfl rl_301 (by decide) rfl (Nat.le_of_ble_eq_true rfl) rfl ⟨rfl, rfl⟩ ⟨Nat.le_of_ble_eq_true rfl, Nat.le_of_ble_eq_true rfl⟩ (EvP.mono (by decide) (c_M_digit hT9 p18 )) (fun r19 P20 g21 => mpp 16 rfl ?_)
    obtain ⟨⟨x22, rfl, g23⟩, hT24, k25, R26⟩ := g21
    have k27 : KW [1112, 1115, 1117] Po P20 := KW.trans k12 k25 rfl
    have wx22 := ti_full x22
    have g23 : (fv P5 301 24).toInt ≤ (fv P20 301 24).toInt ∧ (fv P20 301 24).toInt ≤ (fv P5 301 23).toInt := g23
    have g28 : (0 : Int) ≤ (fv P20 301 24).toInt ∧ (fv P20 301 24).toInt ≤ 81 := Typ.rng hT24 rl_301 (by decide) (by decide) rfl
    have g29 : (0 : Int) ≤ (fv P20 301 24).toInt ∧ (fv P20 301 24).toInt ≤ 81 := Typ.rng hT24 rl_301 (by decide) (by decide) rfl
    show MEvP _ none q_224 16 [(0, .ref 301)] [.int x22, .ref 301] _ _ _ _
    refine mt_putI (i := 303) (k := 27) (x := x22) hT24 dX7_readsMark_16 rfl rl_301 (by decide) rfl (by decide) rfl (ti_full x22) rfl rfl (fun P30 hT31 f32 f33 => mpp 19 rfl ?_)
    have k34 : KW [1112, 1115, 1117] Po P30 := KW.step k27 rl_301 rfl f33
    have e35 : (fv P30 301 27).toInt = x22.toInt := congrArg Int32.toInt f32
    refine mp_a (a_aload_n dX7_readsMark_19 rfl) (mpp 20 rfl ?_)
    refine mt_getI (i := 303) (k := 27) hT31 dX7_readsMark_20 rfl rl_301 (by decide) rfl (by decide) rfl (fun g36 g37 => mpp 23 rfl ?_)
    refine mp_Tb (t := 35) (j_if_lt dX7_readsMark_23) (by decide) (fun c38 => ?_) (fun c38 => mpp 26 rfl ?_)
    · have c38 : (fv P30 301 27).toInt < 0 := ti_lt c38
      refine mp_a (a_iconst (v := 0) dX7_readsMark_35 rfl) (mpp 36 rfl ?_)
      have e39 : (fv P30 301 24).toInt = (fv P20 301 24).toInt := congrArg Int32.toInt (f33 301 24 (ne_k rfl))
      have u40 : 0 ≤ (0 : Int) ∧ (0 : Int) ≤ 1 ∧ ((fv Po 301 24).toInt ≤ (fv P30 301 24).toInt ∧ (fv P30 301 24).toInt ≤ (fv Po 301 23).toInt) := by omega
      exact mp_iret ⟨⟨_, rfl, u40⟩, hT31, k34, trivial⟩ dX7_readsMark_36 (Or.inr ⟨rfl, by decide⟩)
    · have c38 : (fv P30 301 27).toInt ≥ 0 := ti_lt_n c38
      refine mp_a (a_aload_n dX7_readsMark_26 rfl) (mpp 27 rfl ?_)
      refine mp_a (a_bipush (v := 61) dX7_readsMark_27 rfl) (mpp 29 rfl ?_)
      have p41 : 0 ≤ (61 : Int) := by omega
      refine mt_callv (i := 312) (q' := q_220) (As := [.int 61]) (rest := []) hT31 dX7_readsMark_29 rfl qm_220 (by decide) rfl rl_301 (by decide) rfl (Nat.le_of_ble_eq_true rfl) rfl ⟨rfl, rfl⟩ ⟨Nat.le_of_ble_eq_true rfl, Nat.le_of_ble_eq_true rfl⟩ (EvP.mono (by decide) (c_M_takes hT31 p41 )) (fun r42 P43 g44 => mpp 32 rfl ?_)
      obtain ⟨⟨x45, rfl, g46⟩, hT47, k48, R49⟩ := g44
      have k50 : KW [1112, 1115, 1117] Po P43 := KW.trans k34 k48 rfl
      have wx45 := ti_full x45
      have g46 : 0 ≤ x45.toInt ∧ x45.toInt ≤ 1 ∧ ((x45.toInt = 1 ∧ (fv P43 301 24).toInt = (fv P30 301 24).toInt + 1 ∧ (fv P43 301 24).toInt ≤ (fv P30 301 23).toInt) ∨ (x45.toInt = 0 ∧ (fv P43 301 24).toInt = (fv P30 301 24).toInt)) := g46
      have g51 : (0 : Int) ≤ (fv P43 301 24).toInt ∧ (fv P43 301 24).toInt ≤ 81 := Typ.rng hT47 rl_301 (by decide) (by decide) rfl
      have e52 : (fv P30 301 24).toInt = (fv P20 301 24).toInt := congrArg Int32.toInt (f33 301 24 (ne_k rfl))
      have g53 : (0 : Int) ≤ (fv P43 301 24).toInt ∧ (fv P43 301 24).toInt ≤ 81 := Typ.rng hT47 rl_301 (by decide) (by decide) rfl
      have e54 : (fv P30 301 23).toInt = (fv P5 301 23).toInt := congrArg Int32.toInt ((f33 301 23 (ne_k rfl)).trans (KW.at k25 23 rl_301 rfl))
      have g55 : (0 : Int) ≤ (fv P43 301 24).toInt ∧ (fv P43 301 24).toInt ≤ 81 := Typ.rng hT47 rl_301 (by decide) (by decide) rfl
      show MEvP _ none q_224 32 [(0, .ref 301)] [.int x45] _ _ _ _
      refine mp_Tb (t := 37) (j_if_ne dX7_readsMark_32) (by decide) (fun c56 => ?_) (fun c56 => mpp 35 rfl ?_)
      · have c56 : x45.toInt ≠ 0 := ti_ne c56
        refine mp_a (a_aload_n dX7_readsMark_37 rfl) (mpp 38 rfl ?_)
        refine mp_a (a_aload_n dX7_readsMark_38 rfl) (mpp 39 rfl ?_)
        refine mt_callv (i := 297) (q' := q_218) (As := []) (rest := [.ref 301]) hT47 dX7_readsMark_39 rfl qm_218 (by decide) rfl rl_301 (by decide) rfl (Nat.le_of_ble_eq_true rfl) rfl ⟨rfl, rfl⟩ ⟨Nat.le_of_ble_eq_true rfl, Nat.le_of_ble_eq_true rfl⟩ (EvP.mono (by decide) (c_M_sign hT47 )) (fun r57 P58 g59 => mpp 42 rfl ?_)
        obtain ⟨⟨x60, rfl, g61⟩, e62⟩ := g59
        have e62 := e62.symm
        subst e62
        have wx60 := ti_full x60
        have g61 : x60.toInt = -1 ∨ (fv P43 301 24).toInt + 1 ≤ (fv P43 301 23).toInt := g61
        have e63 : (fv P43 301 23).toInt = (fv P30 301 23).toInt := congrArg Int32.toInt (KW.at k48 23 rl_301 rfl)
        show MEvP _ none q_224 42 [(0, .ref 301)] [.int x60, .ref 301] _ _ _ _
        refine mp_calls (i := 309) (q' := q_222) (As := [.int x60]) (rest := [.ref 301]) dX7_readsMark_42 rfl qm_222 (by decide) rfl (Nat.le_of_ble_eq_true rfl) rfl ⟨rfl, rfl⟩ ⟨Nat.le_of_ble_eq_true rfl, Nat.le_of_ble_eq_true rfl⟩ (EvP.mono (by decide) (c_M_kindOf hT47 )) (fun r64 P65 g66 => mpp 45 rfl ?_)
        obtain ⟨⟨x67, rfl, g68⟩, e69⟩ := g66
        have e69 := e69.symm
        subst e69
        have wx67 := ti_full x67
        have g68 : x67.toInt = -1 ∨ 1 ≤ x60.toInt := g68
        show MEvP _ none q_224 45 [(0, .ref 301)] [.int x67, .ref 301] _ _ _ _
        refine mt_putI (i := 318) (k := 29) (x := x67) hT47 dX7_readsMark_45 rfl rl_301 (by decide) rfl (by decide) rfl (ti_full x67) rfl rfl (fun P70 hT71 f72 f73 => mpp 48 rfl ?_)
        have k74 : KW [1112, 1115, 1117] Po P70 := KW.step k50 rl_301 rfl f73
        have e75 : (fv P70 301 29).toInt = x67.toInt := congrArg Int32.toInt f72
        refine mp_a (a_aload_n dX7_readsMark_48 rfl) (mpp 49 rfl ?_)
        refine mp_t (s_dup dX7_readsMark_49 rfl) (mpp 50 rfl ?_)
        have e76 : (fv P70 301 24).toInt = (fv P43 301 24).toInt := congrArg Int32.toInt (f73 301 24 (ne_k rfl))
        refine mt_getI (i := 294) (k := 24) hT71 dX7_readsMark_50 rfl rl_301 (by decide) rfl (by decide) rfl (fun g77 g78 => mpp 53 rfl ?_)
        refine mp_a (a_aload_n dX7_readsMark_53 rfl) (mpp 54 rfl ?_)
        refine mt_getI (i := 318) (k := 29) hT71 dX7_readsMark_54 rfl rl_301 (by decide) rfl (by decide) rfl (fun g79 g80 => mpp 57 rfl ?_)
        refine mp_Tb (t := 64) (j_if_lt dX7_readsMark_57) (by decide) (fun c81 => ?_) (fun c81 => mpp 60 rfl ?_)
        · have c81 : (fv P70 301 29).toInt < 0 := ti_lt c81
          refine mp_a (a_iconst (v := 0) dX7_readsMark_64 rfl) (mpp 65 rfl ?_)
          obtain ⟨z82, h83⟩ := ti_ex ((fv P70 301 24) + 0 : Int32)
          have wz82 := ti_full z82
          refine mp_t (s_iadd (v := z82) dX7_readsMark_65 h83) (mpp 66 rfl ?_)
          try have e84 : z82.toInt = (fv P70 301 24).toInt + 0 := ti_addz h83 rfl rfl (by omega) (by omega)
          refine mt_putI (i := 294) (k := 24) (x := z82) hT71 dX7_readsMark_66 rfl rl_301 (by decide) rfl (by decide) rfl ⟨by omega, by omega⟩ rfl rfl (fun P85 hT86 f87 f88 => mpp 69 rfl ?_)
          have k89 : KW [1112, 1115, 1117] Po P85 := KW.step k74 rl_301 rfl f88
          have e90 : (fv P85 301 24).toInt = z82.toInt := congrArg Int32.toInt f87
          refine mp_a (a_aload_n dX7_readsMark_69 rfl) (mpp 70 rfl ?_)
          have e91 : (fv P85 301 29).toInt = (fv P70 301 29).toInt := congrArg Int32.toInt (f88 301 29 (ne_k rfl))
          refine mt_getI (i := 318) (k := 29) hT86 dX7_readsMark_70 rfl rl_301 (by decide) rfl (by decide) rfl (fun g92 g93 => mpp 73 rfl ?_)
          refine mp_Tb (t := 80) (j_if_lt dX7_readsMark_73) (by decide) (fun c94 => ?_) (fun c94 => mpp 76 rfl ?_)
          · have c94 : (fv P85 301 29).toInt < 0 := ti_lt c94
            refine mp_a (a_iconst (v := 0) dX7_readsMark_80 rfl) (mpp 81 rfl ?_)
            have u95 : 0 ≤ (0 : Int) ∧ (0 : Int) ≤ 1 ∧ ((fv Po 301 24).toInt ≤ (fv P85 301 24).toInt ∧ (fv P85 301 24).toInt ≤ (fv Po 301 23).toInt) := by omega
            exact mp_iret ⟨⟨_, rfl, u95⟩, hT86, k89, trivial⟩ dX7_readsMark_81 (Or.inr ⟨rfl, by decide⟩)
          · have c94 : (fv P85 301 29).toInt ≥ 0 := ti_lt_n c94
            refine mp_a (a_iconst (v := 1) dX7_readsMark_76 rfl) (mpp 77 rfl ?_)
            refine mp_a (a_goto (t := 81) dX7_readsMark_77 (by decide)) ?_
            have u96 : 0 ≤ (1 : Int) ∧ (1 : Int) ≤ 1 ∧ ((fv Po 301 24).toInt ≤ (fv P85 301 24).toInt ∧ (fv P85 301 24).toInt ≤ (fv Po 301 23).toInt) := by omega
            exact mp_iret ⟨⟨_, rfl, u96⟩, hT86, k89, trivial⟩ dX7_readsMark_81 (Or.inr ⟨rfl, by decide⟩)
        · have c81 : (fv P70 301 29).toInt ≥ 0 := ti_lt_n c81
          refine mp_a (a_iconst (v := 1) dX7_readsMark_60 rfl) (mpp 61 rfl ?_)
          refine mp_a (a_goto (t := 65) dX7_readsMark_61 (by decide)) ?_
          obtain ⟨z97, h98⟩ := ti_ex ((fv P70 301 24) + 1 : Int32)
          have wz97 := ti_full z97
          refine mp_t (s_iadd (v := z97) dX7_readsMark_65 h98) (mpp 66 rfl ?_)
          try have e99 : z97.toInt = (fv P70 301 24).toInt + 1 := ti_addz h98 rfl rfl (by omega) (by omega)
          refine mt_putI (i := 294) (k := 24) (x := z97) hT71 dX7_readsMark_66 rfl rl_301 (by decide) rfl (by decide) rfl ⟨by omega, by omega⟩ rfl rfl (fun P100 hT101 f102 f103 => mpp 69 rfl ?_)
          have k104 : KW [1112, 1115, 1117] Po P100 := KW.step k74 rl_301 rfl f103
          have e105 : (fv P100 301 24).toInt = z97.toInt := congrArg Int32.toInt f102
          refine mp_a (a_aload_n dX7_readsMark_69 rfl) (mpp 70 rfl ?_)
          have e106 : (fv P100 301 29).toInt = (fv P70 301 29).toInt := congrArg Int32.toInt (f103 301 29 (ne_k rfl))
          refine mt_getI (i := 318) (k := 29) hT101 dX7_readsMark_70 rfl rl_301 (by decide) rfl (by decide) rfl (fun g107 g108 => mpp 73 rfl ?_)
          refine mp_Tb (t := 80) (j_if_lt dX7_readsMark_73) (by decide) (fun c109 => ?_) (fun c109 => mpp 76 rfl ?_)
          · have c109 : (fv P100 301 29).toInt < 0 := ti_lt c109
            refine mp_a (a_iconst (v := 0) dX7_readsMark_80 rfl) (mpp 81 rfl ?_)
            have u110 : 0 ≤ (0 : Int) ∧ (0 : Int) ≤ 1 ∧ ((fv Po 301 24).toInt ≤ (fv P100 301 24).toInt ∧ (fv P100 301 24).toInt ≤ (fv Po 301 23).toInt) := by omega
            exact mp_iret ⟨⟨_, rfl, u110⟩, hT101, k104, trivial⟩ dX7_readsMark_81 (Or.inr ⟨rfl, by decide⟩)
          · have c109 : (fv P100 301 29).toInt ≥ 0 := ti_lt_n c109
            refine mp_a (a_iconst (v := 1) dX7_readsMark_76 rfl) (mpp 77 rfl ?_)
            refine mp_a (a_goto (t := 81) dX7_readsMark_77 (by decide)) ?_
            have u111 : 0 ≤ (1 : Int) ∧ (1 : Int) ≤ 1 ∧ ((fv Po 301 24).toInt ≤ (fv P100 301 24).toInt ∧ (fv P100 301 24).toInt ≤ (fv Po 301 23).toInt) := by omega
            exact mp_iret ⟨⟨_, rfl, u111⟩, hT101, k104, trivial⟩ dX7_readsMark_81 (Or.inr ⟨rfl, by decide⟩)
      · have c56 : x45.toInt = 0 := ti_ne_n c56
        refine mp_a (a_iconst (v := 0) dX7_readsMark_35 rfl) (mpp 36 rfl ?_)
        have u112 : 0 ≤ (0 : Int) ∧ (0 : Int) ≤ 1 ∧ ((fv Po 301 24).toInt ≤ (fv P43 301 24).toInt ∧ (fv P43 301 24).toInt ≤ (fv Po 301 23).toInt) := by omega
        exact mp_iret ⟨⟨_, rfl, u112⟩, hT47, k50, trivial⟩ dX7_readsMark_36 (Or.inr ⟨rfl, by decide⟩)
  · have c16 : x7.toInt = 0 := ti_ne_n c16
    refine mp_a (a_iconst (v := 0) dX7_readsMark_9 rfl) (mpp 10 rfl ?_)
    have u113 : 0 ≤ (0 : Int) ∧ (0 : Int) ≤ 1 ∧ ((fv Po 301 24).toInt ≤ (fv P5 301 24).toInt ∧ (fv P5 301 24).toInt ≤ (fv Po 301 23).toInt) := by omega
    exact mp_iret ⟨⟨_, rfl, u113⟩, hT9, k12, trivial⟩ dX7_readsMark_10 (Or.inr ⟨rfl, by decide⟩)

