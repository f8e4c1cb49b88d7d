/-! methods on typed pools, 44 (written by a program) -/
set_option maxHeartbeats 4000000 in
theorem c_M_readsSigns_l10 {Po : mP}  (hp0 : (fv Po 301 24).toInt ≤ (fv Po 301 23).toInt)  : ∀ (n : Nat), ∀ (P : mP), Typ P → KW [1112, 1115, 1116] Po P → ((fv Po 301 24).toInt ≤ (fv P 301 24).toInt) → ((fv P 301 24).toInt ≤ (fv P 301 23).toInt) → (∀ j : Nat, j < (fv P 301 28).toInt.toNat → KK (chM Po ((fv Po 301 24).toInt + (j : Int))).toInt) → ((fv P 301 24).toInt = (fv Po 301 24).toInt + (fv P 301 28).toInt) → (fv P 301 27 = knV (chM Po) (fv Po 301 24).toInt (fv P 301 28).toInt.toNat) → ((∀ j : Nat, fv P 314 j = fv Po 314 j) ∧ fv P 301 23 = fv Po 301 23) → (0 ≤ (fv P 301 28).toInt ∧ (fv P 301 28).toInt ≤ 8) → (8 - (fv P 301 28).toInt).toNat = n → MEvP 1 none q_221 10 [(0, .ref 301)] [] P 0 0 (fun r P' => (∃ x : Int32, r = some (.int x) ∧ (0 ≤ x.toInt ∧ x.toInt ≤ 1 ∧ (((fv Po 301 24).toInt ≤ (fv P' 301 24).toInt ∧ (fv P' 301 24).toInt ≤ (fv Po 301 23).toInt) ∧ ∃ k : Nat, RUN KK (chM Po) (fv Po 301 24).toInt k ∧ (fv P' 301 24).toInt = (fv Po 301 24).toInt + (k : Int) ∧ fv P' 301 27 = knV (chM Po) (fv Po 301 24).toInt k ∧ (fv P' 301 28).toInt = (k : Int) ∧ ((x.toInt = 1 ∧ 1 ≤ k) ∨ (x.toInt = 0 ∧ k = 0))))) ∧ Typ P' ∧ KW [1112, 1115, 1116] Po P' ∧ True) := by
  intro n
  induction n using Nat.strongRecOn with | _ n ih => ?_
  intro  P hT hK i_0 i_1 i_2 i_3 i_4 i_5 i_6 hm
  have g1 : (0 : Int) ≤ (fv P 301 24).toInt ∧ (fv P 301 24).toInt ≤ 81 := Typ.rng hT rl_301 (by decide) (by decide) rfl
  have g2 : (0 : Int) ≤ (fv P 301 24).toInt ∧ (fv P 301 24).toInt ≤ 81 := Typ.rng hT rl_301 (by decide) (by decide) rfl
  have e3 : (fv P 301 23).toInt = (fv Po 301 23).toInt := congrArg Int32.toInt (KW.at hK 23 rl_301 rfl)
  have g4 : (0 : Int) ≤ (fv P 301 23).toInt ∧ (fv P 301 23).toInt ≤ 80 := Typ.rng hT rl_301 (by decide) (by decide) rfl
  have g5 := ti_full (fv P 301 28)
  have g6 := ti_full (fv P 301 28)
  have g7 := ti_full (fv P 301 28)
  refine mp_a (a_aload_n dX7_readsSigns_10 rfl) (mpp 11 rfl ?_)
  refine mt_getI (i := 306) (k := 28) hT dX7_readsSigns_11 rfl rl_301 (by decide) rfl (by decide) rfl (fun g8 g9 => mpp 14 rfl ?_)
  refine mp_a (a_bipush (v := 8) dX7_readsSigns_14 rfl) (mpp 16 rfl ?_)
  refine mp_Tb (t := 71) (j_icmp_ge dX7_readsSigns_16) (by decide) (fun c10 => ?_) (fun c10 => mpp 19 rfl ?_)
  · have c10 : (fv P 301 28).toInt ≥ 8 := ti_ge c10
    refine mp_a (a_aload_n dX7_readsSigns_71 rfl) (mpp 72 rfl ?_)
    refine mt_getI (i := 306) (k := 28) hT dX7_readsSigns_72 rfl rl_301 (by decide) rfl (by decide) rfl (fun g11 g12 => mpp 75 rfl ?_)
    refine mp_Tb (t := 82) (j_if_le dX7_readsSigns_75) (by decide) (fun c13 => ?_) (fun c13 => mpp 78 rfl ?_)
    · have c13 : (fv P 301 28).toInt ≤ 0 := ti_le c13
      refine mp_a (a_iconst (v := 0) dX7_readsSigns_82 rfl) (mpp 83 rfl ?_)
      have t16_ : chM P = chM Po := chM_eq i_5.1 i_5.2
      have t16_p : (fv P 301 24).toInt = (fv Po 301 24).toInt + (((fv P 301 28).toInt.toNat : Nat) : Int) := by omega
      have w15_ : RUN KK (chM Po) (fv Po 301 24).toInt (fv P 301 28).toInt.toNat := ⟨by omega, i_2, fun h8 => show ¬ ((chM Po ((fv Po 301 24).toInt + (((fv P 301 28).toInt.toNat : Nat) : Int))).toInt = 111 ∨ (chM Po ((fv Po 301 24).toInt + (((fv P 301 28).toInt.toNat : Nat) : Int))).toInt = 109 ∨ (chM Po ((fv Po 301 24).toInt + (((fv P 301 28).toInt.toNat : Nat) : Int))).toInt = 118) from by omega⟩
      have w15_l : (fv P 301 23).toInt = (fv Po 301 23).toInt := congrArg Int32.toInt i_5.2
      have u14 : 0 ≤ (0 : Int) ∧ (0 : Int) ≤ 1 ∧ (((fv Po 301 24).toInt ≤ (fv P 301 24).toInt ∧ (fv P 301 24).toInt ≤ (fv Po 301 23).toInt) ∧ ∃ k : Nat, RUN KK (chM Po) (fv Po 301 24).toInt k ∧ (fv P 301 24).toInt = (fv Po 301 24).toInt + (k : Int) ∧ fv P 301 27 = knV (chM Po) (fv Po 301 24).toInt k ∧ (fv P 301 28).toInt = (k : Int) ∧ (((0 : Int) = 1 ∧ 1 ≤ k) ∨ ((0 : Int) = 0 ∧ k = 0))) := ⟨by omega, by omega, ⟨by omega, by omega⟩, _, w15_, by omega, i_4, by omega, Or.inr ⟨rfl, by omega⟩⟩
      exact mp_iret ⟨⟨_, rfl, u14⟩, hT, hK, trivial⟩ dX7_readsSigns_83 (Or.inr ⟨rfl, by decide⟩)
    · have c13 : (fv P 301 28).toInt > 0 := ti_le_n c13
      refine mp_a (a_iconst (v := 1) dX7_readsSigns_78 rfl) (mpp 79 rfl ?_)
      refine mp_a (a_goto (t := 83) dX7_readsSigns_79 (by decide)) ?_
      have t19_ : chM P = chM Po := chM_eq i_5.1 i_5.2
      have t19_p : (fv P 301 24).toInt = (fv Po 301 24).toInt + (((fv P 301 28).toInt.toNat : Nat) : Int) := by omega
      have w18_ : RUN KK (chM Po) (fv Po 301 24).toInt (fv P 301 28).toInt.toNat := ⟨by omega, i_2, fun h8 => show ¬ ((chM Po ((fv Po 301 24).toInt + (((fv P 301 28).toInt.toNat : Nat) : Int))).toInt = 111 ∨ (chM Po ((fv Po 301 24).toInt + (((fv P 301 28).toInt.toNat : Nat) : Int))).toInt = 109 ∨ (chM Po ((fv Po 301 24).toInt + (((fv P 301 28).toInt.toNat : Nat) : Int))).toInt = 118) from by omega⟩
      have w18_l : (fv P 301 23).toInt = (fv Po 301 23).toInt := congrArg Int32.toInt i_5.2
      have u17 : 0 ≤ (1 : Int) ∧ (1 : Int) ≤ 1 ∧ (((fv Po 301 24).toInt ≤ (fv P 301 24).toInt ∧ (fv P 301 24).toInt ≤ (fv Po 301 23).toInt) ∧ ∃ k : Nat, RUN KK (chM Po) (fv Po 301 24).toInt k ∧ (fv P 301 24).toInt = (fv Po 301 24).toInt + (k : Int) ∧ fv P 301 27 = knV (chM Po) (fv Po 301 24).toInt k ∧ (fv P 301 28).toInt = (k : Int) ∧ (((1 : Int) = 1 ∧ 1 ≤ k) ∨ ((1 : Int) = 0 ∧ k = 0))) := ⟨by omega, by omega, ⟨by omega, by omega⟩, _, w18_, by omega, i_4, by omega, Or.inl ⟨rfl, by omega⟩⟩
      exact mp_iret ⟨⟨_, rfl, u17⟩, hT, hK, trivial⟩ dX7_readsSigns_83 (Or.inr ⟨rfl, by decide⟩)
  · have c10 : (fv P 301 28).toInt < 8 := ti_ge_n c10
    refine mp_a (a_aload_n dX7_readsSigns_19 rfl) (mpp 20 rfl ?_)
    refine mt_callv (i := 297) (q' := q_218) (As := []) (rest := []) hT dX7_readsSigns_20 rfl qm_218 (by decide) rfl rl_301 (by decide) rfl (Nat.le_of_ble_eq_true rfl) rfl ⟨rfl, rfl⟩ ⟨Nat.le_of_ble_eq_true rfl, Nat.le_of_ble_eq_true rfl⟩ (EvP.mono (by decide) (c_M_sign hT )) (fun r20 P21 g22 => mpp 23 rfl ?_)
    obtain ⟨⟨x23, rfl, g24⟩, e25⟩ := g22
    have e25 := e25.symm
    subst e25
    have wx23 := ti_full x23
    replace g24 : (x23.toInt = -1 ∨ (fv P 301 24).toInt + 1 ≤ (fv P 301 23).toInt) ∧ x23.toInt = (chM P (fv P 301 24).toInt).toInt := g24
    show MEvP _ none q_221 23 [(0, .ref 301)] [.int x23] _ _ _ _
    refine mp_calls (i := 309) (q' := q_222) (As := [.int x23]) (rest := []) dX7_readsSigns_23 rfl qm_222 (by decide) rfl (Nat.le_of_ble_eq_true rfl) rfl ⟨rfl, rfl⟩ ⟨Nat.le_of_ble_eq_true rfl, Nat.le_of_ble_eq_true rfl⟩ (EvP.mono (by decide) (c_M_kindOf hT )) (fun r26 P27 g28 => mpp 26 rfl ?_)
    obtain ⟨⟨x29, rfl, g30⟩, e31⟩ := g28
    have e31 := e31.symm
    subst e31
    have wx29 := ti_full x29
    replace g30 : ((x23.toInt = 111 ∨ x23.toInt = 109 ∨ x23.toInt = 118) ∧ 0 ≤ x29.toInt ∧ x29.toInt = (kn x23.toInt).toInt) ∨ (¬ (x23.toInt = 111 ∨ x23.toInt = 109 ∨ x23.toInt = 118) ∧ x29.toInt = -1) := g30
    show MEvP _ none q_221 26 [(0, .ref 301)] [.int x29] _ _ _ _
    refine mp_Tb (t := 71) (j_if_lt dX7_readsSigns_26) (by decide) (fun c32 => ?_) (fun c32 => mpp 29 rfl ?_)
    · have c32 : x29.toInt < 0 := ti_lt c32
      refine mp_a (a_aload_n dX7_readsSigns_71 rfl) (mpp 72 rfl ?_)
      refine mt_getI (i := 306) (k := 28) hT dX7_readsSigns_72 rfl rl_301 (by decide) rfl (by decide) rfl (fun g33 g34 => mpp 75 rfl ?_)
      refine mp_Tb (t := 82) (j_if_le dX7_readsSigns_75) (by decide) (fun c35 => ?_) (fun c35 => mpp 78 rfl ?_)
      · have c35 : (fv P 301 28).toInt ≤ 0 := ti_le c35
        refine mp_a (a_iconst (v := 0) dX7_readsSigns_82 rfl) (mpp 83 rfl ?_)
        have t38_ : chM P = chM Po := chM_eq i_5.1 i_5.2
        have t38_p : (fv P 301 24).toInt = (fv Po 301 24).toInt + (((fv P 301 28).toInt.toNat : Nat) : Int) := by omega
        have t38_x23 := g24.2
        rw [t38_, t38_p] at t38_x23
        have w37_ : RUN KK (chM Po) (fv Po 301 24).toInt (fv P 301 28).toInt.toNat := ⟨by omega, i_2, fun h8 => show ¬ ((chM Po ((fv Po 301 24).toInt + (((fv P 301 28).toInt.toNat : Nat) : Int))).toInt = 111 ∨ (chM Po ((fv Po 301 24).toInt + (((fv P 301 28).toInt.toNat : Nat) : Int))).toInt = 109 ∨ (chM Po ((fv Po 301 24).toInt + (((fv P 301 28).toInt.toNat : Nat) : Int))).toInt = 118) from by omega⟩
        have w37_l : (fv P 301 23).toInt = (fv Po 301 23).toInt := congrArg Int32.toInt i_5.2
        have u36 : 0 ≤ (0 : Int) ∧ (0 : Int) ≤ 1 ∧ (((fv Po 301 24).toInt ≤ (fv P 301 24).toInt ∧ (fv P 301 24).toInt ≤ (fv Po 301 23).toInt) ∧ ∃ k : Nat, RUN KK (chM Po) (fv Po 301 24).toInt k ∧ (fv P 301 24).toInt = (fv Po 301 24).toInt + (k : Int) ∧ fv P 301 27 = knV (chM Po) (fv Po 301 24).toInt k ∧ (fv P 301 28).toInt = (k : Int) ∧ (((0 : Int) = 1 ∧ 1 ≤ k) ∨ ((0 : Int) = 0 ∧ k = 0))) := ⟨by omega, by omega, ⟨by omega, by omega⟩, _, w37_, by omega, i_4, by omega, Or.inr ⟨rfl, by omega⟩⟩
        exact mp_iret ⟨⟨_, rfl, u36⟩, hT, hK, trivial⟩ dX7_readsSigns_83 (Or.inr ⟨rfl, by decide⟩)
      · have c35 : (fv P 301 28).toInt > 0 := ti_le_n c35
        refine mp_a (a_iconst (v := 1) dX7_readsSigns_78 rfl) (mpp 79 rfl ?_)
        refine mp_a (a_goto (t := 83) dX7_readsSigns_79 (by decide)) ?_
        have t41_ : chM P = chM Po := chM_eq i_5.1 i_5.2
        have t41_p : (fv P 301 24).toInt = (fv Po 301 24).toInt + (((fv P 301 28).toInt.toNat : Nat) : Int) := by omega
        have t41_x23 := g24.2
        rw [t41_, t41_p] at t41_x23
        have w40_ : RUN KK (chM Po) (fv Po 301 24).toInt (fv P 301 28).toInt.toNat := ⟨by omega, i_2, fun h8 => show ¬ ((chM Po ((fv Po 301 24).toInt + (((fv P 301 28).toInt.toNat : Nat) : Int))).toInt = 111 ∨ (chM Po ((fv Po 301 24).toInt + (((fv P 301 28).toInt.toNat : Nat) : Int))).toInt = 109 ∨ (chM Po ((fv Po 301 24).toInt + (((fv P 301 28).toInt.toNat : Nat) : Int))).toInt = 118) from by omega⟩
        have w40_l : (fv P 301 23).toInt = (fv Po 301 23).toInt := congrArg Int32.toInt i_5.2
        have u39 : 0 ≤ (1 : Int) ∧ (1 : Int) ≤ 1 ∧ (((fv Po 301 24).toInt ≤ (fv P 301 24).toInt ∧ (fv P 301 24).toInt ≤ (fv Po 301 23).toInt) ∧ ∃ k : Nat, RUN KK (chM Po) (fv Po 301 24).toInt k ∧ (fv P 301 24).toInt = (fv Po 301 24).toInt + (k : Int) ∧ fv P 301 27 = knV (chM Po) (fv Po 301 24).toInt k ∧ (fv P 301 28).toInt = (k : Int) ∧ (((1 : Int) = 1 ∧ 1 ≤ k) ∨ ((1 : Int) = 0 ∧ k = 0))) := ⟨by omega, by omega, ⟨by omega, by omega⟩, _, w40_, by omega, i_4, by omega, Or.inl ⟨rfl, by omega⟩⟩
        exact mp_iret ⟨⟨_, rfl, u39⟩, hT, hK, trivial⟩ dX7_readsSigns_83 (Or.inr ⟨rfl, by decide⟩)
    · have c32 : x29.toInt ≥ 0 := ti_lt_n c32
      refine mp_a (a_aload_n dX7_readsSigns_29 rfl) (mpp 30 rfl ?_)
      refine mp_a (a_bipush (v := 10) dX7_readsSigns_30 rfl) (mpp 32 rfl ?_)
      refine mp_a (a_aload_n dX7_readsSigns_32 rfl) (mpp 33 rfl ?_)
      have g42 := ti_full (fv P 301 27)
      refine mt_getI (i := 303) (k := 27) hT dX7_readsSigns_33 rfl rl_301 (by decide) rfl (by decide) rfl (fun g43 g44 => mpp 36 rfl ?_)
      obtain ⟨z45, h46⟩ := ti_ex (10 * (fv P 301 27) : Int32)
      have wz45 := ti_full z45
      refine mp_t (s_imul (v := z45) dX7_readsSigns_36 h46) (mpp 37 rfl ?_)
      try have e47 : z45.toInt = 10 * (fv P 301 27).toInt := ti_mulz h46 rfl rfl (by omega) (by omega)
      refine mp_a (a_aload_n dX7_readsSigns_37 rfl) (mpp 38 rfl ?_)
      refine mt_callv (i := 297) (q' := q_218) (As := []) (rest := [.int z45, .ref 301]) hT dX7_readsSigns_38 rfl qm_218 (by decide) rfl rl_301 (by decide) rfl (Nat.le_of_ble_eq_true rfl) rfl ⟨rfl, rfl⟩ ⟨Nat.le_of_ble_eq_true rfl, Nat.le_of_ble_eq_true rfl⟩ (EvP.mono (by decide) (c_M_sign hT )) (fun r48 P49 g50 => mpp 41 rfl ?_)
      obtain ⟨⟨x51, rfl, g52⟩, e53⟩ := g50
      have e53 := e53.symm
      subst e53
      have wx51 := ti_full x51
      replace g52 : (x51.toInt = -1 ∨ (fv P 301 24).toInt + 1 ≤ (fv P 301 23).toInt) ∧ x51.toInt = (chM P (fv P 301 24).toInt).toInt := g52
      show MEvP _ none q_221 41 [(0, .ref 301)] [.int x51, .int z45, .ref 301] _ _ _ _
      refine mp_calls (i := 309) (q' := q_222) (As := [.int x51]) (rest := [.int z45, .ref 301]) dX7_readsSigns_41 rfl qm_222 (by decide) rfl (Nat.le_of_ble_eq_true rfl) rfl ⟨rfl, rfl⟩ ⟨Nat.le_of_ble_eq_true rfl, Nat.le_of_ble_eq_true rfl⟩ (EvP.mono (by decide) (c_M_kindOf hT )) (fun r54 P55 g56 => mpp 44 rfl ?_)
      obtain ⟨⟨x57, rfl, g58⟩, e59⟩ := g56
      have e59 := e59.symm
      subst e59
      have wx57 := ti_full x57
      replace g58 : ((x51.toInt = 111 ∨ x51.toInt = 109 ∨ x51.toInt = 118) ∧ 0 ≤ x57.toInt ∧ x57.toInt = (kn x51.toInt).toInt) ∨ (¬ (x51.toInt = 111 ∨ x51.toInt = 109 ∨ x51.toInt = 118) ∧ x57.toInt = -1) := g58
      show MEvP _ none q_221 44 [(0, .ref 301)] [.int x57, .int z45, .ref 301] _ _ _ _
      obtain ⟨z60, h61⟩ := ti_ex (z45 + x57 : Int32)
      have wz60 := ti_full z60
      refine mp_t (s_iadd (v := z60) dX7_readsSigns_44 h61) (mpp 45 rfl ?_)
      try have e62 : z60.toInt = z45.toInt + x57.toInt := ti_addz h61 rfl rfl (by omega) (by omega)
      refine mt_putI (i := 303) (k := 27) (x := z60) hT dX7_readsSigns_45 rfl rl_301 (by decide) rfl (by decide) rfl (ti_full z60) rfl rfl (fun P63 hT64 f65 f66 f67 => mpp 48 rfl ?_)
      have k68 : KW [1112, 1115, 1116] Po P63 := KW.step hK rl_301 rfl f66 f67
      have e69 : (fv P63 301 27).toInt = z60.toInt := congrArg Int32.toInt f65
      refine mp_a (a_aload_n dX7_readsSigns_48 rfl) (mpp 49 rfl ?_)
      refine mp_t (s_dup dX7_readsSigns_49 rfl) (mpp 50 rfl ?_)
      have e70 : (fv P63 301 24).toInt = (fv P 301 24).toInt := congrArg Int32.toInt (f66 301 24 (ne_k rfl))
      refine mt_getI (i := 294) (k := 24) hT64 dX7_readsSigns_50 rfl rl_301 (by decide) rfl (by decide) rfl (fun g71 g72 => mpp 53 rfl ?_)
      refine mp_a (a_iconst (v := 1) dX7_readsSigns_53 rfl) (mpp 54 rfl ?_)
      obtain ⟨z73, h74⟩ := ti_ex ((fv P63 301 24) + 1 : Int32)
      have wz73 := ti_full z73
      refine mp_t (s_iadd (v := z73) dX7_readsSigns_54 h74) (mpp 55 rfl ?_)
      try have e75 : z73.toInt = (fv P63 301 24).toInt + 1 := ti_addz h74 rfl rfl (by omega) (by omega)
      refine mt_putI (i := 294) (k := 24) (x := z73) hT64 dX7_readsSigns_55 rfl rl_301 (by decide) rfl (by decide) rfl ⟨by omega, by omega⟩ rfl rfl (fun P76 hT77 f78 f79 f80 => mpp 58 rfl ?_)
      have k81 : KW [1112, 1115, 1116] Po P76 := KW.step k68 rl_301 rfl f79 f80
      have e82 : (fv P76 301 24).toInt = z73.toInt := congrArg Int32.toInt f78
      refine mp_a (a_aload_n dX7_readsSigns_58 rfl) (mpp 59 rfl ?_)
      refine mp_t (s_dup dX7_readsSigns_59 rfl) (mpp 60 rfl ?_)
      have e83 : (fv P76 301 28).toInt = (fv P 301 28).toInt := congrArg Int32.toInt ((f79 301 28 (ne_k rfl)).trans (f66 301 28 (ne_k rfl)))
      refine mt_getI (i := 306) (k := 28) hT77 dX7_readsSigns_60 rfl rl_301 (by decide) rfl (by decide) rfl (fun g84 g85 => mpp 63 rfl ?_)
      refine mp_a (a_iconst (v := 1) dX7_readsSigns_63 rfl) (mpp 64 rfl ?_)
      obtain ⟨z86, h87⟩ := ti_ex ((fv P76 301 28) + 1 : Int32)
      have wz86 := ti_full z86
      refine mp_t (s_iadd (v := z86) dX7_readsSigns_64 h87) (mpp 65 rfl ?_)
      try have e88 : z86.toInt = (fv P76 301 28).toInt + 1 := ti_addz h87 rfl rfl (by omega) (by omega)
      refine mt_putI (i := 306) (k := 28) (x := z86) hT77 dX7_readsSigns_65 rfl rl_301 (by decide) rfl (by decide) rfl (ti_full z86) rfl rfl (fun P89 hT90 f91 f92 f93 => mpp 68 rfl ?_)
      have k94 : KW [1112, 1115, 1116] Po P89 := KW.step k81 rl_301 rfl f92 f93
      have e95 : (fv P89 301 28).toInt = z86.toInt := congrArg Int32.toInt f91
      refine mp_a (a_goto (t := 10) dX7_readsSigns_68 (by decide)) ?_
      have e96 : (fv P89 301 24).toInt = (fv P76 301 24).toInt := congrArg Int32.toInt (f92 301 24 (ne_k rfl))
      have i97 : (fv Po 301 24).toInt ≤ (fv P89 301 24).toInt := by omega
      have e98 : (fv P89 301 23).toInt = (fv P 301 23).toInt := congrArg Int32.toInt ((f92 301 23 (ne_k rfl)).trans ((f79 301 23 (ne_k rfl)).trans (f66 301 23 (ne_k rfl))))
      have i99 : (fv P89 301 24).toInt ≤ (fv P89 301 23).toInt := by omega
      have t101_ : chM P = chM Po := chM_eq i_5.1 i_5.2
      have t101_p : (fv P 301 24).toInt = (fv Po 301 24).toInt + (((fv P 301 28).toInt.toNat : Nat) : Int) := by omega
      have t101_x23 := g24.2
      rw [t101_, t101_p] at t101_x23
      have t101_x51 := g52.2
      rw [t101_, t101_p] at t101_x51
      have i100 : ∀ j : Nat, j < (fv P89 301 28).toInt.toNat → KK (chM Po ((fv Po 301 24).toInt + (j : Int))).toInt := RUN.grow i_2 rfl (show KK (chM Po ((fv Po 301 24).toInt + (((fv P 301 28).toInt.toNat : Nat) : Int))).toInt from by have q : ((chM Po ((fv Po 301 24).toInt + (((fv P 301 28).toInt.toNat : Nat) : Int))).toInt = 111 ∨ (chM Po ((fv Po 301 24).toInt + (((fv P 301 28).toInt.toNat : Nat) : Int))).toInt = 109 ∨ (chM Po ((fv Po 301 24).toInt + (((fv P 301 28).toInt.toNat : Nat) : Int))).toInt = 118) := (by omega); exact q) (by omega)
      have i102 : (fv P89 301 24).toInt = (fv Po 301 24).toInt + (fv P89 301 28).toInt := by omega
      have w104_ : x57.toInt = (kn (chM Po ((fv Po 301 24).toInt + (((fv P 301 28).toInt.toNat : Nat) : Int))).toInt).toInt := by rw [show (chM Po ((fv Po 301 24).toInt + (((fv P 301 28).toInt.toNat : Nat) : Int))).toInt = x51.toInt from by omega]; exact (g58.resolve_right (by omega)).2.2
      have i103 : fv P89 301 27 = knV (chM Po) (fv Po 301 24).toInt (fv P89 301 28).toInt.toNat := by rw [f92 301 27 (by omega), f79 301 27 (by omega), f65]; exact knV.step i_4 (by omega) rfl w104_ (by rw [Int32.mul_comm]; exact h46) h61
      have i105 : (∀ j : Nat, fv P89 314 j = fv Po 314 j) ∧ fv P89 301 23 = fv Po 301 23 := ⟨fun j => by rw [f92 314 j (by omega), f79 314 j (by omega), f66 314 j (by omega)]; exact i_5.1 j, by rw [f92 301 23 (by omega), f79 301 23 (by omega), f66 301 23 (by omega)]; exact i_5.2⟩
      have i106 : 0 ≤ (fv P89 301 28).toInt ∧ (fv P89 301 28).toInt ≤ 8 := by omega
      exact ih _ (by omega)  P89 hT90 k94 i97 i99 i100 i102 i103 i105 i106 rfl

set_option maxHeartbeats 4000000 in
theorem c_M_readsSigns {Po : mP}  (hT : Typ Po)  (hp0 : (fv Po 301 24).toInt ≤ (fv Po 301 23).toInt)  : EvP 2 221 [.ref 301] Po (fun r P' => (∃ x : Int32, r = some (.int x) ∧ (0 ≤ x.toInt ∧ x.toInt ≤ 1 ∧ (((fv Po 301 24).toInt ≤ (fv P' 301 24).toInt ∧ (fv P' 301 24).toInt ≤ (fv Po 301 23).toInt) ∧ ∃ k : Nat, RUN KK (chM Po) (fv Po 301 24).toInt k ∧ (fv P' 301 24).toInt = (fv Po 301 24).toInt + (k : Int) ∧ fv P' 301 27 = knV (chM Po) (fv Po 301 24).toInt k ∧ (fv P' 301 28).toInt = (k : Int) ∧ ((x.toInt = 1 ∧ 1 ≤ k) ∨ (x.toInt = 0 ∧ k = 0))))) ∧ Typ P' ∧ KW [1112, 1115, 1116] Po P' ∧ True) := by
  refine EvP.of qm_221 (Nat.le_of_ble_eq_true rfl) rfl ?_
  show MEvP _ none q_221 0 [(0, .ref 301)] [] _ 0 0 _
  have g1 : (0 : Int) ≤ (fv Po 301 24).toInt ∧ (fv Po 301 24).toInt ≤ 81 := Typ.rng hT rl_301 (by decide) (by decide) rfl
  have g2 : (0 : Int) ≤ (fv Po 301 23).toInt ∧ (fv Po 301 23).toInt ≤ 80 := Typ.rng hT rl_301 (by decide) (by decide) rfl
  refine mp_a (a_aload_n dX7_readsSigns_0 rfl) (mpp 1 rfl ?_)
  refine mp_a (a_iconst (v := 0) dX7_readsSigns_1 rfl) (mpp 2 rfl ?_)
  refine mt_putI (i := 303) (k := 27) (x := 0) hT dX7_readsSigns_2 rfl rl_301 (by decide) rfl (by decide) rfl (by decide) rfl rfl (fun P3 hT4 f5 f6 f7 => mpp 5 rfl ?_)
  have k8 : KW [1112, 1115, 1116] Po P3 := KW.step KW.refl rl_301 rfl f6 f7
  have e9 : (fv P3 301 27).toInt = 0 := congrArg Int32.toInt f5
  refine mp_a (a_aload_n dX7_readsSigns_5 rfl) (mpp 6 rfl ?_)
  refine mp_a (a_iconst (v := 0) dX7_readsSigns_6 rfl) (mpp 7 rfl ?_)
  refine mt_putI (i := 306) (k := 28) (x := 0) hT4 dX7_readsSigns_7 rfl rl_301 (by decide) rfl (by decide) rfl (by decide) rfl rfl (fun P10 hT11 f12 f13 f14 => mpp 10 rfl ?_)
  have k15 : KW [1112, 1115, 1116] Po P10 := KW.step k8 rl_301 rfl f13 f14
  have e16 : (fv P10 301 28).toInt = 0 := congrArg Int32.toInt f12
  have e17 : (fv P10 301 24).toInt = (fv Po 301 24).toInt := congrArg Int32.toInt ((f13 301 24 (ne_k rfl)).trans (f6 301 24 (ne_k rfl)))
  have i18 : (fv Po 301 24).toInt ≤ (fv P10 301 24).toInt := by omega
  have e19 : (fv P10 301 23).toInt = (fv Po 301 23).toInt := congrArg Int32.toInt ((f13 301 23 (ne_k rfl)).trans (f6 301 23 (ne_k rfl)))
  have i20 : (fv P10 301 24).toInt ≤ (fv P10 301 23).toInt := by omega
  have i21 : ∀ j : Nat, j < (fv P10 301 28).toInt.toNat → KK (chM Po ((fv Po 301 24).toInt + (j : Int))).toInt := fun j hj => by exfalso; omega
  have i22 : (fv P10 301 24).toInt = (fv Po 301 24).toInt + (fv P10 301 28).toInt := by omega
  have i23 : fv P10 301 27 = knV (chM Po) (fv Po 301 24).toInt (fv P10 301 28).toInt.toNat := by rw [show (fv P10 301 28).toInt.toNat = 0 from by omega, f13 301 27 (by omega), f5]; rfl
  have i24 : (∀ j : Nat, fv P10 314 j = fv Po 314 j) ∧ fv P10 301 23 = fv Po 301 23 := ⟨fun j => by rw [f13 314 j (by omega), f6 314 j (by omega)], by rw [f13 301 23 (by omega), f6 301 23 (by omega)]⟩
  have i25 : 0 ≤ (fv P10 301 28).toInt ∧ (fv P10 301 28).toInt ≤ 8 := by omega
  exact c_M_readsSigns_l10   hp0 _  P10 hT11 k15 i18 i20 i21 i22 i23 i24 i25 rfl

set_option maxHeartbeats 4000000 in
theorem c_M_digit {Po : mP}  (hT : Typ Po)  (hp0 : (fv Po 301 24).toInt ≤ (fv Po 301 23).toInt)  : EvP 2 223 [.ref 301] Po (fun r P' => (∃ x : Int32, r = some (.int x) ∧ (((fv Po 301 24).toInt ≤ (fv P' 301 24).toInt ∧ (fv P' 301 24).toInt ≤ (fv Po 301 23).toInt) ∧ (((48 ≤ (chM Po (fv Po 301 24).toInt).toInt ∧ (chM Po (fv Po 301 24).toInt).toInt ≤ 57) ∧ x.toInt = (chM Po (fv Po 301 24).toInt).toInt - 48 ∧ (fv P' 301 24).toInt = (fv Po 301 24).toInt + 1) ∨ (¬ (48 ≤ (chM Po (fv Po 301 24).toInt).toInt ∧ (chM Po (fv Po 301 24).toInt).toInt ≤ 57) ∧ x.toInt = -1)))) ∧ Typ P' ∧ KW [1112] Po P' ∧ True) := by
  refine EvP.of qm_223 (Nat.le_of_ble_eq_true rfl) rfl ?_
  show MEvP _ none q_223 0 [(0, .ref 301)] [] _ 0 0 _
  have g1 : (0 : Int) ≤ (fv Po 301 24).toInt ∧ (fv Po 301 24).toInt ≤ 81 := Typ.rng hT rl_301 (by decide) (by decide) rfl
  have g2 : (0 : Int) ≤ (fv Po 301 23).toInt ∧ (fv Po 301 23).toInt ≤ 80 := Typ.rng hT rl_301 (by decide) (by decide) rfl
  refine mp_a (a_aload_n dX7_digit_0 rfl) (mpp 1 rfl ?_)
  refine mt_callv (i := 297) (q' := q_218) (As := []) (rest := []) hT dX7_digit_1 rfl qm_218 (by decide) rfl rl_301 (by decide) rfl (Nat.le_of_ble_eq_true rfl) rfl ⟨rfl, rfl⟩ ⟨Nat.le_of_ble_eq_true rfl, Nat.le_of_ble_eq_true rfl⟩ (EvP.mono (by decide) (c_M_sign hT )) (fun r3 P4 g5 => mpp 4 rfl ?_)
  obtain ⟨⟨x6, rfl, g7⟩, e8⟩ := g5
  have e8 := e8.symm
  subst e8
  have wx6 := ti_full x6
  replace g7 : (x6.toInt = -1 ∨ (fv Po 301 24).toInt + 1 ≤ (fv Po 301 23).toInt) ∧ x6.toInt = (chM Po (fv Po 301 24).toInt).toInt := g7
  show MEvP _ none q_223 4 [(0, .ref 301)] [.int x6] _ _ _ _
  refine mp_a (a_bipush (v := 48) dX7_digit_4 rfl) (mpp 6 rfl ?_)
  refine mp_a (a_bipush (v := 57) dX7_digit_6 rfl) (mpp 8 rfl ?_)
  refine mp_calls (i := 61) (q' := q_127) (As := [.int x6, .int 48, .int 57]) (rest := []) dX7_digit_8 rfl qm_127 (by decide) rfl (Nat.le_of_ble_eq_true rfl) rfl ⟨rfl, rfl⟩ ⟨Nat.le_of_ble_eq_true rfl, Nat.le_of_ble_eq_true rfl⟩ (EvP.mono (by decide) (c_M_isIn hT )) (fun r9 P10 g11 => mpp 11 rfl ?_)
  obtain ⟨⟨x12, rfl, g13⟩, e14⟩ := g11
  have e14 := e14.symm
  subst e14
  have wx12 := ti_full x12
  replace g13 : 0 ≤ x12.toInt ∧ x12.toInt ≤ 1 ∧ ((x12.toInt = 1 ∧ (48 : Int) ≤ x6.toInt ∧ x6.toInt ≤ (57 : Int)) ∨ (x12.toInt = 0 ∧ (x6.toInt < (48 : Int) ∨ (57 : Int) < x6.toInt))) := g13
  show MEvP _ none q_223 11 [(0, .ref 301)] [.int x12] _ _ _ _
  refine mp_Tb (t := 16) (j_if_ne dX7_digit_11) (by decide) (fun c15 => ?_) (fun c15 => mpp 14 rfl ?_)
  · have c15 : x12.toInt ≠ 0 := ti_ne c15
    refine mp_a (a_aload_n dX7_digit_16 rfl) (mpp 17 rfl ?_)
    refine mp_t (s_dup dX7_digit_17 rfl) (mpp 18 rfl ?_)
    refine mt_getI (i := 294) (k := 24) hT dX7_digit_18 rfl rl_301 (by decide) rfl (by decide) rfl (fun g16 g17 => mpp 21 rfl ?_)
    refine mp_a (a_iconst (v := 1) dX7_digit_21 rfl) (mpp 22 rfl ?_)
    obtain ⟨z18, h19⟩ := ti_ex ((fv Po 301 24) + 1 : Int32)
    have wz18 := ti_full z18
    refine mp_t (s_iadd (v := z18) dX7_digit_22 h19) (mpp 23 rfl ?_)
    try have e20 : z18.toInt = (fv Po 301 24).toInt + 1 := ti_addz h19 rfl rfl (by omega) (by omega)
    refine mt_putI (i := 294) (k := 24) (x := z18) hT dX7_digit_23 rfl rl_301 (by decide) rfl (by decide) rfl ⟨by omega, by omega⟩ rfl rfl (fun P21 hT22 f23 f24 f25 => mpp 26 rfl ?_)
    have k26 : KW [1112] Po P21 := KW.step KW.refl rl_301 rfl f24 f25
    have e27 : (fv P21 301 24).toInt = z18.toInt := congrArg Int32.toInt f23
    refine mp_a (a_aload_n dX7_digit_26 rfl) (mpp 27 rfl ?_)
    refine mt_getU (i := 47) (k := 22) (A := 314) hT22 dX7_digit_27 rfl rl_301 (by decide) rfl (by decide) rfl un_30 (mpp 30 rfl ?_)
    refine mp_a (a_aload_n dX7_digit_30 rfl) (mpp 31 rfl ?_)
    refine mt_getI (i := 294) (k := 24) hT22 dX7_digit_31 rfl rl_301 (by decide) rfl (by decide) rfl (fun g28 g29 => mpp 34 rfl ?_)
    refine mp_a (a_iconst (v := 1) dX7_digit_34 rfl) (mpp 35 rfl ?_)
    obtain ⟨z30, h31⟩ := ti_ex ((fv P21 301 24) - 1 : Int32)
    have wz30 := ti_full z30
    refine mp_t (s_isub (v := z30) dX7_digit_35 h31) (mpp 36 rfl ?_)
    try have e32 : z30.toInt = (fv P21 301 24).toInt - 1 := ti_subz h31 rfl rfl (by omega) (by omega)
    refine mt_ial (n := 80) hT22 dX7_digit_36 rl_314 (by decide) rfl rfl (by omega) (by omega) rfl (fun g33 g34 => mpp 37 rfl ?_)
    refine mp_a (a_bipush (v := 48) dX7_digit_37 rfl) (mpp 39 rfl ?_)
    obtain ⟨z35, h36⟩ := ti_ex ((fv P21 314 z30.toInt.toNat) - 48 : Int32)
    have wz35 := ti_full z35
    refine mp_t (s_isub (v := z35) dX7_digit_39 h36) (mpp 40 rfl ?_)
    try have e37 : z35.toInt = (fv P21 314 z30.toInt.toNat).toInt - 48 := ti_subz h36 rfl rfl (by omega) (by omega)
    have w39_q := ch_lt (t := fun j => fv Po 314 j) (L := (fv Po 301 23).toInt) (i := (fv Po 301 24).toInt) (show ¬ (chM Po (fv Po 301 24).toInt).toInt = -1 from by omega)
    have w39_ : (fv P21 314 z30.toInt.toNat).toInt = (chM Po (fv Po 301 24).toInt).toInt := by rw [show chM Po (fv Po 301 24).toInt = fv Po 314 (fv Po 301 24).toInt.toNat from ch_in w39_q, show z30.toInt.toNat = (fv Po 301 24).toInt.toNat from by omega, f24 314 _ (by omega)]
    have w39_z : z35.toInt = (fv P21 314 z30.toInt.toNat).toInt - 48 := ti_subz h36 rfl rfl (by omega) (by omega)
    have u38 : ((fv Po 301 24).toInt ≤ (fv P21 301 24).toInt ∧ (fv P21 301 24).toInt ≤ (fv Po 301 23).toInt) ∧ (((48 ≤ (chM Po (fv Po 301 24).toInt).toInt ∧ (chM Po (fv Po 301 24).toInt).toInt ≤ 57) ∧ z35.toInt = (chM Po (fv Po 301 24).toInt).toInt - 48 ∧ (fv P21 301 24).toInt = (fv Po 301 24).toInt + 1) ∨ (¬ (48 ≤ (chM Po (fv Po 301 24).toInt).toInt ∧ (chM Po (fv Po 301 24).toInt).toInt ≤ 57) ∧ z35.toInt = -1)) := ⟨⟨by omega, by omega⟩, Or.inl ⟨by omega, by omega, by omega⟩⟩
    exact mp_iret ⟨⟨_, rfl, u38⟩, hT22, k26, trivial⟩ dX7_digit_40 (Or.inl rfl)
  · have c15 : x12.toInt = 0 := ti_ne_n c15
    refine mp_a (a_iconst (v := -1) dX7_digit_14 rfl) (mpp 15 rfl ?_)
    have u40 : ((fv Po 301 24).toInt ≤ (fv Po 301 24).toInt ∧ (fv Po 301 24).toInt ≤ (fv Po 301 23).toInt) ∧ (((48 ≤ (chM Po (fv Po 301 24).toInt).toInt ∧ (chM Po (fv Po 301 24).toInt).toInt ≤ 57) ∧ (-1 : Int) = (chM Po (fv Po 301 24).toInt).toInt - 48 ∧ (fv Po 301 24).toInt = (fv Po 301 24).toInt + 1) ∨ (¬ (48 ≤ (chM Po (fv Po 301 24).toInt).toInt ∧ (chM Po (fv Po 301 24).toInt).toInt ≤ 57) ∧ (-1 : Int) = -1)) := ⟨⟨by omega, by omega⟩, Or.inr ⟨by omega, rfl⟩⟩
    exact mp_iret ⟨⟨_, rfl, u40⟩, hT, KW.refl, trivial⟩ dX7_digit_15 (Or.inl rfl)

set_option maxHeartbeats 4000000 in
theorem c_M_readsMark {Po : mP}  (hT : Typ Po)  (hp0 : (fv Po 301 24).toInt ≤ (fv Po 301 23).toInt)  : EvP 3 224 [.ref 301] Po (fun r P' => (∃ x : Int32, r = some (.int x) ∧ (0 ≤ x.toInt ∧ x.toInt ≤ 1 ∧ (((fv Po 301 24).toInt ≤ (fv P' 301 24).toInt ∧ (fv P' 301 24).toInt ≤ (fv Po 301 23).toInt) ∧ ((x.toInt = 1 ∧ ((chM Po (fv Po 301 24).toInt).toInt = 46 ∧ (48 ≤ (chM Po ((fv Po 301 24).toInt + 1)).toInt ∧ (chM Po ((fv Po 301 24).toInt + 1)).toInt ≤ 57) ∧ (chM Po ((fv Po 301 24).toInt + 2)).toInt = 61 ∧ ((chM Po ((fv Po 301 24).toInt + 3)).toInt = 111 ∨ (chM Po ((fv Po 301 24).toInt + 3)).toInt = 109 ∨ (chM Po ((fv Po 301 24).toInt + 3)).toInt = 118)) ∧ (fv P' 301 24).toInt = (fv Po 301 24).toInt + 4 ∧ (fv P' 301 27).toInt = (chM Po ((fv Po 301 24).toInt + 1)).toInt - 48 ∧ (fv P' 301 29).toInt = (kn (chM Po ((fv Po 301 24).toInt + 3)).toInt).toInt) ∨ (x.toInt = 0 ∧ ¬ ((chM Po (fv Po 301 24).toInt).toInt = 46 ∧ (48 ≤ (chM Po ((fv Po 301 24).toInt + 1)).toInt ∧ (chM Po ((fv Po 301 24).toInt + 1)).toInt ≤ 57) ∧ (chM Po ((fv Po 301 24).toInt + 2)).toInt = 61 ∧ ((chM Po ((fv Po 301 24).toInt + 3)).toInt = 111 ∨ (chM Po ((fv Po 301 24).toInt + 3)).toInt = 109 ∨ (chM Po ((fv Po 301 24).toInt + 3)).toInt = 118))))))) ∧ Typ P' ∧ KW [1112, 1115, 1117] Po P' ∧ True) := by
  refine EvP.of qm_224 (Nat.le_of_ble_eq_true rfl) rfl ?_
  show MEvP _ none q_224 0 [(0, .ref 301)] [] _ 0 0 _
  have g1 : (0 : Int) ≤ (fv Po 301 24).toInt ∧ (fv Po 301 24).toInt ≤ 81 := Typ.rng hT rl_301 (by decide) (by decide) rfl
  have g2 : (0 : Int) ≤ (fv Po 301 23).toInt ∧ (fv Po 301 23).toInt ≤ 80 := Typ.rng hT rl_301 (by decide) (by decide) rfl
  refine mp_a (a_aload_n dX7_readsMark_0 rfl) (mpp 1 rfl ?_)
  refine mp_a (a_bipush (v := 46) dX7_readsMark_1 rfl) (mpp 3 rfl ?_)
  have p3 : 0 ≤ (46 : Int) := by omega
  refine mt_callv (i := 312) (q' := q_220) (As := [.int 46]) (rest := []) hT dX7_readsMark_3 rfl qm_220 (by decide) rfl rl_301 (by decide) rfl (Nat.le_of_ble_eq_true rfl) rfl ⟨rfl, rfl⟩ ⟨Nat.le_of_ble_eq_true rfl, Nat.le_of_ble_eq_true rfl⟩ (EvP.mono (by decide) (c_M_takes hT p3 )) (fun r4 P5 g6 => mpp 6 rfl ?_)
  obtain ⟨⟨x7, rfl, g8⟩, hT9, k10, R11⟩ := g6
  have k12 : KW [1112, 1115, 1117] Po P5 := KW.trans KW.refl k10 rfl
  have wx7 := ti_full x7
  replace g8 : 0 ≤ x7.toInt ∧ x7.toInt ≤ 1 ∧ ((x7.toInt = 1 ∧ (chM Po (fv Po 301 24).toInt).toInt = (46 : Int) ∧ (fv P5 301 24).toInt = (fv Po 301 24).toInt + 1 ∧ (fv P5 301 24).toInt ≤ (fv Po 301 23).toInt) ∨ (x7.toInt = 0 ∧ ¬ (chM Po (fv Po 301 24).toInt).toInt = (46 : Int) ∧ (fv P5 301 24).toInt = (fv Po 301 24).toInt)) := g8
  have g14 : (0 : Int) ≤ (fv P5 301 24).toInt ∧ (fv P5 301 24).toInt ≤ 81 := Typ.rng hT9 rl_301 (by decide) (by decide) rfl
  have g15 : (0 : Int) ≤ (fv P5 301 24).toInt ∧ (fv P5 301 24).toInt ≤ 81 := Typ.rng hT9 rl_301 (by decide) (by decide) rfl
  have g16 : (0 : Int) ≤ (fv P5 301 24).toInt ∧ (fv P5 301 24).toInt ≤ 81 := Typ.rng hT9 rl_301 (by decide) (by decide) rfl
  show MEvP _ none q_224 6 [(0, .ref 301)] [.int x7] _ _ _ _
  refine mp_Tb (t := 11) (j_if_ne dX7_readsMark_6) (by decide) (fun c17 => ?_) (fun c17 => mpp 9 rfl ?_)
  · have c17 : x7.toInt ≠ 0 := ti_ne c17
    refine mp_a (a_aload_n dX7_readsMark_11 rfl) (mpp 12 rfl ?_)
    refine mp_a (a_aload_n dX7_readsMark_12 rfl) (mpp 13 rfl ?_)
    have e18 : (fv P5 301 23).toInt = (fv Po 301 23).toInt := congrArg Int32.toInt (KW.at k10 23 rl_301 rfl)
    have p19 : (fv P5 301 24).toInt ≤ (fv P5 301 23).toInt := by omega
    refine mt_callv (i := 315) (q' := q_223) (As := []) (rest := [.ref 301]) hT9 dX7_readsMark_13 rfl qm_223 (by decide) rfl rl_301 (by decide) rfl (Nat.le_of_ble_eq_true rfl) rfl ⟨rfl, rfl⟩ ⟨Nat.le_of_ble_eq_true rfl, Nat.le_of_ble_eq_true rfl⟩ (EvP.mono (by decide) (c_M_digit hT9 p19 )) (fun r20 P21 g22 => mpp 16 rfl ?_)
    obtain ⟨⟨x23, rfl, g24⟩, hT25, k26, R27⟩ := g22
    have k28 : KW [1112, 1115, 1117] Po P21 := KW.trans k12 k26 rfl
    have wx23 := ti_full x23
    replace g24 : ((fv P5 301 24).toInt ≤ (fv P21 301 24).toInt ∧ (fv P21 301 24).toInt ≤ (fv P5 301 23).toInt) ∧ (((48 ≤ (chM P5 (fv P5 301 24).toInt).toInt ∧ (chM P5 (fv P5 301 24).toInt).toInt ≤ 57) ∧ x23.toInt = (chM P5 (fv P5 301 24).toInt).toInt - 48 ∧ (fv P21 301 24).toInt = (fv P5 301 24).toInt + 1) ∨ (¬ (48 ≤ (chM P5 (fv P5 301 24).toInt).toInt ∧ (chM P5 (fv P5 301 24).toInt).toInt ≤ 57) ∧ x23.toInt = -1)) := g24
    have g30 : (0 : Int) ≤ (fv P21 301 24).toInt ∧ (fv P21 301 24).toInt ≤ 81 := Typ.rng hT25 rl_301 (by decide) (by decide) rfl
    have g31 : (0 : Int) ≤ (fv P21 301 24).toInt ∧ (fv P21 301 24).toInt ≤ 81 := Typ.rng hT25 rl_301 (by decide) (by decide) rfl
    have g32 : (0 : Int) ≤ (fv P21 301 24).toInt ∧ (fv P21 301 24).toInt ≤ 81 := Typ.rng hT25 rl_301 (by decide) (by decide) rfl
    show MEvP _ none q_224 16 [(0, .ref 301)] [.int x23, .ref 301] _ _ _ _
    refine mt_putI (i := 303) (k := 27) (x := x23) hT25 dX7_readsMark_16 rfl rl_301 (by decide) rfl (by decide) rfl (ti_full x23) rfl rfl (fun P33 hT34 f35 f36 f37 => mpp 19 rfl ?_)
    have k38 : KW [1112, 1115, 1117] Po P33 := KW.step k28 rl_301 rfl f36 f37
    have e39 : (fv P33 301 27).toInt = x23.toInt := congrArg Int32.toInt f35
    refine mp_a (a_aload_n dX7_readsMark_19 rfl) (mpp 20 rfl ?_)
    refine mt_getI (i := 303) (k := 27) hT34 dX7_readsMark_20 rfl rl_301 (by decide) rfl (by decide) rfl (fun g40 g41 => mpp 23 rfl ?_)
    refine mp_Tb (t := 35) (j_if_lt dX7_readsMark_23) (by decide) (fun c42 => ?_) (fun c42 => mpp 26 rfl ?_)
    · have c42 : (fv P33 301 27).toInt < 0 := ti_lt c42
      refine mp_a (a_iconst (v := 0) dX7_readsMark_35 rfl) (mpp 36 rfl ?_)
      have e43 : (fv P33 301 24).toInt = (fv P21 301 24).toInt := congrArg Int32.toInt (f36 301 24 (ne_k rfl))
      have e45 : (fv P33 301 24).toInt = (fv P21 301 24).toInt := congrArg Int32.toInt (f36 301 24 (by omega))
      have e46 : (fv P33 301 23).toInt = (fv P21 301 23).toInt := congrArg Int32.toInt (f36 301 23 (by omega))
      have e47 : (fv P5 301 23).toInt = (fv Po 301 23).toInt := congrArg Int32.toInt (KW.at k10 23 rl_301 rfl)
      have e48 : (fv P21 301 23).toInt = (fv P5 301 23).toInt := congrArg Int32.toInt (KW.at k26 23 rl_301 rfl)
      have y49_ := g8
      have t51_ : chM P5 = chM Po := chM_eq (fun j => by rw [KW.at k10 j rl_314 rfl]) (by rw [KW.at k10 23 rl_301 rfl])
      have y50_ := g24
      rw [t51_, show (fv P5 301 24).toInt = (fv Po 301 24).toInt + 1 from by omega] at y50_
      have u44 : 0 ≤ (0 : Int) ∧ (0 : Int) ≤ 1 ∧ (((fv Po 301 24).toInt ≤ (fv P33 301 24).toInt ∧ (fv P33 301 24).toInt ≤ (fv Po 301 23).toInt) ∧ (((0 : Int) = 1 ∧ ((chM Po (fv Po 301 24).toInt).toInt = 46 ∧ (48 ≤ (chM Po ((fv Po 301 24).toInt + 1)).toInt ∧ (chM Po ((fv Po 301 24).toInt + 1)).toInt ≤ 57) ∧ (chM Po ((fv Po 301 24).toInt + 2)).toInt = 61 ∧ ((chM Po ((fv Po 301 24).toInt + 3)).toInt = 111 ∨ (chM Po ((fv Po 301 24).toInt + 3)).toInt = 109 ∨ (chM Po ((fv Po 301 24).toInt + 3)).toInt = 118)) ∧ (fv P33 301 24).toInt = (fv Po 301 24).toInt + 4 ∧ (fv P33 301 27).toInt = (chM Po ((fv Po 301 24).toInt + 1)).toInt - 48 ∧ (fv P33 301 29).toInt = (kn (chM Po ((fv Po 301 24).toInt + 3)).toInt).toInt) ∨ ((0 : Int) = 0 ∧ ¬ ((chM Po (fv Po 301 24).toInt).toInt = 46 ∧ (48 ≤ (chM Po ((fv Po 301 24).toInt + 1)).toInt ∧ (chM Po ((fv Po 301 24).toInt + 1)).toInt ≤ 57) ∧ (chM Po ((fv Po 301 24).toInt + 2)).toInt = 61 ∧ ((chM Po ((fv Po 301 24).toInt + 3)).toInt = 111 ∨ (chM Po ((fv Po 301 24).toInt + 3)).toInt = 109 ∨ (chM Po ((fv Po 301 24).toInt + 3)).toInt = 118))))) := ⟨by omega, by omega, ⟨by omega, by omega⟩, Or.inr ⟨rfl, by omega⟩⟩
      exact mp_iret ⟨⟨_, rfl, u44⟩, hT34, k38, trivial⟩ dX7_readsMark_36 (Or.inr ⟨rfl, by decide⟩)
    · have c42 : (fv P33 301 27).toInt ≥ 0 := ti_lt_n c42
      refine mp_a (a_aload_n dX7_readsMark_26 rfl) (mpp 27 rfl ?_)
      refine mp_a (a_bipush (v := 61) dX7_readsMark_27 rfl) (mpp 29 rfl ?_)
      have p52 : 0 ≤ (61 : Int) := by omega
      refine mt_callv (i := 312) (q' := q_220) (As := [.int 61]) (rest := []) hT34 dX7_readsMark_29 rfl qm_220 (by decide) rfl rl_301 (by decide) rfl (Nat.le_of_ble_eq_true rfl) rfl ⟨rfl, rfl⟩ ⟨Nat.le_of_ble_eq_true rfl, Nat.le_of_ble_eq_true rfl⟩ (EvP.mono (by decide) (c_M_takes hT34 p52 )) (fun r53 P54 g55 => mpp 32 rfl ?_)
      obtain ⟨⟨x56, rfl, g57⟩, hT58, k59, R60⟩ := g55
      have k61 : KW [1112, 1115, 1117] Po P54 := KW.trans k38 k59 rfl
      have wx56 := ti_full x56
      replace g57 : 0 ≤ x56.toInt ∧ x56.toInt ≤ 1 ∧ ((x56.toInt = 1 ∧ (chM P33 (fv P33 301 24).toInt).toInt = (61 : Int) ∧ (fv P54 301 24).toInt = (fv P33 301 24).toInt + 1 ∧ (fv P54 301 24).toInt ≤ (fv P33 301 23).toInt) ∨ (x56.toInt = 0 ∧ ¬ (chM P33 (fv P33 301 24).toInt).toInt = (61 : Int) ∧ (fv P54 301 24).toInt = (fv P33 301 24).toInt)) := g57
      have e63 : (fv P33 301 24).toInt = (fv P21 301 24).toInt := congrArg Int32.toInt (f36 301 24 (ne_k rfl))
      have g64 : (0 : Int) ≤ (fv P54 301 24).toInt ∧ (fv P54 301 24).toInt ≤ 81 := Typ.rng hT58 rl_301 (by decide) (by decide) rfl
      have g65 : (0 : Int) ≤ (fv P54 301 24).toInt ∧ (fv P54 301 24).toInt ≤ 81 := Typ.rng hT58 rl_301 (by decide) (by decide) rfl
      have e66 : (fv P33 301 23).toInt = (fv P5 301 23).toInt := congrArg Int32.toInt ((f36 301 23 (ne_k rfl)).trans (KW.at k26 23 rl_301 rfl))
      have g67 : (0 : Int) ≤ (fv P54 301 24).toInt ∧ (fv P54 301 24).toInt ≤ 81 := Typ.rng hT58 rl_301 (by decide) (by decide) rfl
      show MEvP _ none q_224 32 [(0, .ref 301)] [.int x56] _ _ _ _
      refine mp_Tb (t := 37) (j_if_ne dX7_readsMark_32) (by decide) (fun c68 => ?_) (fun c68 => mpp 35 rfl ?_)
      · have c68 : x56.toInt ≠ 0 := ti_ne c68
        refine mp_a (a_aload_n dX7_readsMark_37 rfl) (mpp 38 rfl ?_)
        refine mp_a (a_aload_n dX7_readsMark_38 rfl) (mpp 39 rfl ?_)
        refine mt_callv (i := 297) (q' := q_218) (As := []) (rest := [.ref 301]) hT58 dX7_readsMark_39 rfl qm_218 (by decide) rfl rl_301 (by decide) rfl (Nat.le_of_ble_eq_true rfl) rfl ⟨rfl, rfl⟩ ⟨Nat.le_of_ble_eq_true rfl, Nat.le_of_ble_eq_true rfl⟩ (EvP.mono (by decide) (c_M_sign hT58 )) (fun r69 P70 g71 => mpp 42 rfl ?_)
        obtain ⟨⟨x72, rfl, g73⟩, e74⟩ := g71
        have e74 := e74.symm
        subst e74
        have wx72 := ti_full x72
        replace g73 : (x72.toInt = -1 ∨ (fv P54 301 24).toInt + 1 ≤ (fv P54 301 23).toInt) ∧ x72.toInt = (chM P54 (fv P54 301 24).toInt).toInt := g73
        have e75 : (fv P54 301 23).toInt = (fv P33 301 23).toInt := congrArg Int32.toInt (KW.at k59 23 rl_301 rfl)
        show MEvP _ none q_224 42 [(0, .ref 301)] [.int x72, .ref 301] _ _ _ _
        refine mp_calls (i := 309) (q' := q_222) (As := [.int x72]) (rest := [.ref 301]) dX7_readsMark_42 rfl qm_222 (by decide) rfl (Nat.le_of_ble_eq_true rfl) rfl ⟨rfl, rfl⟩ ⟨Nat.le_of_ble_eq_true rfl, Nat.le_of_ble_eq_true rfl⟩ (EvP.mono (by decide) (c_M_kindOf hT58 )) (fun r76 P77 g78 => mpp 45 rfl ?_)
        obtain ⟨⟨x79, rfl, g80⟩, e81⟩ := g78
        have e81 := e81.symm
        subst e81
        have wx79 := ti_full x79
        replace g80 : ((x72.toInt = 111 ∨ x72.toInt = 109 ∨ x72.toInt = 118) ∧ 0 ≤ x79.toInt ∧ x79.toInt = (kn x72.toInt).toInt) ∨ (¬ (x72.toInt = 111 ∨ x72.toInt = 109 ∨ x72.toInt = 118) ∧ x79.toInt = -1) := g80
        show MEvP _ none q_224 45 [(0, .ref 301)] [.int x79, .ref 301] _ _ _ _
        refine mt_putI (i := 318) (k := 29) (x := x79) hT58 dX7_readsMark_45 rfl rl_301 (by decide) rfl (by decide) rfl (ti_full x79) rfl rfl (fun P82 hT83 f84 f85 f86 => mpp 48 rfl ?_)
        have k87 : KW [1112, 1115, 1117] Po P82 := KW.step k61 rl_301 rfl f85 f86
        have e88 : (fv P82 301 29).toInt = x79.toInt := congrArg Int32.toInt f84
        refine mp_a (a_aload_n dX7_readsMark_48 rfl) (mpp 49 rfl ?_)
        refine mp_t (s_dup dX7_readsMark_49 rfl) (mpp 50 rfl ?_)
        have e89 : (fv P82 301 24).toInt = (fv P54 301 24).toInt := congrArg Int32.toInt (f85 301 24 (ne_k rfl))
        refine mt_getI (i := 294) (k := 24) hT83 dX7_readsMark_50 rfl rl_301 (by decide) rfl (by decide) rfl (fun g90 g91 => mpp 53 rfl ?_)
        refine mp_a (a_aload_n dX7_readsMark_53 rfl) (mpp 54 rfl ?_)
        refine mt_getI (i := 318) (k := 29) hT83 dX7_readsMark_54 rfl rl_301 (by decide) rfl (by decide) rfl (fun g92 g93 => mpp 57 rfl ?_)
        refine mp_Tb (t := 64) (j_if_lt dX7_readsMark_57) (by decide) (fun c94 => ?_) (fun c94 => mpp 60 rfl ?_)
        · have c94 : (fv P82 301 29).toInt < 0 := ti_lt c94
          refine mp_a (a_iconst (v := 0) dX7_readsMark_64 rfl) (mpp 65 rfl ?_)
          obtain ⟨z95, h96⟩ := ti_ex ((fv P82 301 24) + 0 : Int32)
          have wz95 := ti_full z95
          refine mp_t (s_iadd (v := z95) dX7_readsMark_65 h96) (mpp 66 rfl ?_)
          try have e97 : z95.toInt = (fv P82 301 24).toInt + 0 := ti_addz h96 rfl rfl (by omega) (by omega)
          refine mt_putI (i := 294) (k := 24) (x := z95) hT83 dX7_readsMark_66 rfl rl_301 (by decide) rfl (by decide) rfl ⟨by omega, by omega⟩ rfl rfl (fun P98 hT99 f100 f101 f102 => mpp 69 rfl ?_)
          have k103 : KW [1112, 1115, 1117] Po P98 := KW.step k87 rl_301 rfl f101 f102
          have e104 : (fv P98 301 24).toInt = z95.toInt := congrArg Int32.toInt f100
          refine mp_a (a_aload_n dX7_readsMark_69 rfl) (mpp 70 rfl ?_)
          have e105 : (fv P98 301 29).toInt = (fv P82 301 29).toInt := congrArg Int32.toInt (f101 301 29 (ne_k rfl))
          refine mt_getI (i := 318) (k := 29) hT99 dX7_readsMark_70 rfl rl_301 (by decide) rfl (by decide) rfl (fun g106 g107 => mpp 73 rfl ?_)
          refine mp_Tb (t := 80) (j_if_lt dX7_readsMark_73) (by decide) (fun c108 => ?_) (fun c108 => mpp 76 rfl ?_)
          · have c108 : (fv P98 301 29).toInt < 0 := ti_lt c108
            refine mp_a (a_iconst (v := 0) dX7_readsMark_80 rfl) (mpp 81 rfl ?_)
            have e110 : (fv P33 301 24).toInt = (fv P21 301 24).toInt := congrArg Int32.toInt (f36 301 24 (by omega))
            have e111 : (fv P33 301 23).toInt = (fv P21 301 23).toInt := congrArg Int32.toInt (f36 301 23 (by omega))
            have e112 : (fv P82 301 24).toInt = (fv P54 301 24).toInt := congrArg Int32.toInt (f85 301 24 (by omega))
            have e113 : (fv P82 301 23).toInt = (fv P54 301 23).toInt := congrArg Int32.toInt (f85 301 23 (by omega))
            have e114 : (fv P5 301 23).toInt = (fv Po 301 23).toInt := congrArg Int32.toInt (KW.at k10 23 rl_301 rfl)
            have e115 : (fv P21 301 23).toInt = (fv P5 301 23).toInt := congrArg Int32.toInt (KW.at k26 23 rl_301 rfl)
            have e116 : (fv P54 301 23).toInt = (fv P33 301 23).toInt := congrArg Int32.toInt (KW.at k59 23 rl_301 rfl)
            have y117_ := g8
            have t119_ : chM P5 = chM Po := chM_eq (fun j => by rw [KW.at k10 j rl_314 rfl]) (by rw [KW.at k10 23 rl_301 rfl])
            have y118_ := g24
            rw [t119_, show (fv P5 301 24).toInt = (fv Po 301 24).toInt + 1 from by omega] at y118_
            have t121_ : chM P33 = chM Po := chM_eq (fun j => by rw [f36 314 j (by omega), KW.at k26 j rl_314 rfl, KW.at k10 j rl_314 rfl]) (by rw [f36 301 23 (by omega), KW.at k26 23 rl_301 rfl, KW.at k10 23 rl_301 rfl])
            have y120_ := g57
            rw [t121_, show (fv P33 301 24).toInt = (fv Po 301 24).toInt + 2 from by omega] at y120_
            have t123_ : chM P54 = chM Po := chM_eq (fun j => by rw [KW.at k59 j rl_314 rfl, f36 314 j (by omega), KW.at k26 j rl_314 rfl, KW.at k10 j rl_314 rfl]) (by rw [KW.at k59 23 rl_301 rfl, f36 301 23 (by omega), KW.at k26 23 rl_301 rfl, KW.at k10 23 rl_301 rfl])
            have y122_ := g73
            rw [t123_, show (fv P54 301 24).toInt = (fv Po 301 24).toInt + 3 from by omega] at y122_
            have u109 : 0 ≤ (0 : Int) ∧ (0 : Int) ≤ 1 ∧ (((fv Po 301 24).toInt ≤ (fv P98 301 24).toInt ∧ (fv P98 301 24).toInt ≤ (fv Po 301 23).toInt) ∧ (((0 : Int) = 1 ∧ ((chM Po (fv Po 301 24).toInt).toInt = 46 ∧ (48 ≤ (chM Po ((fv Po 301 24).toInt + 1)).toInt ∧ (chM Po ((fv Po 301 24).toInt + 1)).toInt ≤ 57) ∧ (chM Po ((fv Po 301 24).toInt + 2)).toInt = 61 ∧ ((chM Po ((fv Po 301 24).toInt + 3)).toInt = 111 ∨ (chM Po ((fv Po 301 24).toInt + 3)).toInt = 109 ∨ (chM Po ((fv Po 301 24).toInt + 3)).toInt = 118)) ∧ (fv P98 301 24).toInt = (fv Po 301 24).toInt + 4 ∧ (fv P98 301 27).toInt = (chM Po ((fv Po 301 24).toInt + 1)).toInt - 48 ∧ (fv P98 301 29).toInt = (kn (chM Po ((fv Po 301 24).toInt + 3)).toInt).toInt) ∨ ((0 : Int) = 0 ∧ ¬ ((chM Po (fv Po 301 24).toInt).toInt = 46 ∧ (48 ≤ (chM Po ((fv Po 301 24).toInt + 1)).toInt ∧ (chM Po ((fv Po 301 24).toInt + 1)).toInt ≤ 57) ∧ (chM Po ((fv Po 301 24).toInt + 2)).toInt = 61 ∧ ((chM Po ((fv Po 301 24).toInt + 3)).toInt = 111 ∨ (chM Po ((fv Po 301 24).toInt + 3)).toInt = 109 ∨ (chM Po ((fv Po 301 24).toInt + 3)).toInt = 118))))) := ⟨by omega, by omega, ⟨by omega, by omega⟩, Or.inr ⟨rfl, by omega⟩⟩
            exact mp_iret ⟨⟨_, rfl, u109⟩, hT99, k103, trivial⟩ dX7_readsMark_81 (Or.inr ⟨rfl, by decide⟩)
          · have c108 : (fv P98 301 29).toInt ≥ 0 := ti_lt_n c108
            refine mp_a (a_iconst (v := 1) dX7_readsMark_76 rfl) (mpp 77 rfl ?_)
            refine mp_a (a_goto (t := 81) dX7_readsMark_77 (by decide)) ?_
            have e125 : (fv P33 301 24).toInt = (fv P21 301 24).toInt := congrArg Int32.toInt (f36 301 24 (by omega))
            have e126 : (fv P33 301 23).toInt = (fv P21 301 23).toInt := congrArg Int32.toInt (f36 301 23 (by omega))
            have e127 : (fv P82 301 24).toInt = (fv P54 301 24).toInt := congrArg Int32.toInt (f85 301 24 (by omega))
            have e128 : (fv P82 301 23).toInt = (fv P54 301 23).toInt := congrArg Int32.toInt (f85 301 23 (by omega))
            have e129 : (fv P5 301 23).toInt = (fv Po 301 23).toInt := congrArg Int32.toInt (KW.at k10 23 rl_301 rfl)
            have e130 : (fv P21 301 23).toInt = (fv P5 301 23).toInt := congrArg Int32.toInt (KW.at k26 23 rl_301 rfl)
            have e131 : (fv P54 301 23).toInt = (fv P33 301 23).toInt := congrArg Int32.toInt (KW.at k59 23 rl_301 rfl)
            have y132_ := g8
            have t134_ : chM P5 = chM Po := chM_eq (fun j => by rw [KW.at k10 j rl_314 rfl]) (by rw [KW.at k10 23 rl_301 rfl])
            have y133_ := g24
            rw [t134_, show (fv P5 301 24).toInt = (fv Po 301 24).toInt + 1 from by omega] at y133_
            have t136_ : chM P33 = chM Po := chM_eq (fun j => by rw [f36 314 j (by omega), KW.at k26 j rl_314 rfl, KW.at k10 j rl_314 rfl]) (by rw [f36 301 23 (by omega), KW.at k26 23 rl_301 rfl, KW.at k10 23 rl_301 rfl])
            have y135_ := g57
            rw [t136_, show (fv P33 301 24).toInt = (fv Po 301 24).toInt + 2 from by omega] at y135_
            have t138_ : chM P54 = chM Po := chM_eq (fun j => by rw [KW.at k59 j rl_314 rfl, f36 314 j (by omega), KW.at k26 j rl_314 rfl, KW.at k10 j rl_314 rfl]) (by rw [KW.at k59 23 rl_301 rfl, f36 301 23 (by omega), KW.at k26 23 rl_301 rfl, KW.at k10 23 rl_301 rfl])
            have y137_ := g73
            rw [t138_, show (fv P54 301 24).toInt = (fv Po 301 24).toInt + 3 from by omega] at y137_
            have e139 : (fv P98 301 27).toInt = (fv P33 301 27).toInt := by rw [f101 301 27 (by omega), f85 301 27 (by omega), KW.at k59 27 rl_301 rfl]
            have e140 : (fv P98 301 29).toInt = (fv P82 301 29).toInt := by rw [f101 301 29 (by omega)]
            have w141_ : x79.toInt = (kn (chM Po ((fv Po 301 24).toInt + 3)).toInt).toInt := by rw [show (chM Po ((fv Po 301 24).toInt + 3)).toInt = x72.toInt from by omega]; exact (g80.resolve_right (by omega)).2.2
            have u124 : 0 ≤ (1 : Int) ∧ (1 : Int) ≤ 1 ∧ (((fv Po 301 24).toInt ≤ (fv P98 301 24).toInt ∧ (fv P98 301 24).toInt ≤ (fv Po 301 23).toInt) ∧ (((1 : Int) = 1 ∧ ((chM Po (fv Po 301 24).toInt).toInt = 46 ∧ (48 ≤ (chM Po ((fv Po 301 24).toInt + 1)).toInt ∧ (chM Po ((fv Po 301 24).toInt + 1)).toInt ≤ 57) ∧ (chM Po ((fv Po 301 24).toInt + 2)).toInt = 61 ∧ ((chM Po ((fv Po 301 24).toInt + 3)).toInt = 111 ∨ (chM Po ((fv Po 301 24).toInt + 3)).toInt = 109 ∨ (chM Po ((fv Po 301 24).toInt + 3)).toInt = 118)) ∧ (fv P98 301 24).toInt = (fv Po 301 24).toInt + 4 ∧ (fv P98 301 27).toInt = (chM Po ((fv Po 301 24).toInt + 1)).toInt - 48 ∧ (fv P98 301 29).toInt = (kn (chM Po ((fv Po 301 24).toInt + 3)).toInt).toInt) ∨ ((1 : Int) = 0 ∧ ¬ ((chM Po (fv Po 301 24).toInt).toInt = 46 ∧ (48 ≤ (chM Po ((fv Po 301 24).toInt + 1)).toInt ∧ (chM Po ((fv Po 301 24).toInt + 1)).toInt ≤ 57) ∧ (chM Po ((fv Po 301 24).toInt + 2)).toInt = 61 ∧ ((chM Po ((fv Po 301 24).toInt + 3)).toInt = 111 ∨ (chM Po ((fv Po 301 24).toInt + 3)).toInt = 109 ∨ (chM Po ((fv Po 301 24).toInt + 3)).toInt = 118))))) := ⟨by omega, by omega, ⟨by omega, by omega⟩, Or.inl ⟨rfl, by omega, by omega, by omega, by omega⟩⟩
            exact mp_iret ⟨⟨_, rfl, u124⟩, hT99, k103, trivial⟩ dX7_readsMark_81 (Or.inr ⟨rfl, by decide⟩)
        · have c94 : (fv P82 301 29).toInt ≥ 0 := ti_lt_n c94
          refine mp_a (a_iconst (v := 1) dX7_readsMark_60 rfl) (mpp 61 rfl ?_)
          refine mp_a (a_goto (t := 65) dX7_readsMark_61 (by decide)) ?_
          obtain ⟨z142, h143⟩ := ti_ex ((fv P82 301 24) + 1 : Int32)
          have wz142 := ti_full z142
          refine mp_t (s_iadd (v := z142) dX7_readsMark_65 h143) (mpp 66 rfl ?_)
          try have e144 : z142.toInt = (fv P82 301 24).toInt + 1 := ti_addz h143 rfl rfl (by omega) (by omega)
          refine mt_putI (i := 294) (k := 24) (x := z142) hT83 dX7_readsMark_66 rfl rl_301 (by decide) rfl (by decide) rfl ⟨by omega, by omega⟩ rfl rfl (fun P145 hT146 f147 f148 f149 => mpp 69 rfl ?_)
          have k150 : KW [1112, 1115, 1117] Po P145 := KW.step k87 rl_301 rfl f148 f149
          have e151 : (fv P145 301 24).toInt = z142.toInt := congrArg Int32.toInt f147
          refine mp_a (a_aload_n dX7_readsMark_69 rfl) (mpp 70 rfl ?_)
          have e152 : (fv P145 301 29).toInt = (fv P82 301 29).toInt := congrArg Int32.toInt (f148 301 29 (ne_k rfl))
          refine mt_getI (i := 318) (k := 29) hT146 dX7_readsMark_70 rfl rl_301 (by decide) rfl (by decide) rfl (fun g153 g154 => mpp 73 rfl ?_)
          refine mp_Tb (t := 80) (j_if_lt dX7_readsMark_73) (by decide) (fun c155 => ?_) (fun c155 => mpp 76 rfl ?_)
          · have c155 : (fv P145 301 29).toInt < 0 := ti_lt c155
            refine mp_a (a_iconst (v := 0) dX7_readsMark_80 rfl) (mpp 81 rfl ?_)
            have e157 : (fv P33 301 24).toInt = (fv P21 301 24).toInt := congrArg Int32.toInt (f36 301 24 (by omega))
            have e158 : (fv P33 301 23).toInt = (fv P21 301 23).toInt := congrArg Int32.toInt (f36 301 23 (by omega))
            have e159 : (fv P82 301 24).toInt = (fv P54 301 24).toInt := congrArg Int32.toInt (f85 301 24 (by omega))
            have e160 : (fv P82 301 23).toInt = (fv P54 301 23).toInt := congrArg Int32.toInt (f85 301 23 (by omega))
            have e161 : (fv P5 301 23).toInt = (fv Po 301 23).toInt := congrArg Int32.toInt (KW.at k10 23 rl_301 rfl)
            have e162 : (fv P21 301 23).toInt = (fv P5 301 23).toInt := congrArg Int32.toInt (KW.at k26 23 rl_301 rfl)
            have e163 : (fv P54 301 23).toInt = (fv P33 301 23).toInt := congrArg Int32.toInt (KW.at k59 23 rl_301 rfl)
            have y164_ := g8
            have t166_ : chM P5 = chM Po := chM_eq (fun j => by rw [KW.at k10 j rl_314 rfl]) (by rw [KW.at k10 23 rl_301 rfl])
            have y165_ := g24
            rw [t166_, show (fv P5 301 24).toInt = (fv Po 301 24).toInt + 1 from by omega] at y165_
            have t168_ : chM P33 = chM Po := chM_eq (fun j => by rw [f36 314 j (by omega), KW.at k26 j rl_314 rfl, KW.at k10 j rl_314 rfl]) (by rw [f36 301 23 (by omega), KW.at k26 23 rl_301 rfl, KW.at k10 23 rl_301 rfl])
            have y167_ := g57
            rw [t168_, show (fv P33 301 24).toInt = (fv Po 301 24).toInt + 2 from by omega] at y167_
            have t170_ : chM P54 = chM Po := chM_eq (fun j => by rw [KW.at k59 j rl_314 rfl, f36 314 j (by omega), KW.at k26 j rl_314 rfl, KW.at k10 j rl_314 rfl]) (by rw [KW.at k59 23 rl_301 rfl, f36 301 23 (by omega), KW.at k26 23 rl_301 rfl, KW.at k10 23 rl_301 rfl])
            have y169_ := g73
            rw [t170_, show (fv P54 301 24).toInt = (fv Po 301 24).toInt + 3 from by omega] at y169_
            have u156 : 0 ≤ (0 : Int) ∧ (0 : Int) ≤ 1 ∧ (((fv Po 301 24).toInt ≤ (fv P145 301 24).toInt ∧ (fv P145 301 24).toInt ≤ (fv Po 301 23).toInt) ∧ (((0 : Int) = 1 ∧ ((chM Po (fv Po 301 24).toInt).toInt = 46 ∧ (48 ≤ (chM Po ((fv Po 301 24).toInt + 1)).toInt ∧ (chM Po ((fv Po 301 24).toInt + 1)).toInt ≤ 57) ∧ (chM Po ((fv Po 301 24).toInt + 2)).toInt = 61 ∧ ((chM Po ((fv Po 301 24).toInt + 3)).toInt = 111 ∨ (chM Po ((fv Po 301 24).toInt + 3)).toInt = 109 ∨ (chM Po ((fv Po 301 24).toInt + 3)).toInt = 118)) ∧ (fv P145 301 24).toInt = (fv Po 301 24).toInt + 4 ∧ (fv P145 301 27).toInt = (chM Po ((fv Po 301 24).toInt + 1)).toInt - 48 ∧ (fv P145 301 29).toInt = (kn (chM Po ((fv Po 301 24).toInt + 3)).toInt).toInt) ∨ ((0 : Int) = 0 ∧ ¬ ((chM Po (fv Po 301 24).toInt).toInt = 46 ∧ (48 ≤ (chM Po ((fv Po 301 24).toInt + 1)).toInt ∧ (chM Po ((fv Po 301 24).toInt + 1)).toInt ≤ 57) ∧ (chM Po ((fv Po 301 24).toInt + 2)).toInt = 61 ∧ ((chM Po ((fv Po 301 24).toInt + 3)).toInt = 111 ∨ (chM Po ((fv Po 301 24).toInt + 3)).toInt = 109 ∨ (chM Po ((fv Po 301 24).toInt + 3)).toInt = 118))))) := ⟨by omega, by omega, ⟨by omega, by omega⟩, Or.inr ⟨rfl, by omega⟩⟩
            exact mp_iret ⟨⟨_, rfl, u156⟩, hT146, k150, trivial⟩ dX7_readsMark_81 (Or.inr ⟨rfl, by decide⟩)
          · have c155 : (fv P145 301 29).toInt ≥ 0 := ti_lt_n c155
            refine mp_a (a_iconst (v := 1) dX7_readsMark_76 rfl) (mpp 77 rfl ?_)
            refine mp_a (a_goto (t := 81) dX7_readsMark_77 (by decide)) ?_
            have e172 : (fv P33 301 24).toInt = (fv P21 301 24).toInt := congrArg Int32.toInt (f36 301 24 (by omega))
            have e173 : (fv P33 301 23).toInt = (fv P21 301 23).toInt := congrArg Int32.toInt (f36 301 23 (by omega))
            have e174 : (fv P82 301 24).toInt = (fv P54 301 24).toInt := congrArg Int32.toInt (f85 301 24 (by omega))
            have e175 : (fv P82 301 23).toInt = (fv P54 301 23).toInt := congrArg Int32.toInt (f85 301 23 (by omega))
            have e176 : (fv P5 301 23).toInt = (fv Po 301 23).toInt := congrArg Int32.toInt (KW.at k10 23 rl_301 rfl)
            have e177 : (fv P21 301 23).toInt = (fv P5 301 23).toInt := congrArg Int32.toInt (KW.at k26 23 rl_301 rfl)
            have e178 : (fv P54 301 23).toInt = (fv P33 301 23).toInt := congrArg Int32.toInt (KW.at k59 23 rl_301 rfl)
            have y179_ := g8
            have t181_ : chM P5 = chM Po := chM_eq (fun j => by rw [KW.at k10 j rl_314 rfl]) (by rw [KW.at k10 23 rl_301 rfl])
            have y180_ := g24
            rw [t181_, show (fv P5 301 24).toInt = (fv Po 301 24).toInt + 1 from by omega] at y180_
            have t183_ : chM P33 = chM Po := chM_eq (fun j => by rw [f36 314 j (by omega), KW.at k26 j rl_314 rfl, KW.at k10 j rl_314 rfl]) (by rw [f36 301 23 (by omega), KW.at k26 23 rl_301 rfl, KW.at k10 23 rl_301 rfl])
            have y182_ := g57
            rw [t183_, show (fv P33 301 24).toInt = (fv Po 301 24).toInt + 2 from by omega] at y182_
            have t185_ : chM P54 = chM Po := chM_eq (fun j => by rw [KW.at k59 j rl_314 rfl, f36 314 j (by omega), KW.at k26 j rl_314 rfl, KW.at k10 j rl_314 rfl]) (by rw [KW.at k59 23 rl_301 rfl, f36 301 23 (by omega), KW.at k26 23 rl_301 rfl, KW.at k10 23 rl_301 rfl])
            have y184_ := g73
            rw [t185_, show (fv P54 301 24).toInt = (fv Po 301 24).toInt + 3 from by omega] at y184_
            have e186 : (fv P145 301 27).toInt = (fv P33 301 27).toInt := by rw [f148 301 27 (by omega), f85 301 27 (by omega), KW.at k59 27 rl_301 rfl]
            have e187 : (fv P145 301 29).toInt = (fv P82 301 29).toInt := by rw [f148 301 29 (by omega)]
            have w188_ : x79.toInt = (kn (chM Po ((fv Po 301 24).toInt + 3)).toInt).toInt := by rw [show (chM Po ((fv Po 301 24).toInt + 3)).toInt = x72.toInt from by omega]; exact (g80.resolve_right (by omega)).2.2
            have u171 : 0 ≤ (1 : Int) ∧ (1 : Int) ≤ 1 ∧ (((fv Po 301 24).toInt ≤ (fv P145 301 24).toInt ∧ (fv P145 301 24).toInt ≤ (fv Po 301 23).toInt) ∧ (((1 : Int) = 1 ∧ ((chM Po (fv Po 301 24).toInt).toInt = 46 ∧ (48 ≤ (chM Po ((fv Po 301 24).toInt + 1)).toInt ∧ (chM Po ((fv Po 301 24).toInt + 1)).toInt ≤ 57) ∧ (chM Po ((fv Po 301 24).toInt + 2)).toInt = 61 ∧ ((chM Po ((fv Po 301 24).toInt + 3)).toInt = 111 ∨ (chM Po ((fv Po 301 24).toInt + 3)).toInt = 109 ∨ (chM Po ((fv Po 301 24).toInt + 3)).toInt = 118)) ∧ (fv P145 301 24).toInt = (fv Po 301 24).toInt + 4 ∧ (fv P145 301 27).toInt = (chM Po ((fv Po 301 24).toInt + 1)).toInt - 48 ∧ (fv P145 301 29).toInt = (kn (chM Po ((fv Po 301 24).toInt + 3)).toInt).toInt) ∨ ((1 : Int) = 0 ∧ ¬ ((chM Po (fv Po 301 24).toInt).toInt = 46 ∧ (48 ≤ (chM Po ((fv Po 301 24).toInt + 1)).toInt ∧ (chM Po ((fv Po 301 24).toInt + 1)).toInt ≤ 57) ∧ (chM Po ((fv Po 301 24).toInt + 2)).toInt = 61 ∧ ((chM Po ((fv Po 301 24).toInt + 3)).toInt = 111 ∨ (chM Po ((fv Po 301 24).toInt + 3)).toInt = 109 ∨ (chM Po ((fv Po 301 24).toInt + 3)).toInt = 118))))) := ⟨by omega, by omega, ⟨by omega, by omega⟩, Or.inl ⟨rfl, by omega, by omega, by omega, by omega⟩⟩
            exact mp_iret ⟨⟨_, rfl, u171⟩, hT146, k150, trivial⟩ dX7_readsMark_81 (Or.inr ⟨rfl, by decide⟩)
      · have c68 : x56.toInt = 0 := ti_ne_n c68
        refine mp_a (a_iconst (v := 0) dX7_readsMark_35 rfl) (mpp 36 rfl ?_)
        have e190 : (fv P33 301 24).toInt = (fv P21 301 24).toInt := congrArg Int32.toInt (f36 301 24 (by omega))
        have e191 : (fv P33 301 23).toInt = (fv P21 301 23).toInt := congrArg Int32.toInt (f36 301 23 (by omega))
        have e192 : (fv P5 301 23).toInt = (fv Po 301 23).toInt := congrArg Int32.toInt (KW.at k10 23 rl_301 rfl)
        have e193 : (fv P21 301 23).toInt = (fv P5 301 23).toInt := congrArg Int32.toInt (KW.at k26 23 rl_301 rfl)
        have e194 : (fv P54 301 23).toInt = (fv P33 301 23).toInt := congrArg Int32.toInt (KW.at k59 23 rl_301 rfl)
        have y195_ := g8
        have t197_ : chM P5 = chM Po := chM_eq (fun j => by rw [KW.at k10 j rl_314 rfl]) (by rw [KW.at k10 23 rl_301 rfl])
        have y196_ := g24
        rw [t197_, show (fv P5 301 24).toInt = (fv Po 301 24).toInt + 1 from by omega] at y196_
        have t199_ : chM P33 = chM Po := chM_eq (fun j => by rw [f36 314 j (by omega), KW.at k26 j rl_314 rfl, KW.at k10 j rl_314 rfl]) (by rw [f36 301 23 (by omega), KW.at k26 23 rl_301 rfl, KW.at k10 23 rl_301 rfl])
        have y198_ := g57
        rw [t199_, show (fv P33 301 24).toInt = (fv Po 301 24).toInt + 2 from by omega] at y198_
        have u189 : 0 ≤ (0 : Int) ∧ (0 : Int) ≤ 1 ∧ (((fv Po 301 24).toInt ≤ (fv P54 301 24).toInt ∧ (fv P54 301 24).toInt ≤ (fv Po 301 23).toInt) ∧ (((0 : Int) = 1 ∧ ((chM Po (fv Po 301 24).toInt).toInt = 46 ∧ (48 ≤ (chM Po ((fv Po 301 24).toInt + 1)).toInt ∧ (chM Po ((fv Po 301 24).toInt + 1)).toInt ≤ 57) ∧ (chM Po ((fv Po 301 24).toInt + 2)).toInt = 61 ∧ ((chM Po ((fv Po 301 24).toInt + 3)).toInt = 111 ∨ (chM Po ((fv Po 301 24).toInt + 3)).toInt = 109 ∨ (chM Po ((fv Po 301 24).toInt + 3)).toInt = 118)) ∧ (fv P54 301 24).toInt = (fv Po 301 24).toInt + 4 ∧ (fv P54 301 27).toInt = (chM Po ((fv Po 301 24).toInt + 1)).toInt - 48 ∧ (fv P54 301 29).toInt = (kn (chM Po ((fv Po 301 24).toInt + 3)).toInt).toInt) ∨ ((0 : Int) = 0 ∧ ¬ ((chM Po (fv Po 301 24).toInt).toInt = 46 ∧ (48 ≤ (chM Po ((fv Po 301 24).toInt + 1)).toInt ∧ (chM Po ((fv Po 301 24).toInt + 1)).toInt ≤ 57) ∧ (chM Po ((fv Po 301 24).toInt + 2)).toInt = 61 ∧ ((chM Po ((fv Po 301 24).toInt + 3)).toInt = 111 ∨ (chM Po ((fv Po 301 24).toInt + 3)).toInt = 109 ∨ (chM Po ((fv Po 301 24).toInt + 3)).toInt = 118))))) := ⟨by omega, by omega, ⟨by omega, by omega⟩, Or.inr ⟨rfl, by omega⟩⟩
        exact mp_iret ⟨⟨_, rfl, u189⟩, hT58, k61, trivial⟩ dX7_readsMark_36 (Or.inr ⟨rfl, by decide⟩)
  · have c17 : x7.toInt = 0 := ti_ne_n c17
    refine mp_a (a_iconst (v := 0) dX7_readsMark_9 rfl) (mpp 10 rfl ?_)
    have e201 : (fv P5 301 23).toInt = (fv Po 301 23).toInt := congrArg Int32.toInt (KW.at k10 23 rl_301 rfl)
    have y202_ := g8
    have u200 : 0 ≤ (0 : Int) ∧ (0 : Int) ≤ 1 ∧ (((fv Po 301 24).toInt ≤ (fv P5 301 24).toInt ∧ (fv P5 301 24).toInt ≤ (fv Po 301 23).toInt) ∧ (((0 : Int) = 1 ∧ ((chM Po (fv Po 301 24).toInt).toInt = 46 ∧ (48 ≤ (chM Po ((fv Po 301 24).toInt + 1)).toInt ∧ (chM Po ((fv Po 301 24).toInt + 1)).toInt ≤ 57) ∧ (chM Po ((fv Po 301 24).toInt + 2)).toInt = 61 ∧ ((chM Po ((fv Po 301 24).toInt + 3)).toInt = 111 ∨ (chM Po ((fv Po 301 24).toInt + 3)).toInt = 109 ∨ (chM Po ((fv Po 301 24).toInt + 3)).toInt = 118)) ∧ (fv P5 301 24).toInt = (fv Po 301 24).toInt + 4 ∧ (fv P5 301 27).toInt = (chM Po ((fv Po 301 24).toInt + 1)).toInt - 48 ∧ (fv P5 301 29).toInt = (kn (chM Po ((fv Po 301 24).toInt + 3)).toInt).toInt) ∨ ((0 : Int) = 0 ∧ ¬ ((chM Po (fv Po 301 24).toInt).toInt = 46 ∧ (48 ≤ (chM Po ((fv Po 301 24).toInt + 1)).toInt ∧ (chM Po ((fv Po 301 24).toInt + 1)).toInt ≤ 57) ∧ (chM Po ((fv Po 301 24).toInt + 2)).toInt = 61 ∧ ((chM Po ((fv Po 301 24).toInt + 3)).toInt = 111 ∨ (chM Po ((fv Po 301 24).toInt + 3)).toInt = 109 ∨ (chM Po ((fv Po 301 24).toInt + 3)).toInt = 118))))) := ⟨by omega, by omega, ⟨by omega, by omega⟩, Or.inr ⟨rfl, by omega⟩⟩
    exact mp_iret ⟨⟨_, rfl, u200⟩, hT9, k12, trivial⟩ dX7_readsMark_10 (Or.inr ⟨rfl, by decide⟩)

