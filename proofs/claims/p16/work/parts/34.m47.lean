/-! methods on typed pools, 47 (written by a program) -/
set_option maxHeartbeats 4000000 in
theorem c_M_readsSizes_l7 {Po : mP}  (hp0 : (fv Po 301 24).toInt ≤ (fv Po 301 23).toInt)  : ∀ (n : Nat) (v1 : Int32), ∀ (P : mP), Typ P → KW [1112, 1114] Po P → ((fv Po 301 24).toInt ≤ (fv P 301 24).toInt) → ((fv P 301 24).toInt ≤ (fv P 301 23).toInt) → (∀ j : Nat, j < v1.toInt.toNat → D1 (chM Po ((fv Po 301 24).toInt + (j : Int))).toInt) → ((fv P 301 24).toInt = (fv Po 301 24).toInt + v1.toInt) → (fv P 301 26 = szI (chM Po) (fv Po 301 24).toInt v1.toInt.toNat) → ((∀ j : Nat, fv P 314 j = fv Po 314 j) ∧ fv P 301 23 = fv Po 301 23) → (v1.toInt ≤ 8) → (0 ≤ v1.toInt) → (2147483647 - v1.toInt).toNat = n → MEvP 1 none q_219 7 [(0, .ref 301), (1, .int v1)] [] P 0 0 (fun r P' => (∃ x : Int32, r = some (.int x) ∧ (0 ≤ x.toInt ∧ x.toInt ≤ 1 ∧ (((fv Po 301 24).toInt ≤ (fv P' 301 24).toInt ∧ (fv P' 301 24).toInt ≤ (fv Po 301 23).toInt) ∧ ∃ k : Nat, RUN D1 (chM Po) (fv Po 301 24).toInt k ∧ (fv P' 301 24).toInt = (fv Po 301 24).toInt + (k : Int) ∧ fv P' 301 26 = szI (chM Po) (fv Po 301 24).toInt k ∧ ((x.toInt = 1 ∧ 1 ≤ k) ∨ (x.toInt = 0 ∧ k = 0))))) ∧ Typ P' ∧ KW [1112, 1114] Po P' ∧ True) := by
  intro n
  induction n using Nat.strongRecOn with | _ n ih => ?_
  intro v1 P hT hK i_0 i_1 i_2 i_3 i_4 i_5 i_6 i_7 hm
  have w_v1 := ti_full v1
  have g1 : (0 : Int) ≤ (fv P 301 24).toInt ∧ (fv P 301 24).toInt ≤ 81 := Typ.rng hT rl_301 (by decide) (by decide) rfl
  have g2 : (0 : Int) ≤ (fv P 301 24).toInt ∧ (fv P 301 24).toInt ≤ 81 := Typ.rng hT rl_301 (by decide) (by decide) rfl
  have e3 : (fv P 301 23).toInt = (fv Po 301 23).toInt := congrArg Int32.toInt (KW.at hK 23 rl_301 rfl)
  have g4 : (0 : Int) ≤ (fv P 301 23).toInt ∧ (fv P 301 23).toInt ≤ 80 := Typ.rng hT rl_301 (by decide) (by decide) rfl
  refine mp_a (a_iload_n dX7_readsSizes_7 rfl) (mpp 8 rfl ?_)
  refine mp_a (a_bipush (v := 8) dX7_readsSizes_8 rfl) (mpp 10 rfl ?_)
  refine mp_Tb (t := 62) (j_icmp_ge dX7_readsSizes_10) (by decide) (fun c5 => ?_) (fun c5 => mpp 13 rfl ?_)
  · have c5 : v1.toInt ≥ 8 := ti_ge c5
    refine mp_a (a_iload_n dX7_readsSizes_62 rfl) (mpp 63 rfl ?_)
    refine mp_Tb (t := 70) (j_if_le dX7_readsSizes_63) (by decide) (fun c6 => ?_) (fun c6 => mpp 66 rfl ?_)
    · have c6 : v1.toInt ≤ 0 := ti_le c6
      refine mp_a (a_iconst (v := 0) dX7_readsSizes_70 rfl) (mpp 71 rfl ?_)
      have t9_ : chM P = chM Po := chM_eq i_5.1 i_5.2
      have t9_p : (fv P 301 24).toInt = (fv Po 301 24).toInt + ((v1.toInt.toNat : Nat) : Int) := by omega
      have w8_ : RUN D1 (chM Po) (fv Po 301 24).toInt v1.toInt.toNat := ⟨by omega, i_2, fun h8 => show ¬ (49 ≤ (chM Po ((fv Po 301 24).toInt + ((v1.toInt.toNat : Nat) : Int))).toInt ∧ (chM Po ((fv Po 301 24).toInt + ((v1.toInt.toNat : Nat) : Int))).toInt ≤ 57) from by omega⟩
      have w8_l : (fv P 301 23).toInt = (fv Po 301 23).toInt := congrArg Int32.toInt i_5.2
      have u7 : 0 ≤ (0 : Int) ∧ (0 : Int) ≤ 1 ∧ (((fv Po 301 24).toInt ≤ (fv P 301 24).toInt ∧ (fv P 301 24).toInt ≤ (fv Po 301 23).toInt) ∧ ∃ k : Nat, RUN D1 (chM Po) (fv Po 301 24).toInt k ∧ (fv P 301 24).toInt = (fv Po 301 24).toInt + (k : Int) ∧ fv P 301 26 = szI (chM Po) (fv Po 301 24).toInt k ∧ (((0 : Int) = 1 ∧ 1 ≤ k) ∨ ((0 : Int) = 0 ∧ k = 0))) := ⟨by omega, by omega, ⟨by omega, by omega⟩, _, w8_, by omega, i_4, Or.inr ⟨rfl, by omega⟩⟩
      exact mp_iret ⟨⟨_, rfl, u7⟩, hT, hK, trivial⟩ dX7_readsSizes_71 (Or.inr ⟨rfl, by decide⟩)
    · have c6 : v1.toInt > 0 := ti_le_n c6
      refine mp_a (a_iconst (v := 1) dX7_readsSizes_66 rfl) (mpp 67 rfl ?_)
      refine mp_a (a_goto (t := 71) dX7_readsSizes_67 (by decide)) ?_
      have t12_ : chM P = chM Po := chM_eq i_5.1 i_5.2
      have t12_p : (fv P 301 24).toInt = (fv Po 301 24).toInt + ((v1.toInt.toNat : Nat) : Int) := by omega
      have w11_ : RUN D1 (chM Po) (fv Po 301 24).toInt v1.toInt.toNat := ⟨by omega, i_2, fun h8 => show ¬ (49 ≤ (chM Po ((fv Po 301 24).toInt + ((v1.toInt.toNat : Nat) : Int))).toInt ∧ (chM Po ((fv Po 301 24).toInt + ((v1.toInt.toNat : Nat) : Int))).toInt ≤ 57) from by omega⟩
      have w11_l : (fv P 301 23).toInt = (fv Po 301 23).toInt := congrArg Int32.toInt i_5.2
      have u10 : 0 ≤ (1 : Int) ∧ (1 : Int) ≤ 1 ∧ (((fv Po 301 24).toInt ≤ (fv P 301 24).toInt ∧ (fv P 301 24).toInt ≤ (fv Po 301 23).toInt) ∧ ∃ k : Nat, RUN D1 (chM Po) (fv Po 301 24).toInt k ∧ (fv P 301 24).toInt = (fv Po 301 24).toInt + (k : Int) ∧ fv P 301 26 = szI (chM Po) (fv Po 301 24).toInt k ∧ (((1 : Int) = 1 ∧ 1 ≤ k) ∨ ((1 : Int) = 0 ∧ k = 0))) := ⟨by omega, by omega, ⟨by omega, by omega⟩, _, w11_, by omega, i_4, Or.inl ⟨rfl, by omega⟩⟩
      exact mp_iret ⟨⟨_, rfl, u10⟩, hT, hK, trivial⟩ dX7_readsSizes_71 (Or.inr ⟨rfl, by decide⟩)
  · have c5 : v1.toInt < 8 := ti_ge_n c5
    refine mp_a (a_aload_n dX7_readsSizes_13 rfl) (mpp 14 rfl ?_)
    refine mt_callv (i := 297) (q' := q_218) (As := []) (rest := []) hT dX7_readsSizes_14 rfl qm_218 (by decide) rfl rl_301 (by decide) rfl (Nat.le_of_ble_eq_true rfl) rfl ⟨rfl, rfl⟩ ⟨Nat.le_of_ble_eq_true rfl, Nat.le_of_ble_eq_true rfl⟩ (EvP.mono (by decide) (c_M_sign hT )) (fun r13 P14 g15 => mpp 17 rfl ?_)
    obtain ⟨⟨x16, rfl, g17⟩, e18⟩ := g15
    have e18 := e18.symm
    subst e18
    have wx16 := ti_full x16
    replace g17 : (x16.toInt = -1 ∨ (fv P 301 24).toInt + 1 ≤ (fv P 301 23).toInt) ∧ x16.toInt = (chM P (fv P 301 24).toInt).toInt := g17
    show MEvP _ none q_219 17 [(0, .ref 301), (1, .int v1)] [.int x16] _ _ _ _
    refine mp_a (a_bipush (v := 49) dX7_readsSizes_17 rfl) (mpp 19 rfl ?_)
    refine mp_a (a_bipush (v := 57) dX7_readsSizes_19 rfl) (mpp 21 rfl ?_)
    refine mp_calls (i := 61) (q' := q_127) (As := [.int x16, .int 49, .int 57]) (rest := []) dX7_readsSizes_21 rfl qm_127 (by decide) rfl (Nat.le_of_ble_eq_true rfl) rfl ⟨rfl, rfl⟩ ⟨Nat.le_of_ble_eq_true rfl, Nat.le_of_ble_eq_true rfl⟩ (EvP.mono (by decide) (c_M_isIn hT )) (fun r19 P20 g21 => mpp 24 rfl ?_)
    obtain ⟨⟨x22, rfl, g23⟩, e24⟩ := g21
    have e24 := e24.symm
    subst e24
    have wx22 := ti_full x22
    replace g23 : 0 ≤ x22.toInt ∧ x22.toInt ≤ 1 ∧ ((x22.toInt = 1 ∧ (49 : Int) ≤ x16.toInt ∧ x16.toInt ≤ (57 : Int)) ∨ (x22.toInt = 0 ∧ (x16.toInt < (49 : Int) ∨ (57 : Int) < x16.toInt))) := g23
    show MEvP _ none q_219 24 [(0, .ref 301), (1, .int v1)] [.int x22] _ _ _ _
    refine mp_Tb (t := 62) (j_if_eq dX7_readsSizes_24) (by decide) (fun c25 => ?_) (fun c25 => mpp 27 rfl ?_)
    · have c25 : x22.toInt = 0 := ti_eq c25
      refine mp_a (a_iload_n dX7_readsSizes_62 rfl) (mpp 63 rfl ?_)
      refine mp_Tb (t := 70) (j_if_le dX7_readsSizes_63) (by decide) (fun c26 => ?_) (fun c26 => mpp 66 rfl ?_)
      · have c26 : v1.toInt ≤ 0 := ti_le c26
        refine mp_a (a_iconst (v := 0) dX7_readsSizes_70 rfl) (mpp 71 rfl ?_)
        have t29_ : chM P = chM Po := chM_eq i_5.1 i_5.2
        have t29_p : (fv P 301 24).toInt = (fv Po 301 24).toInt + ((v1.toInt.toNat : Nat) : Int) := by omega
        have t29_x16 := g17.2
        rw [t29_, t29_p] at t29_x16
        have w28_ : RUN D1 (chM Po) (fv Po 301 24).toInt v1.toInt.toNat := ⟨by omega, i_2, fun h8 => show ¬ (49 ≤ (chM Po ((fv Po 301 24).toInt + ((v1.toInt.toNat : Nat) : Int))).toInt ∧ (chM Po ((fv Po 301 24).toInt + ((v1.toInt.toNat : Nat) : Int))).toInt ≤ 57) from by omega⟩
        have w28_l : (fv P 301 23).toInt = (fv Po 301 23).toInt := congrArg Int32.toInt i_5.2
        have u27 : 0 ≤ (0 : Int) ∧ (0 : Int) ≤ 1 ∧ (((fv Po 301 24).toInt ≤ (fv P 301 24).toInt ∧ (fv P 301 24).toInt ≤ (fv Po 301 23).toInt) ∧ ∃ k : Nat, RUN D1 (chM Po) (fv Po 301 24).toInt k ∧ (fv P 301 24).toInt = (fv Po 301 24).toInt + (k : Int) ∧ fv P 301 26 = szI (chM Po) (fv Po 301 24).toInt k ∧ (((0 : Int) = 1 ∧ 1 ≤ k) ∨ ((0 : Int) = 0 ∧ k = 0))) := ⟨by omega, by omega, ⟨by omega, by omega⟩, _, w28_, by omega, i_4, Or.inr ⟨rfl, by omega⟩⟩
        exact mp_iret ⟨⟨_, rfl, u27⟩, hT, hK, trivial⟩ dX7_readsSizes_71 (Or.inr ⟨rfl, by decide⟩)
      · have c26 : v1.toInt > 0 := ti_le_n c26
        refine mp_a (a_iconst (v := 1) dX7_readsSizes_66 rfl) (mpp 67 rfl ?_)
        refine mp_a (a_goto (t := 71) dX7_readsSizes_67 (by decide)) ?_
        have t32_ : chM P = chM Po := chM_eq i_5.1 i_5.2
        have t32_p : (fv P 301 24).toInt = (fv Po 301 24).toInt + ((v1.toInt.toNat : Nat) : Int) := by omega
        have t32_x16 := g17.2
        rw [t32_, t32_p] at t32_x16
        have w31_ : RUN D1 (chM Po) (fv Po 301 24).toInt v1.toInt.toNat := ⟨by omega, i_2, fun h8 => show ¬ (49 ≤ (chM Po ((fv Po 301 24).toInt + ((v1.toInt.toNat : Nat) : Int))).toInt ∧ (chM Po ((fv Po 301 24).toInt + ((v1.toInt.toNat : Nat) : Int))).toInt ≤ 57) from by omega⟩
        have w31_l : (fv P 301 23).toInt = (fv Po 301 23).toInt := congrArg Int32.toInt i_5.2
        have u30 : 0 ≤ (1 : Int) ∧ (1 : Int) ≤ 1 ∧ (((fv Po 301 24).toInt ≤ (fv P 301 24).toInt ∧ (fv P 301 24).toInt ≤ (fv Po 301 23).toInt) ∧ ∃ k : Nat, RUN D1 (chM Po) (fv Po 301 24).toInt k ∧ (fv P 301 24).toInt = (fv Po 301 24).toInt + (k : Int) ∧ fv P 301 26 = szI (chM Po) (fv Po 301 24).toInt k ∧ (((1 : Int) = 1 ∧ 1 ≤ k) ∨ ((1 : Int) = 0 ∧ k = 0))) := ⟨by omega, by omega, ⟨by omega, by omega⟩, _, w31_, by omega, i_4, Or.inl ⟨rfl, by omega⟩⟩
        exact mp_iret ⟨⟨_, rfl, u30⟩, hT, hK, trivial⟩ dX7_readsSizes_71 (Or.inr ⟨rfl, by decide⟩)
    · have c25 : x22.toInt ≠ 0 := ti_eq_n c25
      refine mp_a (a_aload_n dX7_readsSizes_27 rfl) (mpp 28 rfl ?_)
      refine mp_a (a_bipush (v := 10) dX7_readsSizes_28 rfl) (mpp 30 rfl ?_)
      refine mp_a (a_aload_n dX7_readsSizes_30 rfl) (mpp 31 rfl ?_)
      have g33 := ti_full (fv P 301 26)
      refine mt_getI (i := 300) (k := 26) hT dX7_readsSizes_31 rfl rl_301 (by decide) rfl (by decide) rfl (fun g34 g35 => mpp 34 rfl ?_)
      obtain ⟨z36, h37⟩ := ti_ex (10 * (fv P 301 26) : Int32)
      have wz36 := ti_full z36
      refine mp_t (s_imul (v := z36) dX7_readsSizes_34 h37) (mpp 35 rfl ?_)
      try have e38 : z36.toInt = 10 * (fv P 301 26).toInt := ti_mulz h37 rfl rfl (by omega) (by omega)
      refine mp_a (a_aload_n dX7_readsSizes_35 rfl) (mpp 36 rfl ?_)
      refine mt_callv (i := 297) (q' := q_218) (As := []) (rest := [.int z36, .ref 301]) hT dX7_readsSizes_36 rfl qm_218 (by decide) rfl rl_301 (by decide) rfl (Nat.le_of_ble_eq_true rfl) rfl ⟨rfl, rfl⟩ ⟨Nat.le_of_ble_eq_true rfl, Nat.le_of_ble_eq_true rfl⟩ (EvP.mono (by decide) (c_M_sign hT )) (fun r39 P40 g41 => mpp 39 rfl ?_)
      obtain ⟨⟨x42, rfl, g43⟩, e44⟩ := g41
      have e44 := e44.symm
      subst e44
      have wx42 := ti_full x42
      replace g43 : (x42.toInt = -1 ∨ (fv P 301 24).toInt + 1 ≤ (fv P 301 23).toInt) ∧ x42.toInt = (chM P (fv P 301 24).toInt).toInt := g43
      show MEvP _ none q_219 39 [(0, .ref 301), (1, .int v1)] [.int x42, .int z36, .ref 301] _ _ _ _
      obtain ⟨z45, h46⟩ := ti_ex (z36 + x42 : Int32)
      have wz45 := ti_full z45
      refine mp_t (s_iadd (v := z45) dX7_readsSizes_39 h46) (mpp 40 rfl ?_)
      try have e47 : z45.toInt = z36.toInt + x42.toInt := ti_addz h46 rfl rfl (by omega) (by omega)
      refine mp_a (a_bipush (v := 48) dX7_readsSizes_40 rfl) (mpp 42 rfl ?_)
      obtain ⟨z48, h49⟩ := ti_ex (z45 - 48 : Int32)
      have wz48 := ti_full z48
      refine mp_t (s_isub (v := z48) dX7_readsSizes_42 h49) (mpp 43 rfl ?_)
      try have e50 : z48.toInt = z45.toInt - 48 := ti_subz h49 rfl rfl (by omega) (by omega)
      refine mt_putI (i := 300) (k := 26) (x := z48) hT dX7_readsSizes_43 rfl rl_301 (by decide) rfl (by decide) rfl (ti_full z48) rfl rfl (fun P51 hT52 f53 f54 f55 => mpp 46 rfl ?_)
      have k56 : KW [1112, 1114] Po P51 := KW.step hK rl_301 rfl f54 f55
      have e57 : (fv P51 301 26).toInt = z48.toInt := congrArg Int32.toInt f53
      refine mp_a (a_aload_n dX7_readsSizes_46 rfl) (mpp 47 rfl ?_)
      refine mp_t (s_dup dX7_readsSizes_47 rfl) (mpp 48 rfl ?_)
      have e58 : (fv P51 301 24).toInt = (fv P 301 24).toInt := congrArg Int32.toInt (f54 301 24 (ne_k rfl))
      refine mt_getI (i := 294) (k := 24) hT52 dX7_readsSizes_48 rfl rl_301 (by decide) rfl (by decide) rfl (fun g59 g60 => mpp 51 rfl ?_)
      refine mp_a (a_iconst (v := 1) dX7_readsSizes_51 rfl) (mpp 52 rfl ?_)
      obtain ⟨z61, h62⟩ := ti_ex ((fv P51 301 24) + 1 : Int32)
      have wz61 := ti_full z61
      refine mp_t (s_iadd (v := z61) dX7_readsSizes_52 h62) (mpp 53 rfl ?_)
      try have e63 : z61.toInt = (fv P51 301 24).toInt + 1 := ti_addz h62 rfl rfl (by omega) (by omega)
      refine mt_putI (i := 294) (k := 24) (x := z61) hT52 dX7_readsSizes_53 rfl rl_301 (by decide) rfl (by decide) rfl ⟨by omega, by omega⟩ rfl rfl (fun P64 hT65 f66 f67 f68 => mpp 56 rfl ?_)
      have k69 : KW [1112, 1114] Po P64 := KW.step k56 rl_301 rfl f67 f68
      have e70 : (fv P64 301 24).toInt = z61.toInt := congrArg Int32.toInt f66
      obtain ⟨z71, h72⟩ := ti_ex (v1 + 1 : Int32)
      have wz71 := ti_full z71
      refine mp_a (a_iinc (v := z71) (L' := [(1, .int z71), (0, .ref 301)]) dX7_readsSizes_56 (by decide) rfl h72 rfl) (mpp 59 rfl ?_)
      try have e73 : z71.toInt = v1.toInt + 1 := ti_addz h72 rfl rfl (by omega) (by omega)
      refine mp_a (a_goto (t := 7) dX7_readsSizes_59 (by decide)) ?_
      refine MEvP.less (L := [(0, .ref 301), (1, .int z71)]) rfl rfl ⟨rfl, rfl, trivial⟩ ?_
      have i74 : (fv Po 301 24).toInt ≤ (fv P64 301 24).toInt := by omega
      have e75 : (fv P64 301 23).toInt = (fv P 301 23).toInt := congrArg Int32.toInt ((f67 301 23 (ne_k rfl)).trans (f54 301 23 (ne_k rfl)))
      have i76 : (fv P64 301 24).toInt ≤ (fv P64 301 23).toInt := by omega
      have t78_ : chM P = chM Po := chM_eq i_5.1 i_5.2
      have t78_p : (fv P 301 24).toInt = (fv Po 301 24).toInt + ((v1.toInt.toNat : Nat) : Int) := by omega
      have t78_x16 := g17.2
      rw [t78_, t78_p] at t78_x16
      have t78_x42 := g43.2
      rw [t78_, t78_p] at t78_x42
      have i77 : ∀ j : Nat, j < z71.toInt.toNat → D1 (chM Po ((fv Po 301 24).toInt + (j : Int))).toInt := RUN.grow i_2 rfl (show D1 (chM Po ((fv Po 301 24).toInt + ((v1.toInt.toNat : Nat) : Int))).toInt from ⟨by omega, by omega⟩) (by omega)
      have i79 : (fv P64 301 24).toInt = (fv Po 301 24).toInt + z71.toInt := by omega
      have i80 : fv P64 301 26 = szI (chM Po) (fv Po 301 24).toInt z71.toInt.toNat := by rw [f67 301 26 (by omega), f53]; exact szI.step i_4 (by omega) rfl (show x42.toInt = (chM Po ((fv Po 301 24).toInt + ((v1.toInt.toNat : Nat) : Int))).toInt from by omega) (by rw [Int32.mul_comm]; exact h37) h46 h49
      have i81 : (∀ j : Nat, fv P64 314 j = fv Po 314 j) ∧ fv P64 301 23 = fv Po 301 23 := ⟨fun j => by rw [f67 314 j (by omega), f54 314 j (by omega)]; exact i_5.1 j, by rw [f67 301 23 (by omega), f54 301 23 (by omega)]; exact i_5.2⟩
      have i82 : z71.toInt ≤ 8 := by omega
      have i83 : 0 ≤ z71.toInt := by omega
      exact ih _ (by omega) _ P64 hT65 k69 i74 i76 i77 i79 i80 i81 i82 i83 rfl

set_option maxHeartbeats 4000000 in
theorem c_M_readsSizes {Po : mP}  (hT : Typ Po)  (hp0 : (fv Po 301 24).toInt ≤ (fv Po 301 23).toInt)  : EvP 2 219 [.ref 301] Po (fun r P' => (∃ x : Int32, r = some (.int x) ∧ (0 ≤ x.toInt ∧ x.toInt ≤ 1 ∧ (((fv Po 301 24).toInt ≤ (fv P' 301 24).toInt ∧ (fv P' 301 24).toInt ≤ (fv Po 301 23).toInt) ∧ ∃ k : Nat, RUN D1 (chM Po) (fv Po 301 24).toInt k ∧ (fv P' 301 24).toInt = (fv Po 301 24).toInt + (k : Int) ∧ fv P' 301 26 = szI (chM Po) (fv Po 301 24).toInt k ∧ ((x.toInt = 1 ∧ 1 ≤ k) ∨ (x.toInt = 0 ∧ k = 0))))) ∧ Typ P' ∧ KW [1112, 1114] Po P' ∧ True) := by
  refine EvP.of qm_219 (Nat.le_of_ble_eq_true rfl) rfl ?_
  show MEvP _ none q_219 0 [(0, .ref 301)] [] _ 0 0 _
  have g1 : (0 : Int) ≤ (fv Po 301 24).toInt ∧ (fv Po 301 24).toInt ≤ 81 := Typ.rng hT rl_301 (by decide) (by decide) rfl
  have g2 : (0 : Int) ≤ (fv Po 301 23).toInt ∧ (fv Po 301 23).toInt ≤ 80 := Typ.rng hT rl_301 (by decide) (by decide) rfl
  refine mp_a (a_aload_n dX7_readsSizes_0 rfl) (mpp 1 rfl ?_)
  refine mp_a (a_iconst (v := 0) dX7_readsSizes_1 rfl) (mpp 2 rfl ?_)
  refine mt_putI (i := 300) (k := 26) (x := 0) hT dX7_readsSizes_2 rfl rl_301 (by decide) rfl (by decide) rfl (by decide) rfl rfl (fun P3 hT4 f5 f6 f7 => mpp 5 rfl ?_)
  have k8 : KW [1112, 1114] Po P3 := KW.step KW.refl rl_301 rfl f6 f7
  have e9 : (fv P3 301 26).toInt = 0 := congrArg Int32.toInt f5
  refine mp_a (a_iconst (v := 0) dX7_readsSizes_5 rfl) (mpp 6 rfl ?_)
  refine mp_a (a_istore_n (L' := [(1, .int 0), (0, .ref 301)]) dX7_readsSizes_6 (by decide) rfl) (mpp 7 rfl ?_)
  refine MEvP.less (L := [(0, .ref 301), (1, .int 0)]) rfl rfl ⟨rfl, rfl, trivial⟩ ?_
  have e10 : (fv P3 301 24).toInt = (fv Po 301 24).toInt := congrArg Int32.toInt (f6 301 24 (ne_k rfl))
  have i11 : (fv Po 301 24).toInt ≤ (fv P3 301 24).toInt := by omega
  have e12 : (fv P3 301 23).toInt = (fv Po 301 23).toInt := congrArg Int32.toInt (f6 301 23 (ne_k rfl))
  have i13 : (fv P3 301 24).toInt ≤ (fv P3 301 23).toInt := by omega
  have i14 : ∀ j : Nat, j < (0 : Int).toNat → D1 (chM Po ((fv Po 301 24).toInt + (j : Int))).toInt := fun j hj => absurd hj (Nat.not_lt_zero j)
  have i15 : (fv P3 301 24).toInt = (fv Po 301 24).toInt + (0 : Int) := by omega
  have i16 : fv P3 301 26 = szI (chM Po) (fv Po 301 24).toInt (0 : Int).toNat := f5
  have i17 : (∀ j : Nat, fv P3 314 j = fv Po 314 j) ∧ fv P3 301 23 = fv Po 301 23 := ⟨fun j => by rw [f6 314 j (by omega)], by rw [f6 301 23 (by omega)]⟩
  have i18 : (0 : Int) ≤ 8 := by omega
  have i19 : 0 ≤ (0 : Int) := by omega
  exact c_M_readsSizes_l7   hp0 _ _ P3 hT4 k8 i11 i13 i14 i15 i16 i17 i18 i19 rfl

set_option maxHeartbeats 4000000 in
theorem c_M_takes {Po : mP} {t1 : Int32} (hT : Typ Po)  (hp0 : 0 ≤ t1.toInt)  : EvP 2 220 [.ref 301, .int t1] Po (fun r P' => (∃ x : Int32, r = some (.int x) ∧ (0 ≤ x.toInt ∧ x.toInt ≤ 1 ∧ ((x.toInt = 1 ∧ (chM Po (fv Po 301 24).toInt).toInt = t1.toInt ∧ (fv P' 301 24).toInt = (fv Po 301 24).toInt + 1 ∧ (fv P' 301 24).toInt ≤ (fv Po 301 23).toInt) ∨ (x.toInt = 0 ∧ ¬ (chM Po (fv Po 301 24).toInt).toInt = t1.toInt ∧ (fv P' 301 24).toInt = (fv Po 301 24).toInt)))) ∧ Typ P' ∧ KW [1112] Po P' ∧ True) := by
  refine EvP.of qm_220 (Nat.le_of_ble_eq_true rfl) rfl ?_
  show MEvP _ none q_220 0 [(0, .ref 301), (1, .int t1)] [] _ 0 0 _
  have w_t1 := ti_full t1
  have g1 : (0 : Int) ≤ (fv Po 301 24).toInt ∧ (fv Po 301 24).toInt ≤ 81 := Typ.rng hT rl_301 (by decide) (by decide) rfl
  have g2 : (0 : Int) ≤ (fv Po 301 23).toInt ∧ (fv Po 301 23).toInt ≤ 80 := Typ.rng hT rl_301 (by decide) (by decide) rfl
  refine mp_a (a_aload_n dX7_takes_0 rfl) (mpp 1 rfl ?_)
  refine mt_callv (i := 297) (q' := q_218) (As := []) (rest := []) hT dX7_takes_1 rfl qm_218 (by decide) rfl rl_301 (by decide) rfl (Nat.le_of_ble_eq_true rfl) rfl ⟨rfl, rfl⟩ ⟨Nat.le_of_ble_eq_true rfl, Nat.le_of_ble_eq_true rfl⟩ (EvP.mono (by decide) (c_M_sign hT )) (fun r3 P4 g5 => mpp 4 rfl ?_)
  obtain ⟨⟨x6, rfl, g7⟩, e8⟩ := g5
  have e8 := e8.symm
  subst e8
  have wx6 := ti_full x6
  replace g7 : (x6.toInt = -1 ∨ (fv Po 301 24).toInt + 1 ≤ (fv Po 301 23).toInt) ∧ x6.toInt = (chM Po (fv Po 301 24).toInt).toInt := g7
  show MEvP _ none q_220 4 [(0, .ref 301), (1, .int t1)] [.int x6] _ _ _ _
  refine mp_a (a_iload_n dX7_takes_4 rfl) (mpp 5 rfl ?_)
  refine mp_Tb (t := 12) (j_icmp_ne dX7_takes_5) (by decide) (fun c9 => ?_) (fun c9 => mpp 8 rfl ?_)
  · have c9 : x6.toInt ≠ t1.toInt := ti_ne c9
    refine mp_a (a_iconst (v := 0) dX7_takes_12 rfl) (mpp 13 rfl ?_)
    refine mp_a (a_istore_n (L' := [(2, .int 0), (0, .ref 301), (1, .int t1)]) dX7_takes_13 (by decide) rfl) (mpp 14 rfl ?_)
    refine mp_a (a_aload_n dX7_takes_14 rfl) (mpp 15 rfl ?_)
    refine mp_t (s_dup dX7_takes_15 rfl) (mpp 16 rfl ?_)
    refine mt_getI (i := 294) (k := 24) hT dX7_takes_16 rfl rl_301 (by decide) rfl (by decide) rfl (fun g10 g11 => mpp 19 rfl ?_)
    refine mp_a (a_iload_n dX7_takes_19 rfl) (mpp 20 rfl ?_)
    refine mp_Tt (t := 27) (j_if_eq dX7_takes_20) (by decide) (by decide) ?_
    refine mp_a (a_iconst (v := 0) dX7_takes_27 rfl) (mpp 28 rfl ?_)
    obtain ⟨z12, h13⟩ := ti_ex ((fv Po 301 24) + 0 : Int32)
    have wz12 := ti_full z12
    refine mp_t (s_iadd (v := z12) dX7_takes_28 h13) (mpp 29 rfl ?_)
    try have e14 : z12.toInt = (fv Po 301 24).toInt + 0 := ti_addz h13 rfl rfl (by omega) (by omega)
    refine mt_putI (i := 294) (k := 24) (x := z12) hT dX7_takes_29 rfl rl_301 (by decide) rfl (by decide) rfl ⟨by omega, by omega⟩ rfl rfl (fun P15 hT16 f17 f18 f19 => mpp 32 rfl ?_)
    have k20 : KW [1112] Po P15 := KW.step KW.refl rl_301 rfl f18 f19
    have e21 : (fv P15 301 24).toInt = z12.toInt := congrArg Int32.toInt f17
    refine mp_a (a_iload_n dX7_takes_32 rfl) (mpp 33 rfl ?_)
    have u22 : 0 ≤ (0 : Int) ∧ (0 : Int) ≤ 1 ∧ (((0 : Int) = 1 ∧ (chM Po (fv Po 301 24).toInt).toInt = t1.toInt ∧ (fv P15 301 24).toInt = (fv Po 301 24).toInt + 1 ∧ (fv P15 301 24).toInt ≤ (fv Po 301 23).toInt) ∨ ((0 : Int) = 0 ∧ ¬ (chM Po (fv Po 301 24).toInt).toInt = t1.toInt ∧ (fv P15 301 24).toInt = (fv Po 301 24).toInt)) := by omega
    exact mp_iret ⟨⟨_, rfl, u22⟩, hT16, k20, trivial⟩ dX7_takes_33 (Or.inr ⟨rfl, by decide⟩)
  · have c9 : x6.toInt = t1.toInt := ti_ne_n c9
    refine mp_a (a_iconst (v := 1) dX7_takes_8 rfl) (mpp 9 rfl ?_)
    refine mp_a (a_goto (t := 13) dX7_takes_9 (by decide)) ?_
    refine mp_a (a_istore_n (L' := [(2, .int 1), (0, .ref 301), (1, .int t1)]) dX7_takes_13 (by decide) rfl) (mpp 14 rfl ?_)
    refine mp_a (a_aload_n dX7_takes_14 rfl) (mpp 15 rfl ?_)
    refine mp_t (s_dup dX7_takes_15 rfl) (mpp 16 rfl ?_)
    refine mt_getI (i := 294) (k := 24) hT dX7_takes_16 rfl rl_301 (by decide) rfl (by decide) rfl (fun g23 g24 => mpp 19 rfl ?_)
    refine mp_a (a_iload_n dX7_takes_19 rfl) (mpp 20 rfl ?_)
    refine mp_Tf (t := 27) (j_if_eq dX7_takes_20) (by decide) (by decide) (mpp 23 rfl ?_)
    refine mp_a (a_iconst (v := 1) dX7_takes_23 rfl) (mpp 24 rfl ?_)
    refine mp_a (a_goto (t := 28) dX7_takes_24 (by decide)) ?_
    obtain ⟨z25, h26⟩ := ti_ex ((fv Po 301 24) + 1 : Int32)
    have wz25 := ti_full z25
    refine mp_t (s_iadd (v := z25) dX7_takes_28 h26) (mpp 29 rfl ?_)
    try have e27 : z25.toInt = (fv Po 301 24).toInt + 1 := ti_addz h26 rfl rfl (by omega) (by omega)
    refine mt_putI (i := 294) (k := 24) (x := z25) hT dX7_takes_29 rfl rl_301 (by decide) rfl (by decide) rfl ⟨by omega, by omega⟩ rfl rfl (fun P28 hT29 f30 f31 f32 => mpp 32 rfl ?_)
    have k33 : KW [1112] Po P28 := KW.step KW.refl rl_301 rfl f31 f32
    have e34 : (fv P28 301 24).toInt = z25.toInt := congrArg Int32.toInt f30
    refine mp_a (a_iload_n dX7_takes_32 rfl) (mpp 33 rfl ?_)
    have u35 : 0 ≤ (1 : Int) ∧ (1 : Int) ≤ 1 ∧ (((1 : Int) = 1 ∧ (chM Po (fv Po 301 24).toInt).toInt = t1.toInt ∧ (fv P28 301 24).toInt = (fv Po 301 24).toInt + 1 ∧ (fv P28 301 24).toInt ≤ (fv Po 301 23).toInt) ∨ ((1 : Int) = 0 ∧ ¬ (chM Po (fv Po 301 24).toInt).toInt = t1.toInt ∧ (fv P28 301 24).toInt = (fv Po 301 24).toInt)) := by omega
    exact mp_iret ⟨⟨_, rfl, u35⟩, hT29, k33, trivial⟩ dX7_takes_33 (Or.inr ⟨rfl, by decide⟩)

set_option maxHeartbeats 4000000 in
theorem c_M_kindOf {Po : mP} {t0 : Int32} (hT : Typ Po)   : EvP 1 222 [.int t0] Po (fun r P' => (∃ x : Int32, r = some (.int x) ∧ (((t0.toInt = 111 ∨ t0.toInt = 109 ∨ t0.toInt = 118) ∧ 0 ≤ x.toInt ∧ x.toInt = (kn t0.toInt).toInt) ∨ (¬ (t0.toInt = 111 ∨ t0.toInt = 109 ∨ t0.toInt = 118) ∧ x.toInt = -1))) ∧ P' = Po) := by
  refine EvP.of qm_222 (Nat.le_of_ble_eq_true rfl) rfl ?_
  show MEvP _ none q_222 0 [(0, .int t0)] [] _ 0 0 _
  have w_t0 := ti_full t0
  refine mp_a (a_iload_n dX7_kindOf_0 rfl) (mpp 1 rfl ?_)
  refine mp_a (a_bipush (v := 111) dX7_kindOf_1 rfl) (mpp 3 rfl ?_)
  refine mp_Tb (t := 10) (j_icmp_ne dX7_kindOf_3) (by decide) (fun c1 => ?_) (fun c1 => mpp 6 rfl ?_)
  · have c1 : t0.toInt ≠ 111 := ti_ne c1
    refine mp_a (a_iload_n dX7_kindOf_10 rfl) (mpp 11 rfl ?_)
    refine mp_a (a_bipush (v := 109) dX7_kindOf_11 rfl) (mpp 13 rfl ?_)
    refine mp_Tb (t := 20) (j_icmp_ne dX7_kindOf_13) (by decide) (fun c2 => ?_) (fun c2 => mpp 16 rfl ?_)
    · have c2 : t0.toInt ≠ 109 := ti_ne c2
      refine mp_a (a_iload_n dX7_kindOf_20 rfl) (mpp 21 rfl ?_)
      refine mp_a (a_bipush (v := 118) dX7_kindOf_21 rfl) (mpp 23 rfl ?_)
      refine mp_Tb (t := 30) (j_icmp_ne dX7_kindOf_23) (by decide) (fun c3 => ?_) (fun c3 => mpp 26 rfl ?_)
      · have c3 : t0.toInt ≠ 118 := ti_ne c3
        refine mp_a (a_iconst (v := -1) dX7_kindOf_30 rfl) (mpp 31 rfl ?_)
        have u4 : ((t0.toInt = 111 ∨ t0.toInt = 109 ∨ t0.toInt = 118) ∧ 0 ≤ (-1 : Int) ∧ (-1 : Int) = (kn t0.toInt).toInt) ∨ (¬ (t0.toInt = 111 ∨ t0.toInt = 109 ∨ t0.toInt = 118) ∧ (-1 : Int) = -1) := Or.inr ⟨by omega, rfl⟩
        exact mp_iret ⟨⟨_, rfl, u4⟩, rfl⟩ dX7_kindOf_31 (Or.inl rfl)
      · have c3 : t0.toInt = 118 := ti_ne_n c3
        refine mp_a (a_iconst (v := 2) dX7_kindOf_26 rfl) (mpp 27 rfl ?_)
        refine mp_a (a_goto (t := 31) dX7_kindOf_27 (by decide)) ?_
        have u5 : ((t0.toInt = 111 ∨ t0.toInt = 109 ∨ t0.toInt = 118) ∧ 0 ≤ (2 : Int) ∧ (2 : Int) = (kn t0.toInt).toInt) ∨ (¬ (t0.toInt = 111 ∨ t0.toInt = 109 ∨ t0.toInt = 118) ∧ (2 : Int) = -1) := Or.inl ⟨by omega, by omega, kn_v (by omega) rfl⟩
        exact mp_iret ⟨⟨_, rfl, u5⟩, rfl⟩ dX7_kindOf_31 (Or.inl rfl)
    · have c2 : t0.toInt = 109 := ti_ne_n c2
      refine mp_a (a_iconst (v := 1) dX7_kindOf_16 rfl) (mpp 17 rfl ?_)
      refine mp_a (a_goto (t := 31) dX7_kindOf_17 (by decide)) ?_
      have u6 : ((t0.toInt = 111 ∨ t0.toInt = 109 ∨ t0.toInt = 118) ∧ 0 ≤ (1 : Int) ∧ (1 : Int) = (kn t0.toInt).toInt) ∨ (¬ (t0.toInt = 111 ∨ t0.toInt = 109 ∨ t0.toInt = 118) ∧ (1 : Int) = -1) := Or.inl ⟨by omega, by omega, kn_m (by omega) rfl⟩
      exact mp_iret ⟨⟨_, rfl, u6⟩, rfl⟩ dX7_kindOf_31 (Or.inl rfl)
  · have c1 : t0.toInt = 111 := ti_ne_n c1
    refine mp_a (a_iconst (v := 0) dX7_kindOf_6 rfl) (mpp 7 rfl ?_)
    refine mp_a (a_goto (t := 31) dX7_kindOf_7 (by decide)) ?_
    have u7 : ((t0.toInt = 111 ∨ t0.toInt = 109 ∨ t0.toInt = 118) ∧ 0 ≤ (0 : Int) ∧ (0 : Int) = (kn t0.toInt).toInt) ∨ (¬ (t0.toInt = 111 ∨ t0.toInt = 109 ∨ t0.toInt = 118) ∧ (0 : Int) = -1) := Or.inl ⟨by omega, by omega, kn_o (by omega) rfl⟩
    exact mp_iret ⟨⟨_, rfl, u7⟩, rfl⟩ dX7_kindOf_31 (Or.inl rfl)

set_option maxHeartbeats 4000000 in
theorem c_M_readsSigns_l10 {Po : mP}  (hp0 : (fv Po 301 24).toInt ≤ (fv Po 301 23).toInt)  : ∀ (n : Nat), ∀ (P : mP), Typ P → KW [1112, 1115, 1116] Po P → ((fv Po 301 24).toInt ≤ (fv P 301 24).toInt) → ((fv P 301 24).toInt ≤ (fv P 301 23).toInt) → (∀ j : Nat, j < (fv P 301 28).toInt.toNat → KK (chM Po ((fv Po 301 24).toInt + (j : Int))).toInt) → ((fv P 301 24).toInt = (fv Po 301 24).toInt + (fv P 301 28).toInt) → (fv P 301 27 = knV (chM Po) (fv Po 301 24).toInt (fv P 301 28).toInt.toNat) → ((∀ j : Nat, fv P 314 j = fv Po 314 j) ∧ fv P 301 23 = fv Po 301 23) → (0 ≤ (fv P 301 28).toInt ∧ (fv P 301 28).toInt ≤ 8) → (8 - (fv P 301 28).toInt).toNat = n → MEvP 1 none q_221 10 [(0, .ref 301)] [] P 0 0 (fun r P' => (∃ x : Int32, r = some (.int x) ∧ (0 ≤ x.toInt ∧ x.toInt ≤ 1 ∧ (((fv Po 301 24).toInt ≤ (fv P' 301 24).toInt ∧ (fv P' 301 24).toInt ≤ (fv Po 301 23).toInt) ∧ ∃ k : Nat, RUN KK (chM Po) (fv Po 301 24).toInt k ∧ (fv P' 301 24).toInt = (fv Po 301 24).toInt + (k : Int) ∧ fv P' 301 27 = knV (chM Po) (fv Po 301 24).toInt k ∧ (fv P' 301 28).toInt = (k : Int) ∧ ((x.toInt = 1 ∧ 1 ≤ k) ∨ (x.toInt = 0 ∧ k = 0))))) ∧ Typ P' ∧ KW [1112, 1115, 1116] Po P' ∧ True) := by
  intro n
  induction n using Nat.strongRecOn with | _ n ih => ?_
  intro  P hT hK i_0 i_1 i_2 i_3 i_4 i_5 i_6 hm
  have g1 : (0 : Int) ≤ (fv P 301 24).toInt ∧ (fv P 301 24).toInt ≤ 81 := Typ.rng hT rl_301 (by decide) (by decide) rfl
  have g2 : (0 : Int) ≤ (fv P 301 24).toInt ∧ (fv P 301 24).toInt ≤ 81 := Typ.rng hT rl_301 (by decide) (by decide) rfl
  have e3 : (fv P 301 23).toInt = (fv Po 301 23).toInt := congrArg Int32.toInt (KW.at hK 23 rl_301 rfl)
  have g4 : (0 : Int) ≤ (fv P 301 23).toInt ∧ (fv P 301 23).toInt ≤ 80 := Typ.rng hT rl_301 (by decide) (by decide) rfl
  have g5 := ti_full (fv P 301 28)
  have g6 := ti_full (fv P 301 28)
  have g7 := ti_full (fv P 301 28)
  refine mp_a (a_aload_n dX7_readsSigns_10 rfl) (mpp 11 rfl ?_)
  refine mt_getI (i := 306) (k := 28) hT dX7_readsSigns_11 rfl rl_301 (by decide) rfl (by decide) rfl (fun g8 g9 => mpp 14 rfl ?_)
  refine mp_a (a_bipush (v := 8) dX7_readsSigns_14 rfl) (mpp 16 rfl ?_)
  refine mp_Tb (t := 71) (j_icmp_ge dX7_readsSigns_16) (by decide) (fun c10 => ?_) (fun c10 => mpp 19 rfl ?_)
  · have c10 : (fv P 301 28).toInt ≥ 8 := ti_ge c10
    refine mp_a (a_aload_n dX7_readsSigns_71 rfl) (mpp 72 rfl ?_)
    refine mt_getI (i := 306) (k := 28) hT dX7_readsSigns_72 rfl rl_301 (by decide) rfl (by decide) rfl (fun g11 g12 => mpp 75 rfl ?_)
    refine mp_Tb (t := 82) (j_if_le dX7_readsSigns_75) (by decide) (fun c13 => ?_) (fun c13 => mpp 78 rfl ?_)
    · have c13 : (fv P 301 28).toInt ≤ 0 := ti_le c13
      refine mp_a (a_iconst (v := 0) dX7_readsSigns_82 rfl) (mpp 83 rfl ?_)
      have t16_ : chM P = chM Po := chM_eq i_5.1 i_5.2
      have t16_p : (fv P 301 24).toInt = (fv Po 301 24).toInt + (((fv P 301 28).toInt.toNat : Nat) : Int) := by omega
      have w15_ : RUN KK (chM Po) (fv Po 301 24).toInt (fv P 301 28).toInt.toNat := ⟨by omega, i_2, fun h8 => show ¬ ((chM Po ((fv Po 301 24).toInt + (((fv P 301 28).toInt.toNat : Nat) : Int))).toInt = 111 ∨ (chM Po ((fv Po 301 24).toInt + (((fv P 301 28).toInt.toNat : Nat) : Int))).toInt = 109 ∨ (chM Po ((fv Po 301 24).toInt + (((fv P 301 28).toInt.toNat : Nat) : Int))).toInt = 118) from by omega⟩
      have w15_l : (fv P 301 23).toInt = (fv Po 301 23).toInt := congrArg Int32.toInt i_5.2
      have u14 : 0 ≤ (0 : Int) ∧ (0 : Int) ≤ 1 ∧ (((fv Po 301 24).toInt ≤ (fv P 301 24).toInt ∧ (fv P 301 24).toInt ≤ (fv Po 301 23).toInt) ∧ ∃ k : Nat, RUN KK (chM Po) (fv Po 301 24).toInt k ∧ (fv P 301 24).toInt = (fv Po 301 24).toInt + (k : Int) ∧ fv P 301 27 = knV (chM Po) (fv Po 301 24).toInt k ∧ (fv P 301 28).toInt = (k : Int) ∧ (((0 : Int) = 1 ∧ 1 ≤ k) ∨ ((0 : Int) = 0 ∧ k = 0))) := ⟨by omega, by omega, ⟨by omega, by omega⟩, _, w15_, by omega, i_4, by omega, Or.inr ⟨rfl, by omega⟩⟩
      exact mp_iret ⟨⟨_, rfl, u14⟩, hT, hK, trivial⟩ dX7_readsSigns_83 (Or.inr ⟨rfl, by decide⟩)
    · have c13 : (fv P 301 28).toInt > 0 := ti_le_n c13
      refine mp_a (a_iconst (v := 1) dX7_readsSigns_78 rfl) (mpp 79 rfl ?_)
      refine mp_a (a_goto (t := 83) dX7_readsSigns_79 (by decide)) ?_
      have t19_ : chM P = chM Po := chM_eq i_5.1 i_5.2
      have t19_p : (fv P 301 24).toInt = (fv Po 301 24).toInt + (((fv P 301 28).toInt.toNat : Nat) : Int) := by omega
      have w18_ : RUN KK (chM Po) (fv Po 301 24).toInt (fv P 301 28).toInt.toNat := ⟨by omega, i_2, fun h8 => show ¬ ((chM Po ((fv Po 301 24).toInt + (((fv P 301 28).toInt.toNat : Nat) : Int))).toInt = 111 ∨ (chM Po ((fv Po 301 24).toInt + (((fv P 301 28).toInt.toNat : Nat) : Int))).toInt = 109 ∨ (chM Po ((fv Po 301 24).toInt + (((fv P 301 28).toInt.toNat : Nat) : Int))).toInt = 118) from by omega⟩
      have w18_l : (fv P 301 23).toInt = (fv Po 301 23).toInt := congrArg Int32.toInt i_5.2
      have u17 : 0 ≤ (1 : Int) ∧ (1 : Int) ≤ 1 ∧ (((fv Po 301 24).toInt ≤ (fv P 301 24).toInt ∧ (fv P 301 24).toInt ≤ (fv Po 301 23).toInt) ∧ ∃ k : Nat, RUN KK (chM Po) (fv Po 301 24).toInt k ∧ (fv P 301 24).toInt = (fv Po 301 24).toInt + (k : Int) ∧ fv P 301 27 = knV (chM Po) (fv Po 301 24).toInt k ∧ (fv P 301 28).toInt = (k : Int) ∧ (((1 : Int) = 1 ∧ 1 ≤ k) ∨ ((1 : Int) = 0 ∧ k = 0))) := ⟨by omega, by omega, ⟨by omega, by omega⟩, _, w18_, by omega, i_4, by omega, Or.inl ⟨rfl, by omega⟩⟩
      exact mp_iret ⟨⟨_, rfl, u17⟩, hT, hK, trivial⟩ dX7_readsSigns_83 (Or.inr ⟨rfl, by decide⟩)
  · have c10 : (fv P 301 28).toInt < 8 := ti_ge_n c10
    refine mp_a (a_aload_n dX7_readsSigns_19 rfl) (mpp 20 rfl ?_)
    refine mt_callv (i := 297) (q' := q_218) (As := []) (rest := []) hT dX7_readsSigns_20 rfl qm_218 (by decide) rfl rl_301 (by decide) rfl (Nat.le_of_ble_eq_true rfl) rfl ⟨rfl, rfl⟩ ⟨Nat.le_of_ble_eq_true rfl, Nat.le_of_ble_eq_true rfl⟩ (EvP.mono (by decide) (c_M_sign hT )) (fun r20 P21 g22 => mpp 23 rfl ?_)
    obtain ⟨⟨x23, rfl, g24⟩, e25⟩ := g22
    have e25 := e25.symm
    subst e25
    have wx23 := ti_full x23
    replace g24 : (x23.toInt = -1 ∨ (fv P 301 24).toInt + 1 ≤ (fv P 301 23).toInt) ∧ x23.toInt = (chM P (fv P 301 24).toInt).toInt := g24
    show MEvP _ none q_221 23 [(0, .ref 301)] [.int x23] _ _ _ _
    refine mp_calls (i := 309) (q' := q_222) (As := [.int x23]) (rest := []) dX7_readsSigns_23 rfl qm_222 (by decide) rfl (Nat.le_of_ble_eq_true rfl) rfl ⟨rfl, rfl⟩ ⟨Nat.le_of_ble_eq_true rfl, Nat.le_of_ble_eq_true rfl⟩ (EvP.mono (by decide) (c_M_kindOf hT )) (fun r26 P27 g28 => mpp 26 rfl ?_)
    obtain ⟨⟨x29, rfl, g30⟩, e31⟩ := g28
    have e31 := e31.symm
    subst e31
    have wx29 := ti_full x29
    replace g30 : ((x23.toInt = 111 ∨ x23.toInt = 109 ∨ x23.toInt = 118) ∧ 0 ≤ x29.toInt ∧ x29.toInt = (kn x23.toInt).toInt) ∨ (¬ (x23.toInt = 111 ∨ x23.toInt = 109 ∨ x23.toInt = 118) ∧ x29.toInt = -1) := g30
    show MEvP _ none q_221 26 [(0, .ref 301)] [.int x29] _ _ _ _
    refine mp_Tb (t := 71) (j_if_lt dX7_readsSigns_26) (by decide) (fun c32 => ?_) (fun c32 => mpp 29 rfl ?_)
    · have c32 : x29.toInt < 0 := ti_lt c32
      refine mp_a (a_aload_n dX7_readsSigns_71 rfl) (mpp 72 rfl ?_)
      refine mt_getI (i := 306) (k := 28) hT dX7_readsSigns_72 rfl rl_301 (by decide) rfl (by decide) rfl (fun g33 g34 => mpp 75 rfl ?_)
      refine mp_Tb (t := 82) (j_if_le dX7_readsSigns_75) (by decide) (fun c35 => ?_) (fun c35 => mpp 78 rfl ?_)
      · have c35 : (fv P 301 28).toInt ≤ 0 := ti_le c35
        refine mp_a (a_iconst (v := 0) dX7_readsSigns_82 rfl) (mpp 83 rfl ?_)
        have t38_ : chM P = chM Po := chM_eq i_5.1 i_5.2
        have t38_p : (fv P 301 24).toInt = (fv Po 301 24).toInt + (((fv P 301 28).toInt.toNat : Nat) : Int) := by omega
        have t38_x23 := g24.2
        rw [t38_, t38_p] at t38_x23
        have w37_ : RUN KK (chM Po) (fv Po 301 24).toInt (fv P 301 28).toInt.toNat := ⟨by omega, i_2, fun h8 => show ¬ ((chM Po ((fv Po 301 24).toInt + (((fv P 301 28).toInt.toNat : Nat) : Int))).toInt = 111 ∨ (chM Po ((fv Po 301 24).toInt + (((fv P 301 28).toInt.toNat : Nat) : Int))).toInt = 109 ∨ (chM Po ((fv Po 301 24).toInt + (((fv P 301 28).toInt.toNat : Nat) : Int))).toInt = 118) from by omega⟩
        have w37_l : (fv P 301 23).toInt = (fv Po 301 23).toInt := congrArg Int32.toInt i_5.2
        have u36 : 0 ≤ (0 : Int) ∧ (0 : Int) ≤ 1 ∧ (((fv Po 301 24).toInt ≤ (fv P 301 24).toInt ∧ (fv P 301 24).toInt ≤ (fv Po 301 23).toInt) ∧ ∃ k : Nat, RUN KK (chM Po) (fv Po 301 24).toInt k ∧ (fv P 301 24).toInt = (fv Po 301 24).toInt + (k : Int) ∧ fv P 301 27 = knV (chM Po) (fv Po 301 24).toInt k ∧ (fv P 301 28).toInt = (k : Int) ∧ (((0 : Int) = 1 ∧ 1 ≤ k) ∨ ((0 : Int) = 0 ∧ k = 0))) := ⟨by omega, by omega, ⟨by omega, by omega⟩, _, w37_, by omega, i_4, by omega, Or.inr ⟨rfl, by omega⟩⟩
        exact mp_iret ⟨⟨_, rfl, u36⟩, hT, hK, trivial⟩ dX7_readsSigns_83 (Or.inr ⟨rfl, by decide⟩)
      · have c35 : (fv P 301 28).toInt > 0 := ti_le_n c35
        refine mp_a (a_iconst (v := 1) dX7_readsSigns_78 rfl) (mpp 79 rfl ?_)
        refine mp_a (a_goto (t := 83) dX7_readsSigns_79 (by decide)) ?_
        have t41_ : chM P = chM Po := chM_eq i_5.1 i_5.2
        have t41_p : (fv P 301 24).toInt = (fv Po 301 24).toInt + (((fv P 301 28).toInt.toNat : Nat) : Int) := by omega
        have t41_x23 := g24.2
        rw [t41_, t41_p] at t41_x23
        have w40_ : RUN KK (chM Po) (fv Po 301 24).toInt (fv P 301 28).toInt.toNat := ⟨by omega, i_2, fun h8 => show ¬ ((chM Po ((fv Po 301 24).toInt + (((fv P 301 28).toInt.toNat : Nat) : Int))).toInt = 111 ∨ (chM Po ((fv Po 301 24).toInt + (((fv P 301 28).toInt.toNat : Nat) : Int))).toInt = 109 ∨ (chM Po ((fv Po 301 24).toInt + (((fv P 301 28).toInt.toNat : Nat) : Int))).toInt = 118) from by omega⟩
        have w40_l : (fv P 301 23).toInt = (fv Po 301 23).toInt := congrArg Int32.toInt i_5.2
        have u39 : 0 ≤ (1 : Int) ∧ (1 : Int) ≤ 1 ∧ (((fv Po 301 24).toInt ≤ (fv P 301 24).toInt ∧ (fv P 301 24).toInt ≤ (fv Po 301 23).toInt) ∧ ∃ k : Nat, RUN KK (chM Po) (fv Po 301 24).toInt k ∧ (fv P 301 24).toInt = (fv Po 301 24).toInt + (k : Int) ∧ fv P 301 27 = knV (chM Po) (fv Po 301 24).toInt k ∧ (fv P 301 28).toInt = (k : Int) ∧ (((1 : Int) = 1 ∧ 1 ≤ k) ∨ ((1 : Int) = 0 ∧ k = 0))) := ⟨by omega, by omega, ⟨by omega, by omega⟩, _, w40_, by omega, i_4, by omega, Or.inl ⟨rfl, by omega⟩⟩
        exact mp_iret ⟨⟨_, rfl, u39⟩, hT, hK, trivial⟩ dX7_readsSigns_83 (Or.inr ⟨rfl, by decide⟩)
    · have c32 : x29.toInt ≥ 0 := ti_lt_n c32
      refine mp_a (a_aload_n dX7_readsSigns_29 rfl) (mpp 30 rfl ?_)
      refine mp_a (a_bipush (v := 10) dX7_readsSigns_30 rfl) (mpp 32 rfl ?_)
      refine mp_a (a_aload_n dX7_readsSigns_32 rfl) (mpp 33 rfl ?_)
      have g42 := ti_full (fv P 301 27)
      refine mt_getI (i := 303) (k := 27) hT dX7_readsSigns_33 rfl rl_301 (by decide) rfl (by decide) rfl (fun g43 g44 => mpp 36 rfl ?_)
      obtain ⟨z45, h46⟩ := ti_ex (10 * (fv P 301 27) : Int32)
      have wz45 := ti_full z45
      refine mp_t (s_imul (v := z45) dX7_readsSigns_36 h46) (mpp 37 rfl ?_)
      try have e47 : z45.toInt = 10 * (fv P 301 27).toInt := ti_mulz h46 rfl rfl (by omega) (by omega)
      refine mp_a (a_aload_n dX7_readsSigns_37 rfl) (mpp 38 rfl ?_)
      refine mt_callv (i := 297) (q' := q_218) (As := []) (rest := [.int z45, .ref 301]) hT dX7_readsSigns_38 rfl qm_218 (by decide) rfl rl_301 (by decide) rfl (Nat.le_of_ble_eq_true rfl) rfl ⟨rfl, rfl⟩ ⟨Nat.le_of_ble_eq_true rfl, Nat.le_of_ble_eq_true rfl⟩ (EvP.mono (by decide) (c_M_sign hT )) (fun r48 P49 g50 => mpp 41 rfl ?_)
      obtain ⟨⟨x51, rfl, g52⟩, e53⟩ := g50
      have e53 := e53.symm
      subst e53
      have wx51 := ti_full x51
      replace g52 : (x51.toInt = -1 ∨ (fv P 301 24).toInt + 1 ≤ (fv P 301 23).toInt) ∧ x51.toInt = (chM P (fv P 301 24).toInt).toInt := g52
      show MEvP _ none q_221 41 [(0, .ref 301)] [.int x51, .int z45, .ref 301] _ _ _ _
      refine mp_calls (i := 309) (q' := q_222) (As := [.int x51]) (rest := [.int z45, .ref 301]) dX7_readsSigns_41 rfl qm_222 (by decide) rfl (Nat.le_of_ble_eq_true rfl) rfl ⟨rfl, rfl⟩ ⟨Nat.le_of_ble_eq_true rfl, Nat.le_of_ble_eq_true rfl⟩ (EvP.mono (by decide) (c_M_kindOf hT )) (fun r54 P55 g56 => mpp 44 rfl ?_)
      obtain ⟨⟨x57, rfl, g58⟩, e59⟩ := g56
      have e59 := e59.symm
      subst e59
      have wx57 := ti_full x57
      replace g58 : ((x51.toInt = 111 ∨ x51.toInt = 109 ∨ x51.toInt = 118) ∧ 0 ≤ x57.toInt ∧ x57.toInt = (kn x51.toInt).toInt) ∨ (¬ (x51.toInt = 111 ∨ x51.toInt = 109 ∨ x51.toInt = 118) ∧ x57.toInt = -1) := g58
      show MEvP _ none q_221 44 [(0, .ref 301)] [.int x57, .int z45, .ref 301] _ _ _ _
      obtain ⟨z60, h61⟩ := ti_ex (z45 + x57 : Int32)
      have wz60 := ti_full z60
      refine mp_t (s_iadd (v := z60) dX7_readsSigns_44 h61) (mpp 45 rfl ?_)
      try have e62 : z60.toInt = z45.toInt + x57.toInt := ti_addz h61 rfl rfl (by omega) (by omega)
      refine mt_putI (i := 303) (k := 27) (x := z60) hT dX7_readsSigns_45 rfl rl_301 (by decide) rfl (by decide) rfl (ti_full z60) rfl rfl (fun P63 hT64 f65 f66 f67 => mpp 48 rfl ?_)
      have k68 : KW [1112, 1115, 1116] Po P63 := KW.step hK rl_301 rfl f66 f67
      have e69 : (fv P63 301 27).toInt = z60.toInt := congrArg Int32.toInt f65
      refine mp_a (a_aload_n dX7_readsSigns_48 rfl) (mpp 49 rfl ?_)
      refine mp_t (s_dup dX7_readsSigns_49 rfl) (mpp 50 rfl ?_)
      have e70 : (fv P63 301 24).toInt = (fv P 301 24).toInt := congrArg Int32.toInt (f66 301 24 (ne_k rfl))
      refine mt_getI (i := 294) (k := 24) hT64 dX7_readsSigns_50 rfl rl_301 (by decide) rfl (by decide) rfl (fun g71 g72 => mpp 53 rfl ?_)
      refine mp_a (a_iconst (v := 1) dX7_readsSigns_53 rfl) (mpp 54 rfl ?_)
      obtain ⟨z73, h74⟩ := ti_ex ((fv P63 301 24) + 1 : Int32)
      have wz73 := ti_full z73
      refine mp_t (s_iadd (v := z73) dX7_readsSigns_54 h74) (mpp 55 rfl ?_)
      try have e75 : z73.toInt = (fv P63 301 24).toInt + 1 := ti_addz h74 rfl rfl (by omega) (by omega)
      refine mt_putI (i := 294) (k := 24) (x := z73) hT64 dX7_readsSigns_55 rfl rl_301 (by decide) rfl (by decide) rfl ⟨by omega, by omega⟩ rfl rfl (fun P76 hT77 f78 f79 f80 => mpp 58 rfl ?_)
      have k81 : KW [1112, 1115, 1116] Po P76 := KW.step k68 rl_301 rfl f79 f80
      have e82 : (fv P76 301 24).toInt = z73.toInt := congrArg Int32.toInt f78
      refine mp_a (a_aload_n dX7_readsSigns_58 rfl) (mpp 59 rfl ?_)
      refine mp_t (s_dup dX7_readsSigns_59 rfl) (mpp 60 rfl ?_)
      have e83 : (fv P76 301 28).toInt = (fv P 301 28).toInt := congrArg Int32.toInt ((f79 301 28 (ne_k rfl)).trans (f66 301 28 (ne_k rfl)))
      refine mt_getI (i := 306) (k := 28) hT77 dX7_readsSigns_60 rfl rl_301 (by decide) rfl (by decide) rfl (fun g84 g85 => mpp 63 rfl ?_)
      refine mp_a (a_iconst (v := 1) dX7_readsSigns_63 rfl) (mpp 64 rfl ?_)
      obtain ⟨z86, h87⟩ := ti_ex ((fv P76 301 28) + 1 : Int32)
      have wz86 := ti_full z86
      refine mp_t (s_iadd (v := z86) dX7_readsSigns_64 h87) (mpp 65 rfl ?_)
      try have e88 : z86.toInt = (fv P76 301 28).toInt + 1 := ti_addz h87 rfl rfl (by omega) (by omega)
      refine mt_putI (i := 306) (k := 28) (x := z86) hT77 dX7_readsSigns_65 rfl rl_301 (by decide) rfl (by decide) rfl (ti_full z86) rfl rfl (fun P89 hT90 f91 f92 f93 => mpp 68 rfl ?_)
      have k94 : KW [1112, 1115, 1116] Po P89 := KW.step k81 rl_301 rfl f92 f93
      have e95 : (fv P89 301 28).toInt = z86.toInt := congrArg Int32.toInt f91
      refine mp_a (a_goto (t := 10) dX7_readsSigns_68 (by decide)) ?_
      have e96 : (fv P89 301 24).toInt = (fv P76 301 24).toInt := congrArg Int32.toInt (f92 301 24 (ne_k rfl))
      have i97 : (fv Po 301 24).toInt ≤ (fv P89 301 24).toInt := by omega
      have e98 : (fv P89 301 23).toInt = (fv P 301 23).toInt := congrArg Int32.toInt ((f92 301 23 (ne_k rfl)).trans ((f79 301 23 (ne_k rfl)).trans (f66 301 23 (ne_k rfl))))
      have i99 : (fv P89 301 24).toInt ≤ (fv P89 301 23).toInt := by omega
      have t101_ : chM P = chM Po := chM_eq i_5.1 i_5.2
      have t101_p : (fv P 301 24).toInt = (fv Po 301 24).toInt + (((fv P 301 28).toInt.toNat : Nat) : Int) := by omega
      have t101_x23 := g24.2
      rw [t101_, t101_p] at t101_x23
      have t101_x51 := g52.2
      rw [t101_, t101_p] at t101_x51
      have i100 : ∀ j : Nat, j < (fv P89 301 28).toInt.toNat → KK (chM Po ((fv Po 301 24).toInt + (j : Int))).toInt := RUN.grow i_2 rfl (show KK (chM Po ((fv Po 301 24).toInt + (((fv P 301 28).toInt.toNat : Nat) : Int))).toInt from by have q : ((chM Po ((fv Po 301 24).toInt + (((fv P 301 28).toInt.toNat : Nat) : Int))).toInt = 111 ∨ (chM Po ((fv Po 301 24).toInt + (((fv P 301 28).toInt.toNat : Nat) : Int))).toInt = 109 ∨ (chM Po ((fv Po 301 24).toInt + (((fv P 301 28).toInt.toNat : Nat) : Int))).toInt = 118) := (by omega); exact q) (by omega)
      have i102 : (fv P89 301 24).toInt = (fv Po 301 24).toInt + (fv P89 301 28).toInt := by omega
      have w104_ : x57.toInt = (kn (chM Po ((fv Po 301 24).toInt + (((fv P 301 28).toInt.toNat : Nat) : Int))).toInt).toInt := by rw [show (chM Po ((fv Po 301 24).toInt + (((fv P 301 28).toInt.toNat : Nat) : Int))).toInt = x51.toInt from by omega]; exact (g58.resolve_right (by omega)).2.2
      have i103 : fv P89 301 27 = knV (chM Po) (fv Po 301 24).toInt (fv P89 301 28).toInt.toNat := by rw [f92 301 27 (by omega), f79 301 27 (by omega), f65]; exact knV.step i_4 (by omega) rfl w104_ (by rw [Int32.mul_comm]; exact h46) h61
      have i105 : (∀ j : Nat, fv P89 314 j = fv Po 314 j) ∧ fv P89 301 23 = fv Po 301 23 := ⟨fun j => by rw [f92 314 j (by omega), f79 314 j (by omega), f66 314 j (by omega)]; exact i_5.1 j, by rw [f92 301 23 (by omega), f79 301 23 (by omega), f66 301 23 (by omega)]; exact i_5.2⟩
      have i106 : 0 ≤ (fv P89 301 28).toInt ∧ (fv P89 301 28).toInt ≤ 8 := by omega
      exact ih _ (by omega)  P89 hT90 k94 i97 i99 i100 i102 i103 i105 i106 rfl

set_option maxHeartbeats 4000000 in
theorem c_M_readsSigns {Po : mP}  (hT : Typ Po)  (hp0 : (fv Po 301 24).toInt ≤ (fv Po 301 23).toInt)  : EvP 2 221 [.ref 301] Po (fun r P' => (∃ x : Int32, r = some (.int x) ∧ (0 ≤ x.toInt ∧ x.toInt ≤ 1 ∧ (((fv Po 301 24).toInt ≤ (fv P' 301 24).toInt ∧ (fv P' 301 24).toInt ≤ (fv Po 301 23).toInt) ∧ ∃ k : Nat, RUN KK (chM Po) (fv Po 301 24).toInt k ∧ (fv P' 301 24).toInt = (fv Po 301 24).toInt + (k : Int) ∧ fv P' 301 27 = knV (chM Po) (fv Po 301 24).toInt k ∧ (fv P' 301 28).toInt = (k : Int) ∧ ((x.toInt = 1 ∧ 1 ≤ k) ∨ (x.toInt = 0 ∧ k = 0))))) ∧ Typ P' ∧ KW [1112, 1115, 1116] Po P' ∧ True) := by
  refine EvP.of qm_221 (Nat.le_of_ble_eq_true rfl) rfl ?_
  show MEvP _ none q_221 0 [(0, .ref 301)] [] _ 0 0 _
  have g1 : (0 : Int) ≤ (fv Po 301 24).toInt ∧ (fv Po 301 24).toInt ≤ 81 := Typ.rng hT rl_301 (by decide) (by decide) rfl
  have g2 : (0 : Int) ≤ (fv Po 301 23).toInt ∧ (fv Po 301 23).toInt ≤ 80 := Typ.rng hT rl_301 (by decide) (by decide) rfl
  refine mp_a (a_aload_n dX7_readsSigns_0 rfl) (mpp 1 rfl ?_)
  refine mp_a (a_iconst (v := 0) dX7_readsSigns_1 rfl) (mpp 2 rfl ?_)
  refine mt_putI (i := 303) (k := 27) (x := 0) hT dX7_readsSigns_2 rfl rl_301 (by decide) rfl (by decide) rfl (by decide) rfl rfl (fun P3 hT4 f5 f6 f7 => mpp 5 rfl ?_)
  have k8 : KW [1112, 1115, 1116] Po P3 := KW.step KW.refl rl_301 rfl f6 f7
  have e9 : (fv P3 301 27).toInt = 0 := congrArg Int32.toInt f5
  refine mp_a (a_aload_n dX7_readsSigns_5 rfl) (mpp 6 rfl ?_)
  refine mp_a (a_iconst (v := 0) dX7_readsSigns_6 rfl) (mpp 7 rfl ?_)
  refine mt_putI (i := 306) (k := 28) (x := 0) hT4 dX7_readsSigns_7 rfl rl_301 (by decide) rfl (by decide) rfl (by decide) rfl rfl (fun P10 hT11 f12 f13 f14 => mpp 10 rfl ?_)
  have k15 : KW [1112, 1115, 1116] Po P10 := KW.step k8 rl_301 rfl f13 f14
  have e16 : (fv P10 301 28).toInt = 0 := congrArg Int32.toInt f12
  have e17 : (fv P10 301 24).toInt = (fv Po 301 24).toInt := congrArg Int32.toInt ((f13 301 24 (ne_k rfl)).trans (f6 301 24 (ne_k rfl)))
  have i18 : (fv Po 301 24).toInt ≤ (fv P10 301 24).toInt := by omega
  have e19 : (fv P10 301 23).toInt = (fv Po 301 23).toInt := congrArg Int32.toInt ((f13 301 23 (ne_k rfl)).trans (f6 301 23 (ne_k rfl)))
  have i20 : (fv P10 301 24).toInt ≤ (fv P10 301 23).toInt := by omega
  have i21 : ∀ j : Nat, j < (fv P10 301 28).toInt.toNat → KK (chM Po ((fv Po 301 24).toInt + (j : Int))).toInt := fun j hj => by exfalso; omega
  have i22 : (fv P10 301 24).toInt = (fv Po 301 24).toInt + (fv P10 301 28).toInt := by omega
  have i23 : fv P10 301 27 = knV (chM Po) (fv Po 301 24).toInt (fv P10 301 28).toInt.toNat := by rw [show (fv P10 301 28).toInt.toNat = 0 from by omega, f13 301 27 (by omega), f5]; rfl
  have i24 : (∀ j : Nat, fv P10 314 j = fv Po 314 j) ∧ fv P10 301 23 = fv Po 301 23 := ⟨fun j => by rw [f13 314 j (by omega), f6 314 j (by omega)], by rw [f13 301 23 (by omega), f6 301 23 (by omega)]⟩
  have i25 : 0 ≤ (fv P10 301 28).toInt ∧ (fv P10 301 28).toInt ≤ 8 := by omega
  exact c_M_readsSigns_l10   hp0 _  P10 hT11 k15 i18 i20 i21 i22 i23 i24 i25 rfl

set_option maxHeartbeats 4000000 in
theorem c_M_digit {Po : mP}  (hT : Typ Po)  (hp0 : (fv Po 301 24).toInt ≤ (fv Po 301 23).toInt)  : EvP 2 223 [.ref 301] Po (fun r P' => (∃ x : Int32, r = some (.int x) ∧ (((fv Po 301 24).toInt ≤ (fv P' 301 24).toInt ∧ (fv P' 301 24).toInt ≤ (fv Po 301 23).toInt) ∧ (((48 ≤ (chM Po (fv Po 301 24).toInt).toInt ∧ (chM Po (fv Po 301 24).toInt).toInt ≤ 57) ∧ x.toInt = (chM Po (fv Po 301 24).toInt).toInt - 48 ∧ (fv P' 301 24).toInt = (fv Po 301 24).toInt + 1) ∨ (¬ (48 ≤ (chM Po (fv Po 301 24).toInt).toInt ∧ (chM Po (fv Po 301 24).toInt).toInt ≤ 57) ∧ x.toInt = -1)))) ∧ Typ P' ∧ KW [1112] Po P' ∧ True) := by
  refine EvP.of qm_223 (Nat.le_of_ble_eq_true rfl) rfl ?_
  show MEvP _ none q_223 0 [(0, .ref 301)] [] _ 0 0 _
  have g1 : (0 : Int) ≤ (fv Po 301 24).toInt ∧ (fv Po 301 24).toInt ≤ 81 := Typ.rng hT rl_301 (by decide) (by decide) rfl
  have g2 : (0 : Int) ≤ (fv Po 301 23).toInt ∧ (fv Po 301 23).toInt ≤ 80 := Typ.rng hT rl_301 (by decide) (by decide) rfl
  refine mp_a (a_aload_n dX7_digit_0 rfl) (mpp 1 rfl ?_)
  refine mt_callv (i := 297) (q' := q_218) (As := []) (rest := []) hT dX7_digit_1 rfl qm_218 (by decide) rfl rl_301 (by decide) rfl (Nat.le_of_ble_eq_true rfl) rfl ⟨rfl, rfl⟩ ⟨Nat.le_of_ble_eq_true rfl, Nat.le_of_ble_eq_true rfl⟩ (EvP.mono (by decide) (c_M_sign hT )) (fun r3 P4 g5 => mpp 4 rfl ?_)
  obtain ⟨⟨x6, rfl, g7⟩, e8⟩ := g5
  have e8 := e8.symm
  subst e8
  have wx6 := ti_full x6
  replace g7 : (x6.toInt = -1 ∨ (fv Po 301 24).toInt + 1 ≤ (fv Po 301 23).toInt) ∧ x6.toInt = (chM Po (fv Po 301 24).toInt).toInt := g7
  show MEvP _ none q_223 4 [(0, .ref 301)] [.int x6] _ _ _ _
  refine mp_a (a_bipush (v := 48) dX7_digit_4 rfl) (mpp 6 rfl ?_)
  refine mp_a (a_bipush (v := 57) dX7_digit_6 rfl) (mpp 8 rfl ?_)
  refine mp_calls (i := 61) (q' := q_127) (As := [.int x6, .int 48, .int 57]) (rest := []) dX7_digit_8 rfl qm_127 (by decide) rfl (Nat.le_of_ble_eq_true rfl) rfl ⟨rfl, rfl⟩ ⟨Nat.le_of_ble_eq_true rfl, Nat.le_of_ble_eq_true rfl⟩ (EvP.mono (by decide) (c_M_isIn hT )) (fun r9 P10 g11 => mpp 11 rfl ?_)
  obtain ⟨⟨x12, rfl, g13⟩, e14⟩ := g11
  have e14 := e14.symm
  subst e14
  have wx12 := ti_full x12
  replace g13 : 0 ≤ x12.toInt ∧ x12.toInt ≤ 1 ∧ ((x12.toInt = 1 ∧ (48 : Int) ≤ x6.toInt ∧ x6.toInt ≤ (57 : Int)) ∨ (x12.toInt = 0 ∧ (x6.toInt < (48 : Int) ∨ (57 : Int) < x6.toInt))) := g13
  show MEvP _ none q_223 11 [(0, .ref 301)] [.int x12] _ _ _ _
  refine mp_Tb (t := 16) (j_if_ne dX7_digit_11) (by decide) (fun c15 => ?_) (fun c15 => mpp 14 rfl ?_)
  · have c15 : x12.toInt ≠ 0 := ti_ne c15
    refine mp_a (a_aload_n dX7_digit_16 rfl) (mpp 17 rfl ?_)
    refine mp_t (s_dup dX7_digit_17 rfl) (mpp 18 rfl ?_)
    refine mt_getI (i := 294) (k := 24) hT dX7_digit_18 rfl rl_301 (by decide) rfl (by decide) rfl (fun g16 g17 => mpp 21 rfl ?_)
    refine mp_a (a_iconst (v := 1) dX7_digit_21 rfl) (mpp 22 rfl ?_)
    obtain ⟨z18, h19⟩ := ti_ex ((fv Po 301 24) + 1 : Int32)
    have wz18 := ti_full z18
    refine mp_t (s_iadd (v := z18) dX7_digit_22 h19) (mpp 23 rfl ?_)
    try have e20 : z18.toInt = (fv Po 301 24).toInt + 1 := ti_addz h19 rfl rfl (by omega) (by omega)
    refine mt_putI (i := 294) (k := 24) (x := z18) hT dX7_digit_23 rfl rl_301 (by decide) rfl (by decide) rfl ⟨by omega, by omega⟩ rfl rfl (fun P21 hT22 f23 f24 f25 => mpp 26 rfl ?_)
    have k26 : KW [1112] Po P21 := KW.step KW.refl rl_301 rfl f24 f25
    have e27 : (fv P21 301 24).toInt = z18.toInt := congrArg Int32.toInt f23
    refine mp_a (a_aload_n dX7_digit_26 rfl) (mpp 27 rfl ?_)
    refine mt_getU (i := 47) (k := 22) (A := 314) hT22 dX7_digit_27 rfl rl_301 (by decide) rfl (by decide) rfl un_30 (mpp 30 rfl ?_)
    refine mp_a (a_aload_n dX7_digit_30 rfl) (mpp 31 rfl ?_)
    refine mt_getI (i := 294) (k := 24) hT22 dX7_digit_31 rfl rl_301 (by decide) rfl (by decide) rfl (fun g28 g29 => mpp 34 rfl ?_)
    refine mp_a (a_iconst (v := 1) dX7_digit_34 rfl) (mpp 35 rfl ?_)
    obtain ⟨z30, h31⟩ := ti_ex ((fv P21 301 24) - 1 : Int32)
    have wz30 := ti_full z30
    refine mp_t (s_isub (v := z30) dX7_digit_35 h31) (mpp 36 rfl ?_)
    try have e32 : z30.toInt = (fv P21 301 24).toInt - 1 := ti_subz h31 rfl rfl (by omega) (by omega)
    refine mt_ial (n := 80) hT22 dX7_digit_36 rl_314 (by decide) rfl rfl (by omega) (by omega) rfl (fun g33 g34 => mpp 37 rfl ?_)
    refine mp_a (a_bipush (v := 48) dX7_digit_37 rfl) (mpp 39 rfl ?_)
    obtain ⟨z35, h36⟩ := ti_ex ((fv P21 314 z30.toInt.toNat) - 48 : Int32)
    have wz35 := ti_full z35
    refine mp_t (s_isub (v := z35) dX7_digit_39 h36) (mpp 40 rfl ?_)
    try have e37 : z35.toInt = (fv P21 314 z30.toInt.toNat).toInt - 48 := ti_subz h36 rfl rfl (by omega) (by omega)
    have w39_q := ch_lt (t := fun j => fv Po 314 j) (L := (fv Po 301 23).toInt) (i := (fv Po 301 24).toInt) (show ¬ (chM Po (fv Po 301 24).toInt).toInt = -1 from by omega)
    have w39_ : (fv P21 314 z30.toInt.toNat).toInt = (chM Po (fv Po 301 24).toInt).toInt := by rw [show chM Po (fv Po 301 24).toInt = fv Po 314 (fv Po 301 24).toInt.toNat from ch_in w39_q, show z30.toInt.toNat = (fv Po 301 24).toInt.toNat from by omega, f24 314 _ (by omega)]
    have w39_z : z35.toInt = (fv P21 314 z30.toInt.toNat).toInt - 48 := ti_subz h36 rfl rfl (by omega) (by omega)
    have u38 : ((fv Po 301 24).toInt ≤ (fv P21 301 24).toInt ∧ (fv P21 301 24).toInt ≤ (fv Po 301 23).toInt) ∧ (((48 ≤ (chM Po (fv Po 301 24).toInt).toInt ∧ (chM Po (fv Po 301 24).toInt).toInt ≤ 57) ∧ z35.toInt = (chM Po (fv Po 301 24).toInt).toInt - 48 ∧ (fv P21 301 24).toInt = (fv Po 301 24).toInt + 1) ∨ (¬ (48 ≤ (chM Po (fv Po 301 24).toInt).toInt ∧ (chM Po (fv Po 301 24).toInt).toInt ≤ 57) ∧ z35.toInt = -1)) := ⟨⟨by omega, by omega⟩, Or.inl ⟨by omega, by omega, by omega⟩⟩
    exact mp_iret ⟨⟨_, rfl, u38⟩, hT22, k26, trivial⟩ dX7_digit_40 (Or.inl rfl)
  · have c15 : x12.toInt = 0 := ti_ne_n c15
    refine mp_a (a_iconst (v := -1) dX7_digit_14 rfl) (mpp 15 rfl ?_)
    have u40 : ((fv Po 301 24).toInt ≤ (fv Po 301 24).toInt ∧ (fv Po 301 24).toInt ≤ (fv Po 301 23).toInt) ∧ (((48 ≤ (chM Po (fv Po 301 24).toInt).toInt ∧ (chM Po (fv Po 301 24).toInt).toInt ≤ 57) ∧ (-1 : Int) = (chM Po (fv Po 301 24).toInt).toInt - 48 ∧ (fv Po 301 24).toInt = (fv Po 301 24).toInt + 1) ∨ (¬ (48 ≤ (chM Po (fv Po 301 24).toInt).toInt ∧ (chM Po (fv Po 301 24).toInt).toInt ≤ 57) ∧ (-1 : Int) = -1)) := ⟨⟨by omega, by omega⟩, Or.inr ⟨by omega, rfl⟩⟩
    exact mp_iret ⟨⟨_, rfl, u40⟩, hT, KW.refl, trivial⟩ dX7_digit_15 (Or.inl rfl)

