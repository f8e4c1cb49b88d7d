/-! methods on typed pools, 16 (written by a program) -/
set_option maxHeartbeats 4000000 in
theorem c_CS_takeSizes_Script_l7 {Po : mP}  (hTo : Typ Po) (hX : XR Po) (hp0 : 0 ≤ (fv Po 289 2).toInt)  : ∀ (n : Nat) (v1 : Int32), ∀ (P : mP), Typ P → KW [514, 516] Po P → (∀ j : Nat, j < v1.toInt.toNat → D1 (chC Po ((fv Po 289 2).toInt + (j : Int))).toInt) → ((fv P 289 2).toInt = (fv Po 289 2).toInt + v1.toInt) → (fv P 289 4 = szI (chC Po) (fv Po 289 2).toInt v1.toInt.toNat) → (KI 289 290 Po P ∧ fv P 289 1 = fv Po 289 1 ∧ fv P 289 3 = fv Po 289 3) → (v1.toInt ≤ 8) → (0 ≤ (fv Po 289 2).toInt) → (0 ≤ v1.toInt) → (2147483647 - v1.toInt).toNat = n → MEvP 2 none q_99 7 [(0, .ref 289), (1, .int v1)] [] P 0 0 (fun r P' => (∃ x : Int32, r = some (.int x) ∧ (0 ≤ x.toInt ∧ x.toInt ≤ 1 ∧ (∃ k : Nat, RUN D1 (chC Po) (fv Po 289 2).toInt k ∧ (fv P' 289 2).toInt = (fv Po 289 2).toInt + (k : Int) ∧ fv P' 289 4 = szI (chC Po) (fv Po 289 2).toInt k ∧ ((x.toInt = 1 ∧ 1 ≤ k) ∨ (x.toInt = 0 ∧ k = 0))))) ∧ Typ P' ∧ KW [514, 516] Po P' ∧ fv P' 289 1 = fv Po 289 1 ∧ fv P' 289 3 = fv Po 289 3 ∧ KI 289 290 Po P') := by
  intro n
  induction n using Nat.strongRecOn with | _ n ih => ?_
  intro v1 P hT hK i_0 i_1 i_2 i_3 i_4 i_5 i_6 hm
  have w_v1 := ti_full v1
  have g1 := ti_full (fv P 289 2)
  have g2 := ti_full (fv P 289 2)
  refine mp_a (a_iload_n dX4_takeSizes_7 rfl) (mpp 8 rfl ?_)
  refine mp_a (a_bipush (v := 8) dX4_takeSizes_8 rfl) (mpp 10 rfl ?_)
  refine mp_Tb (t := 66) (j_icmp_ge dX4_takeSizes_10) (by decide) (fun c3 => ?_) (fun c3 => mpp 13 rfl ?_)
  · have c3 : v1.toInt ≥ 8 := ti_ge c3
    refine mp_a (a_aload_n dX4_takeSizes_66 rfl) (mpp 67 rfl ?_)
    have g4 := ti_full (fv P 289 4)
    refine mt_getI (i := 63) (k := 4) hT dX4_takeSizes_67 rfl rl_289 (by decide) rfl (by decide) rfl (fun g5 g6 => mpp 70 rfl ?_)
    refine mp_Tb (t := 77) (j_if_le dX4_takeSizes_70) (by decide) (fun c7 => ?_) (fun c7 => mpp 73 rfl ?_)
    · have c7 : (fv P 289 4).toInt ≤ 0 := ti_le c7
      refine mp_a (a_iconst (v := 0) dX4_takeSizes_77 rfl) (mpp 78 rfl ?_)
      have t10_ : chC P = chC Po := chC_eq (fun j => i_3.1 290 j (by omega)) i_3.2.1
      have t10_p : (fv P 289 2).toInt = (fv Po 289 2).toInt + ((v1.toInt.toNat : Nat) : Int) := by omega
      have w9_ : RUN D1 (chC Po) (fv Po 289 2).toInt v1.toInt.toNat := ⟨by omega, i_0, fun h8 => show ¬ (49 ≤ (chC Po ((fv Po 289 2).toInt + ((v1.toInt.toNat : Nat) : Int))).toInt ∧ (chC Po ((fv Po 289 2).toInt + ((v1.toInt.toNat : Nat) : Int))).toInt ≤ 57) from by omega⟩
      have w9_b := szI_bnd w9_.1 i_0
      rw [← i_2] at w9_b
      have u8 : 0 ≤ (0 : Int) ∧ (0 : Int) ≤ 1 ∧ (∃ k : Nat, RUN D1 (chC Po) (fv Po 289 2).toInt k ∧ (fv P 289 2).toInt = (fv Po 289 2).toInt + (k : Int) ∧ fv P 289 4 = szI (chC Po) (fv Po 289 2).toInt k ∧ (((0 : Int) = 1 ∧ 1 ≤ k) ∨ ((0 : Int) = 0 ∧ k = 0))) := ⟨by omega, by omega, _, w9_, by omega, i_2, Or.inr ⟨rfl, by rcases Nat.eq_zero_or_pos v1.toInt.toNat with e | e; exact e; have q := w9_b.2.2 e; omega⟩⟩
      have u11 : fv P 289 1 = fv Po 289 1 ∧ fv P 289 3 = fv Po 289 3 ∧ KI 289 290 Po P := ⟨i_3.2.1, i_3.2.2, i_3.1⟩
      exact mp_iret ⟨⟨_, rfl, u8⟩, hT, hK, u11⟩ dX4_takeSizes_78 (Or.inr ⟨rfl, by decide⟩)
    · have c7 : (fv P 289 4).toInt > 0 := ti_le_n c7
      refine mp_a (a_iconst (v := 1) dX4_takeSizes_73 rfl) (mpp 74 rfl ?_)
      refine mp_a (a_goto (t := 78) dX4_takeSizes_74 (by decide)) ?_
      have t14_ : chC P = chC Po := chC_eq (fun j => i_3.1 290 j (by omega)) i_3.2.1
      have t14_p : (fv P 289 2).toInt = (fv Po 289 2).toInt + ((v1.toInt.toNat : Nat) : Int) := by omega
      have w13_ : RUN D1 (chC Po) (fv Po 289 2).toInt v1.toInt.toNat := ⟨by omega, i_0, fun h8 => show ¬ (49 ≤ (chC Po ((fv Po 289 2).toInt + ((v1.toInt.toNat : Nat) : Int))).toInt ∧ (chC Po ((fv Po 289 2).toInt + ((v1.toInt.toNat : Nat) : Int))).toInt ≤ 57) from by omega⟩
      have w13_b := szI_bnd w13_.1 i_0
      rw [← i_2] at w13_b
      have u12 : 0 ≤ (1 : Int) ∧ (1 : Int) ≤ 1 ∧ (∃ k : Nat, RUN D1 (chC Po) (fv Po 289 2).toInt k ∧ (fv P 289 2).toInt = (fv Po 289 2).toInt + (k : Int) ∧ fv P 289 4 = szI (chC Po) (fv Po 289 2).toInt k ∧ (((1 : Int) = 1 ∧ 1 ≤ k) ∨ ((1 : Int) = 0 ∧ k = 0))) := ⟨by omega, by omega, _, w13_, by omega, i_2, Or.inl ⟨rfl, by rcases Nat.eq_zero_or_pos v1.toInt.toNat with e | e; rotate_left; exact e; have q := i_2; rw [e] at q; have q2 : (fv P 289 4).toInt = 0 := congrArg Int32.toInt q; omega⟩⟩
      have u15 : fv P 289 1 = fv Po 289 1 ∧ fv P 289 3 = fv Po 289 3 ∧ KI 289 290 Po P := ⟨i_3.2.1, i_3.2.2, i_3.1⟩
      exact mp_iret ⟨⟨_, rfl, u12⟩, hT, hK, u15⟩ dX4_takeSizes_78 (Or.inr ⟨rfl, by decide⟩)
  · have c3 : v1.toInt < 8 := ti_ge_n c3
    refine mp_a (a_aload_n dX4_takeSizes_13 rfl) (mpp 14 rfl ?_)
    have p16 : 0 ≤ (fv P 289 2).toInt := by omega
    refine mt_callv (i := 37) (q' := q_98) (As := []) (rest := []) hT dX4_takeSizes_14 rfl qm_98 (by decide) rfl rl_289 (by decide) rfl (Nat.le_of_ble_eq_true rfl) rfl ⟨rfl, rfl⟩ ⟨Nat.le_of_ble_eq_true rfl, Nat.le_of_ble_eq_true rfl⟩ (EvP.mono (by decide) (c_CS_codeHere_Script hT (KW.xr hK hX) p16 )) (fun r17 P18 g19 => mpp 17 rfl ?_)
    obtain ⟨⟨x20, rfl, g21⟩, e22⟩ := g19
    have e22 := e22.symm
    subst e22
    have wx20 := ti_full x20
    replace g21 : x20.toInt = (chC P (fv P 289 2).toInt).toInt ∨ (x20.toInt = 0 ∧ (chC P (fv P 289 2).toInt).toInt = -1) := g21
    show MEvP _ none q_99 17 [(0, .ref 289), (1, .int v1)] [.int x20] _ _ _ _
    refine mp_a (a_bipush (v := 49) dX4_takeSizes_17 rfl) (mpp 19 rfl ?_)
    refine mp_Tb (t := 66) (j_icmp_lt dX4_takeSizes_19) (by decide) (fun c23 => ?_) (fun c23 => mpp 22 rfl ?_)
    · have c23 : x20.toInt < 49 := ti_lt c23
      refine mp_a (a_aload_n dX4_takeSizes_66 rfl) (mpp 67 rfl ?_)
      have g24 := ti_full (fv P 289 4)
      refine mt_getI (i := 63) (k := 4) hT dX4_takeSizes_67 rfl rl_289 (by decide) rfl (by decide) rfl (fun g25 g26 => mpp 70 rfl ?_)
      refine mp_Tb (t := 77) (j_if_le dX4_takeSizes_70) (by decide) (fun c27 => ?_) (fun c27 => mpp 73 rfl ?_)
      · have c27 : (fv P 289 4).toInt ≤ 0 := ti_le c27
        refine mp_a (a_iconst (v := 0) dX4_takeSizes_77 rfl) (mpp 78 rfl ?_)
        have t30_ : chC P = chC Po := chC_eq (fun j => i_3.1 290 j (by omega)) i_3.2.1
        have t30_p : (fv P 289 2).toInt = (fv Po 289 2).toInt + ((v1.toInt.toNat : Nat) : Int) := by omega
        have t30_x20 := g21
        rw [t30_, t30_p] at t30_x20
        have w29_ : RUN D1 (chC Po) (fv Po 289 2).toInt v1.toInt.toNat := ⟨by omega, i_0, fun h8 => show ¬ (49 ≤ (chC Po ((fv Po 289 2).toInt + ((v1.toInt.toNat : Nat) : Int))).toInt ∧ (chC Po ((fv Po 289 2).toInt + ((v1.toInt.toNat : Nat) : Int))).toInt ≤ 57) from by omega⟩
        have w29_b := szI_bnd w29_.1 i_0
        rw [← i_2] at w29_b
        have u28 : 0 ≤ (0 : Int) ∧ (0 : Int) ≤ 1 ∧ (∃ k : Nat, RUN D1 (chC Po) (fv Po 289 2).toInt k ∧ (fv P 289 2).toInt = (fv Po 289 2).toInt + (k : Int) ∧ fv P 289 4 = szI (chC Po) (fv Po 289 2).toInt k ∧ (((0 : Int) = 1 ∧ 1 ≤ k) ∨ ((0 : Int) = 0 ∧ k = 0))) := ⟨by omega, by omega, _, w29_, by omega, i_2, Or.inr ⟨rfl, by rcases Nat.eq_zero_or_pos v1.toInt.toNat with e | e; exact e; have q := w29_b.2.2 e; omega⟩⟩
        have u31 : fv P 289 1 = fv Po 289 1 ∧ fv P 289 3 = fv Po 289 3 ∧ KI 289 290 Po P := ⟨i_3.2.1, i_3.2.2, i_3.1⟩
        exact mp_iret ⟨⟨_, rfl, u28⟩, hT, hK, u31⟩ dX4_takeSizes_78 (Or.inr ⟨rfl, by decide⟩)
      · have c27 : (fv P 289 4).toInt > 0 := ti_le_n c27
        refine mp_a (a_iconst (v := 1) dX4_takeSizes_73 rfl) (mpp 74 rfl ?_)
        refine mp_a (a_goto (t := 78) dX4_takeSizes_74 (by decide)) ?_
        have t34_ : chC P = chC Po := chC_eq (fun j => i_3.1 290 j (by omega)) i_3.2.1
        have t34_p : (fv P 289 2).toInt = (fv Po 289 2).toInt + ((v1.toInt.toNat : Nat) : Int) := by omega
        have t34_x20 := g21
        rw [t34_, t34_p] at t34_x20
        have w33_ : RUN D1 (chC Po) (fv Po 289 2).toInt v1.toInt.toNat := ⟨by omega, i_0, fun h8 => show ¬ (49 ≤ (chC Po ((fv Po 289 2).toInt + ((v1.toInt.toNat : Nat) : Int))).toInt ∧ (chC Po ((fv Po 289 2).toInt + ((v1.toInt.toNat : Nat) : Int))).toInt ≤ 57) from by omega⟩
        have w33_b := szI_bnd w33_.1 i_0
        rw [← i_2] at w33_b
        have u32 : 0 ≤ (1 : Int) ∧ (1 : Int) ≤ 1 ∧ (∃ k : Nat, RUN D1 (chC Po) (fv Po 289 2).toInt k ∧ (fv P 289 2).toInt = (fv Po 289 2).toInt + (k : Int) ∧ fv P 289 4 = szI (chC Po) (fv Po 289 2).toInt k ∧ (((1 : Int) = 1 ∧ 1 ≤ k) ∨ ((1 : Int) = 0 ∧ k = 0))) := ⟨by omega, by omega, _, w33_, by omega, i_2, Or.inl ⟨rfl, by rcases Nat.eq_zero_or_pos v1.toInt.toNat with e | e; rotate_left; exact e; have q := i_2; rw [e] at q; have q2 : (fv P 289 4).toInt = 0 := congrArg Int32.toInt q; omega⟩⟩
        have u35 : fv P 289 1 = fv Po 289 1 ∧ fv P 289 3 = fv Po 289 3 ∧ KI 289 290 Po P := ⟨i_3.2.1, i_3.2.2, i_3.1⟩
        exact mp_iret ⟨⟨_, rfl, u32⟩, hT, hK, u35⟩ dX4_takeSizes_78 (Or.inr ⟨rfl, by decide⟩)
    · have c23 : x20.toInt ≥ 49 := ti_lt_n c23
      refine mp_a (a_aload_n dX4_takeSizes_22 rfl) (mpp 23 rfl ?_)
      have p36 : 0 ≤ (fv P 289 2).toInt := by omega
      refine mt_callv (i := 37) (q' := q_98) (As := []) (rest := []) hT dX4_takeSizes_23 rfl qm_98 (by decide) rfl rl_289 (by decide) rfl (Nat.le_of_ble_eq_true rfl) rfl ⟨rfl, rfl⟩ ⟨Nat.le_of_ble_eq_true rfl, Nat.le_of_ble_eq_true rfl⟩ (EvP.mono (by decide) (c_CS_codeHere_Script hT (KW.xr hK hX) p36 )) (fun r37 P38 g39 => mpp 26 rfl ?_)
      obtain ⟨⟨x40, rfl, g41⟩, e42⟩ := g39
      have e42 := e42.symm
      subst e42
      have wx40 := ti_full x40
      replace g41 : x40.toInt = (chC P (fv P 289 2).toInt).toInt ∨ (x40.toInt = 0 ∧ (chC P (fv P 289 2).toInt).toInt = -1) := g41
      show MEvP _ none q_99 26 [(0, .ref 289), (1, .int v1)] [.int x40] _ _ _ _
      refine mp_a (a_bipush (v := 57) dX4_takeSizes_26 rfl) (mpp 28 rfl ?_)
      refine mp_Tb (t := 66) (j_icmp_gt dX4_takeSizes_28) (by decide) (fun c43 => ?_) (fun c43 => mpp 31 rfl ?_)
      · have c43 : x40.toInt > 57 := ti_gt c43
        refine mp_a (a_aload_n dX4_takeSizes_66 rfl) (mpp 67 rfl ?_)
        have g44 := ti_full (fv P 289 4)
        refine mt_getI (i := 63) (k := 4) hT dX4_takeSizes_67 rfl rl_289 (by decide) rfl (by decide) rfl (fun g45 g46 => mpp 70 rfl ?_)
        refine mp_Tb (t := 77) (j_if_le dX4_takeSizes_70) (by decide) (fun c47 => ?_) (fun c47 => mpp 73 rfl ?_)
        · have c47 : (fv P 289 4).toInt ≤ 0 := ti_le c47
          refine mp_a (a_iconst (v := 0) dX4_takeSizes_77 rfl) (mpp 78 rfl ?_)
          have t50_ : chC P = chC Po := chC_eq (fun j => i_3.1 290 j (by omega)) i_3.2.1
          have t50_p : (fv P 289 2).toInt = (fv Po 289 2).toInt + ((v1.toInt.toNat : Nat) : Int) := by omega
          have t50_x20 := g21
          rw [t50_, t50_p] at t50_x20
          have t50_x40 := g41
          rw [t50_, t50_p] at t50_x40
          have w49_ : RUN D1 (chC Po) (fv Po 289 2).toInt v1.toInt.toNat := ⟨by omega, i_0, fun h8 => show ¬ (49 ≤ (chC Po ((fv Po 289 2).toInt + ((v1.toInt.toNat : Nat) : Int))).toInt ∧ (chC Po ((fv Po 289 2).toInt + ((v1.toInt.toNat : Nat) : Int))).toInt ≤ 57) from by omega⟩
          have w49_b := szI_bnd w49_.1 i_0
          rw [← i_2] at w49_b
          have u48 : 0 ≤ (0 : Int) ∧ (0 : Int) ≤ 1 ∧ (∃ k : Nat, RUN D1 (chC Po) (fv Po 289 2).toInt k ∧ (fv P 289 2).toInt = (fv Po 289 2).toInt + (k : Int) ∧ fv P 289 4 = szI (chC Po) (fv Po 289 2).toInt k ∧ (((0 : Int) = 1 ∧ 1 ≤ k) ∨ ((0 : Int) = 0 ∧ k = 0))) := ⟨by omega, by omega, _, w49_, by omega, i_2, Or.inr ⟨rfl, by rcases Nat.eq_zero_or_pos v1.toInt.toNat with e | e; exact e; have q := w49_b.2.2 e; omega⟩⟩
          have u51 : fv P 289 1 = fv Po 289 1 ∧ fv P 289 3 = fv Po 289 3 ∧ KI 289 290 Po P := ⟨i_3.2.1, i_3.2.2, i_3.1⟩
          exact mp_iret ⟨⟨_, rfl, u48⟩, hT, hK, u51⟩ dX4_takeSizes_78 (Or.inr ⟨rfl, by decide⟩)
        · have c47 : (fv P 289 4).toInt > 0 := ti_le_n c47
          refine mp_a (a_iconst (v := 1) dX4_takeSizes_73 rfl) (mpp 74 rfl ?_)
          refine mp_a (a_goto (t := 78) dX4_takeSizes_74 (by decide)) ?_
          have t54_ : chC P = chC Po := chC_eq (fun j => i_3.1 290 j (by omega)) i_3.2.1
          have t54_p : (fv P 289 2).toInt = (fv Po 289 2).toInt + ((v1.toInt.toNat : Nat) : Int) := by omega
          have t54_x20 := g21
          rw [t54_, t54_p] at t54_x20
          have t54_x40 := g41
          rw [t54_, t54_p] at t54_x40
          have w53_ : RUN D1 (chC Po) (fv Po 289 2).toInt v1.toInt.toNat := ⟨by omega, i_0, fun h8 => show ¬ (49 ≤ (chC Po ((fv Po 289 2).toInt + ((v1.toInt.toNat : Nat) : Int))).toInt ∧ (chC Po ((fv Po 289 2).toInt + ((v1.toInt.toNat : Nat) : Int))).toInt ≤ 57) from by omega⟩
          have w53_b := szI_bnd w53_.1 i_0
          rw [← i_2] at w53_b
          have u52 : 0 ≤ (1 : Int) ∧ (1 : Int) ≤ 1 ∧ (∃ k : Nat, RUN D1 (chC Po) (fv Po 289 2).toInt k ∧ (fv P 289 2).toInt = (fv Po 289 2).toInt + (k : Int) ∧ fv P 289 4 = szI (chC Po) (fv Po 289 2).toInt k ∧ (((1 : Int) = 1 ∧ 1 ≤ k) ∨ ((1 : Int) = 0 ∧ k = 0))) := ⟨by omega, by omega, _, w53_, by omega, i_2, Or.inl ⟨rfl, by rcases Nat.eq_zero_or_pos v1.toInt.toNat with e | e; rotate_left; exact e; have q := i_2; rw [e] at q; have q2 : (fv P 289 4).toInt = 0 := congrArg Int32.toInt q; omega⟩⟩
          have u55 : fv P 289 1 = fv Po 289 1 ∧ fv P 289 3 = fv Po 289 3 ∧ KI 289 290 Po P := ⟨i_3.2.1, i_3.2.2, i_3.1⟩
          exact mp_iret ⟨⟨_, rfl, u52⟩, hT, hK, u55⟩ dX4_takeSizes_78 (Or.inr ⟨rfl, by decide⟩)
      · have c43 : x40.toInt ≤ 57 := ti_gt_n c43
        refine mp_a (a_aload_n dX4_takeSizes_31 rfl) (mpp 32 rfl ?_)
        refine mp_a (a_aload_n dX4_takeSizes_32 rfl) (mpp 33 rfl ?_)
        have g56 := ti_full (fv P 289 4)
        refine mt_getI (i := 63) (k := 4) hT dX4_takeSizes_33 rfl rl_289 (by decide) rfl (by decide) rfl (fun g57 g58 => mpp 36 rfl ?_)
        refine mp_a (a_bipush (v := 10) dX4_takeSizes_36 rfl) (mpp 38 rfl ?_)
        obtain ⟨z59, h60⟩ := ti_ex ((fv P 289 4) * 10 : Int32)
        have wz59 := ti_full z59
        refine mp_t (s_imul (v := z59) dX4_takeSizes_38 h60) (mpp 39 rfl ?_)
        try have e61 : z59.toInt = (fv P 289 4).toInt * 10 := ti_mulz h60 rfl rfl (by omega) (by omega)
        refine mp_a (a_aload_n dX4_takeSizes_39 rfl) (mpp 40 rfl ?_)
        have p62 : 0 ≤ (fv P 289 2).toInt := by omega
        refine mt_callv (i := 37) (q' := q_98) (As := []) (rest := [.int z59, .ref 289]) hT dX4_takeSizes_40 rfl qm_98 (by decide) rfl rl_289 (by decide) rfl (Nat.le_of_ble_eq_true rfl) rfl ⟨rfl, rfl⟩ ⟨Nat.le_of_ble_eq_true rfl, Nat.le_of_ble_eq_true rfl⟩ (EvP.mono (by decide) (c_CS_codeHere_Script hT (KW.xr hK hX) p62 )) (fun r63 P64 g65 => mpp 43 rfl ?_)
        obtain ⟨⟨x66, rfl, g67⟩, e68⟩ := g65
        have e68 := e68.symm
        subst e68
        have wx66 := ti_full x66
        replace g67 : x66.toInt = (chC P (fv P 289 2).toInt).toInt ∨ (x66.toInt = 0 ∧ (chC P (fv P 289 2).toInt).toInt = -1) := g67
        show MEvP _ none q_99 43 [(0, .ref 289), (1, .int v1)] [.int x66, .int z59, .ref 289] _ _ _ _
        obtain ⟨z69, h70⟩ := ti_ex (z59 + x66 : Int32)
        have wz69 := ti_full z69
        refine mp_t (s_iadd (v := z69) dX4_takeSizes_43 h70) (mpp 44 rfl ?_)
        try have e71 : z69.toInt = z59.toInt + x66.toInt := ti_addz h70 rfl rfl (by omega) (by omega)
        refine mp_a (a_bipush (v := 48) dX4_takeSizes_44 rfl) (mpp 46 rfl ?_)
        obtain ⟨z72, h73⟩ := ti_ex (z69 - 48 : Int32)
        have wz72 := ti_full z72
        refine mp_t (s_isub (v := z72) dX4_takeSizes_46 h73) (mpp 47 rfl ?_)
        try have e74 : z72.toInt = z69.toInt - 48 := ti_subz h73 rfl rfl (by omega) (by omega)
        refine mt_putI (i := 63) (k := 4) (x := z72) hT dX4_takeSizes_47 rfl rl_289 (by decide) rfl (by decide) rfl (ti_full z72) rfl rfl (fun P75 hT76 f77 f78 f79 => mpp 50 rfl ?_)
        have k80 : KW [514, 516] Po P75 := KW.step hK rl_289 rfl f78 f79
        have e81 : (fv P75 289 4).toInt = z72.toInt := congrArg Int32.toInt f77
        have t82_ : chC P = chC Po := chC_eq (fun j => i_3.1 290 j (by omega)) i_3.2.1
        have t82_p : (fv P 289 2).toInt = (fv Po 289 2).toInt + ((v1.toInt.toNat : Nat) : Int) := by omega
        have t82_x20 := g21
        rw [t82_, t82_p] at t82_x20
        have t82_x40 := g41
        rw [t82_, t82_p] at t82_x40
        have t82_x66 := g67
        rw [t82_, t82_p] at t82_x66
        have q83 : (0 : Int) ≤ (fv Po 289 1).toInt ∧ (fv Po 289 1).toInt ≤ 80 := by have q := i_3.2.1; have q2 : (0 : Int) ≤ (fv P 289 1).toInt ∧ (fv P 289 1).toInt ≤ 80 := Typ.rng hT rl_289 (by decide) (by decide) rfl; rw [q] at q2; exact q2
        have q84 := ch_lt (t := fun j => fv Po 290 j) (L := (fv Po 289 1).toInt) (i := (fv Po 289 2).toInt + ((v1.toInt.toNat : Nat) : Int)) (show ¬ (chC Po ((fv Po 289 2).toInt + ((v1.toInt.toNat : Nat) : Int))).toInt = -1 from by omega)
        refine mp_a (a_aload_n dX4_takeSizes_50 rfl) (mpp 51 rfl ?_)
        refine mp_t (s_dup dX4_takeSizes_51 rfl) (mpp 52 rfl ?_)
        have e85 : (fv P75 289 2).toInt = (fv P 289 2).toInt := congrArg Int32.toInt (f78 289 2 (ne_k rfl))
        refine mt_getI (i := 23) (k := 2) hT76 dX4_takeSizes_52 rfl rl_289 (by decide) rfl (by decide) rfl (fun g86 g87 => mpp 55 rfl ?_)
        refine mp_a (a_iconst (v := 1) dX4_takeSizes_55 rfl) (mpp 56 rfl ?_)
        obtain ⟨z88, h89⟩ := ti_ex ((fv P75 289 2) + 1 : Int32)
        have wz88 := ti_full z88
        refine mp_t (s_iadd (v := z88) dX4_takeSizes_56 h89) (mpp 57 rfl ?_)
        try have e90 : z88.toInt = (fv P75 289 2).toInt + 1 := ti_addz h89 rfl rfl (by omega) (by omega)
        refine mt_putI (i := 23) (k := 2) (x := z88) hT76 dX4_takeSizes_57 rfl rl_289 (by decide) rfl (by decide) rfl (ti_full z88) rfl rfl (fun P91 hT92 f93 f94 f95 => mpp 60 rfl ?_)
        have k96 : KW [514, 516] Po P91 := KW.step k80 rl_289 rfl f94 f95
        have e97 : (fv P91 289 2).toInt = z88.toInt := congrArg Int32.toInt f93
        obtain ⟨z98, h99⟩ := ti_ex (v1 + 1 : Int32)
        have wz98 := ti_full z98
        refine mp_a (a_iinc (v := z98) (L' := [(1, .int z98), (0, .ref 289)]) dX4_takeSizes_60 (by decide) rfl h99 rfl) (mpp 63 rfl ?_)
        try have e100 : z98.toInt = v1.toInt + 1 := ti_addz h99 rfl rfl (by omega) (by omega)
        refine mp_a (a_goto (t := 7) dX4_takeSizes_63 (by decide)) ?_
        refine MEvP.less (L := [(0, .ref 289), (1, .int z98)]) rfl rfl ⟨rfl, rfl, trivial⟩ ?_
        have t102_ : chC P = chC Po := chC_eq (fun j => i_3.1 290 j (by omega)) i_3.2.1
        have t102_p : (fv P 289 2).toInt = (fv Po 289 2).toInt + ((v1.toInt.toNat : Nat) : Int) := by omega
        have t102_x20 := g21
        rw [t102_, t102_p] at t102_x20
        have t102_x40 := g41
        rw [t102_, t102_p] at t102_x40
        have t102_x66 := g67
        rw [t102_, t102_p] at t102_x66
        have i101 : ∀ j : Nat, j < z98.toInt.toNat → D1 (chC Po ((fv Po 289 2).toInt + (j : Int))).toInt := RUN.grow i_0 rfl (show D1 (chC Po ((fv Po 289 2).toInt + ((v1.toInt.toNat : Nat) : Int))).toInt from ⟨by omega, by omega⟩) (by omega)
        have i103 : (fv P91 289 2).toInt = (fv Po 289 2).toInt + z98.toInt := by omega
        have i104 : fv P91 289 4 = szI (chC Po) (fv Po 289 2).toInt z98.toInt.toNat := by rw [f94 289 4 (by omega), f77]; exact szI.step i_2 (by omega) rfl (show x66.toInt = (chC Po ((fv Po 289 2).toInt + ((v1.toInt.toNat : Nat) : Int))).toInt from by omega) h60 h70 h73
        have i105 : KI 289 290 Po P91 ∧ fv P91 289 1 = fv Po 289 1 ∧ fv P91 289 3 = fv Po 289 3 := ⟨fun x j hx => by rw [f94 x j (by omega), f78 x j (by omega)]; exact i_3.1 x j hx, by rw [f94 289 1 (by omega), f78 289 1 (by omega)]; exact i_3.2.1, by rw [f94 289 3 (by omega), f78 289 3 (by omega)]; exact i_3.2.2⟩
        have i106 : z98.toInt ≤ 8 := by omega
        have i107 : 0 ≤ (fv Po 289 2).toInt := by omega
        have i108 : 0 ≤ z98.toInt := by omega
        exact ih _ (by omega) _ P91 hT92 k96 i101 i103 i104 i105 i106 i107 i108 rfl

set_option maxHeartbeats 4000000 in
theorem c_CS_takeSizes_Script {Po : mP}  (hT : Typ Po) (hX : XR Po)  (hp0 : 0 ≤ (fv Po 289 2).toInt)  : EvP 3 99 [.ref 289] Po (fun r P' => (∃ x : Int32, r = some (.int x) ∧ (0 ≤ x.toInt ∧ x.toInt ≤ 1 ∧ (∃ k : Nat, RUN D1 (chC Po) (fv Po 289 2).toInt k ∧ (fv P' 289 2).toInt = (fv Po 289 2).toInt + (k : Int) ∧ fv P' 289 4 = szI (chC Po) (fv Po 289 2).toInt k ∧ ((x.toInt = 1 ∧ 1 ≤ k) ∨ (x.toInt = 0 ∧ k = 0))))) ∧ Typ P' ∧ KW [514, 516] Po P' ∧ fv P' 289 1 = fv Po 289 1 ∧ fv P' 289 3 = fv Po 289 3 ∧ KI 289 290 Po P') := by
  refine EvP.of qm_99 (Nat.le_of_ble_eq_true rfl) rfl ?_
  show MEvP _ none q_99 0 [(0, .ref 289)] [] _ 0 0 _
  have g1 := ti_full (fv Po 289 2)
  refine mp_a (a_aload_n dX4_takeSizes_0 rfl) (mpp 1 rfl ?_)
  refine mp_a (a_iconst (v := 0) dX4_takeSizes_1 rfl) (mpp 2 rfl ?_)
  refine mt_putI (i := 63) (k := 4) (x := 0) hT dX4_takeSizes_2 rfl rl_289 (by decide) rfl (by decide) rfl (by decide) rfl rfl (fun P2 hT3 f4 f5 f6 => mpp 5 rfl ?_)
  have k7 : KW [514, 516] Po P2 := KW.step KW.refl rl_289 rfl f5 f6
  have e8 : (fv P2 289 4).toInt = 0 := congrArg Int32.toInt f4
  refine mp_a (a_iconst (v := 0) dX4_takeSizes_5 rfl) (mpp 6 rfl ?_)
  refine mp_a (a_istore_n (L' := [(1, .int 0), (0, .ref 289)]) dX4_takeSizes_6 (by decide) rfl) (mpp 7 rfl ?_)
  refine MEvP.less (L := [(0, .ref 289), (1, .int 0)]) rfl rfl ⟨rfl, rfl, trivial⟩ ?_
  have i9 : ∀ j : Nat, j < (0 : Int).toNat → D1 (chC Po ((fv Po 289 2).toInt + (j : Int))).toInt := fun j hj => absurd hj (Nat.not_lt_zero j)
  have e10 : (fv P2 289 2).toInt = (fv Po 289 2).toInt := congrArg Int32.toInt (f5 289 2 (ne_k rfl))
  have i11 : (fv P2 289 2).toInt = (fv Po 289 2).toInt + (0 : Int) := by omega
  have i12 : fv P2 289 4 = szI (chC Po) (fv Po 289 2).toInt (0 : Int).toNat := f4
  have i13 : KI 289 290 Po P2 ∧ fv P2 289 1 = fv Po 289 1 ∧ fv P2 289 3 = fv Po 289 3 := ⟨fun x j hx => by rw [f5 x j (by omega)], by rw [f5 289 1 (by omega)], by rw [f5 289 3 (by omega)]⟩
  have i14 : (0 : Int) ≤ 8 := by omega
  have i15 : 0 ≤ (fv Po 289 2).toInt := by omega
  have i16 : 0 ≤ (0 : Int) := by omega
  exact c_CS_takeSizes_Script_l7 hT hX  hp0 _ _ P2 hT3 k7 i9 i11 i12 i13 i14 i15 i16 rfl

set_option maxHeartbeats 4000000 in
theorem c_CS_takeSign_Script {Po : mP} {t1 : Int32} (hT : Typ Po) (hX : XR Po)  (hp0 : 0 ≤ (fv Po 289 2).toInt) (hp1 : 1 ≤ t1.toInt)  : EvP 3 100 [.ref 289, .int t1] Po (fun r P' => (∃ x : Int32, r = some (.int x) ∧ (0 ≤ x.toInt ∧ x.toInt ≤ 1 ∧ ((x.toInt = 1 ∧ (chC Po (fv Po 289 2).toInt).toInt = t1.toInt ∧ (fv P' 289 2).toInt = (fv Po 289 2).toInt + 1) ∨ (x.toInt = 0 ∧ ¬ (chC Po (fv Po 289 2).toInt).toInt = t1.toInt ∧ (fv P' 289 2).toInt = (fv Po 289 2).toInt)))) ∧ Typ P' ∧ KW [514] Po P' ∧ fv P' 289 1 = fv Po 289 1 ∧ fv P' 289 3 = fv Po 289 3 ∧ fv P' 289 4 = fv Po 289 4 ∧ fv P' 289 5 = fv Po 289 5 ∧ fv P' 289 6 = fv Po 289 6 ∧ fv P' 289 7 = fv Po 289 7 ∧ KI 289 290 Po P') := by
  refine EvP.of qm_100 (Nat.le_of_ble_eq_true rfl) rfl ?_
  show MEvP _ none q_100 0 [(0, .ref 289), (1, .int t1)] [] _ 0 0 _
  have w_t1 := ti_full t1
  have g1 := ti_full (fv Po 289 2)
  refine mp_a (a_aload_n dX4_takeSign_0 rfl) (mpp 1 rfl ?_)
  have p2 : 0 ≤ (fv Po 289 2).toInt := by omega
  refine mt_callv (i := 37) (q' := q_98) (As := []) (rest := []) hT dX4_takeSign_1 rfl qm_98 (by decide) rfl rl_289 (by decide) rfl (Nat.le_of_ble_eq_true rfl) rfl ⟨rfl, rfl⟩ ⟨Nat.le_of_ble_eq_true rfl, Nat.le_of_ble_eq_true rfl⟩ (EvP.mono (by decide) (c_CS_codeHere_Script hT hX p2 )) (fun r3 P4 g5 => mpp 4 rfl ?_)
  obtain ⟨⟨x6, rfl, g7⟩, e8⟩ := g5
  have e8 := e8.symm
  subst e8
  have wx6 := ti_full x6
  replace g7 : x6.toInt = (chC Po (fv Po 289 2).toInt).toInt ∨ (x6.toInt = 0 ∧ (chC Po (fv Po 289 2).toInt).toInt = -1) := g7
  show MEvP _ none q_100 4 [(0, .ref 289), (1, .int t1)] [.int x6] _ _ _ _
  refine mp_a (a_iload_n dX4_takeSign_4 rfl) (mpp 5 rfl ?_)
  refine mp_Tb (t := 10) (j_icmp_eq dX4_takeSign_5) (by decide) (fun c9 => ?_) (fun c9 => mpp 8 rfl ?_)
  · have c9 : x6.toInt = t1.toInt := ti_eq c9
    have q10 : (0 : Int) ≤ (fv Po 289 1).toInt ∧ (fv Po 289 1).toInt ≤ 80 := Typ.rng hT rl_289 (by decide) (by decide) rfl
    have q11 := ch_lt (t := fun j => fv Po 290 j) (L := (fv Po 289 1).toInt) (i := (fv Po 289 2).toInt) (show ¬ (chC Po (fv Po 289 2).toInt).toInt = -1 from by omega)
    refine mp_a (a_aload_n dX4_takeSign_10 rfl) (mpp 11 rfl ?_)
    refine mp_t (s_dup dX4_takeSign_11 rfl) (mpp 12 rfl ?_)
    refine mt_getI (i := 23) (k := 2) hT dX4_takeSign_12 rfl rl_289 (by decide) rfl (by decide) rfl (fun g12 g13 => mpp 15 rfl ?_)
    refine mp_a (a_iconst (v := 1) dX4_takeSign_15 rfl) (mpp 16 rfl ?_)
    obtain ⟨z14, h15⟩ := ti_ex ((fv Po 289 2) + 1 : Int32)
    have wz14 := ti_full z14
    refine mp_t (s_iadd (v := z14) dX4_takeSign_16 h15) (mpp 17 rfl ?_)
    try have e16 : z14.toInt = (fv Po 289 2).toInt + 1 := ti_addz h15 rfl rfl (by omega) (by omega)
    refine mt_putI (i := 23) (k := 2) (x := z14) hT dX4_takeSign_17 rfl rl_289 (by decide) rfl (by decide) rfl (ti_full z14) rfl rfl (fun P17 hT18 f19 f20 f21 => mpp 20 rfl ?_)
    have k22 : KW [514] Po P17 := KW.step KW.refl rl_289 rfl f20 f21
    have e23 : (fv P17 289 2).toInt = z14.toInt := congrArg Int32.toInt f19
    refine mp_a (a_iconst (v := 1) dX4_takeSign_20 rfl) (mpp 21 rfl ?_)
    have u24 : 0 ≤ (1 : Int) ∧ (1 : Int) ≤ 1 ∧ (((1 : Int) = 1 ∧ (chC Po (fv Po 289 2).toInt).toInt = t1.toInt ∧ (fv P17 289 2).toInt = (fv Po 289 2).toInt + 1) ∨ ((1 : Int) = 0 ∧ ¬ (chC Po (fv Po 289 2).toInt).toInt = t1.toInt ∧ (fv P17 289 2).toInt = (fv Po 289 2).toInt)) := by omega
    have u25 : fv P17 289 1 = fv Po 289 1 := by rw [f20 289 1 (by omega)]
    have u26 : fv P17 289 3 = fv Po 289 3 := by rw [f20 289 3 (by omega)]
    have u27 : fv P17 289 4 = fv Po 289 4 := by rw [f20 289 4 (by omega)]
    have u28 : fv P17 289 5 = fv Po 289 5 := by rw [f20 289 5 (by omega)]
    have u29 : fv P17 289 6 = fv Po 289 6 := by rw [f20 289 6 (by omega)]
    have u30 : fv P17 289 7 = fv Po 289 7 := by rw [f20 289 7 (by omega)]
    have u31 : KI 289 290 Po P17 := by
      intro x j hx
      rw [f20 x j (by omega)]
    exact mp_iret ⟨⟨_, rfl, u24⟩, hT18, k22, ⟨u25, u26, u27, u28, u29, u30, u31⟩⟩ dX4_takeSign_21 (Or.inr ⟨rfl, by decide⟩)
  · have c9 : x6.toInt ≠ t1.toInt := ti_eq_n c9
    refine mp_a (a_iconst (v := 0) dX4_takeSign_8 rfl) (mpp 9 rfl ?_)
    have u32 : 0 ≤ (0 : Int) ∧ (0 : Int) ≤ 1 ∧ (((0 : Int) = 1 ∧ (chC Po (fv Po 289 2).toInt).toInt = t1.toInt ∧ (fv Po 289 2).toInt = (fv Po 289 2).toInt + 1) ∨ ((0 : Int) = 0 ∧ ¬ (chC Po (fv Po 289 2).toInt).toInt = t1.toInt ∧ (fv Po 289 2).toInt = (fv Po 289 2).toInt)) := by omega
    have u33 : fv Po 289 1 = fv Po 289 1 := by rw []
    have u34 : fv Po 289 3 = fv Po 289 3 := by rw []
    have u35 : fv Po 289 4 = fv Po 289 4 := by rw []
    have u36 : fv Po 289 5 = fv Po 289 5 := by rw []
    have u37 : fv Po 289 6 = fv Po 289 6 := by rw []
    have u38 : fv Po 289 7 = fv Po 289 7 := by rw []
    have u39 : KI 289 290 Po Po := fun _ _ _ => rfl
    exact mp_iret ⟨⟨_, rfl, u32⟩, hT, KW.refl, ⟨u33, u34, u35, u36, u37, u38, u39⟩⟩ dX4_takeSign_9 (Or.inr ⟨rfl, by decide⟩)

set_option maxHeartbeats 4000000 in
theorem c_CS_takeKind_Script {Po : mP}  (hT : Typ Po) (hX : XR Po)  (hp0 : 0 ≤ (fv Po 289 2).toInt)  : EvP 3 102 [.ref 289] Po (fun r P' => (∃ x : Int32, r = some (.int x) ∧ (0 ≤ x.toInt ∧ x.toInt ≤ 1 ∧ ((x.toInt = 1 ∧ ((chC Po (fv Po 289 2).toInt).toInt = 111 ∨ (chC Po (fv Po 289 2).toInt).toInt = 109 ∨ (chC Po (fv Po 289 2).toInt).toInt = 118) ∧ (fv P' 289 2).toInt = (fv Po 289 2).toInt + 1 ∧ (fv P' 289 7).toInt = (kn (chC Po (fv Po 289 2).toInt).toInt).toInt) ∨ (x.toInt = 0 ∧ ¬ ((chC Po (fv Po 289 2).toInt).toInt = 111 ∨ (chC Po (fv Po 289 2).toInt).toInt = 109 ∨ (chC Po (fv Po 289 2).toInt).toInt = 118) ∧ (fv P' 289 2).toInt = (fv Po 289 2).toInt ∧ fv P' 289 7 = fv Po 289 7)))) ∧ Typ P' ∧ KW [514, 519] Po P' ∧ fv P' 289 1 = fv Po 289 1 ∧ fv P' 289 3 = fv Po 289 3 ∧ fv P' 289 4 = fv Po 289 4 ∧ fv P' 289 5 = fv Po 289 5 ∧ fv P' 289 6 = fv Po 289 6 ∧ KI 289 290 Po P') := by
  refine EvP.of qm_102 (Nat.le_of_ble_eq_true rfl) rfl ?_
  show MEvP _ none q_102 0 [(0, .ref 289)] [] _ 0 0 _
  have g1 := ti_full (fv Po 289 2)
  refine mp_a (a_aload_n dX4_takeKind_0 rfl) (mpp 1 rfl ?_)
  have p2 : 0 ≤ (fv Po 289 2).toInt := by omega
  refine mt_callv (i := 37) (q' := q_98) (As := []) (rest := []) hT dX4_takeKind_1 rfl qm_98 (by decide) rfl rl_289 (by decide) rfl (Nat.le_of_ble_eq_true rfl) rfl ⟨rfl, rfl⟩ ⟨Nat.le_of_ble_eq_true rfl, Nat.le_of_ble_eq_true rfl⟩ (EvP.mono (by decide) (c_CS_codeHere_Script hT hX p2 )) (fun r3 P4 g5 => mpp 4 rfl ?_)
  obtain ⟨⟨x6, rfl, g7⟩, e8⟩ := g5
  have e8 := e8.symm
  subst e8
  have wx6 := ti_full x6
  replace g7 : x6.toInt = (chC Po (fv Po 289 2).toInt).toInt ∨ (x6.toInt = 0 ∧ (chC Po (fv Po 289 2).toInt).toInt = -1) := g7
  show MEvP _ none q_102 4 [(0, .ref 289)] [.int x6] _ _ _ _
  refine mp_a (a_istore_n (L' := [(1, .int x6), (0, .ref 289)]) dX4_takeKind_4 (by decide) rfl) (mpp 5 rfl ?_)
  refine mp_a (a_iload_n dX4_takeKind_5 rfl) (mpp 6 rfl ?_)
  refine mp_a (a_bipush (v := 111) dX4_takeKind_6 rfl) (mpp 8 rfl ?_)
  refine mp_Tb (t := 25) (j_icmp_eq dX4_takeKind_8) (by decide) (fun c9 => ?_) (fun c9 => mpp 11 rfl ?_)
  · have c9 : x6.toInt = 111 := ti_eq c9
    have q10 : (0 : Int) ≤ (fv Po 289 1).toInt ∧ (fv Po 289 1).toInt ≤ 80 := Typ.rng hT rl_289 (by decide) (by decide) rfl
    have q11 := ch_lt (t := fun j => fv Po 290 j) (L := (fv Po 289 1).toInt) (i := (fv Po 289 2).toInt) (show ¬ (chC Po (fv Po 289 2).toInt).toInt = -1 from by omega)
    refine mp_a (a_aload_n dX4_takeKind_25 rfl) (mpp 26 rfl ?_)
    refine mp_a (a_iload_n dX4_takeKind_26 rfl) (mpp 27 rfl ?_)
    refine mp_a (a_bipush (v := 111) dX4_takeKind_27 rfl) (mpp 29 rfl ?_)
    refine mp_Tb (t := 36) (j_icmp_ne dX4_takeKind_29) (by decide) (fun c12 => ?_) (fun c12 => mpp 32 rfl ?_)
    · have c12 : x6.toInt ≠ 111 := ti_ne c12
      refine mp_a (a_iload_n dX4_takeKind_36 rfl) (mpp 37 rfl ?_)
      refine mp_a (a_bipush (v := 109) dX4_takeKind_37 rfl) (mpp 39 rfl ?_)
      refine mp_Tb (t := 46) (j_icmp_ne dX4_takeKind_39) (by decide) (fun c13 => ?_) (fun c13 => mpp 42 rfl ?_)
      · have c13 : x6.toInt ≠ 109 := ti_ne c13
        refine mp_a (a_iconst (v := 2) dX4_takeKind_46 rfl) (mpp 47 rfl ?_)
        refine mt_putI (i := 72) (k := 7) (x := 2) hT dX4_takeKind_47 rfl rl_289 (by decide) rfl (by decide) rfl (by decide) rfl rfl (fun P14 hT15 f16 f17 f18 => mpp 50 rfl ?_)
        have k19 : KW [514, 519] Po P14 := KW.step KW.refl rl_289 rfl f17 f18
        have e20 : (fv P14 289 7).toInt = 2 := congrArg Int32.toInt f16
        refine mp_a (a_aload_n dX4_takeKind_50 rfl) (mpp 51 rfl ?_)
        refine mp_t (s_dup dX4_takeKind_51 rfl) (mpp 52 rfl ?_)
        have e21 : (fv P14 289 2).toInt = (fv Po 289 2).toInt := congrArg Int32.toInt (f17 289 2 (ne_k rfl))
        refine mt_getI (i := 23) (k := 2) hT15 dX4_takeKind_52 rfl rl_289 (by decide) rfl (by decide) rfl (fun g22 g23 => mpp 55 rfl ?_)
        refine mp_a (a_iconst (v := 1) dX4_takeKind_55 rfl) (mpp 56 rfl ?_)
        obtain ⟨z24, h25⟩ := ti_ex ((fv P14 289 2) + 1 : Int32)
        have wz24 := ti_full z24
        refine mp_t (s_iadd (v := z24) dX4_takeKind_56 h25) (mpp 57 rfl ?_)
        try have e26 : z24.toInt = (fv P14 289 2).toInt + 1 := ti_addz h25 rfl rfl (by omega) (by omega)
        refine mt_putI (i := 23) (k := 2) (x := z24) hT15 dX4_takeKind_57 rfl rl_289 (by decide) rfl (by decide) rfl (ti_full z24) rfl rfl (fun P27 hT28 f29 f30 f31 => mpp 60 rfl ?_)
        have k32 : KW [514, 519] Po P27 := KW.step k19 rl_289 rfl f30 f31
        have e33 : (fv P27 289 2).toInt = z24.toInt := congrArg Int32.toInt f29
        refine mp_a (a_iconst (v := 1) dX4_takeKind_60 rfl) (mpp 61 rfl ?_)
        have u34 : 0 ≤ (1 : Int) ∧ (1 : Int) ≤ 1 ∧ (((1 : Int) = 1 ∧ ((chC Po (fv Po 289 2).toInt).toInt = 111 ∨ (chC Po (fv Po 289 2).toInt).toInt = 109 ∨ (chC Po (fv Po 289 2).toInt).toInt = 118) ∧ (fv P27 289 2).toInt = (fv Po 289 2).toInt + 1 ∧ (fv P27 289 7).toInt = (kn (chC Po (fv Po 289 2).toInt).toInt).toInt) ∨ ((1 : Int) = 0 ∧ ¬ ((chC Po (fv Po 289 2).toInt).toInt = 111 ∨ (chC Po (fv Po 289 2).toInt).toInt = 109 ∨ (chC Po (fv Po 289 2).toInt).toInt = 118) ∧ (fv P27 289 2).toInt = (fv Po 289 2).toInt ∧ fv P27 289 7 = fv Po 289 7)) := ⟨by omega, by omega, Or.inl ⟨rfl, by omega, by omega, by rw [f30 289 7 (by omega), f16]; exact kn_v (by omega) rfl⟩⟩
        have u36 : fv P27 289 1 = fv Po 289 1 := by rw [f30 289 1 (by omega), f17 289 1 (by omega)]
        have u37 : fv P27 289 3 = fv Po 289 3 := by rw [f30 289 3 (by omega), f17 289 3 (by omega)]
        have u38 : fv P27 289 4 = fv Po 289 4 := by rw [f30 289 4 (by omega), f17 289 4 (by omega)]
        have u39 : fv P27 289 5 = fv Po 289 5 := by rw [f30 289 5 (by omega), f17 289 5 (by omega)]
        have u40 : fv P27 289 6 = fv Po 289 6 := by rw [f30 289 6 (by omega), f17 289 6 (by omega)]
        have u41 : KI 289 290 Po P27 := by
          intro x j hx
          rw [f30 x j (by omega), f17 x j (by omega)]
        exact mp_iret ⟨⟨_, rfl, u34⟩, hT28, k32, ⟨u36, u37, u38, u39, u40, u41⟩⟩ dX4_takeKind_61 (Or.inr ⟨rfl, by decide⟩)
      · have c13 : x6.toInt = 109 := ti_ne_n c13
        refine mp_a (a_iconst (v := 1) dX4_takeKind_42 rfl) (mpp 43 rfl ?_)
        refine mp_a (a_goto (t := 47) dX4_takeKind_43 (by decide)) ?_
        refine mt_putI (i := 72) (k := 7) (x := 1) hT dX4_takeKind_47 rfl rl_289 (by decide) rfl (by decide) rfl (by decide) rfl rfl (fun P42 hT43 f44 f45 f46 => mpp 50 rfl ?_)
        have k47 : KW [514, 519] Po P42 := KW.step KW.refl rl_289 rfl f45 f46
        have e48 : (fv P42 289 7).toInt = 1 := congrArg Int32.toInt f44
        refine mp_a (a_aload_n dX4_takeKind_50 rfl) (mpp 51 rfl ?_)
        refine mp_t (s_dup dX4_takeKind_51 rfl) (mpp 52 rfl ?_)
        have e49 : (fv P42 289 2).toInt = (fv Po 289 2).toInt := congrArg Int32.toInt (f45 289 2 (ne_k rfl))
        refine mt_getI (i := 23) (k := 2) hT43 dX4_takeKind_52 rfl rl_289 (by decide) rfl (by decide) rfl (fun g50 g51 => mpp 55 rfl ?_)
        refine mp_a (a_iconst (v := 1) dX4_takeKind_55 rfl) (mpp 56 rfl ?_)
        obtain ⟨z52, h53⟩ := ti_ex ((fv P42 289 2) + 1 : Int32)
        have wz52 := ti_full z52
        refine mp_t (s_iadd (v := z52) dX4_takeKind_56 h53) (mpp 57 rfl ?_)
        try have e54 : z52.toInt = (fv P42 289 2).toInt + 1 := ti_addz h53 rfl rfl (by omega) (by omega)
        refine mt_putI (i := 23) (k := 2) (x := z52) hT43 dX4_takeKind_57 rfl rl_289 (by decide) rfl (by decide) rfl (ti_full z52) rfl rfl (fun P55 hT56 f57 f58 f59 => mpp 60 rfl ?_)
        have k60 : KW [514, 519] Po P55 := KW.step k47 rl_289 rfl f58 f59
        have e61 : (fv P55 289 2).toInt = z52.toInt := congrArg Int32.toInt f57
        refine mp_a (a_iconst (v := 1) dX4_takeKind_60 rfl) (mpp 61 rfl ?_)
        have u62 : 0 ≤ (1 : Int) ∧ (1 : Int) ≤ 1 ∧ (((1 : Int) = 1 ∧ ((chC Po (fv Po 289 2).toInt).toInt = 111 ∨ (chC Po (fv Po 289 2).toInt).toInt = 109 ∨ (chC Po (fv Po 289 2).toInt).toInt = 118) ∧ (fv P55 289 2).toInt = (fv Po 289 2).toInt + 1 ∧ (fv P55 289 7).toInt = (kn (chC Po (fv Po 289 2).toInt).toInt).toInt) ∨ ((1 : Int) = 0 ∧ ¬ ((chC Po (fv Po 289 2).toInt).toInt = 111 ∨ (chC Po (fv Po 289 2).toInt).toInt = 109 ∨ (chC Po (fv Po 289 2).toInt).toInt = 118) ∧ (fv P55 289 2).toInt = (fv Po 289 2).toInt ∧ fv P55 289 7 = fv Po 289 7)) := ⟨by omega, by omega, Or.inl ⟨rfl, by omega, by omega, by rw [f58 289 7 (by omega), f44]; exact kn_m (by omega) rfl⟩⟩
        have u64 : fv P55 289 1 = fv Po 289 1 := by rw [f58 289 1 (by omega), f45 289 1 (by omega)]
        have u65 : fv P55 289 3 = fv Po 289 3 := by rw [f58 289 3 (by omega), f45 289 3 (by omega)]
        have u66 : fv P55 289 4 = fv Po 289 4 := by rw [f58 289 4 (by omega), f45 289 4 (by omega)]
        have u67 : fv P55 289 5 = fv Po 289 5 := by rw [f58 289 5 (by omega), f45 289 5 (by omega)]
        have u68 : fv P55 289 6 = fv Po 289 6 := by rw [f58 289 6 (by omega), f45 289 6 (by omega)]
        have u69 : KI 289 290 Po P55 := by
          intro x j hx
          rw [f58 x j (by omega), f45 x j (by omega)]
        exact mp_iret ⟨⟨_, rfl, u62⟩, hT56, k60, ⟨u64, u65, u66, u67, u68, u69⟩⟩ dX4_takeKind_61 (Or.inr ⟨rfl, by decide⟩)
    · have c12 : x6.toInt = 111 := ti_ne_n c12
      refine mp_a (a_iconst (v := 0) dX4_takeKind_32 rfl) (mpp 33 rfl ?_)
      refine mp_a (a_goto (t := 47) dX4_takeKind_33 (by decide)) ?_
      refine mt_putI (i := 72) (k := 7) (x := 0) hT dX4_takeKind_47 rfl rl_289 (by decide) rfl (by decide) rfl (by decide) rfl rfl (fun P70 hT71 f72 f73 f74 => mpp 50 rfl ?_)
      have k75 : KW [514, 519] Po P70 := KW.step KW.refl rl_289 rfl f73 f74
      have e76 : (fv P70 289 7).toInt = 0 := congrArg Int32.toInt f72
      refine mp_a (a_aload_n dX4_takeKind_50 rfl) (mpp 51 rfl ?_)
      refine mp_t (s_dup dX4_takeKind_51 rfl) (mpp 52 rfl ?_)
      have e77 : (fv P70 289 2).toInt = (fv Po 289 2).toInt := congrArg Int32.toInt (f73 289 2 (ne_k rfl))
      refine mt_getI (i := 23) (k := 2) hT71 dX4_takeKind_52 rfl rl_289 (by decide) rfl (by decide) rfl (fun g78 g79 => mpp 55 rfl ?_)
      refine mp_a (a_iconst (v := 1) dX4_takeKind_55 rfl) (mpp 56 rfl ?_)
      obtain ⟨z80, h81⟩ := ti_ex ((fv P70 289 2) + 1 : Int32)
      have wz80 := ti_full z80
      refine mp_t (s_iadd (v := z80) dX4_takeKind_56 h81) (mpp 57 rfl ?_)
      try have e82 : z80.toInt = (fv P70 289 2).toInt + 1 := ti_addz h81 rfl rfl (by omega) (by omega)
      refine mt_putI (i := 23) (k := 2) (x := z80) hT71 dX4_takeKind_57 rfl rl_289 (by decide) rfl (by decide) rfl (ti_full z80) rfl rfl (fun P83 hT84 f85 f86 f87 => mpp 60 rfl ?_)
      have k88 : KW [514, 519] Po P83 := KW.step k75 rl_289 rfl f86 f87
      have e89 : (fv P83 289 2).toInt = z80.toInt := congrArg Int32.toInt f85
      refine mp_a (a_iconst (v := 1) dX4_takeKind_60 rfl) (mpp 61 rfl ?_)
      have u90 : 0 ≤ (1 : Int) ∧ (1 : Int) ≤ 1 ∧ (((1 : Int) = 1 ∧ ((chC Po (fv Po 289 2).toInt).toInt = 111 ∨ (chC Po (fv Po 289 2).toInt).toInt = 109 ∨ (chC Po (fv Po 289 2).toInt).toInt = 118) ∧ (fv P83 289 2).toInt = (fv Po 289 2).toInt + 1 ∧ (fv P83 289 7).toInt = (kn (chC Po (fv Po 289 2).toInt).toInt).toInt) ∨ ((1 : Int) = 0 ∧ ¬ ((chC Po (fv Po 289 2).toInt).toInt = 111 ∨ (chC Po (fv Po 289 2).toInt).toInt = 109 ∨ (chC Po (fv Po 289 2).toInt).toInt = 118) ∧ (fv P83 289 2).toInt = (fv Po 289 2).toInt ∧ fv P83 289 7 = fv Po 289 7)) := ⟨by omega, by omega, Or.inl ⟨rfl, by omega, by omega, by rw [f86 289 7 (by omega), f72]; exact kn_o (by omega) rfl⟩⟩
      have u92 : fv P83 289 1 = fv Po 289 1 := by rw [f86 289 1 (by omega), f73 289 1 (by omega)]
      have u93 : fv P83 289 3 = fv Po 289 3 := by rw [f86 289 3 (by omega), f73 289 3 (by omega)]
      have u94 : fv P83 289 4 = fv Po 289 4 := by rw [f86 289 4 (by omega), f73 289 4 (by omega)]
      have u95 : fv P83 289 5 = fv Po 289 5 := by rw [f86 289 5 (by omega), f73 289 5 (by omega)]
      have u96 : fv P83 289 6 = fv Po 289 6 := by rw [f86 289 6 (by omega), f73 289 6 (by omega)]
      have u97 : KI 289 290 Po P83 := by
        intro x j hx
        rw [f86 x j (by omega), f73 x j (by omega)]
      exact mp_iret ⟨⟨_, rfl, u90⟩, hT84, k88, ⟨u92, u93, u94, u95, u96, u97⟩⟩ dX4_takeKind_61 (Or.inr ⟨rfl, by decide⟩)
  · have c9 : x6.toInt ≠ 111 := ti_eq_n c9
    refine mp_a (a_iload_n dX4_takeKind_11 rfl) (mpp 12 rfl ?_)
    refine mp_a (a_bipush (v := 109) dX4_takeKind_12 rfl) (mpp 14 rfl ?_)
    refine mp_Tb (t := 25) (j_icmp_eq dX4_takeKind_14) (by decide) (fun c98 => ?_) (fun c98 => mpp 17 rfl ?_)
    · have c98 : x6.toInt = 109 := ti_eq c98
      have q99 : (0 : Int) ≤ (fv Po 289 1).toInt ∧ (fv Po 289 1).toInt ≤ 80 := Typ.rng hT rl_289 (by decide) (by decide) rfl
      have q100 := ch_lt (t := fun j => fv Po 290 j) (L := (fv Po 289 1).toInt) (i := (fv Po 289 2).toInt) (show ¬ (chC Po (fv Po 289 2).toInt).toInt = -1 from by omega)
      refine mp_a (a_aload_n dX4_takeKind_25 rfl) (mpp 26 rfl ?_)
      refine mp_a (a_iload_n dX4_takeKind_26 rfl) (mpp 27 rfl ?_)
      refine mp_a (a_bipush (v := 111) dX4_takeKind_27 rfl) (mpp 29 rfl ?_)
      refine mp_Tb (t := 36) (j_icmp_ne dX4_takeKind_29) (by decide) (fun c101 => ?_) (fun c101 => mpp 32 rfl ?_)
      · have c101 : x6.toInt ≠ 111 := ti_ne c101
        refine mp_a (a_iload_n dX4_takeKind_36 rfl) (mpp 37 rfl ?_)
        refine mp_a (a_bipush (v := 109) dX4_takeKind_37 rfl) (mpp 39 rfl ?_)
        refine mp_Tb (t := 46) (j_icmp_ne dX4_takeKind_39) (by decide) (fun c102 => ?_) (fun c102 => mpp 42 rfl ?_)
        · have c102 : x6.toInt ≠ 109 := ti_ne c102
          refine mp_a (a_iconst (v := 2) dX4_takeKind_46 rfl) (mpp 47 rfl ?_)
          refine mt_putI (i := 72) (k := 7) (x := 2) hT dX4_takeKind_47 rfl rl_289 (by decide) rfl (by decide) rfl (by decide) rfl rfl (fun P103 hT104 f105 f106 f107 => mpp 50 rfl ?_)
          have k108 : KW [514, 519] Po P103 := KW.step KW.refl rl_289 rfl f106 f107
          have e109 : (fv P103 289 7).toInt = 2 := congrArg Int32.toInt f105
          refine mp_a (a_aload_n dX4_takeKind_50 rfl) (mpp 51 rfl ?_)
          refine mp_t (s_dup dX4_takeKind_51 rfl) (mpp 52 rfl ?_)
          have e110 : (fv P103 289 2).toInt = (fv Po 289 2).toInt := congrArg Int32.toInt (f106 289 2 (ne_k rfl))
          refine mt_getI (i := 23) (k := 2) hT104 dX4_takeKind_52 rfl rl_289 (by decide) rfl (by decide) rfl (fun g111 g112 => mpp 55 rfl ?_)
          refine mp_a (a_iconst (v := 1) dX4_takeKind_55 rfl) (mpp 56 rfl ?_)
          obtain ⟨z113, h114⟩ := ti_ex ((fv P103 289 2) + 1 : Int32)
          have wz113 := ti_full z113
          refine mp_t (s_iadd (v := z113) dX4_takeKind_56 h114) (mpp 57 rfl ?_)
          try have e115 : z113.toInt = (fv P103 289 2).toInt + 1 := ti_addz h114 rfl rfl (by omega) (by omega)
          refine mt_putI (i := 23) (k := 2) (x := z113) hT104 dX4_takeKind_57 rfl rl_289 (by decide) rfl (by decide) rfl (ti_full z113) rfl rfl (fun P116 hT117 f118 f119 f120 => mpp 60 rfl ?_)
          have k121 : KW [514, 519] Po P116 := KW.step k108 rl_289 rfl f119 f120
          have e122 : (fv P116 289 2).toInt = z113.toInt := congrArg Int32.toInt f118
          refine mp_a (a_iconst (v := 1) dX4_takeKind_60 rfl) (mpp 61 rfl ?_)
          have u123 : 0 ≤ (1 : Int) ∧ (1 : Int) ≤ 1 ∧ (((1 : Int) = 1 ∧ ((chC Po (fv Po 289 2).toInt).toInt = 111 ∨ (chC Po (fv Po 289 2).toInt).toInt = 109 ∨ (chC Po (fv Po 289 2).toInt).toInt = 118) ∧ (fv P116 289 2).toInt = (fv Po 289 2).toInt + 1 ∧ (fv P116 289 7).toInt = (kn (chC Po (fv Po 289 2).toInt).toInt).toInt) ∨ ((1 : Int) = 0 ∧ ¬ ((chC Po (fv Po 289 2).toInt).toInt = 111 ∨ (chC Po (fv Po 289 2).toInt).toInt = 109 ∨ (chC Po (fv Po 289 2).toInt).toInt = 118) ∧ (fv P116 289 2).toInt = (fv Po 289 2).toInt ∧ fv P116 289 7 = fv Po 289 7)) := ⟨by omega, by omega, Or.inl ⟨rfl, by omega, by omega, by rw [f119 289 7 (by omega), f105]; exact kn_v (by omega) rfl⟩⟩
          have u125 : fv P116 289 1 = fv Po 289 1 := by rw [f119 289 1 (by omega), f106 289 1 (by omega)]
          have u126 : fv P116 289 3 = fv Po 289 3 := by rw [f119 289 3 (by omega), f106 289 3 (by omega)]
          have u127 : fv P116 289 4 = fv Po 289 4 := by rw [f119 289 4 (by omega), f106 289 4 (by omega)]
          have u128 : fv P116 289 5 = fv Po 289 5 := by rw [f119 289 5 (by omega), f106 289 5 (by omega)]
          have u129 : fv P116 289 6 = fv Po 289 6 := by rw [f119 289 6 (by omega), f106 289 6 (by omega)]
          have u130 : KI 289 290 Po P116 := by
            intro x j hx
            rw [f119 x j (by omega), f106 x j (by omega)]
          exact mp_iret ⟨⟨_, rfl, u123⟩, hT117, k121, ⟨u125, u126, u127, u128, u129, u130⟩⟩ dX4_takeKind_61 (Or.inr ⟨rfl, by decide⟩)
        · have c102 : x6.toInt = 109 := ti_ne_n c102
          refine mp_a (a_iconst (v := 1) dX4_takeKind_42 rfl) (mpp 43 rfl ?_)
          refine mp_a (a_goto (t := 47) dX4_takeKind_43 (by decide)) ?_
          refine mt_putI (i := 72) (k := 7) (x := 1) hT dX4_takeKind_47 rfl rl_289 (by decide) rfl (by decide) rfl (by decide) rfl rfl (fun P131 hT132 f133 f134 f135 => mpp 50 rfl ?_)
          have k136 : KW [514, 519] Po P131 := KW.step KW.refl rl_289 rfl f134 f135
          have e137 : (fv P131 289 7).toInt = 1 := congrArg Int32.toInt f133
          refine mp_a (a_aload_n dX4_takeKind_50 rfl) (mpp 51 rfl ?_)
          refine mp_t (s_dup dX4_takeKind_51 rfl) (mpp 52 rfl ?_)
          have e138 : (fv P131 289 2).toInt = (fv Po 289 2).toInt := congrArg Int32.toInt (f134 289 2 (ne_k rfl))
          refine mt_getI (i := 23) (k := 2) hT132 dX4_takeKind_52 rfl rl_289 (by decide) rfl (by decide) rfl (fun g139 g140 => mpp 55 rfl ?_)
          refine mp_a (a_iconst (v := 1) dX4_takeKind_55 rfl) (mpp 56 rfl ?_)
          obtain ⟨z141, h142⟩ := ti_ex ((fv P131 289 2) + 1 : Int32)
          have wz141 := ti_full z141
          refine mp_t (s_iadd (v := z141) dX4_takeKind_56 h142) (mpp 57 rfl ?_)
          try have e143 : z141.toInt = (fv P131 289 2).toInt + 1 := ti_addz h142 rfl rfl (by omega) (by omega)
          refine mt_putI (i := 23) (k := 2) (x := z141) hT132 dX4_takeKind_57 rfl rl_289 (by decide) rfl (by decide) rfl (ti_full z141) rfl rfl (fun P144 hT145 f146 f147 f148 => mpp 60 rfl ?_)
          have k149 : KW [514, 519] Po P144 := KW.step k136 rl_289 rfl f147 f148
          have e150 : (fv P144 289 2).toInt = z141.toInt := congrArg Int32.toInt f146
          refine mp_a (a_iconst (v := 1) dX4_takeKind_60 rfl) (mpp 61 rfl ?_)
          have u151 : 0 ≤ (1 : Int) ∧ (1 : Int) ≤ 1 ∧ (((1 : Int) = 1 ∧ ((chC Po (fv Po 289 2).toInt).toInt = 111 ∨ (chC Po (fv Po 289 2).toInt).toInt = 109 ∨ (chC Po (fv Po 289 2).toInt).toInt = 118) ∧ (fv P144 289 2).toInt = (fv Po 289 2).toInt + 1 ∧ (fv P144 289 7).toInt = (kn (chC Po (fv Po 289 2).toInt).toInt).toInt) ∨ ((1 : Int) = 0 ∧ ¬ ((chC Po (fv Po 289 2).toInt).toInt = 111 ∨ (chC Po (fv Po 289 2).toInt).toInt = 109 ∨ (chC Po (fv Po 289 2).toInt).toInt = 118) ∧ (fv P144 289 2).toInt = (fv Po 289 2).toInt ∧ fv P144 289 7 = fv Po 289 7)) := ⟨by omega, by omega, Or.inl ⟨rfl, by omega, by omega, by rw [f147 289 7 (by omega), f133]; exact kn_m (by omega) rfl⟩⟩
          have u153 : fv P144 289 1 = fv Po 289 1 := by rw [f147 289 1 (by omega), f134 289 1 (by omega)]
          have u154 : fv P144 289 3 = fv Po 289 3 := by rw [f147 289 3 (by omega), f134 289 3 (by omega)]
          have u155 : fv P144 289 4 = fv Po 289 4 := by rw [f147 289 4 (by omega), f134 289 4 (by omega)]
          have u156 : fv P144 289 5 = fv Po 289 5 := by rw [f147 289 5 (by omega), f134 289 5 (by omega)]
          have u157 : fv P144 289 6 = fv Po 289 6 := by rw [f147 289 6 (by omega), f134 289 6 (by omega)]
          have u158 : KI 289 290 Po P144 := by
            intro x j hx
            rw [f147 x j (by omega), f134 x j (by omega)]
          exact mp_iret ⟨⟨_, rfl, u151⟩, hT145, k149, ⟨u153, u154, u155, u156, u157, u158⟩⟩ dX4_takeKind_61 (Or.inr ⟨rfl, by decide⟩)
      · have c101 : x6.toInt = 111 := ti_ne_n c101
        refine mp_a (a_iconst (v := 0) dX4_takeKind_32 rfl) (mpp 33 rfl ?_)
        refine mp_a (a_goto (t := 47) dX4_takeKind_33 (by decide)) ?_
        refine mt_putI (i := 72) (k := 7) (x := 0) hT dX4_takeKind_47 rfl rl_289 (by decide) rfl (by decide) rfl (by decide) rfl rfl (fun P159 hT160 f161 f162 f163 => mpp 50 rfl ?_)
        have k164 : KW [514, 519] Po P159 := KW.step KW.refl rl_289 rfl f162 f163
        have e165 : (fv P159 289 7).toInt = 0 := congrArg Int32.toInt f161
        refine mp_a (a_aload_n dX4_takeKind_50 rfl) (mpp 51 rfl ?_)
        refine mp_t (s_dup dX4_takeKind_51 rfl) (mpp 52 rfl ?_)
        have e166 : (fv P159 289 2).toInt = (fv Po 289 2).toInt := congrArg Int32.toInt (f162 289 2 (ne_k rfl))
        refine mt_getI (i := 23) (k := 2) hT160 dX4_takeKind_52 rfl rl_289 (by decide) rfl (by decide) rfl (fun g167 g168 => mpp 55 rfl ?_)
        refine mp_a (a_iconst (v := 1) dX4_takeKind_55 rfl) (mpp 56 rfl ?_)
        obtain ⟨z169, h170⟩ := ti_ex ((fv P159 289 2) + 1 : Int32)
        have wz169 := ti_full z169
        refine mp_t (s_iadd (v := z169) dX4_takeKind_56 h170) (mpp 57 rfl ?_)
        try have e171 : z169.toInt = (fv P159 289 2).toInt + 1 := ti_addz h170 rfl rfl (by omega) (by omega)
        refine mt_putI (i := 23) (k := 2) (x := z169) hT160 dX4_takeKind_57 rfl rl_289 (by decide) rfl (by decide) rfl (ti_full z169) rfl rfl (fun P172 hT173 f174 f175 f176 => mpp 60 rfl ?_)
        have k177 : KW [514, 519] Po P172 := KW.step k164 rl_289 rfl f175 f176
        have e178 : (fv P172 289 2).toInt = z169.toInt := congrArg Int32.toInt f174
        refine mp_a (a_iconst (v := 1) dX4_takeKind_60 rfl) (mpp 61 rfl ?_)
        have u179 : 0 ≤ (1 : Int) ∧ (1 : Int) ≤ 1 ∧ (((1 : Int) = 1 ∧ ((chC Po (fv Po 289 2).toInt).toInt = 111 ∨ (chC Po (fv Po 289 2).toInt).toInt = 109 ∨ (chC Po (fv Po 289 2).toInt).toInt = 118) ∧ (fv P172 289 2).toInt = (fv Po 289 2).toInt + 1 ∧ (fv P172 289 7).toInt = (kn (chC Po (fv Po 289 2).toInt).toInt).toInt) ∨ ((1 : Int) = 0 ∧ ¬ ((chC Po (fv Po 289 2).toInt).toInt = 111 ∨ (chC Po (fv Po 289 2).toInt).toInt = 109 ∨ (chC Po (fv Po 289 2).toInt).toInt = 118) ∧ (fv P172 289 2).toInt = (fv Po 289 2).toInt ∧ fv P172 289 7 = fv Po 289 7)) := ⟨by omega, by omega, Or.inl ⟨rfl, by omega, by omega, by rw [f175 289 7 (by omega), f161]; exact kn_o (by omega) rfl⟩⟩
        have u181 : fv P172 289 1 = fv Po 289 1 := by rw [f175 289 1 (by omega), f162 289 1 (by omega)]
        have u182 : fv P172 289 3 = fv Po 289 3 := by rw [f175 289 3 (by omega), f162 289 3 (by omega)]
        have u183 : fv P172 289 4 = fv Po 289 4 := by rw [f175 289 4 (by omega), f162 289 4 (by omega)]
        have u184 : fv P172 289 5 = fv Po 289 5 := by rw [f175 289 5 (by omega), f162 289 5 (by omega)]
        have u185 : fv P172 289 6 = fv Po 289 6 := by rw [f175 289 6 (by omega), f162 289 6 (by omega)]
        have u186 : KI 289 290 Po P172 := by
          intro x j hx
          rw [f175 x j (by omega), f162 x j (by omega)]
        exact mp_iret ⟨⟨_, rfl, u179⟩, hT173, k177, ⟨u181, u182, u183, u184, u185, u186⟩⟩ dX4_takeKind_61 (Or.inr ⟨rfl, by decide⟩)
    · have c98 : x6.toInt ≠ 109 := ti_eq_n c98
      refine mp_a (a_iload_n dX4_takeKind_17 rfl) (mpp 18 rfl ?_)
      refine mp_a (a_bipush (v := 118) dX4_takeKind_18 rfl) (mpp 20 rfl ?_)
      refine mp_Tb (t := 25) (j_icmp_eq dX4_takeKind_20) (by decide) (fun c187 => ?_) (fun c187 => mpp 23 rfl ?_)
      · have c187 : x6.toInt = 118 := ti_eq c187
        have q188 : (0 : Int) ≤ (fv Po 289 1).toInt ∧ (fv Po 289 1).toInt ≤ 80 := Typ.rng hT rl_289 (by decide) (by decide) rfl
        have q189 := ch_lt (t := fun j => fv Po 290 j) (L := (fv Po 289 1).toInt) (i := (fv Po 289 2).toInt) (show ¬ (chC Po (fv Po 289 2).toInt).toInt = -1 from by omega)
        refine mp_a (a_aload_n dX4_takeKind_25 rfl) (mpp 26 rfl ?_)
        refine mp_a (a_iload_n dX4_takeKind_26 rfl) (mpp 27 rfl ?_)
        refine mp_a (a_bipush (v := 111) dX4_takeKind_27 rfl) (mpp 29 rfl ?_)
        refine mp_Tb (t := 36) (j_icmp_ne dX4_takeKind_29) (by decide) (fun c190 => ?_) (fun c190 => mpp 32 rfl ?_)
        · have c190 : x6.toInt ≠ 111 := ti_ne c190
          refine mp_a (a_iload_n dX4_takeKind_36 rfl) (mpp 37 rfl ?_)
          refine mp_a (a_bipush (v := 109) dX4_takeKind_37 rfl) (mpp 39 rfl ?_)
          refine mp_Tb (t := 46) (j_icmp_ne dX4_takeKind_39) (by decide) (fun c191 => ?_) (fun c191 => mpp 42 rfl ?_)
          · have c191 : x6.toInt ≠ 109 := ti_ne c191
            refine mp_a (a_iconst (v := 2) dX4_takeKind_46 rfl) (mpp 47 rfl ?_)
            refine mt_putI (i := 72) (k := 7) (x := 2) hT dX4_takeKind_47 rfl rl_289 (by decide) rfl (by decide) rfl (by decide) rfl rfl (fun P192 hT193 f194 f195 f196 => mpp 50 rfl ?_)
            have k197 : KW [514, 519] Po P192 := KW.step KW.refl rl_289 rfl f195 f196
            have e198 : (fv P192 289 7).toInt = 2 := congrArg Int32.toInt f194
            refine mp_a (a_aload_n dX4_takeKind_50 rfl) (mpp 51 rfl ?_)
            refine mp_t (s_dup dX4_takeKind_51 rfl) (mpp 52 rfl ?_)
            have e199 : (fv P192 289 2).toInt = (fv Po 289 2).toInt := congrArg Int32.toInt (f195 289 2 (ne_k rfl))
            refine mt_getI (i := 23) (k := 2) hT193 dX4_takeKind_52 rfl rl_289 (by decide) rfl (by decide) rfl (fun g200 g201 => mpp 55 rfl ?_)
            refine mp_a (a_iconst (v := 1) dX4_takeKind_55 rfl) (mpp 56 rfl ?_)
            obtain ⟨z202, h203⟩ := ti_ex ((fv P192 289 2) + 1 : Int32)
            have wz202 := ti_full z202
            refine mp_t (s_iadd (v := z202) dX4_takeKind_56 h203) (mpp 57 rfl ?_)
            try have e204 : z202.toInt = (fv P192 289 2).toInt + 1 := ti_addz h203 rfl rfl (by omega) (by omega)
            refine mt_putI (i := 23) (k := 2) (x := z202) hT193 dX4_takeKind_57 rfl rl_289 (by decide) rfl (by decide) rfl (ti_full z202) rfl rfl (fun P205 hT206 f207 f208 f209 => mpp 60 rfl ?_)
            have k210 : KW [514, 519] Po P205 := KW.step k197 rl_289 rfl f208 f209
            have e211 : (fv P205 289 2).toInt = z202.toInt := congrArg Int32.toInt f207
            refine mp_a (a_iconst (v := 1) dX4_takeKind_60 rfl) (mpp 61 rfl ?_)
            have u212 : 0 ≤ (1 : Int) ∧ (1 : Int) ≤ 1 ∧ (((1 : Int) = 1 ∧ ((chC Po (fv Po 289 2).toInt).toInt = 111 ∨ (chC Po (fv Po 289 2).toInt).toInt = 109 ∨ (chC Po (fv Po 289 2).toInt).toInt = 118) ∧ (fv P205 289 2).toInt = (fv Po 289 2).toInt + 1 ∧ (fv P205 289 7).toInt = (kn (chC Po (fv Po 289 2).toInt).toInt).toInt) ∨ ((1 : Int) = 0 ∧ ¬ ((chC Po (fv Po 289 2).toInt).toInt = 111 ∨ (chC Po (fv Po 289 2).toInt).toInt = 109 ∨ (chC Po (fv Po 289 2).toInt).toInt = 118) ∧ (fv P205 289 2).toInt = (fv Po 289 2).toInt ∧ fv P205 289 7 = fv Po 289 7)) := ⟨by omega, by omega, Or.inl ⟨rfl, by omega, by omega, by rw [f208 289 7 (by omega), f194]; exact kn_v (by omega) rfl⟩⟩
            have u214 : fv P205 289 1 = fv Po 289 1 := by rw [f208 289 1 (by omega), f195 289 1 (by omega)]
            have u215 : fv P205 289 3 = fv Po 289 3 := by rw [f208 289 3 (by omega), f195 289 3 (by omega)]
            have u216 : fv P205 289 4 = fv Po 289 4 := by rw [f208 289 4 (by omega), f195 289 4 (by omega)]
            have u217 : fv P205 289 5 = fv Po 289 5 := by rw [f208 289 5 (by omega), f195 289 5 (by omega)]
            have u218 : fv P205 289 6 = fv Po 289 6 := by rw [f208 289 6 (by omega), f195 289 6 (by omega)]
            have u219 : KI 289 290 Po P205 := by
              intro x j hx
              rw [f208 x j (by omega), f195 x j (by omega)]
            exact mp_iret ⟨⟨_, rfl, u212⟩, hT206, k210, ⟨u214, u215, u216, u217, u218, u219⟩⟩ dX4_takeKind_61 (Or.inr ⟨rfl, by decide⟩)
          · have c191 : x6.toInt = 109 := ti_ne_n c191
            refine mp_a (a_iconst (v := 1) dX4_takeKind_42 rfl) (mpp 43 rfl ?_)
            refine mp_a (a_goto (t := 47) dX4_takeKind_43 (by decide)) ?_
            refine mt_putI (i := 72) (k := 7) (x := 1) hT dX4_takeKind_47 rfl rl_289 (by decide) rfl (by decide) rfl (by decide) rfl rfl (fun P220 hT221 f222 f223 f224 => mpp 50 rfl ?_)
            have k225 : KW [514, 519] Po P220 := KW.step KW.refl rl_289 rfl f223 f224
            have e226 : (fv P220 289 7).toInt = 1 := congrArg Int32.toInt f222
            refine mp_a (a_aload_n dX4_takeKind_50 rfl) (mpp 51 rfl ?_)
            refine mp_t (s_dup dX4_takeKind_51 rfl) (mpp 52 rfl ?_)
            have e227 : (fv P220 289 2).toInt = (fv Po 289 2).toInt := congrArg Int32.toInt (f223 289 2 (ne_k rfl))
            refine mt_getI (i := 23) (k := 2) hT221 dX4_takeKind_52 rfl rl_289 (by decide) rfl (by decide) rfl (fun g228 g229 => mpp 55 rfl ?_)
            refine mp_a (a_iconst (v := 1) dX4_takeKind_55 rfl) (mpp 56 rfl ?_)
            obtain ⟨z230, h231⟩ := ti_ex ((fv P220 289 2) + 1 : Int32)
            have wz230 := ti_full z230
            refine mp_t (s_iadd (v := z230) dX4_takeKind_56 h231) (mpp 57 rfl ?_)
            try have e232 : z230.toInt = (fv P220 289 2).toInt + 1 := ti_addz h231 rfl rfl (by omega) (by omega)
            refine mt_putI (i := 23) (k := 2) (x := z230) hT221 dX4_takeKind_57 rfl rl_289 (by decide) rfl (by decide) rfl (ti_full z230) rfl rfl (fun P233 hT234 f235 f236 f237 => mpp 60 rfl ?_)
            have k238 : KW [514, 519] Po P233 := KW.step k225 rl_289 rfl f236 f237
            have e239 : (fv P233 289 2).toInt = z230.toInt := congrArg Int32.toInt f235
            refine mp_a (a_iconst (v := 1) dX4_takeKind_60 rfl) (mpp 61 rfl ?_)
            have u240 : 0 ≤ (1 : Int) ∧ (1 : Int) ≤ 1 ∧ (((1 : Int) = 1 ∧ ((chC Po (fv Po 289 2).toInt).toInt = 111 ∨ (chC Po (fv Po 289 2).toInt).toInt = 109 ∨ (chC Po (fv Po 289 2).toInt).toInt = 118) ∧ (fv P233 289 2).toInt = (fv Po 289 2).toInt + 1 ∧ (fv P233 289 7).toInt = (kn (chC Po (fv Po 289 2).toInt).toInt).toInt) ∨ ((1 : Int) = 0 ∧ ¬ ((chC Po (fv Po 289 2).toInt).toInt = 111 ∨ (chC Po (fv Po 289 2).toInt).toInt = 109 ∨ (chC Po (fv Po 289 2).toInt).toInt = 118) ∧ (fv P233 289 2).toInt = (fv Po 289 2).toInt ∧ fv P233 289 7 = fv Po 289 7)) := ⟨by omega, by omega, Or.inl ⟨rfl, by omega, by omega, by rw [f236 289 7 (by omega), f222]; exact kn_m (by omega) rfl⟩⟩
            have u242 : fv P233 289 1 = fv Po 289 1 := by rw [f236 289 1 (by omega), f223 289 1 (by omega)]
            have u243 : fv P233 289 3 = fv Po 289 3 := by rw [f236 289 3 (by omega), f223 289 3 (by omega)]
            have u244 : fv P233 289 4 = fv Po 289 4 := by rw [f236 289 4 (by omega), f223 289 4 (by omega)]
            have u245 : fv P233 289 5 = fv Po 289 5 := by rw [f236 289 5 (by omega), f223 289 5 (by omega)]
            have u246 : fv P233 289 6 = fv Po 289 6 := by rw [f236 289 6 (by omega), f223 289 6 (by omega)]
            have u247 : KI 289 290 Po P233 := by
              intro x j hx
              rw [f236 x j (by omega), f223 x j (by omega)]
            exact mp_iret ⟨⟨_, rfl, u240⟩, hT234, k238, ⟨u242, u243, u244, u245, u246, u247⟩⟩ dX4_takeKind_61 (Or.inr ⟨rfl, by decide⟩)
        · have c190 : x6.toInt = 111 := ti_ne_n c190
          refine mp_a (a_iconst (v := 0) dX4_takeKind_32 rfl) (mpp 33 rfl ?_)
          refine mp_a (a_goto (t := 47) dX4_takeKind_33 (by decide)) ?_
          refine mt_putI (i := 72) (k := 7) (x := 0) hT dX4_takeKind_47 rfl rl_289 (by decide) rfl (by decide) rfl (by decide) rfl rfl (fun P248 hT249 f250 f251 f252 => mpp 50 rfl ?_)
          have k253 : KW [514, 519] Po P248 := KW.step KW.refl rl_289 rfl f251 f252
          have e254 : (fv P248 289 7).toInt = 0 := congrArg Int32.toInt f250
          refine mp_a (a_aload_n dX4_takeKind_50 rfl) (mpp 51 rfl ?_)
          refine mp_t (s_dup dX4_takeKind_51 rfl) (mpp 52 rfl ?_)
          have e255 : (fv P248 289 2).toInt = (fv Po 289 2).toInt := congrArg Int32.toInt (f251 289 2 (ne_k rfl))
          refine mt_getI (i := 23) (k := 2) hT249 dX4_takeKind_52 rfl rl_289 (by decide) rfl (by decide) rfl (fun g256 g257 => mpp 55 rfl ?_)
          refine mp_a (a_iconst (v := 1) dX4_takeKind_55 rfl) (mpp 56 rfl ?_)
          obtain ⟨z258, h259⟩ := ti_ex ((fv P248 289 2) + 1 : Int32)
          have wz258 := ti_full z258
          refine mp_t (s_iadd (v := z258) dX4_takeKind_56 h259) (mpp 57 rfl ?_)
          try have e260 : z258.toInt = (fv P248 289 2).toInt + 1 := ti_addz h259 rfl rfl (by omega) (by omega)
          refine mt_putI (i := 23) (k := 2) (x := z258) hT249 dX4_takeKind_57 rfl rl_289 (by decide) rfl (by decide) rfl (ti_full z258) rfl rfl (fun P261 hT262 f263 f264 f265 => mpp 60 rfl ?_)
          have k266 : KW [514, 519] Po P261 := KW.step k253 rl_289 rfl f264 f265
          have e267 : (fv P261 289 2).toInt = z258.toInt := congrArg Int32.toInt f263
          refine mp_a (a_iconst (v := 1) dX4_takeKind_60 rfl) (mpp 61 rfl ?_)
          have u268 : 0 ≤ (1 : Int) ∧ (1 : Int) ≤ 1 ∧ (((1 : Int) = 1 ∧ ((chC Po (fv Po 289 2).toInt).toInt = 111 ∨ (chC Po (fv Po 289 2).toInt).toInt = 109 ∨ (chC Po (fv Po 289 2).toInt).toInt = 118) ∧ (fv P261 289 2).toInt = (fv Po 289 2).toInt + 1 ∧ (fv P261 289 7).toInt = (kn (chC Po (fv Po 289 2).toInt).toInt).toInt) ∨ ((1 : Int) = 0 ∧ ¬ ((chC Po (fv Po 289 2).toInt).toInt = 111 ∨ (chC Po (fv Po 289 2).toInt).toInt = 109 ∨ (chC Po (fv Po 289 2).toInt).toInt = 118) ∧ (fv P261 289 2).toInt = (fv Po 289 2).toInt ∧ fv P261 289 7 = fv Po 289 7)) := ⟨by omega, by omega, Or.inl ⟨rfl, by omega, by omega, by rw [f264 289 7 (by omega), f250]; exact kn_o (by omega) rfl⟩⟩
          have u270 : fv P261 289 1 = fv Po 289 1 := by rw [f264 289 1 (by omega), f251 289 1 (by omega)]
          have u271 : fv P261 289 3 = fv Po 289 3 := by rw [f264 289 3 (by omega), f251 289 3 (by omega)]
          have u272 : fv P261 289 4 = fv Po 289 4 := by rw [f264 289 4 (by omega), f251 289 4 (by omega)]
          have u273 : fv P261 289 5 = fv Po 289 5 := by rw [f264 289 5 (by omega), f251 289 5 (by omega)]
          have u274 : fv P261 289 6 = fv Po 289 6 := by rw [f264 289 6 (by omega), f251 289 6 (by omega)]
          have u275 : KI 289 290 Po P261 := by
            intro x j hx
            rw [f264 x j (by omega), f251 x j (by omega)]
          exact mp_iret ⟨⟨_, rfl, u268⟩, hT262, k266, ⟨u270, u271, u272, u273, u274, u275⟩⟩ dX4_takeKind_61 (Or.inr ⟨rfl, by decide⟩)
      · have c187 : x6.toInt ≠ 118 := ti_eq_n c187
        refine mp_a (a_iconst (v := 0) dX4_takeKind_23 rfl) (mpp 24 rfl ?_)
        have u276 : 0 ≤ (0 : Int) ∧ (0 : Int) ≤ 1 ∧ (((0 : Int) = 1 ∧ ((chC Po (fv Po 289 2).toInt).toInt = 111 ∨ (chC Po (fv Po 289 2).toInt).toInt = 109 ∨ (chC Po (fv Po 289 2).toInt).toInt = 118) ∧ (fv Po 289 2).toInt = (fv Po 289 2).toInt + 1 ∧ (fv Po 289 7).toInt = (kn (chC Po (fv Po 289 2).toInt).toInt).toInt) ∨ ((0 : Int) = 0 ∧ ¬ ((chC Po (fv Po 289 2).toInt).toInt = 111 ∨ (chC Po (fv Po 289 2).toInt).toInt = 109 ∨ (chC Po (fv Po 289 2).toInt).toInt = 118) ∧ (fv Po 289 2).toInt = (fv Po 289 2).toInt ∧ fv Po 289 7 = fv Po 289 7)) := ⟨by omega, by omega, Or.inr ⟨rfl, by omega, by omega, rfl⟩⟩
        have u278 : fv Po 289 1 = fv Po 289 1 := by rw []
        have u279 : fv Po 289 3 = fv Po 289 3 := by rw []
        have u280 : fv Po 289 4 = fv Po 289 4 := by rw []
        have u281 : fv Po 289 5 = fv Po 289 5 := by rw []
        have u282 : fv Po 289 6 = fv Po 289 6 := by rw []
        have u283 : KI 289 290 Po Po := fun _ _ _ => rfl
        exact mp_iret ⟨⟨_, rfl, u276⟩, hT, KW.refl, ⟨u278, u279, u280, u281, u282, u283⟩⟩ dX4_takeKind_24 (Or.inr ⟨rfl, by decide⟩)

