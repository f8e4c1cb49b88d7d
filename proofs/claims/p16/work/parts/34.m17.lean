/-! methods on typed pools, 17 (written by a program) -/
set_option maxHeartbeats 4000000 in
theorem c_CS_takeCreases_Script_l12 {Po : mP}  (hTo : Typ Po) (hX : XR Po) (hp0 : 0 ≤ (fv Po 289 2).toInt)  : ∀ (n : Nat) (v1 : Int32), ∀ (P : mP), Typ P → KW [514, 517, 518, 519] Po P → (∀ j : Nat, j < v1.toInt.toNat → KK (chC Po ((fv Po 289 2).toInt + (j : Int))).toInt) → ((fv P 289 2).toInt = (fv Po 289 2).toInt + v1.toInt) → (fv P 289 5 = knV (chC Po) (fv Po 289 2).toInt v1.toInt.toNat) → (KI 289 290 Po P ∧ fv P 289 1 = fv Po 289 1 ∧ fv P 289 3 = fv Po 289 3 ∧ fv P 289 4 = fv Po 289 4) → (v1.toInt ≤ 8 ∧ (fv P 289 6).toInt = v1.toInt) → (0 ≤ (fv Po 289 2).toInt) → (0 ≤ v1.toInt) → (2147483647 - v1.toInt).toNat = n → MEvP 3 none q_101 12 [(0, .ref 289), (1, .int v1)] [] P 0 0 (fun r P' => (∃ x : Int32, r = some (.int x) ∧ (0 ≤ x.toInt ∧ x.toInt ≤ 1 ∧ (∃ k : Nat, RUN KK (chC Po) (fv Po 289 2).toInt k ∧ (fv P' 289 2).toInt = (fv Po 289 2).toInt + (k : Int) ∧ fv P' 289 5 = knV (chC Po) (fv Po 289 2).toInt k ∧ (fv P' 289 6).toInt = (k : Int) ∧ ((x.toInt = 1 ∧ 1 ≤ k) ∨ (x.toInt = 0 ∧ k = 0))))) ∧ Typ P' ∧ KW [514, 517, 518, 519] Po P' ∧ fv P' 289 1 = fv Po 289 1 ∧ fv P' 289 3 = fv Po 289 3 ∧ fv P' 289 4 = fv Po 289 4 ∧ KI 289 290 Po P') := by
  intro n
  induction n using Nat.strongRecOn with | _ n ih => ?_
  intro v1 P hT hK i_0 i_1 i_2 i_3 i_4 i_5 i_6 hm
  have w_v1 := ti_full v1
  have g1 := ti_full (fv P 289 2)
  have g2 := ti_full (fv P 289 2)
  have g3 := ti_full (fv P 289 6)
  have g4 := ti_full (fv P 289 6)
  refine mp_a (a_iload_n dX4_takeCreases_12 rfl) (mpp 13 rfl ?_)
  refine mp_a (a_bipush (v := 8) dX4_takeCreases_13 rfl) (mpp 15 rfl ?_)
  refine mp_Tb (t := 57) (j_icmp_ge dX4_takeCreases_15) (by decide) (fun c5 => ?_) (fun c5 => mpp 18 rfl ?_)
  · have c5 : v1.toInt ≥ 8 := ti_ge c5
    refine mp_a (a_aload_n dX4_takeCreases_57 rfl) (mpp 58 rfl ?_)
    refine mt_getI (i := 69) (k := 6) hT dX4_takeCreases_58 rfl rl_289 (by decide) rfl (by decide) rfl (fun g6 g7 => mpp 61 rfl ?_)
    refine mp_Tb (t := 68) (j_if_le dX4_takeCreases_61) (by decide) (fun c8 => ?_) (fun c8 => mpp 64 rfl ?_)
    · have c8 : (fv P 289 6).toInt ≤ 0 := ti_le c8
      refine mp_a (a_iconst (v := 0) dX4_takeCreases_68 rfl) (mpp 69 rfl ?_)
      have t11_ : chC P = chC Po := chC_eq (fun j => i_3.1 290 j (by omega)) i_3.2.1
      have t11_p : (fv P 289 2).toInt = (fv Po 289 2).toInt + ((v1.toInt.toNat : Nat) : Int) := by omega
      have w10_ : RUN KK (chC Po) (fv Po 289 2).toInt v1.toInt.toNat := ⟨by omega, i_0, fun h8 => show ¬ ((chC Po ((fv Po 289 2).toInt + ((v1.toInt.toNat : Nat) : Int))).toInt = 111 ∨ (chC Po ((fv Po 289 2).toInt + ((v1.toInt.toNat : Nat) : Int))).toInt = 109 ∨ (chC Po ((fv Po 289 2).toInt + ((v1.toInt.toNat : Nat) : Int))).toInt = 118) from by omega⟩
      have u9 : 0 ≤ (0 : Int) ∧ (0 : Int) ≤ 1 ∧ (∃ k : Nat, RUN KK (chC Po) (fv Po 289 2).toInt k ∧ (fv P 289 2).toInt = (fv Po 289 2).toInt + (k : Int) ∧ fv P 289 5 = knV (chC Po) (fv Po 289 2).toInt k ∧ (fv P 289 6).toInt = (k : Int) ∧ (((0 : Int) = 1 ∧ 1 ≤ k) ∨ ((0 : Int) = 0 ∧ k = 0))) := ⟨by omega, by omega, _, w10_, by omega, i_2, by omega, Or.inr ⟨rfl, by omega⟩⟩
      have u12 : fv P 289 1 = fv Po 289 1 ∧ fv P 289 3 = fv Po 289 3 ∧ fv P 289 4 = fv Po 289 4 ∧ KI 289 290 Po P := ⟨i_3.2.1, i_3.2.2.1, i_3.2.2.2, i_3.1⟩
      exact mp_iret ⟨⟨_, rfl, u9⟩, hT, hK, u12⟩ dX4_takeCreases_69 (Or.inr ⟨rfl, by decide⟩)
    · have c8 : (fv P 289 6).toInt > 0 := ti_le_n c8
      refine mp_a (a_iconst (v := 1) dX4_takeCreases_64 rfl) (mpp 65 rfl ?_)
      refine mp_a (a_goto (t := 69) dX4_takeCreases_65 (by decide)) ?_
      have t15_ : chC P = chC Po := chC_eq (fun j => i_3.1 290 j (by omega)) i_3.2.1
      have t15_p : (fv P 289 2).toInt = (fv Po 289 2).toInt + ((v1.toInt.toNat : Nat) : Int) := by omega
      have w14_ : RUN KK (chC Po) (fv Po 289 2).toInt v1.toInt.toNat := ⟨by omega, i_0, fun h8 => show ¬ ((chC Po ((fv Po 289 2).toInt + ((v1.toInt.toNat : Nat) : Int))).toInt = 111 ∨ (chC Po ((fv Po 289 2).toInt + ((v1.toInt.toNat : Nat) : Int))).toInt = 109 ∨ (chC Po ((fv Po 289 2).toInt + ((v1.toInt.toNat : Nat) : Int))).toInt = 118) from by omega⟩
      have u13 : 0 ≤ (1 : Int) ∧ (1 : Int) ≤ 1 ∧ (∃ k : Nat, RUN KK (chC Po) (fv Po 289 2).toInt k ∧ (fv P 289 2).toInt = (fv Po 289 2).toInt + (k : Int) ∧ fv P 289 5 = knV (chC Po) (fv Po 289 2).toInt k ∧ (fv P 289 6).toInt = (k : Int) ∧ (((1 : Int) = 1 ∧ 1 ≤ k) ∨ ((1 : Int) = 0 ∧ k = 0))) := ⟨by omega, by omega, _, w14_, by omega, i_2, by omega, Or.inl ⟨rfl, by omega⟩⟩
      have u16 : fv P 289 1 = fv Po 289 1 ∧ fv P 289 3 = fv Po 289 3 ∧ fv P 289 4 = fv Po 289 4 ∧ KI 289 290 Po P := ⟨i_3.2.1, i_3.2.2.1, i_3.2.2.2, i_3.1⟩
      exact mp_iret ⟨⟨_, rfl, u13⟩, hT, hK, u16⟩ dX4_takeCreases_69 (Or.inr ⟨rfl, by decide⟩)
  · have c5 : v1.toInt < 8 := ti_ge_n c5
    refine mp_a (a_aload_n dX4_takeCreases_18 rfl) (mpp 19 rfl ?_)
    have p17 : 0 ≤ (fv P 289 2).toInt := by omega
    refine mt_callv (i := 56) (q' := q_102) (As := []) (rest := []) hT dX4_takeCreases_19 rfl qm_102 (by decide) rfl rl_289 (by decide) rfl (Nat.le_of_ble_eq_true rfl) rfl ⟨rfl, rfl⟩ ⟨Nat.le_of_ble_eq_true rfl, Nat.le_of_ble_eq_true rfl⟩ (EvP.mono (by decide) (c_CS_takeKind_Script hT (KW.xr hK hX) p17 )) (fun r18 P19 g20 => mpp 22 rfl ?_)
    obtain ⟨⟨x21, rfl, g22⟩, hT23, k24, R25⟩ := g20
    have k26 : KW [514, 517, 518, 519] Po P19 := KW.trans hK k24 rfl
    have wx21 := ti_full x21
    replace g22 : 0 ≤ x21.toInt ∧ x21.toInt ≤ 1 ∧ ((x21.toInt = 1 ∧ ((chC P (fv P 289 2).toInt).toInt = 111 ∨ (chC P (fv P 289 2).toInt).toInt = 109 ∨ (chC P (fv P 289 2).toInt).toInt = 118) ∧ (fv P19 289 2).toInt = (fv P 289 2).toInt + 1 ∧ (fv P19 289 7).toInt = (kn (chC P (fv P 289 2).toInt).toInt).toInt) ∨ (x21.toInt = 0 ∧ ¬ ((chC P (fv P 289 2).toInt).toInt = 111 ∨ (chC P (fv P 289 2).toInt).toInt = 109 ∨ (chC P (fv P 289 2).toInt).toInt = 118) ∧ (fv P19 289 2).toInt = (fv P 289 2).toInt ∧ fv P19 289 7 = fv P 289 7)) := g22
    have g28 := ti_full (fv P19 289 2)
    have g29 := ti_full (fv P19 289 2)
    show MEvP _ none q_101 22 [(0, .ref 289), (1, .int v1)] [.int x21] _ _ _ _
    refine mp_Tb (t := 57) (j_if_eq dX4_takeCreases_22) (by decide) (fun c30 => ?_) (fun c30 => mpp 25 rfl ?_)
    · have c30 : x21.toInt = 0 := ti_eq c30
      refine mp_a (a_aload_n dX4_takeCreases_57 rfl) (mpp 58 rfl ?_)
      have e31 : (fv P19 289 6).toInt = (fv P 289 6).toInt := congrArg Int32.toInt (KW.at k24 6 rl_289 rfl)
      refine mt_getI (i := 69) (k := 6) hT23 dX4_takeCreases_58 rfl rl_289 (by decide) rfl (by decide) rfl (fun g32 g33 => mpp 61 rfl ?_)
      refine mp_Tb (t := 68) (j_if_le dX4_takeCreases_61) (by decide) (fun c34 => ?_) (fun c34 => mpp 64 rfl ?_)
      · have c34 : (fv P19 289 6).toInt ≤ 0 := ti_le c34
        refine mp_a (a_iconst (v := 0) dX4_takeCreases_68 rfl) (mpp 69 rfl ?_)
        have t37_ : chC P = chC Po := chC_eq (fun j => i_3.1 290 j (by omega)) i_3.2.1
        have t37_p : (fv P 289 2).toInt = (fv Po 289 2).toInt + ((v1.toInt.toNat : Nat) : Int) := by omega
        have t37_x21 := g22
        rw [t37_, t37_p] at t37_x21
        have w36_ : RUN KK (chC Po) (fv Po 289 2).toInt v1.toInt.toNat := ⟨by omega, i_0, fun h8 => show ¬ ((chC Po ((fv Po 289 2).toInt + ((v1.toInt.toNat : Nat) : Int))).toInt = 111 ∨ (chC Po ((fv Po 289 2).toInt + ((v1.toInt.toNat : Nat) : Int))).toInt = 109 ∨ (chC Po ((fv Po 289 2).toInt + ((v1.toInt.toNat : Nat) : Int))).toInt = 118) from by omega⟩
        have w36_5 : fv P19 289 5 = fv P 289 5 := R25.2.2.2.1
        have w36_6 : (fv P19 289 6).toInt = (fv P 289 6).toInt := congrArg Int32.toInt (R25.2.2.2.2.1)
        have u35 : 0 ≤ (0 : Int) ∧ (0 : Int) ≤ 1 ∧ (∃ k : Nat, RUN KK (chC Po) (fv Po 289 2).toInt k ∧ (fv P19 289 2).toInt = (fv Po 289 2).toInt + (k : Int) ∧ fv P19 289 5 = knV (chC Po) (fv Po 289 2).toInt k ∧ (fv P19 289 6).toInt = (k : Int) ∧ (((0 : Int) = 1 ∧ 1 ≤ k) ∨ ((0 : Int) = 0 ∧ k = 0))) := ⟨by omega, by omega, _, w36_, by omega, (w36_5.trans i_2), by omega, Or.inr ⟨rfl, by omega⟩⟩
        have u38 : fv P19 289 1 = fv Po 289 1 ∧ fv P19 289 3 = fv Po 289 3 ∧ fv P19 289 4 = fv Po 289 4 ∧ KI 289 290 Po P19 := ⟨(R25.1).trans i_3.2.1, (R25.2.1).trans i_3.2.2.1, (R25.2.2.1).trans i_3.2.2.2, fun x j hx => (R25.2.2.2.2.2 x j hx).trans (i_3.1 x j hx)⟩
        exact mp_iret ⟨⟨_, rfl, u35⟩, hT23, k26, u38⟩ dX4_takeCreases_69 (Or.inr ⟨rfl, by decide⟩)
      · have c34 : (fv P19 289 6).toInt > 0 := ti_le_n c34
        refine mp_a (a_iconst (v := 1) dX4_takeCreases_64 rfl) (mpp 65 rfl ?_)
        refine mp_a (a_goto (t := 69) dX4_takeCreases_65 (by decide)) ?_
        have t41_ : chC P = chC Po := chC_eq (fun j => i_3.1 290 j (by omega)) i_3.2.1
        have t41_p : (fv P 289 2).toInt = (fv Po 289 2).toInt + ((v1.toInt.toNat : Nat) : Int) := by omega
        have t41_x21 := g22
        rw [t41_, t41_p] at t41_x21
        have w40_ : RUN KK (chC Po) (fv Po 289 2).toInt v1.toInt.toNat := ⟨by omega, i_0, fun h8 => show ¬ ((chC Po ((fv Po 289 2).toInt + ((v1.toInt.toNat : Nat) : Int))).toInt = 111 ∨ (chC Po ((fv Po 289 2).toInt + ((v1.toInt.toNat : Nat) : Int))).toInt = 109 ∨ (chC Po ((fv Po 289 2).toInt + ((v1.toInt.toNat : Nat) : Int))).toInt = 118) from by omega⟩
        have w40_5 : fv P19 289 5 = fv P 289 5 := R25.2.2.2.1
        have w40_6 : (fv P19 289 6).toInt = (fv P 289 6).toInt := congrArg Int32.toInt (R25.2.2.2.2.1)
        have u39 : 0 ≤ (1 : Int) ∧ (1 : Int) ≤ 1 ∧ (∃ k : Nat, RUN KK (chC Po) (fv Po 289 2).toInt k ∧ (fv P19 289 2).toInt = (fv Po 289 2).toInt + (k : Int) ∧ fv P19 289 5 = knV (chC Po) (fv Po 289 2).toInt k ∧ (fv P19 289 6).toInt = (k : Int) ∧ (((1 : Int) = 1 ∧ 1 ≤ k) ∨ ((1 : Int) = 0 ∧ k = 0))) := ⟨by omega, by omega, _, w40_, by omega, (w40_5.trans i_2), by omega, Or.inl ⟨rfl, by omega⟩⟩
        have u42 : fv P19 289 1 = fv Po 289 1 ∧ fv P19 289 3 = fv Po 289 3 ∧ fv P19 289 4 = fv Po 289 4 ∧ KI 289 290 Po P19 := ⟨(R25.1).trans i_3.2.1, (R25.2.1).trans i_3.2.2.1, (R25.2.2.1).trans i_3.2.2.2, fun x j hx => (R25.2.2.2.2.2 x j hx).trans (i_3.1 x j hx)⟩
        exact mp_iret ⟨⟨_, rfl, u39⟩, hT23, k26, u42⟩ dX4_takeCreases_69 (Or.inr ⟨rfl, by decide⟩)
    · have c30 : x21.toInt ≠ 0 := ti_eq_n c30
      refine mp_a (a_aload_n dX4_takeCreases_25 rfl) (mpp 26 rfl ?_)
      refine mp_a (a_aload_n dX4_takeCreases_26 rfl) (mpp 27 rfl ?_)
      have g43 := ti_full (fv P19 289 5)
      refine mt_getI (i := 66) (k := 5) hT23 dX4_takeCreases_27 rfl rl_289 (by decide) rfl (by decide) rfl (fun g44 g45 => mpp 30 rfl ?_)
      refine mp_a (a_bipush (v := 10) dX4_takeCreases_30 rfl) (mpp 32 rfl ?_)
      obtain ⟨z46, h47⟩ := ti_ex ((fv P19 289 5) * 10 : Int32)
      have wz46 := ti_full z46
      refine mp_t (s_imul (v := z46) dX4_takeCreases_32 h47) (mpp 33 rfl ?_)
      try have e48 : z46.toInt = (fv P19 289 5).toInt * 10 := ti_mulz h47 rfl rfl (by omega) (by omega)
      refine mp_a (a_aload_n dX4_takeCreases_33 rfl) (mpp 34 rfl ?_)
      have g49 := ti_full (fv P19 289 7)
      refine mt_getI (i := 72) (k := 7) hT23 dX4_takeCreases_34 rfl rl_289 (by decide) rfl (by decide) rfl (fun g50 g51 => mpp 37 rfl ?_)
      obtain ⟨z52, h53⟩ := ti_ex (z46 + (fv P19 289 7) : Int32)
      have wz52 := ti_full z52
      refine mp_t (s_iadd (v := z52) dX4_takeCreases_37 h53) (mpp 38 rfl ?_)
      try have e54 : z52.toInt = z46.toInt + (fv P19 289 7).toInt := ti_addz h53 rfl rfl (by omega) (by omega)
      refine mt_putI (i := 66) (k := 5) (x := z52) hT23 dX4_takeCreases_38 rfl rl_289 (by decide) rfl (by decide) rfl (ti_full z52) rfl rfl (fun P55 hT56 f57 f58 f59 => mpp 41 rfl ?_)
      have k60 : KW [514, 517, 518, 519] Po P55 := KW.step k26 rl_289 rfl f58 f59
      have e61 : (fv P55 289 5).toInt = z52.toInt := congrArg Int32.toInt f57
      refine mp_a (a_aload_n dX4_takeCreases_41 rfl) (mpp 42 rfl ?_)
      refine mp_t (s_dup dX4_takeCreases_42 rfl) (mpp 43 rfl ?_)
      have e62 : (fv P55 289 6).toInt = (fv P 289 6).toInt := congrArg Int32.toInt ((f58 289 6 (ne_k rfl)).trans (KW.at k24 6 rl_289 rfl))
      refine mt_getI (i := 69) (k := 6) hT56 dX4_takeCreases_43 rfl rl_289 (by decide) rfl (by decide) rfl (fun g63 g64 => mpp 46 rfl ?_)
      refine mp_a (a_iconst (v := 1) dX4_takeCreases_46 rfl) (mpp 47 rfl ?_)
      obtain ⟨z65, h66⟩ := ti_ex ((fv P55 289 6) + 1 : Int32)
      have wz65 := ti_full z65
      refine mp_t (s_iadd (v := z65) dX4_takeCreases_47 h66) (mpp 48 rfl ?_)
      try have e67 : z65.toInt = (fv P55 289 6).toInt + 1 := ti_addz h66 rfl rfl (by omega) (by omega)
      refine mt_putI (i := 69) (k := 6) (x := z65) hT56 dX4_takeCreases_48 rfl rl_289 (by decide) rfl (by decide) rfl (ti_full z65) rfl rfl (fun P68 hT69 f70 f71 f72 => mpp 51 rfl ?_)
      have k73 : KW [514, 517, 518, 519] Po P68 := KW.step k60 rl_289 rfl f71 f72
      have e74 : (fv P68 289 6).toInt = z65.toInt := congrArg Int32.toInt f70
      obtain ⟨z75, h76⟩ := ti_ex (v1 + 1 : Int32)
      have wz75 := ti_full z75
      refine mp_a (a_iinc (v := z75) (L' := [(1, .int z75), (0, .ref 289)]) dX4_takeCreases_51 (by decide) rfl h76 rfl) (mpp 54 rfl ?_)
      try have e77 : z75.toInt = v1.toInt + 1 := ti_addz h76 rfl rfl (by omega) (by omega)
      refine mp_a (a_goto (t := 12) dX4_takeCreases_54 (by decide)) ?_
      refine MEvP.less (L := [(0, .ref 289), (1, .int z75)]) rfl rfl ⟨rfl, rfl, trivial⟩ ?_
      have t79_ : chC P = chC Po := chC_eq (fun j => i_3.1 290 j (by omega)) i_3.2.1
      have t79_p : (fv P 289 2).toInt = (fv Po 289 2).toInt + ((v1.toInt.toNat : Nat) : Int) := by omega
      have t79_x21 := g22
      rw [t79_, t79_p] at t79_x21
      have i78 : ∀ j : Nat, j < z75.toInt.toNat → KK (chC Po ((fv Po 289 2).toInt + (j : Int))).toInt := RUN.grow i_0 rfl (show KK (chC Po ((fv Po 289 2).toInt + ((v1.toInt.toNat : Nat) : Int))).toInt from by have q : ((chC Po ((fv Po 289 2).toInt + ((v1.toInt.toNat : Nat) : Int))).toInt = 111 ∨ (chC Po ((fv Po 289 2).toInt + ((v1.toInt.toNat : Nat) : Int))).toInt = 109 ∨ (chC Po ((fv Po 289 2).toInt + ((v1.toInt.toNat : Nat) : Int))).toInt = 118) := (by omega); exact q) (by omega)
      have e80 : (fv P68 289 2).toInt = (fv P19 289 2).toInt := congrArg Int32.toInt ((f71 289 2 (ne_k rfl)).trans (f58 289 2 (ne_k rfl)))
      have i81 : (fv P68 289 2).toInt = (fv Po 289 2).toInt + z75.toInt := by omega
      have w83_ : fv P19 289 5 = knV (chC Po) (fv Po 289 2).toInt v1.toInt.toNat := (R25.2.2.2.1).trans i_2
      have w83_k : (fv P19 289 7).toInt = (kn (chC Po ((fv Po 289 2).toInt + ((v1.toInt.toNat : Nat) : Int))).toInt).toInt := by have q := (t79_x21.2.2.resolve_right (by omega)).2.2.2; exact q
      have i82 : fv P68 289 5 = knV (chC Po) (fv Po 289 2).toInt z75.toInt.toNat := by rw [f71 289 5 (by omega), f57]; exact knV.step w83_ (by omega) rfl w83_k h47 h53
      have i84 : KI 289 290 Po P68 ∧ fv P68 289 1 = fv Po 289 1 ∧ fv P68 289 3 = fv Po 289 3 ∧ fv P68 289 4 = fv Po 289 4 := ⟨fun x j hx => by rw [f71 x j (by omega), f58 x j (by omega), R25.2.2.2.2.2 x j (by omega)]; exact i_3.1 x j hx, by rw [f71 289 1 (by omega), f58 289 1 (by omega), R25.1]; exact i_3.2.1, by rw [f71 289 3 (by omega), f58 289 3 (by omega), R25.2.1]; exact i_3.2.2.1, by rw [f71 289 4 (by omega), f58 289 4 (by omega), R25.2.2.1]; exact i_3.2.2.2⟩
      have i85 : z75.toInt ≤ 8 ∧ (fv P68 289 6).toInt = z75.toInt := by omega
      have i86 : 0 ≤ (fv Po 289 2).toInt := by omega
      have i87 : 0 ≤ z75.toInt := by omega
      exact ih _ (by omega) _ P68 hT69 k73 i78 i81 i82 i84 i85 i86 i87 rfl

set_option maxHeartbeats 4000000 in
theorem c_CS_takeCreases_Script {Po : mP}  (hT : Typ Po) (hX : XR Po)  (hp0 : 0 ≤ (fv Po 289 2).toInt)  : EvP 4 101 [.ref 289] Po (fun r P' => (∃ x : Int32, r = some (.int x) ∧ (0 ≤ x.toInt ∧ x.toInt ≤ 1 ∧ (∃ k : Nat, RUN KK (chC Po) (fv Po 289 2).toInt k ∧ (fv P' 289 2).toInt = (fv Po 289 2).toInt + (k : Int) ∧ fv P' 289 5 = knV (chC Po) (fv Po 289 2).toInt k ∧ (fv P' 289 6).toInt = (k : Int) ∧ ((x.toInt = 1 ∧ 1 ≤ k) ∨ (x.toInt = 0 ∧ k = 0))))) ∧ Typ P' ∧ KW [514, 517, 518, 519] Po P' ∧ fv P' 289 1 = fv Po 289 1 ∧ fv P' 289 3 = fv Po 289 3 ∧ fv P' 289 4 = fv Po 289 4 ∧ KI 289 290 Po P') := by
  refine EvP.of qm_101 (Nat.le_of_ble_eq_true rfl) rfl ?_
  show MEvP _ none q_101 0 [(0, .ref 289)] [] _ 0 0 _
  have g1 := ti_full (fv Po 289 2)
  refine mp_a (a_aload_n dX4_takeCreases_0 rfl) (mpp 1 rfl ?_)
  refine mp_a (a_iconst (v := 0) dX4_takeCreases_1 rfl) (mpp 2 rfl ?_)
  refine mt_putI (i := 66) (k := 5) (x := 0) hT dX4_takeCreases_2 rfl rl_289 (by decide) rfl (by decide) rfl (by decide) rfl rfl (fun P2 hT3 f4 f5 f6 => mpp 5 rfl ?_)
  have k7 : KW [514, 517, 518, 519] Po P2 := KW.step KW.refl rl_289 rfl f5 f6
  have e8 : (fv P2 289 5).toInt = 0 := congrArg Int32.toInt f4
  refine mp_a (a_aload_n dX4_takeCreases_5 rfl) (mpp 6 rfl ?_)
  refine mp_a (a_iconst (v := 0) dX4_takeCreases_6 rfl) (mpp 7 rfl ?_)
  refine mt_putI (i := 69) (k := 6) (x := 0) hT3 dX4_takeCreases_7 rfl rl_289 (by decide) rfl (by decide) rfl (by decide) rfl rfl (fun P9 hT10 f11 f12 f13 => mpp 10 rfl ?_)
  have k14 : KW [514, 517, 518, 519] Po P9 := KW.step k7 rl_289 rfl f12 f13
  have e15 : (fv P9 289 6).toInt = 0 := congrArg Int32.toInt f11
  refine mp_a (a_iconst (v := 0) dX4_takeCreases_10 rfl) (mpp 11 rfl ?_)
  refine mp_a (a_istore_n (L' := [(1, .int 0), (0, .ref 289)]) dX4_takeCreases_11 (by decide) rfl) (mpp 12 rfl ?_)
  refine MEvP.less (L := [(0, .ref 289), (1, .int 0)]) rfl rfl ⟨rfl, rfl, trivial⟩ ?_
  have i16 : ∀ j : Nat, j < (0 : Int).toNat → KK (chC Po ((fv Po 289 2).toInt + (j : Int))).toInt := fun j hj => absurd hj (Nat.not_lt_zero j)
  have e17 : (fv P9 289 2).toInt = (fv Po 289 2).toInt := congrArg Int32.toInt ((f12 289 2 (ne_k rfl)).trans (f5 289 2 (ne_k rfl)))
  have i18 : (fv P9 289 2).toInt = (fv Po 289 2).toInt + (0 : Int) := by omega
  have i19 : fv P9 289 5 = knV (chC Po) (fv Po 289 2).toInt (0 : Int).toNat := by rw [f12 289 5 (by omega), f4]; rfl
  have i20 : KI 289 290 Po P9 ∧ fv P9 289 1 = fv Po 289 1 ∧ fv P9 289 3 = fv Po 289 3 ∧ fv P9 289 4 = fv Po 289 4 := ⟨fun x j hx => by rw [f12 x j (by omega), f5 x j (by omega)], by rw [f12 289 1 (by omega), f5 289 1 (by omega)], by rw [f12 289 3 (by omega), f5 289 3 (by omega)], by rw [f12 289 4 (by omega), f5 289 4 (by omega)]⟩
  have i21 : (0 : Int) ≤ 8 ∧ (fv P9 289 6).toInt = (0 : Int) := by omega
  have i22 : 0 ≤ (fv Po 289 2).toInt := by omega
  have i23 : 0 ≤ (0 : Int) := by omega
  exact c_CS_takeCreases_Script_l12 hT hX  hp0 _ _ P9 hT10 k14 i16 i18 i19 i20 i21 i22 i23 rfl

set_option maxHeartbeats 4000000 in
theorem c_CS_takeDigit_Script {Po : mP}  (hT : Typ Po) (hX : XR Po)  (hp0 : 0 ≤ (fv Po 289 2).toInt)  : EvP 3 104 [.ref 289] Po (fun r P' => (∃ x : Int32, r = some (.int x) ∧ (0 ≤ x.toInt ∧ x.toInt ≤ 1 ∧ ((x.toInt = 1 ∧ (48 ≤ (chC Po (fv Po 289 2).toInt).toInt ∧ (chC Po (fv Po 289 2).toInt).toInt ≤ 57) ∧ (fv P' 289 2).toInt = (fv Po 289 2).toInt + 1) ∨ (x.toInt = 0 ∧ ¬ (48 ≤ (chC Po (fv Po 289 2).toInt).toInt ∧ (chC Po (fv Po 289 2).toInt).toInt ≤ 57) ∧ (fv P' 289 2).toInt = (fv Po 289 2).toInt)))) ∧ Typ P' ∧ KW [514] Po P' ∧ fv P' 289 1 = fv Po 289 1 ∧ fv P' 289 3 = fv Po 289 3 ∧ fv P' 289 4 = fv Po 289 4 ∧ fv P' 289 5 = fv Po 289 5 ∧ fv P' 289 6 = fv Po 289 6 ∧ fv P' 289 7 = fv Po 289 7 ∧ KI 289 290 Po P') := by
  refine EvP.of qm_104 (Nat.le_of_ble_eq_true rfl) rfl ?_
  show MEvP _ none q_104 0 [(0, .ref 289)] [] _ 0 0 _
  have g1 := ti_full (fv Po 289 2)
  refine mp_a (a_aload_n dX4_takeDigit_0 rfl) (mpp 1 rfl ?_)
  have p2 : 0 ≤ (fv Po 289 2).toInt := by omega
  refine mt_callv (i := 37) (q' := q_98) (As := []) (rest := []) hT dX4_takeDigit_1 rfl qm_98 (by decide) rfl rl_289 (by decide) rfl (Nat.le_of_ble_eq_true rfl) rfl ⟨rfl, rfl⟩ ⟨Nat.le_of_ble_eq_true rfl, Nat.le_of_ble_eq_true rfl⟩ (EvP.mono (by decide) (c_CS_codeHere_Script hT hX p2 )) (fun r3 P4 g5 => mpp 4 rfl ?_)
  obtain ⟨⟨x6, rfl, g7⟩, e8⟩ := g5
  have e8 := e8.symm
  subst e8
  have wx6 := ti_full x6
  replace g7 : x6.toInt = (chC Po (fv Po 289 2).toInt).toInt ∨ (x6.toInt = 0 ∧ (chC Po (fv Po 289 2).toInt).toInt = -1) := g7
  show MEvP _ none q_104 4 [(0, .ref 289)] [.int x6] _ _ _ _
  refine mp_a (a_bipush (v := 48) dX4_takeDigit_4 rfl) (mpp 6 rfl ?_)
  refine mp_Tb (t := 18) (j_icmp_lt dX4_takeDigit_6) (by decide) (fun c9 => ?_) (fun c9 => mpp 9 rfl ?_)
  · have c9 : x6.toInt < 48 := ti_lt c9
    refine mp_a (a_iconst (v := 0) dX4_takeDigit_18 rfl) (mpp 19 rfl ?_)
    have u10 : 0 ≤ (0 : Int) ∧ (0 : Int) ≤ 1 ∧ (((0 : Int) = 1 ∧ (48 ≤ (chC Po (fv Po 289 2).toInt).toInt ∧ (chC Po (fv Po 289 2).toInt).toInt ≤ 57) ∧ (fv Po 289 2).toInt = (fv Po 289 2).toInt + 1) ∨ ((0 : Int) = 0 ∧ ¬ (48 ≤ (chC Po (fv Po 289 2).toInt).toInt ∧ (chC Po (fv Po 289 2).toInt).toInt ≤ 57) ∧ (fv Po 289 2).toInt = (fv Po 289 2).toInt)) := by omega
    have u11 : fv Po 289 1 = fv Po 289 1 := by rw []
    have u12 : fv Po 289 3 = fv Po 289 3 := by rw []
    have u13 : fv Po 289 4 = fv Po 289 4 := by rw []
    have u14 : fv Po 289 5 = fv Po 289 5 := by rw []
    have u15 : fv Po 289 6 = fv Po 289 6 := by rw []
    have u16 : fv Po 289 7 = fv Po 289 7 := by rw []
    have u17 : KI 289 290 Po Po := fun _ _ _ => rfl
    exact mp_iret ⟨⟨_, rfl, u10⟩, hT, KW.refl, ⟨u11, u12, u13, u14, u15, u16, u17⟩⟩ dX4_takeDigit_19 (Or.inr ⟨rfl, by decide⟩)
  · have c9 : x6.toInt ≥ 48 := ti_lt_n c9
    refine mp_a (a_aload_n dX4_takeDigit_9 rfl) (mpp 10 rfl ?_)
    have p18 : 0 ≤ (fv Po 289 2).toInt := by omega
    refine mt_callv (i := 37) (q' := q_98) (As := []) (rest := []) hT dX4_takeDigit_10 rfl qm_98 (by decide) rfl rl_289 (by decide) rfl (Nat.le_of_ble_eq_true rfl) rfl ⟨rfl, rfl⟩ ⟨Nat.le_of_ble_eq_true rfl, Nat.le_of_ble_eq_true rfl⟩ (EvP.mono (by decide) (c_CS_codeHere_Script hT hX p18 )) (fun r19 P20 g21 => mpp 13 rfl ?_)
    obtain ⟨⟨x22, rfl, g23⟩, e24⟩ := g21
    have e24 := e24.symm
    subst e24
    have wx22 := ti_full x22
    replace g23 : x22.toInt = (chC Po (fv Po 289 2).toInt).toInt ∨ (x22.toInt = 0 ∧ (chC Po (fv Po 289 2).toInt).toInt = -1) := g23
    show MEvP _ none q_104 13 [(0, .ref 289)] [.int x22] _ _ _ _
    refine mp_a (a_bipush (v := 57) dX4_takeDigit_13 rfl) (mpp 15 rfl ?_)
    refine mp_Tb (t := 20) (j_icmp_le dX4_takeDigit_15) (by decide) (fun c25 => ?_) (fun c25 => mpp 18 rfl ?_)
    · have c25 : x22.toInt ≤ 57 := ti_le c25
      have q26 : (0 : Int) ≤ (fv Po 289 1).toInt ∧ (fv Po 289 1).toInt ≤ 80 := Typ.rng hT rl_289 (by decide) (by decide) rfl
      have q27 := ch_lt (t := fun j => fv Po 290 j) (L := (fv Po 289 1).toInt) (i := (fv Po 289 2).toInt) (show ¬ (chC Po (fv Po 289 2).toInt).toInt = -1 from by omega)
      refine mp_a (a_aload_n dX4_takeDigit_20 rfl) (mpp 21 rfl ?_)
      refine mp_t (s_dup dX4_takeDigit_21 rfl) (mpp 22 rfl ?_)
      refine mt_getI (i := 23) (k := 2) hT dX4_takeDigit_22 rfl rl_289 (by decide) rfl (by decide) rfl (fun g28 g29 => mpp 25 rfl ?_)
      refine mp_a (a_iconst (v := 1) dX4_takeDigit_25 rfl) (mpp 26 rfl ?_)
      obtain ⟨z30, h31⟩ := ti_ex ((fv Po 289 2) + 1 : Int32)
      have wz30 := ti_full z30
      refine mp_t (s_iadd (v := z30) dX4_takeDigit_26 h31) (mpp 27 rfl ?_)
      try have e32 : z30.toInt = (fv Po 289 2).toInt + 1 := ti_addz h31 rfl rfl (by omega) (by omega)
      refine mt_putI (i := 23) (k := 2) (x := z30) hT dX4_takeDigit_27 rfl rl_289 (by decide) rfl (by decide) rfl (ti_full z30) rfl rfl (fun P33 hT34 f35 f36 f37 => mpp 30 rfl ?_)
      have k38 : KW [514] Po P33 := KW.step KW.refl rl_289 rfl f36 f37
      have e39 : (fv P33 289 2).toInt = z30.toInt := congrArg Int32.toInt f35
      refine mp_a (a_iconst (v := 1) dX4_takeDigit_30 rfl) (mpp 31 rfl ?_)
      have u40 : 0 ≤ (1 : Int) ∧ (1 : Int) ≤ 1 ∧ (((1 : Int) = 1 ∧ (48 ≤ (chC Po (fv Po 289 2).toInt).toInt ∧ (chC Po (fv Po 289 2).toInt).toInt ≤ 57) ∧ (fv P33 289 2).toInt = (fv Po 289 2).toInt + 1) ∨ ((1 : Int) = 0 ∧ ¬ (48 ≤ (chC Po (fv Po 289 2).toInt).toInt ∧ (chC Po (fv Po 289 2).toInt).toInt ≤ 57) ∧ (fv P33 289 2).toInt = (fv Po 289 2).toInt)) := by omega
      have u41 : fv P33 289 1 = fv Po 289 1 := by rw [f36 289 1 (by omega)]
      have u42 : fv P33 289 3 = fv Po 289 3 := by rw [f36 289 3 (by omega)]
      have u43 : fv P33 289 4 = fv Po 289 4 := by rw [f36 289 4 (by omega)]
      have u44 : fv P33 289 5 = fv Po 289 5 := by rw [f36 289 5 (by omega)]
      have u45 : fv P33 289 6 = fv Po 289 6 := by rw [f36 289 6 (by omega)]
      have u46 : fv P33 289 7 = fv Po 289 7 := by rw [f36 289 7 (by omega)]
      have u47 : KI 289 290 Po P33 := by
        intro x j hx
        rw [f36 x j (by omega)]
      exact mp_iret ⟨⟨_, rfl, u40⟩, hT34, k38, ⟨u41, u42, u43, u44, u45, u46, u47⟩⟩ dX4_takeDigit_31 (Or.inr ⟨rfl, by decide⟩)
    · have c25 : x22.toInt > 57 := ti_le_n c25
      refine mp_a (a_iconst (v := 0) dX4_takeDigit_18 rfl) (mpp 19 rfl ?_)
      have u48 : 0 ≤ (0 : Int) ∧ (0 : Int) ≤ 1 ∧ (((0 : Int) = 1 ∧ (48 ≤ (chC Po (fv Po 289 2).toInt).toInt ∧ (chC Po (fv Po 289 2).toInt).toInt ≤ 57) ∧ (fv Po 289 2).toInt = (fv Po 289 2).toInt + 1) ∨ ((0 : Int) = 0 ∧ ¬ (48 ≤ (chC Po (fv Po 289 2).toInt).toInt ∧ (chC Po (fv Po 289 2).toInt).toInt ≤ 57) ∧ (fv Po 289 2).toInt = (fv Po 289 2).toInt)) := by omega
      have u49 : fv Po 289 1 = fv Po 289 1 := by rw []
      have u50 : fv Po 289 3 = fv Po 289 3 := by rw []
      have u51 : fv Po 289 4 = fv Po 289 4 := by rw []
      have u52 : fv Po 289 5 = fv Po 289 5 := by rw []
      have u53 : fv Po 289 6 = fv Po 289 6 := by rw []
      have u54 : fv Po 289 7 = fv Po 289 7 := by rw []
      have u55 : KI 289 290 Po Po := fun _ _ _ => rfl
      exact mp_iret ⟨⟨_, rfl, u48⟩, hT, KW.refl, ⟨u49, u50, u51, u52, u53, u54, u55⟩⟩ dX4_takeDigit_19 (Or.inr ⟨rfl, by decide⟩)

set_option maxHeartbeats 4000000 in
theorem c_CS_takePiece_Script {Po : mP}  (hT : Typ Po) (hX : XR Po)  (hp0 : 0 ≤ (fv Po 289 2).toInt)  : EvP 4 103 [.ref 289] Po (fun r P' => (∃ x : Int32, r = some (.int x) ∧ (0 ≤ x.toInt ∧ x.toInt ≤ 1 ∧ ((x.toInt = 1 ∧ (48 ≤ (chC Po (fv Po 289 2).toInt).toInt ∧ (chC Po (fv Po 289 2).toInt).toInt ≤ 57) ∧ (fv P' 289 2).toInt = (fv Po 289 2).toInt + 1 ∧ (fv P' 289 4).toInt = (chC Po (fv Po 289 2).toInt).toInt - 48) ∨ (x.toInt = 0 ∧ ¬ (48 ≤ (chC Po (fv Po 289 2).toInt).toInt ∧ (chC Po (fv Po 289 2).toInt).toInt ≤ 57) ∧ (fv P' 289 2).toInt = (fv Po 289 2).toInt)))) ∧ Typ P' ∧ KW [514, 516] Po P' ∧ fv P' 289 1 = fv Po 289 1 ∧ fv P' 289 3 = fv Po 289 3 ∧ fv P' 289 5 = fv Po 289 5 ∧ fv P' 289 6 = fv Po 289 6 ∧ fv P' 289 7 = fv Po 289 7 ∧ KI 289 290 Po P') := by
  refine EvP.of qm_103 (Nat.le_of_ble_eq_true rfl) rfl ?_
  show MEvP _ none q_103 0 [(0, .ref 289)] [] _ 0 0 _
  have g1 := ti_full (fv Po 289 2)
  refine mp_a (a_aload_n dX4_takePiece_0 rfl) (mpp 1 rfl ?_)
  refine mp_a (a_aload_n dX4_takePiece_1 rfl) (mpp 2 rfl ?_)
  have p2 : 0 ≤ (fv Po 289 2).toInt := by omega
  refine mt_callv (i := 37) (q' := q_98) (As := []) (rest := [.ref 289]) hT dX4_takePiece_2 rfl qm_98 (by decide) rfl rl_289 (by decide) rfl (Nat.le_of_ble_eq_true rfl) rfl ⟨rfl, rfl⟩ ⟨Nat.le_of_ble_eq_true rfl, Nat.le_of_ble_eq_true rfl⟩ (EvP.mono (by decide) (c_CS_codeHere_Script hT hX p2 )) (fun r3 P4 g5 => mpp 5 rfl ?_)
  obtain ⟨⟨x6, rfl, g7⟩, e8⟩ := g5
  have e8 := e8.symm
  subst e8
  have wx6 := ti_full x6
  replace g7 : x6.toInt = (chC Po (fv Po 289 2).toInt).toInt ∨ (x6.toInt = 0 ∧ (chC Po (fv Po 289 2).toInt).toInt = -1) := g7
  show MEvP _ none q_103 5 [(0, .ref 289)] [.int x6, .ref 289] _ _ _ _
  refine mp_a (a_bipush (v := 48) dX4_takePiece_5 rfl) (mpp 7 rfl ?_)
  obtain ⟨z9, h10⟩ := ti_ex (x6 - 48 : Int32)
  have wz9 := ti_full z9
  refine mp_t (s_isub (v := z9) dX4_takePiece_7 h10) (mpp 8 rfl ?_)
  try have e11 : z9.toInt = x6.toInt - 48 := ti_subz h10 rfl rfl (by omega) (by omega)
  refine mt_putI (i := 63) (k := 4) (x := z9) hT dX4_takePiece_8 rfl rl_289 (by decide) rfl (by decide) rfl (ti_full z9) rfl rfl (fun P12 hT13 f14 f15 f16 => mpp 11 rfl ?_)
  have k17 : KW [514, 516] Po P12 := KW.step KW.refl rl_289 rfl f15 f16
  have e18 : (fv P12 289 4).toInt = z9.toInt := congrArg Int32.toInt f14
  refine mp_a (a_aload_n dX4_takePiece_11 rfl) (mpp 12 rfl ?_)
  have e19 : (fv P12 289 2).toInt = (fv Po 289 2).toInt := congrArg Int32.toInt (f15 289 2 (ne_k rfl))
  have p20 : 0 ≤ (fv P12 289 2).toInt := by omega
  refine mt_callv (i := 75) (q' := q_104) (As := []) (rest := []) hT13 dX4_takePiece_12 rfl qm_104 (by decide) rfl rl_289 (by decide) rfl (Nat.le_of_ble_eq_true rfl) rfl ⟨rfl, rfl⟩ ⟨Nat.le_of_ble_eq_true rfl, Nat.le_of_ble_eq_true rfl⟩ (EvP.mono (by decide) (c_CS_takeDigit_Script hT13 (KW.xr k17 hX) p20 )) (fun r21 P22 g23 => mpp 15 rfl ?_)
  obtain ⟨⟨x24, rfl, g25⟩, hT26, k27, R28⟩ := g23
  have k29 : KW [514, 516] Po P22 := KW.trans k17 k27 rfl
  have wx24 := ti_full x24
  replace g25 : 0 ≤ x24.toInt ∧ x24.toInt ≤ 1 ∧ ((x24.toInt = 1 ∧ (48 ≤ (chC P12 (fv P12 289 2).toInt).toInt ∧ (chC P12 (fv P12 289 2).toInt).toInt ≤ 57) ∧ (fv P22 289 2).toInt = (fv P12 289 2).toInt + 1) ∨ (x24.toInt = 0 ∧ ¬ (48 ≤ (chC P12 (fv P12 289 2).toInt).toInt ∧ (chC P12 (fv P12 289 2).toInt).toInt ≤ 57) ∧ (fv P22 289 2).toInt = (fv P12 289 2).toInt)) := g25
  have g31 := ti_full (fv P22 289 2)
  have g32 := ti_full (fv P22 289 2)
  show MEvP _ none q_103 15 [(0, .ref 289)] [.int x24] _ _ _ _
  have t35_ : chC P12 = chC Po := chC_eq (fun j => by rw [f15 290 j (by omega)]) (by rw [f15 289 1 (by omega)])
  have w34_ := g25
  rw [t35_, show (fv P12 289 2).toInt = (fv Po 289 2).toInt from by omega] at w34_
  have w34_v : z9.toInt = x6.toInt - 48 ∨ ¬ (48 ≤ (chC Po (fv Po 289 2).toInt).toInt ∧ (chC Po (fv Po 289 2).toInt).toInt ≤ 57) := if hd : 48 ≤ (chC Po (fv Po 289 2).toInt).toInt ∧ (chC Po (fv Po 289 2).toInt).toInt ≤ 57 then Or.inl (ti_subz h10 rfl rfl (by omega) (by omega)) else Or.inr hd
  have w34_q : (fv P22 289 4).toInt = z9.toInt := by rw [R28.2.2.1, f14]
  have u33 : 0 ≤ x24.toInt ∧ x24.toInt ≤ 1 ∧ ((x24.toInt = 1 ∧ (48 ≤ (chC Po (fv Po 289 2).toInt).toInt ∧ (chC Po (fv Po 289 2).toInt).toInt ≤ 57) ∧ (fv P22 289 2).toInt = (fv Po 289 2).toInt + 1 ∧ (fv P22 289 4).toInt = (chC Po (fv Po 289 2).toInt).toInt - 48) ∨ (x24.toInt = 0 ∧ ¬ (48 ≤ (chC Po (fv Po 289 2).toInt).toInt ∧ (chC Po (fv Po 289 2).toInt).toInt ≤ 57) ∧ (fv P22 289 2).toInt = (fv Po 289 2).toInt)) := ⟨by omega, by omega, by omega⟩
  have u36 : fv P22 289 1 = fv Po 289 1 := by rw [R28.1, f15 289 1 (by omega)]
  have u37 : fv P22 289 3 = fv Po 289 3 := by rw [R28.2.1, f15 289 3 (by omega)]
  have u38 : fv P22 289 5 = fv Po 289 5 := by rw [R28.2.2.2.1, f15 289 5 (by omega)]
  have u39 : fv P22 289 6 = fv Po 289 6 := by rw [R28.2.2.2.2.1, f15 289 6 (by omega)]
  have u40 : fv P22 289 7 = fv Po 289 7 := by rw [R28.2.2.2.2.2.1, f15 289 7 (by omega)]
  have u41 : KI 289 290 Po P22 := by
    intro x j hx
    rw [R28.2.2.2.2.2.2 x j (by omega), f15 x j (by omega)]
  exact mp_iret ⟨⟨_, rfl, u33⟩, hT26, k29, ⟨u36, u37, u38, u39, u40, u41⟩⟩ dX4_takePiece_15 (Or.inr ⟨rfl, ti_01 (by omega)⟩)

set_option maxHeartbeats 4000000 in
theorem c_CS_takeCrease_Script {Po : mP}  (hT : Typ Po) (hX : XR Po)  (hp0 : 0 ≤ (fv Po 289 2).toInt)  : EvP 4 105 [.ref 289] Po (fun r P' => (∃ x : Int32, r = some (.int x) ∧ (0 ≤ x.toInt ∧ x.toInt ≤ 1 ∧ ((x.toInt = 1 ∧ (48 ≤ (chC Po (fv Po 289 2).toInt).toInt ∧ (chC Po (fv Po 289 2).toInt).toInt ≤ 57) ∧ (fv P' 289 2).toInt = (fv Po 289 2).toInt + 1 ∧ (fv P' 289 5).toInt = (chC Po (fv Po 289 2).toInt).toInt - 48) ∨ (x.toInt = 0 ∧ ¬ (48 ≤ (chC Po (fv Po 289 2).toInt).toInt ∧ (chC Po (fv Po 289 2).toInt).toInt ≤ 57) ∧ (fv P' 289 2).toInt = (fv Po 289 2).toInt)))) ∧ Typ P' ∧ KW [514, 517] Po P' ∧ fv P' 289 1 = fv Po 289 1 ∧ fv P' 289 3 = fv Po 289 3 ∧ fv P' 289 4 = fv Po 289 4 ∧ fv P' 289 6 = fv Po 289 6 ∧ fv P' 289 7 = fv Po 289 7 ∧ KI 289 290 Po P') := by
  refine EvP.of qm_105 (Nat.le_of_ble_eq_true rfl) rfl ?_
  show MEvP _ none q_105 0 [(0, .ref 289)] [] _ 0 0 _
  have g1 := ti_full (fv Po 289 2)
  refine mp_a (a_aload_n dX4_takeCrease_0 rfl) (mpp 1 rfl ?_)
  refine mp_a (a_aload_n dX4_takeCrease_1 rfl) (mpp 2 rfl ?_)
  have p2 : 0 ≤ (fv Po 289 2).toInt := by omega
  refine mt_callv (i := 37) (q' := q_98) (As := []) (rest := [.ref 289]) hT dX4_takeCrease_2 rfl qm_98 (by decide) rfl rl_289 (by decide) rfl (Nat.le_of_ble_eq_true rfl) rfl ⟨rfl, rfl⟩ ⟨Nat.le_of_ble_eq_true rfl, Nat.le_of_ble_eq_true rfl⟩ (EvP.mono (by decide) (c_CS_codeHere_Script hT hX p2 )) (fun r3 P4 g5 => mpp 5 rfl ?_)
  obtain ⟨⟨x6, rfl, g7⟩, e8⟩ := g5
  have e8 := e8.symm
  subst e8
  have wx6 := ti_full x6
  replace g7 : x6.toInt = (chC Po (fv Po 289 2).toInt).toInt ∨ (x6.toInt = 0 ∧ (chC Po (fv Po 289 2).toInt).toInt = -1) := g7
  show MEvP _ none q_105 5 [(0, .ref 289)] [.int x6, .ref 289] _ _ _ _
  refine mp_a (a_bipush (v := 48) dX4_takeCrease_5 rfl) (mpp 7 rfl ?_)
  obtain ⟨z9, h10⟩ := ti_ex (x6 - 48 : Int32)
  have wz9 := ti_full z9
  refine mp_t (s_isub (v := z9) dX4_takeCrease_7 h10) (mpp 8 rfl ?_)
  try have e11 : z9.toInt = x6.toInt - 48 := ti_subz h10 rfl rfl (by omega) (by omega)
  refine mt_putI (i := 66) (k := 5) (x := z9) hT dX4_takeCrease_8 rfl rl_289 (by decide) rfl (by decide) rfl (ti_full z9) rfl rfl (fun P12 hT13 f14 f15 f16 => mpp 11 rfl ?_)
  have k17 : KW [514, 517] Po P12 := KW.step KW.refl rl_289 rfl f15 f16
  have e18 : (fv P12 289 5).toInt = z9.toInt := congrArg Int32.toInt f14
  refine mp_a (a_aload_n dX4_takeCrease_11 rfl) (mpp 12 rfl ?_)
  have e19 : (fv P12 289 2).toInt = (fv Po 289 2).toInt := congrArg Int32.toInt (f15 289 2 (ne_k rfl))
  have p20 : 0 ≤ (fv P12 289 2).toInt := by omega
  refine mt_callv (i := 75) (q' := q_104) (As := []) (rest := []) hT13 dX4_takeCrease_12 rfl qm_104 (by decide) rfl rl_289 (by decide) rfl (Nat.le_of_ble_eq_true rfl) rfl ⟨rfl, rfl⟩ ⟨Nat.le_of_ble_eq_true rfl, Nat.le_of_ble_eq_true rfl⟩ (EvP.mono (by decide) (c_CS_takeDigit_Script hT13 (KW.xr k17 hX) p20 )) (fun r21 P22 g23 => mpp 15 rfl ?_)
  obtain ⟨⟨x24, rfl, g25⟩, hT26, k27, R28⟩ := g23
  have k29 : KW [514, 517] Po P22 := KW.trans k17 k27 rfl
  have wx24 := ti_full x24
  replace g25 : 0 ≤ x24.toInt ∧ x24.toInt ≤ 1 ∧ ((x24.toInt = 1 ∧ (48 ≤ (chC P12 (fv P12 289 2).toInt).toInt ∧ (chC P12 (fv P12 289 2).toInt).toInt ≤ 57) ∧ (fv P22 289 2).toInt = (fv P12 289 2).toInt + 1) ∨ (x24.toInt = 0 ∧ ¬ (48 ≤ (chC P12 (fv P12 289 2).toInt).toInt ∧ (chC P12 (fv P12 289 2).toInt).toInt ≤ 57) ∧ (fv P22 289 2).toInt = (fv P12 289 2).toInt)) := g25
  have g31 := ti_full (fv P22 289 2)
  have g32 := ti_full (fv P22 289 2)
  show MEvP _ none q_105 15 [(0, .ref 289)] [.int x24] _ _ _ _
  have t35_ : chC P12 = chC Po := chC_eq (fun j => by rw [f15 290 j (by omega)]) (by rw [f15 289 1 (by omega)])
  have w34_ := g25
  rw [t35_, show (fv P12 289 2).toInt = (fv Po 289 2).toInt from by omega] at w34_
  have w34_v : z9.toInt = x6.toInt - 48 ∨ ¬ (48 ≤ (chC Po (fv Po 289 2).toInt).toInt ∧ (chC Po (fv Po 289 2).toInt).toInt ≤ 57) := if hd : 48 ≤ (chC Po (fv Po 289 2).toInt).toInt ∧ (chC Po (fv Po 289 2).toInt).toInt ≤ 57 then Or.inl (ti_subz h10 rfl rfl (by omega) (by omega)) else Or.inr hd
  have w34_q : (fv P22 289 5).toInt = z9.toInt := by rw [R28.2.2.2.1, f14]
  have u33 : 0 ≤ x24.toInt ∧ x24.toInt ≤ 1 ∧ ((x24.toInt = 1 ∧ (48 ≤ (chC Po (fv Po 289 2).toInt).toInt ∧ (chC Po (fv Po 289 2).toInt).toInt ≤ 57) ∧ (fv P22 289 2).toInt = (fv Po 289 2).toInt + 1 ∧ (fv P22 289 5).toInt = (chC Po (fv Po 289 2).toInt).toInt - 48) ∨ (x24.toInt = 0 ∧ ¬ (48 ≤ (chC Po (fv Po 289 2).toInt).toInt ∧ (chC Po (fv Po 289 2).toInt).toInt ≤ 57) ∧ (fv P22 289 2).toInt = (fv Po 289 2).toInt)) := ⟨by omega, by omega, by omega⟩
  have u36 : fv P22 289 1 = fv Po 289 1 := by rw [R28.1, f15 289 1 (by omega)]
  have u37 : fv P22 289 3 = fv Po 289 3 := by rw [R28.2.1, f15 289 3 (by omega)]
  have u38 : fv P22 289 4 = fv Po 289 4 := by rw [R28.2.2.1, f15 289 4 (by omega)]
  have u39 : fv P22 289 6 = fv Po 289 6 := by rw [R28.2.2.2.2.1, f15 289 6 (by omega)]
  have u40 : fv P22 289 7 = fv Po 289 7 := by rw [R28.2.2.2.2.2.1, f15 289 7 (by omega)]
  have u41 : KI 289 290 Po P22 := by
    intro x j hx
    rw [R28.2.2.2.2.2.2 x j (by omega), f15 x j (by omega)]
  exact mp_iret ⟨⟨_, rfl, u33⟩, hT26, k29, ⟨u36, u37, u38, u39, u40, u41⟩⟩ dX4_takeCrease_15 (Or.inr ⟨rfl, ti_01 (by omega)⟩)

