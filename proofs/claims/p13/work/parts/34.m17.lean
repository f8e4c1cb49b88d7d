/-! methods on typed pools, 17 (written by a program) -/
set_option maxHeartbeats 4000000 in
theorem c_CS_takeCrease_Script {Po : mP}  (hT : Typ Po) (hX : XR Po)  (hp0 : 0 ≤ (fv Po 289 2).toInt)  : EvP 4 105 [.ref 289] Po (fun r P' => (∃ x : Int32, r = some (.int x) ∧ (0 ≤ x.toInt ∧ x.toInt ≤ 1 ∧ ((x.toInt = 1 ∧ (48 ≤ (chC Po (fv Po 289 2).toInt).toInt ∧ (chC Po (fv Po 289 2).toInt).toInt ≤ 57) ∧ (fv P' 289 2).toInt = (fv Po 289 2).toInt + 1 ∧ (fv P' 289 5).toInt = (chC Po (fv Po 289 2).toInt).toInt - 48) ∨ (x.toInt = 0 ∧ ¬ (48 ≤ (chC Po (fv Po 289 2).toInt).toInt ∧ (chC Po (fv Po 289 2).toInt).toInt ≤ 57) ∧ (fv P' 289 2).toInt = (fv Po 289 2).toInt)))) ∧ Typ P' ∧ KW [514, 517] Po P' ∧ fv P' 289 1 = fv Po 289 1 ∧ fv P' 289 3 = fv Po 289 3 ∧ fv P' 289 4 = fv Po 289 4 ∧ fv P' 289 6 = fv Po 289 6 ∧ fv P' 289 7 = fv Po 289 7 ∧ KI 289 290 Po P') := by
  refine EvP.of qm_105 (Nat.le_of_ble_eq_true rfl) rfl ?_
  show MEvP _ none q_105 0 [(0, .ref 289)] [] _ 0 0 _
  have g1 := ti_full (fv Po 289 2)
  refine mp_a (a_aload_n dX4_takeCrease_0 rfl) (mpp 1 rfl ?_)
  refine mp_a (a_aload_n dX4_takeCrease_1 rfl) (mpp 2 rfl ?_)
  have p2 : 0 ≤ (fv Po 289 2).toInt := by omega
  refine mt_callv (i := 37) (q' := q_98) (As := []) (rest := [.ref 289]) hT dX4_takeCrease_2 rfl qm_98 (by decide) rfl rl_289 (by decide) rfl (Nat.le_of_ble_eq_true rfl) rfl ⟨rfl, rfl⟩ ⟨Nat.le_of_ble_eq_true rfl, Nat.le_of_ble_eq_true rfl⟩ (EvP.mono (by decide) (c_CS_codeHere_Script hT hX p2 )) (fun r3 P4 g5 => mpp 5 rfl ?_)
  obtain ⟨⟨x6, rfl, g7⟩, e8⟩ := g5
  have e8 := e8.symm
  subst e8
  have wx6 := ti_full x6
  replace g7 : x6.toInt = (chC Po (fv Po 289 2).toInt).toInt ∨ (x6.toInt = 0 ∧ (chC Po (fv Po 289 2).toInt).toInt = -1) := g7
  show MEvP _ none q_105 5 [(0, .ref 289)] [.int x6, .ref 289] _ _ _ _
  refine mp_a (a_bipush (v := 48) dX4_takeCrease_5 rfl) (mpp 7 rfl ?_)
  obtain ⟨z9, h10⟩ := ti_ex (x6 - 48 : Int32)
  have wz9 := ti_full z9
  refine mp_t (s_isub (v := z9) dX4_takeCrease_7 h10) (mpp 8 rfl ?_)
  try have e11 : z9.toInt = x6.toInt - 48 := ti_subz h10 rfl rfl (by omega) (by omega)
  refine mt_putI (i := 66) (k := 5) (x := z9) hT dX4_takeCrease_8 rfl rl_289 (by decide) rfl (by decide) rfl (ti_full z9) rfl rfl (fun P12 hT13 f14 f15 f16 => mpp 11 rfl ?_)
  have k17 : KW [514, 517] Po P12 := KW.step KW.refl rl_289 rfl f15 f16
  have e18 : (fv P12 289 5).toInt = z9.toInt := congrArg Int32.toInt f14
  refine mp_a (a_aload_n dX4_takeCrease_11 rfl) (mpp 12 rfl ?_)
  have e19 : (fv P12 289 2).toInt = (fv Po 289 2).toInt := congrArg Int32.toInt (f15 289 2 (ne_k rfl))
  have p20 : 0 ≤ (fv P12 289 2).toInt := by omega
  refine mt_callv (i := 75) (q' := q_104) (As := []) (rest := []) hT13 dX4_takeCrease_12 rfl qm_104 (by decide) rfl rl_289 (by decide) rfl (Nat.le_of_ble_eq_true rfl) rfl ⟨rfl, rfl⟩ ⟨Nat.le_of_ble_eq_true rfl, Nat.le_of_ble_eq_true rfl⟩ (EvP.mono (by decide) (c_CS_takeDigit_Script hT13 (KW.xr k17 hX) p20 )) (fun r21 P22 g23 => mpp 15 rfl ?_)
  obtain ⟨⟨x24, rfl, g25⟩, hT26, k27, R28⟩ := g23
  have k29 : KW [514, 517] Po P22 := KW.trans k17 k27 rfl
  have wx24 := ti_full x24
  replace g25 : 0 ≤ x24.toInt ∧ x24.toInt ≤ 1 ∧ ((x24.toInt = 1 ∧ (48 ≤ (chC P12 (fv P12 289 2).toInt).toInt ∧ (chC P12 (fv P12 289 2).toInt).toInt ≤ 57) ∧ (fv P22 289 2).toInt = (fv P12 289 2).toInt + 1) ∨ (x24.toInt = 0 ∧ ¬ (48 ≤ (chC P12 (fv P12 289 2).toInt).toInt ∧ (chC P12 (fv P12 289 2).toInt).toInt ≤ 57) ∧ (fv P22 289 2).toInt = (fv P12 289 2).toInt)) := g25
  have g31 := ti_full (fv P22 289 2)
  have g32 := ti_full (fv P22 289 2)
  show MEvP _ none q_105 15 [(0, .ref 289)] [.int x24] _ _ _ _
  have t35_ : chC P12 = chC Po := chC_eq (fun j => by rw [f15 290 j (by omega)]) (by rw [f15 289 1 (by omega)])
  have w34_ := g25
  rw [t35_, show (fv P12 289 2).toInt = (fv Po 289 2).toInt from by omega] at w34_
  have w34_v : z9.toInt = x6.toInt - 48 ∨ ¬ (48 ≤ (chC Po (fv Po 289 2).toInt).toInt ∧ (chC Po (fv Po 289 2).toInt).toInt ≤ 57) := if hd : 48 ≤ (chC Po (fv Po 289 2).toInt).toInt ∧ (chC Po (fv Po 289 2).toInt).toInt ≤ 57 then Or.inl (ti_subz h10 rfl rfl (by omega) (by omega)) else Or.inr hd
  have w34_q : (fv P22 289 5).toInt = z9.toInt := by rw [R28.2.2.2.1, f14]
  have u33 : 0 ≤ x24.toInt ∧ x24.toInt ≤ 1 ∧ ((x24.toInt = 1 ∧ (48 ≤ (chC Po (fv Po 289 2).toInt).toInt ∧ (chC Po (fv Po 289 2).toInt).toInt ≤ 57) ∧ (fv P22 289 2).toInt = (fv Po 289 2).toInt + 1 ∧ (fv P22 289 5).toInt = (chC Po (fv Po 289 2).toInt).toInt - 48) ∨ (x24.toInt = 0 ∧ ¬ (48 ≤ (chC Po (fv Po 289 2).toInt).toInt ∧ (chC Po (fv Po 289 2).toInt).toInt ≤ 57) ∧ (fv P22 289 2).toInt = (fv Po 289 2).toInt)) := ⟨by omega, by omega, by omega⟩
  have u36 : fv P22 289 1 = fv Po 289 1 := by rw [R28.1, f15 289 1 (by omega)]
  have u37 : fv P22 289 3 = fv Po 289 3 := by rw [R28.2.1, f15 289 3 (by omega)]
  have u38 : fv P22 289 4 = fv Po 289 4 := by rw [R28.2.2.1, f15 289 4 (by omega)]
  have u39 : fv P22 289 6 = fv Po 289 6 := by rw [R28.2.2.2.2.1, f15 289 6 (by omega)]
  have u40 : fv P22 289 7 = fv Po 289 7 := by rw [R28.2.2.2.2.2.1, f15 289 7 (by omega)]
  have u41 : KI 289 290 Po P22 := by
    intro x j hx
    rw [R28.2.2.2.2.2.2 x j (by omega), f15 x j (by omega)]
  exact mp_iret ⟨⟨_, rfl, u33⟩, hT26, k29, ⟨u36, u37, u38, u39, u40, u41⟩⟩ dX4_takeCrease_15 (Or.inr ⟨rfl, ti_01 (by omega)⟩)

