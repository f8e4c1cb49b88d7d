/-! methods on typed pools, 13 (written by a program) -/
set_option maxHeartbeats 4000000 in
theorem c_CS_takeCreases_Script_l12 {Po : mP}   : ∀ (n : Nat) (v1 : Int32), ∀ (P : mP), Typ P → KW [514, 517, 518, 519] Po P → (0 ≤ v1.toInt) → (2147483647 - v1.toInt).toNat = n → MEvP 3 none q_101 12 [(0, .ref 289), (1, .int v1)] [] P 0 0 (fun r P' => (∃ x : Int32, r = some (.int x) ∧ (0 ≤ x.toInt ∧ x.toInt ≤ 1)) ∧ Typ P' ∧ KW [514, 517, 518, 519] Po P' ∧ True) := by
  intro n
  induction n using Nat.strongRecOn with | _ n ih => ?_
  intro v1 P hT hK i_0 hm
  have w_v1 := ti_full v1
  refine mp_a (a_iload_n dX4_takeCreases_12 rfl) (mpp 13 rfl ?_)
  refine mp_a (a_bipush (v := 8) dX4_takeCreases_13 rfl) (mpp 15 rfl ?_)
  refine mp_Tb (t := 57) (j_icmp_ge dX4_takeCreases_15) (by decide) (fun c1 => ?_) (fun c1 => mpp 18 rfl ?_)
  · have c1 : v1.toInt ≥ 8 := ti_ge c1
    refine mp_a (a_aload_n dX4_takeCreases_57 rfl) (mpp 58 rfl ?_)
    have g2 := ti_full (fv P 289 6)
    refine mt_getI (i := 69) (k := 6) hT dX4_takeCreases_58 rfl rl_289 (by decide) rfl (by decide) rfl (fun g3 g4 => mpp 61 rfl ?_)
    refine mp_Tb (t := 68) (j_if_le dX4_takeCreases_61) (by decide) (fun c5 => ?_) (fun c5 => mpp 64 rfl ?_)
    · have c5 : (fv P 289 6).toInt ≤ 0 := ti_le c5
      refine mp_a (a_iconst (v := 0) dX4_takeCreases_68 rfl) (mpp 69 rfl ?_)
      have u6 : 0 ≤ (0 : Int) ∧ (0 : Int) ≤ 1 := by omega
      exact mp_iret ⟨⟨_, rfl, u6⟩, hT, hK, trivial⟩ dX4_takeCreases_69 (Or.inr ⟨rfl, by decide⟩)
    · have c5 : (fv P 289 6).toInt > 0 := ti_le_n c5
      refine mp_a (a_iconst (v := 1) dX4_takeCreases_64 rfl) (mpp 65 rfl ?_)
      refine mp_a (a_goto (t := 69) dX4_takeCreases_65 (by decide)) ?_
      have u7 : 0 ≤ (1 : Int) ∧ (1 : Int) ≤ 1 := by omega
      exact mp_iret ⟨⟨_, rfl, u7⟩, hT, hK, trivial⟩ dX4_takeCreases_69 (Or.inr ⟨rfl, by decide⟩)
  · have c1 : v1.toInt < 8 := ti_ge_n c1
    refine mp_a (a_aload_n dX4_takeCreases_18 rfl) (mpp 19 rfl ?_)
    refine mt_callv (i := 56) (q' := q_102) (As := []) (rest := []) hT dX4_takeCreases_19 rfl qm_102 (by decide) rfl rl_289 (by decide) rfl (Nat.le_of_ble_eq_true rfl) rfl ⟨rfl, rfl⟩ ⟨Nat.le_of_ble_eq_true rfl, Nat.le_of_ble_eq_true rfl⟩ (EvP.mono (by decide) (c_CS_takeKind_Script hT )) (fun r8 P9 g10 => mpp 22 rfl ?_)
    obtain ⟨⟨x11, rfl, g12⟩, hT13, k14, R15⟩ := g10
    have k16 : KW [514, 517, 518, 519] Po P9 := KW.trans hK k14 rfl
    have wx11 := ti_full x11
    have g12 : 0 ≤ x11.toInt ∧ x11.toInt ≤ 1 := g12
    show MEvP _ none q_101 22 [(0, .ref 289), (1, .int v1)] [.int x11] _ _ _ _
    refine mp_Tb (t := 57) (j_if_eq dX4_takeCreases_22) (by decide) (fun c17 => ?_) (fun c17 => mpp 25 rfl ?_)
    · have c17 : x11.toInt = 0 := ti_eq c17
      refine mp_a (a_aload_n dX4_takeCreases_57 rfl) (mpp 58 rfl ?_)
      have g18 := ti_full (fv P9 289 6)
      refine mt_getI (i := 69) (k := 6) hT13 dX4_takeCreases_58 rfl rl_289 (by decide) rfl (by decide) rfl (fun g19 g20 => mpp 61 rfl ?_)
      refine mp_Tb (t := 68) (j_if_le dX4_takeCreases_61) (by decide) (fun c21 => ?_) (fun c21 => mpp 64 rfl ?_)
      · have c21 : (fv P9 289 6).toInt ≤ 0 := ti_le c21
        refine mp_a (a_iconst (v := 0) dX4_takeCreases_68 rfl) (mpp 69 rfl ?_)
        have u22 : 0 ≤ (0 : Int) ∧ (0 : Int) ≤ 1 := by omega
        exact mp_iret ⟨⟨_, rfl, u22⟩, hT13, k16, trivial⟩ dX4_takeCreases_69 (Or.inr ⟨rfl, by decide⟩)
      · have c21 : (fv P9 289 6).toInt > 0 := ti_le_n c21
        refine mp_a (a_iconst (v := 1) dX4_takeCreases_64 rfl) (mpp 65 rfl ?_)
        refine mp_a (a_goto (t := 69) dX4_takeCreases_65 (by decide)) ?_
        have u23 : 0 ≤ (1 : Int) ∧ (1 : Int) ≤ 1 := by omega
        exact mp_iret ⟨⟨_, rfl, u23⟩, hT13, k16, trivial⟩ dX4_takeCreases_69 (Or.inr ⟨rfl, by decide⟩)
    · have c17 : x11.toInt ≠ 0 := ti_eq_n c17
      refine mp_a (a_aload_n dX4_takeCreases_25 rfl) (mpp 26 rfl ?_)
      refine mp_a (a_aload_n dX4_takeCreases_26 rfl) (mpp 27 rfl ?_)
      have g24 := ti_full (fv P9 289 5)
      refine mt_getI (i := 66) (k := 5) hT13 dX4_takeCreases_27 rfl rl_289 (by decide) rfl (by decide) rfl (fun g25 g26 => mpp 30 rfl ?_)
      refine mp_a (a_bipush (v := 10) dX4_takeCreases_30 rfl) (mpp 32 rfl ?_)
      obtain ⟨z27, h28⟩ := ti_ex ((fv P9 289 5) * 10 : Int32)
      have wz27 := ti_full z27
      refine mp_t (s_imul (v := z27) dX4_takeCreases_32 h28) (mpp 33 rfl ?_)
      try have e29 : z27.toInt = (fv P9 289 5).toInt * 10 := ti_mulz h28 rfl rfl (by omega) (by omega)
      refine mp_a (a_aload_n dX4_takeCreases_33 rfl) (mpp 34 rfl ?_)
      have g30 := ti_full (fv P9 289 7)
      refine mt_getI (i := 72) (k := 7) hT13 dX4_takeCreases_34 rfl rl_289 (by decide) rfl (by decide) rfl (fun g31 g32 => mpp 37 rfl ?_)
      obtain ⟨z33, h34⟩ := ti_ex (z27 + (fv P9 289 7) : Int32)
      have wz33 := ti_full z33
      refine mp_t (s_iadd (v := z33) dX4_takeCreases_37 h34) (mpp 38 rfl ?_)
      try have e35 : z33.toInt = z27.toInt + (fv P9 289 7).toInt := ti_addz h34 rfl rfl (by omega) (by omega)
      refine mt_putI (i := 66) (k := 5) (x := z33) hT13 dX4_takeCreases_38 rfl rl_289 (by decide) rfl (by decide) rfl (ti_full z33) rfl rfl (fun P36 hT37 f38 f39 => mpp 41 rfl ?_)
      have k40 : KW [514, 517, 518, 519] Po P36 := KW.step k16 rl_289 rfl f39
      have e41 : (fv P36 289 5).toInt = z33.toInt := congrArg Int32.toInt f38
      refine mp_a (a_aload_n dX4_takeCreases_41 rfl) (mpp 42 rfl ?_)
      refine mp_t (s_dup dX4_takeCreases_42 rfl) (mpp 43 rfl ?_)
      have g42 := ti_full (fv P36 289 6)
      refine mt_getI (i := 69) (k := 6) hT37 dX4_takeCreases_43 rfl rl_289 (by decide) rfl (by decide) rfl (fun g43 g44 => mpp 46 rfl ?_)
      refine mp_a (a_iconst (v := 1) dX4_takeCreases_46 rfl) (mpp 47 rfl ?_)
      obtain ⟨z45, h46⟩ := ti_ex ((fv P36 289 6) + 1 : Int32)
      have wz45 := ti_full z45
      refine mp_t (s_iadd (v := z45) dX4_takeCreases_47 h46) (mpp 48 rfl ?_)
      try have e47 : z45.toInt = (fv P36 289 6).toInt + 1 := ti_addz h46 rfl rfl (by omega) (by omega)
      refine mt_putI (i := 69) (k := 6) (x := z45) hT37 dX4_takeCreases_48 rfl rl_289 (by decide) rfl (by decide) rfl (ti_full z45) rfl rfl (fun P48 hT49 f50 f51 => mpp 51 rfl ?_)
      have k52 : KW [514, 517, 518, 519] Po P48 := KW.step k40 rl_289 rfl f51
      have e53 : (fv P48 289 6).toInt = z45.toInt := congrArg Int32.toInt f50
      obtain ⟨z54, h55⟩ := ti_ex (v1 + 1 : Int32)
      have wz54 := ti_full z54
      refine mp_a (a_iinc (v := z54) (L' := [(1, .int z54), (0, .ref 289)]) dX4_takeCreases_51 (by decide) rfl h55 rfl) (mpp 54 rfl ?_)
      try have e56 : z54.toInt = v1.toInt + 1 := ti_addz h55 rfl rfl (by omega) (by omega)
      refine mp_a (a_goto (t := 12) dX4_takeCreases_54 (by decide)) ?_
      refine MEvP.less (L := [(0, .ref 289), (1, .int z54)]) rfl rfl ⟨rfl, rfl, trivial⟩ ?_
      have i57 : 0 ≤ z54.toInt := by omega
      exact ih _ (by omega) _ P48 hT49 k52 i57 rfl

set_option maxHeartbeats 4000000 in
theorem c_CS_takeCreases_Script {Po : mP}  (hT : Typ Po)   : EvP 4 101 [.ref 289] Po (fun r P' => (∃ x : Int32, r = some (.int x) ∧ (0 ≤ x.toInt ∧ x.toInt ≤ 1)) ∧ Typ P' ∧ KW [514, 517, 518, 519] Po P' ∧ True) := by
  refine EvP.of qm_101 (Nat.le_of_ble_eq_true rfl) rfl ?_
  show MEvP _ none q_101 0 [(0, .ref 289)] [] _ 0 0 _
  refine mp_a (a_aload_n dX4_takeCreases_0 rfl) (mpp 1 rfl ?_)
  refine mp_a (a_iconst (v := 0) dX4_takeCreases_1 rfl) (mpp 2 rfl ?_)
  refine mt_putI (i := 66) (k := 5) (x := 0) hT dX4_takeCreases_2 rfl rl_289 (by decide) rfl (by decide) rfl (by decide) rfl rfl (fun P1 hT2 f3 f4 => mpp 5 rfl ?_)
  have k5 : KW [514, 517, 518, 519] Po P1 := KW.step KW.refl rl_289 rfl f4
  have e6 : (fv P1 289 5).toInt = 0 := congrArg Int32.toInt f3
  refine mp_a (a_aload_n dX4_takeCreases_5 rfl) (mpp 6 rfl ?_)
  refine mp_a (a_iconst (v := 0) dX4_takeCreases_6 rfl) (mpp 7 rfl ?_)
  refine mt_putI (i := 69) (k := 6) (x := 0) hT2 dX4_takeCreases_7 rfl rl_289 (by decide) rfl (by decide) rfl (by decide) rfl rfl (fun P7 hT8 f9 f10 => mpp 10 rfl ?_)
  have k11 : KW [514, 517, 518, 519] Po P7 := KW.step k5 rl_289 rfl f10
  have e12 : (fv P7 289 6).toInt = 0 := congrArg Int32.toInt f9
  refine mp_a (a_iconst (v := 0) dX4_takeCreases_10 rfl) (mpp 11 rfl ?_)
  refine mp_a (a_istore_n (L' := [(1, .int 0), (0, .ref 289)]) dX4_takeCreases_11 (by decide) rfl) (mpp 12 rfl ?_)
  refine MEvP.less (L := [(0, .ref 289), (1, .int 0)]) rfl rfl ⟨rfl, rfl, trivial⟩ ?_
  have i13 : 0 ≤ (0 : Int) := by omega
  exact c_CS_takeCreases_Script_l12   _ _ P7 hT8 k11 i13 rfl

set_option maxHeartbeats 4000000 in
theorem c_CS_takeDigit_Script {Po : mP}  (hT : Typ Po)   : EvP 3 104 [.ref 289] Po (fun r P' => (∃ x : Int32, r = some (.int x) ∧ (0 ≤ x.toInt ∧ x.toInt ≤ 1)) ∧ Typ P' ∧ KW [514] Po P' ∧ True) := by
  refine EvP.of qm_104 (Nat.le_of_ble_eq_true rfl) rfl ?_
  show MEvP _ none q_104 0 [(0, .ref 289)] [] _ 0 0 _
  refine mp_a (a_aload_n dX4_takeDigit_0 rfl) (mpp 1 rfl ?_)
  refine mt_callv (i := 37) (q' := q_98) (As := []) (rest := []) hT dX4_takeDigit_1 rfl qm_98 (by decide) rfl rl_289 (by decide) rfl (Nat.le_of_ble_eq_true rfl) rfl ⟨rfl, rfl⟩ ⟨Nat.le_of_ble_eq_true rfl, Nat.le_of_ble_eq_true rfl⟩ (EvP.mono (by decide) (c_CS_codeHere_Script hT )) (fun r1 P2 g3 => mpp 4 rfl ?_)
  obtain ⟨⟨x4, rfl, g5⟩, e6⟩ := g3
  have e6 := e6.symm
  subst e6
  have wx4 := ti_full x4
  show MEvP _ none q_104 4 [(0, .ref 289)] [.int x4] _ _ _ _
  refine mp_a (a_bipush (v := 48) dX4_takeDigit_4 rfl) (mpp 6 rfl ?_)
  refine mp_Tb (t := 18) (j_icmp_lt dX4_takeDigit_6) (by decide) (fun c7 => ?_) (fun c7 => mpp 9 rfl ?_)
  · have c7 : x4.toInt < 48 := ti_lt c7
    refine mp_a (a_iconst (v := 0) dX4_takeDigit_18 rfl) (mpp 19 rfl ?_)
    have u8 : 0 ≤ (0 : Int) ∧ (0 : Int) ≤ 1 := by omega
    exact mp_iret ⟨⟨_, rfl, u8⟩, hT, KW.refl, trivial⟩ dX4_takeDigit_19 (Or.inr ⟨rfl, by decide⟩)
  · have c7 : x4.toInt ≥ 48 := ti_lt_n c7
    refine mp_a (a_aload_n dX4_takeDigit_9 rfl) (mpp 10 rfl ?_)
    refine mt_callv (i := 37) (q' := q_98) (As := []) (rest := []) hT dX4_takeDigit_10 rfl qm_98 (by decide) rfl rl_289 (by decide) rfl (Nat.le_of_ble_eq_true rfl) rfl ⟨rfl, rfl⟩ ⟨Nat.le_of_ble_eq_true rfl, Nat.le_of_ble_eq_true rfl⟩ (EvP.mono (by decide) (c_CS_codeHere_Script hT )) (fun r9 P10 g11 => mpp 13 rfl ?_)
    obtain ⟨⟨x12, rfl, g13⟩, e14⟩ := g11
    have e14 := e14.symm
    subst e14
    have wx12 := ti_full x12
    show MEvP _ none q_104 13 [(0, .ref 289)] [.int x12] _ _ _ _
    refine mp_a (a_bipush (v := 57) dX4_takeDigit_13 rfl) (mpp 15 rfl ?_)
    refine mp_Tb (t := 20) (j_icmp_le dX4_takeDigit_15) (by decide) (fun c15 => ?_) (fun c15 => mpp 18 rfl ?_)
    · have c15 : x12.toInt ≤ 57 := ti_le c15
      refine mp_a (a_aload_n dX4_takeDigit_20 rfl) (mpp 21 rfl ?_)
      refine mp_t (s_dup dX4_takeDigit_21 rfl) (mpp 22 rfl ?_)
      have g16 := ti_full (fv Po 289 2)
      refine mt_getI (i := 23) (k := 2) hT dX4_takeDigit_22 rfl rl_289 (by decide) rfl (by decide) rfl (fun g17 g18 => mpp 25 rfl ?_)
      refine mp_a (a_iconst (v := 1) dX4_takeDigit_25 rfl) (mpp 26 rfl ?_)
      obtain ⟨z19, h20⟩ := ti_ex ((fv Po 289 2) + 1 : Int32)
      have wz19 := ti_full z19
      refine mp_t (s_iadd (v := z19) dX4_takeDigit_26 h20) (mpp 27 rfl ?_)
      try have e21 : z19.toInt = (fv Po 289 2).toInt + 1 := ti_addz h20 rfl rfl (by omega) (by omega)
      refine mt_putI (i := 23) (k := 2) (x := z19) hT dX4_takeDigit_27 rfl rl_289 (by decide) rfl (by decide) rfl (ti_full z19) rfl rfl (fun P22 hT23 f24 f25 => mpp 30 rfl ?_)
      have k26 : KW [514] Po P22 := KW.step KW.refl rl_289 rfl f25
      have e27 : (fv P22 289 2).toInt = z19.toInt := congrArg Int32.toInt f24
      refine mp_a (a_iconst (v := 1) dX4_takeDigit_30 rfl) (mpp 31 rfl ?_)
      have u28 : 0 ≤ (1 : Int) ∧ (1 : Int) ≤ 1 := by omega
      exact mp_iret ⟨⟨_, rfl, u28⟩, hT23, k26, trivial⟩ dX4_takeDigit_31 (Or.inr ⟨rfl, by decide⟩)
    · have c15 : x12.toInt > 57 := ti_le_n c15
      refine mp_a (a_iconst (v := 0) dX4_takeDigit_18 rfl) (mpp 19 rfl ?_)
      have u29 : 0 ≤ (0 : Int) ∧ (0 : Int) ≤ 1 := by omega
      exact mp_iret ⟨⟨_, rfl, u29⟩, hT, KW.refl, trivial⟩ dX4_takeDigit_19 (Or.inr ⟨rfl, by decide⟩)

set_option maxHeartbeats 4000000 in
theorem c_CS_takePiece_Script {Po : mP}  (hT : Typ Po)   : EvP 4 103 [.ref 289] Po (fun r P' => (∃ x : Int32, r = some (.int x) ∧ (0 ≤ x.toInt ∧ x.toInt ≤ 1)) ∧ Typ P' ∧ KW [514, 516] Po P' ∧ True) := by
  refine EvP.of qm_103 (Nat.le_of_ble_eq_true rfl) rfl ?_
  show MEvP _ none q_103 0 [(0, .ref 289)] [] _ 0 0 _
  refine mp_a (a_aload_n dX4_takePiece_0 rfl) (mpp 1 rfl ?_)
  refine mp_a (a_aload_n dX4_takePiece_1 rfl) (mpp 2 rfl ?_)
  refine mt_callv (i := 37) (q' := q_98) (As := []) (rest := [.ref 289]) hT dX4_takePiece_2 rfl qm_98 (by decide) rfl rl_289 (by decide) rfl (Nat.le_of_ble_eq_true rfl) rfl ⟨rfl, rfl⟩ ⟨Nat.le_of_ble_eq_true rfl, Nat.le_of_ble_eq_true rfl⟩ (EvP.mono (by decide) (c_CS_codeHere_Script hT )) (fun r1 P2 g3 => mpp 5 rfl ?_)
  obtain ⟨⟨x4, rfl, g5⟩, e6⟩ := g3
  have e6 := e6.symm
  subst e6
  have wx4 := ti_full x4
  show MEvP _ none q_103 5 [(0, .ref 289)] [.int x4, .ref 289] _ _ _ _
  refine mp_a (a_bipush (v := 48) dX4_takePiece_5 rfl) (mpp 7 rfl ?_)
  obtain ⟨z7, h8⟩ := ti_ex (x4 - 48 : Int32)
  have wz7 := ti_full z7
  refine mp_t (s_isub (v := z7) dX4_takePiece_7 h8) (mpp 8 rfl ?_)
  try have e9 : z7.toInt = x4.toInt - 48 := ti_subz h8 rfl rfl (by omega) (by omega)
  refine mt_putI (i := 63) (k := 4) (x := z7) hT dX4_takePiece_8 rfl rl_289 (by decide) rfl (by decide) rfl (ti_full z7) rfl rfl (fun P10 hT11 f12 f13 => mpp 11 rfl ?_)
  have k14 : KW [514, 516] Po P10 := KW.step KW.refl rl_289 rfl f13
  have e15 : (fv P10 289 4).toInt = z7.toInt := congrArg Int32.toInt f12
  refine mp_a (a_aload_n dX4_takePiece_11 rfl) (mpp 12 rfl ?_)
  refine mt_callv (i := 75) (q' := q_104) (As := []) (rest := []) hT11 dX4_takePiece_12 rfl qm_104 (by decide) rfl rl_289 (by decide) rfl (Nat.le_of_ble_eq_true rfl) rfl ⟨rfl, rfl⟩ ⟨Nat.le_of_ble_eq_true rfl, Nat.le_of_ble_eq_true rfl⟩ (EvP.mono (by decide) (c_CS_takeDigit_Script hT11 )) (fun r16 P17 g18 => mpp 15 rfl ?_)
  obtain ⟨⟨x19, rfl, g20⟩, hT21, k22, R23⟩ := g18
  have k24 : KW [514, 516] Po P17 := KW.trans k14 k22 rfl
  have wx19 := ti_full x19
  have g20 : 0 ≤ x19.toInt ∧ x19.toInt ≤ 1 := g20
  show MEvP _ none q_103 15 [(0, .ref 289)] [.int x19] _ _ _ _
  have u25 : 0 ≤ x19.toInt ∧ x19.toInt ≤ 1 := by omega
  exact mp_iret ⟨⟨_, rfl, u25⟩, hT21, k24, trivial⟩ dX4_takePiece_15 (Or.inr ⟨rfl, ti_01 (by omega)⟩)

set_option maxHeartbeats 4000000 in
theorem c_CS_takeCrease_Script {Po : mP}  (hT : Typ Po)   : EvP 4 105 [.ref 289] Po (fun r P' => (∃ x : Int32, r = some (.int x) ∧ (0 ≤ x.toInt ∧ x.toInt ≤ 1)) ∧ Typ P' ∧ KW [514, 517] Po P' ∧ True) := by
  refine EvP.of qm_105 (Nat.le_of_ble_eq_true rfl) rfl ?_
  show MEvP _ none q_105 0 [(0, .ref 289)] [] _ 0 0 _
  refine mp_a (a_aload_n dX4_takeCrease_0 rfl) (mpp 1 rfl ?_)
  refine mp_a (a_aload_n dX4_takeCrease_1 rfl) (mpp 2 rfl ?_)
  refine mt_callv (i := 37) (q' := q_98) (As := []) (rest := [.ref 289]) hT dX4_takeCrease_2 rfl qm_98 (by decide) rfl rl_289 (by decide) rfl (Nat.le_of_ble_eq_true rfl) rfl ⟨rfl, rfl⟩ ⟨Nat.le_of_ble_eq_true rfl, Nat.le_of_ble_eq_true rfl⟩ (EvP.mono (by decide) (c_CS_codeHere_Script hT )) (fun r1 P2 g3 => mpp 5 rfl ?_)
  obtain ⟨⟨x4, rfl, g5⟩, e6⟩ := g3
  have e6 := e6.symm
  subst e6
  have wx4 := ti_full x4
  show MEvP _ none q_105 5 [(0, .ref 289)] [.int x4, .ref 289] _ _ _ _
  refine mp_a (a_bipush (v := 48) dX4_takeCrease_5 rfl) (mpp 7 rfl ?_)
  obtain ⟨z7, h8⟩ := ti_ex (x4 - 48 : Int32)
  have wz7 := ti_full z7
  refine mp_t (s_isub (v := z7) dX4_takeCrease_7 h8) (mpp 8 rfl ?_)
  try have e9 : z7.toInt = x4.toInt - 48 := ti_subz h8 rfl rfl (by omega) (by omega)
  refine mt_putI (i := 66) (k := 5) (x := z7) hT dX4_takeCrease_8 rfl rl_289 (by decide) rfl (by decide) rfl (ti_full z7) rfl rfl (fun P10 hT11 f12 f13 => mpp 11 rfl ?_)
  have k14 : KW [514, 517] Po P10 := KW.step KW.refl rl_289 rfl f13
  have e15 : (fv P10 289 5).toInt = z7.toInt := congrArg Int32.toInt f12
  refine mp_a (a_aload_n dX4_takeCrease_11 rfl) (mpp 12 rfl ?_)
  refine mt_callv (i := 75) (q' := q_104) (As := []) (rest := []) hT11 dX4_takeCrease_12 rfl qm_104 (by decide) rfl rl_289 (by decide) rfl (Nat.le_of_ble_eq_true rfl) rfl ⟨rfl, rfl⟩ ⟨Nat.le_of_ble_eq_true rfl, Nat.le_of_ble_eq_true rfl⟩ (EvP.mono (by decide) (c_CS_takeDigit_Script hT11 )) (fun r16 P17 g18 => mpp 15 rfl ?_)
  obtain ⟨⟨x19, rfl, g20⟩, hT21, k22, R23⟩ := g18
  have k24 : KW [514, 517] Po P17 := KW.trans k14 k22 rfl
  have wx19 := ti_full x19
  have g20 : 0 ≤ x19.toInt ∧ x19.toInt ≤ 1 := g20
  show MEvP _ none q_105 15 [(0, .ref 289)] [.int x19] _ _ _ _
  have u25 : 0 ≤ x19.toInt ∧ x19.toInt ≤ 1 := by omega
  exact mp_iret ⟨⟨_, rfl, u25⟩, hT21, k24, trivial⟩ dX4_takeCrease_15 (Or.inr ⟨rfl, ti_01 (by omega)⟩)

set_option maxHeartbeats 4000000 in
theorem c_CS_takeCommand_Script {Po : mP}  (hT : Typ Po)   : EvP 5 97 [.ref 289] Po (fun r P' => (∃ x : Int32, r = some (.int x) ∧ (0 ≤ x.toInt ∧ x.toInt ≤ 1)) ∧ Typ P' ∧ KW [514, 515, 516, 517, 518, 519] Po P' ∧ True) := by
  refine EvP.of qm_97 (Nat.le_of_ble_eq_true rfl) rfl ?_
  show MEvP _ none q_97 0 [(0, .ref 289)] [] _ 0 0 _
  refine mp_a (a_aload_n dX4_takeCommand_0 rfl) (mpp 1 rfl ?_)
  refine mp_a (a_aload_n dX4_takeCommand_1 rfl) (mpp 2 rfl ?_)
  refine mt_callv (i := 37) (q' := q_98) (As := []) (rest := [.ref 289]) hT dX4_takeCommand_2 rfl qm_98 (by decide) rfl rl_289 (by decide) rfl (Nat.le_of_ble_eq_true rfl) rfl ⟨rfl, rfl⟩ ⟨Nat.le_of_ble_eq_true rfl, Nat.le_of_ble_eq_true rfl⟩ (EvP.mono (by decide) (c_CS_codeHere_Script hT )) (fun r1 P2 g3 => mpp 5 rfl ?_)
  obtain ⟨⟨x4, rfl, g5⟩, e6⟩ := g3
  have e6 := e6.symm
  subst e6
  have wx4 := ti_full x4
  show MEvP _ none q_97 5 [(0, .ref 289)] [.int x4, .ref 289] _ _ _ _
  refine mt_putI (i := 41) (k := 3) (x := x4) hT dX4_takeCommand_5 rfl rl_289 (by decide) rfl (by decide) rfl (ti_full x4) rfl rfl (fun P7 hT8 f9 f10 => mpp 8 rfl ?_)
  have k11 : KW [514, 515, 516, 517, 518, 519] Po P7 := KW.step KW.refl rl_289 rfl f10
  have e12 : (fv P7 289 3).toInt = x4.toInt := congrArg Int32.toInt f9
  refine mp_a (a_aload_n dX4_takeCommand_8 rfl) (mpp 9 rfl ?_)
  refine mt_getI (i := 41) (k := 3) hT8 dX4_takeCommand_9 rfl rl_289 (by decide) rfl (by decide) rfl (fun g13 g14 => mpp 12 rfl ?_)
  have c15 : ((fv P7 289 3).toInt < 99 ∨ 120 < (fv P7 289 3).toInt) ∨ (fv P7 289 3).toInt = 99 ∨ (fv P7 289 3).toInt = 100 ∨ (fv P7 289 3).toInt = 101 ∨ (fv P7 289 3).toInt = 102 ∨ (fv P7 289 3).toInt = 103 ∨ (fv P7 289 3).toInt = 104 ∨ (fv P7 289 3).toInt = 105 ∨ (fv P7 289 3).toInt = 106 ∨ (fv P7 289 3).toInt = 107 ∨ (fv P7 289 3).toInt = 108 ∨ (fv P7 289 3).toInt = 109 ∨ (fv P7 289 3).toInt = 110 ∨ (fv P7 289 3).toInt = 111 ∨ (fv P7 289 3).toInt = 112 ∨ (fv P7 289 3).toInt = 113 ∨ (fv P7 289 3).toInt = 114 ∨ (fv P7 289 3).toInt = 115 ∨ (fv P7 289 3).toInt = 116 ∨ (fv P7 289 3).toInt = 117 ∨ (fv P7 289 3).toInt = 118 ∨ (fv P7 289 3).toInt = 119 ∨ (fv P7 289 3).toInt = 120 := by omega
  rcases c15 with c15 | c15 | c15 | c15 | c15 | c15 | c15 | c15 | c15 | c15 | c15 | c15 | c15 | c15 | c15 | c15 | c15 | c15 | c15 | c15 | c15 | c15 | c15
  · refine mp_t (s_tabOut (t := 225) dX4_takeCommand_12 c15 (by decide)) ?_
    refine mp_a (a_iconst (v := 0) dX4_takeCommand_225 rfl) (mpp 226 rfl ?_)
    have u16 : 0 ≤ (0 : Int) ∧ (0 : Int) ≤ 1 := by omega
    exact mp_iret ⟨⟨_, rfl, u16⟩, hT8, k11, trivial⟩ dX4_takeCommand_226 (Or.inr ⟨rfl, by decide⟩)
  · refine mp_t (s_tabIn (t := 116) (off := 104) dX4_takeCommand_12 (by omega) (by rw [c15]; rfl) (by decide)) ?_
    refine mp_a (a_aload_n dX4_takeCommand_116 rfl) (mpp 117 rfl ?_)
    refine mp_t (s_dup dX4_takeCommand_117 rfl) (mpp 118 rfl ?_)
    have g17 := ti_full (fv P7 289 2)
    refine mt_getI (i := 23) (k := 2) hT8 dX4_takeCommand_118 rfl rl_289 (by decide) rfl (by decide) rfl (fun g18 g19 => mpp 121 rfl ?_)
    refine mp_a (a_iconst (v := 1) dX4_takeCommand_121 rfl) (mpp 122 rfl ?_)
    obtain ⟨z20, h21⟩ := ti_ex ((fv P7 289 2) + 1 : Int32)
    have wz20 := ti_full z20
    refine mp_t (s_iadd (v := z20) dX4_takeCommand_122 h21) (mpp 123 rfl ?_)
    try have e22 : z20.toInt = (fv P7 289 2).toInt + 1 := ti_addz h21 rfl rfl (by omega) (by omega)
    refine mt_putI (i := 23) (k := 2) (x := z20) hT8 dX4_takeCommand_123 rfl rl_289 (by decide) rfl (by decide) rfl (ti_full z20) rfl rfl (fun P23 hT24 f25 f26 => mpp 126 rfl ?_)
    have k27 : KW [514, 515, 516, 517, 518, 519] Po P23 := KW.step k11 rl_289 rfl f26
    have e28 : (fv P23 289 2).toInt = z20.toInt := congrArg Int32.toInt f25
    refine mp_a (a_aload_n dX4_takeCommand_126 rfl) (mpp 127 rfl ?_)
    refine mt_callv (i := 44) (q' := q_99) (As := []) (rest := []) hT24 dX4_takeCommand_127 rfl qm_99 (by decide) rfl rl_289 (by decide) rfl (Nat.le_of_ble_eq_true rfl) rfl ⟨rfl, rfl⟩ ⟨Nat.le_of_ble_eq_true rfl, Nat.le_of_ble_eq_true rfl⟩ (EvP.mono (by decide) (c_CS_takeSizes_Script hT24 )) (fun r29 P30 g31 => mpp 130 rfl ?_)
    obtain ⟨⟨x32, rfl, g33⟩, hT34, k35, R36⟩ := g31
    have k37 : KW [514, 515, 516, 517, 518, 519] Po P30 := KW.trans k27 k35 rfl
    have wx32 := ti_full x32
    have g33 : 0 ≤ x32.toInt ∧ x32.toInt ≤ 1 := g33
    show MEvP _ none q_97 130 [(0, .ref 289)] [.int x32] _ _ _ _
    refine mp_Tb (t := 153) (j_if_eq dX4_takeCommand_130) (by decide) (fun c38 => ?_) (fun c38 => mpp 133 rfl ?_)
    · have c38 : x32.toInt = 0 := ti_eq c38
      refine mp_a (a_iconst (v := 0) dX4_takeCommand_153 rfl) (mpp 154 rfl ?_)
      have u39 : 0 ≤ (0 : Int) ∧ (0 : Int) ≤ 1 := by omega
      exact mp_iret ⟨⟨_, rfl, u39⟩, hT34, k37, trivial⟩ dX4_takeCommand_154 (Or.inr ⟨rfl, by decide⟩)
    · have c38 : x32.toInt ≠ 0 := ti_eq_n c38
      refine mp_a (a_aload_n dX4_takeCommand_133 rfl) (mpp 134 rfl ?_)
      refine mp_a (a_bipush (v := 58) dX4_takeCommand_134 rfl) (mpp 136 rfl ?_)
      refine mt_callv (i := 33) (q' := q_100) (As := [.int 58]) (rest := []) hT34 dX4_takeCommand_136 rfl qm_100 (by decide) rfl rl_289 (by decide) rfl (Nat.le_of_ble_eq_true rfl) rfl ⟨rfl, rfl⟩ ⟨Nat.le_of_ble_eq_true rfl, Nat.le_of_ble_eq_true rfl⟩ (EvP.mono (by decide) (c_CS_takeSign_Script hT34 )) (fun r40 P41 g42 => mpp 139 rfl ?_)
      obtain ⟨⟨x43, rfl, g44⟩, hT45, k46, R47⟩ := g42
      have k48 : KW [514, 515, 516, 517, 518, 519] Po P41 := KW.trans k37 k46 rfl
      have wx43 := ti_full x43
      have g44 : 0 ≤ x43.toInt ∧ x43.toInt ≤ 1 := g44
      show MEvP _ none q_97 139 [(0, .ref 289)] [.int x43] _ _ _ _
      refine mp_Tb (t := 153) (j_if_eq dX4_takeCommand_139) (by decide) (fun c49 => ?_) (fun c49 => mpp 142 rfl ?_)
      · have c49 : x43.toInt = 0 := ti_eq c49
        refine mp_a (a_iconst (v := 0) dX4_takeCommand_153 rfl) (mpp 154 rfl ?_)
        have u50 : 0 ≤ (0 : Int) ∧ (0 : Int) ≤ 1 := by omega
        exact mp_iret ⟨⟨_, rfl, u50⟩, hT45, k48, trivial⟩ dX4_takeCommand_154 (Or.inr ⟨rfl, by decide⟩)
      · have c49 : x43.toInt ≠ 0 := ti_eq_n c49
        refine mp_a (a_aload_n dX4_takeCommand_142 rfl) (mpp 143 rfl ?_)
        refine mt_callv (i := 47) (q' := q_101) (As := []) (rest := []) hT45 dX4_takeCommand_143 rfl qm_101 (by decide) rfl rl_289 (by decide) rfl (Nat.le_of_ble_eq_true rfl) rfl ⟨rfl, rfl⟩ ⟨Nat.le_of_ble_eq_true rfl, Nat.le_of_ble_eq_true rfl⟩ (EvP.mono (by decide) (c_CS_takeCreases_Script hT45 )) (fun r51 P52 g53 => mpp 146 rfl ?_)
        obtain ⟨⟨x54, rfl, g55⟩, hT56, k57, R58⟩ := g53
        have k59 : KW [514, 515, 516, 517, 518, 519] Po P52 := KW.trans k48 k57 rfl
        have wx54 := ti_full x54
        have g55 : 0 ≤ x54.toInt ∧ x54.toInt ≤ 1 := g55
        show MEvP _ none q_97 146 [(0, .ref 289)] [.int x54] _ _ _ _
        refine mp_Tb (t := 153) (j_if_eq dX4_takeCommand_146) (by decide) (fun c60 => ?_) (fun c60 => mpp 149 rfl ?_)
        · have c60 : x54.toInt = 0 := ti_eq c60
          refine mp_a (a_iconst (v := 0) dX4_takeCommand_153 rfl) (mpp 154 rfl ?_)
          have u61 : 0 ≤ (0 : Int) ∧ (0 : Int) ≤ 1 := by omega
          exact mp_iret ⟨⟨_, rfl, u61⟩, hT56, k59, trivial⟩ dX4_takeCommand_154 (Or.inr ⟨rfl, by decide⟩)
        · have c60 : x54.toInt ≠ 0 := ti_eq_n c60
          refine mp_a (a_iconst (v := 1) dX4_takeCommand_149 rfl) (mpp 150 rfl ?_)
          refine mp_a (a_goto (t := 154) dX4_takeCommand_150 (by decide)) ?_
          have u62 : 0 ≤ (1 : Int) ∧ (1 : Int) ≤ 1 := by omega
          exact mp_iret ⟨⟨_, rfl, u62⟩, hT56, k59, trivial⟩ dX4_takeCommand_154 (Or.inr ⟨rfl, by decide⟩)
  · refine mp_t (s_tabIn (t := 225) (off := 213) dX4_takeCommand_12 (by omega) (by rw [c15]; rfl) (by decide)) ?_
    refine mp_a (a_iconst (v := 0) dX4_takeCommand_225 rfl) (mpp 226 rfl ?_)
    have u63 : 0 ≤ (0 : Int) ∧ (0 : Int) ≤ 1 := by omega
    exact mp_iret ⟨⟨_, rfl, u63⟩, hT8, k11, trivial⟩ dX4_takeCommand_226 (Or.inr ⟨rfl, by decide⟩)
  · refine mp_t (s_tabIn (t := 225) (off := 213) dX4_takeCommand_12 (by omega) (by rw [c15]; rfl) (by decide)) ?_
    refine mp_a (a_iconst (v := 0) dX4_takeCommand_225 rfl) (mpp 226 rfl ?_)
    have u64 : 0 ≤ (0 : Int) ∧ (0 : Int) ≤ 1 := by omega
    exact mp_iret ⟨⟨_, rfl, u64⟩, hT8, k11, trivial⟩ dX4_takeCommand_226 (Or.inr ⟨rfl, by decide⟩)
  · refine mp_t (s_tabIn (t := 210) (off := 198) dX4_takeCommand_12 (by omega) (by rw [c15]; rfl) (by decide)) ?_
    refine mp_a (a_aload_n dX4_takeCommand_210 rfl) (mpp 211 rfl ?_)
    refine mp_t (s_dup dX4_takeCommand_211 rfl) (mpp 212 rfl ?_)
    have g65 := ti_full (fv P7 289 2)
    refine mt_getI (i := 23) (k := 2) hT8 dX4_takeCommand_212 rfl rl_289 (by decide) rfl (by decide) rfl (fun g66 g67 => mpp 215 rfl ?_)
    refine mp_a (a_iconst (v := 1) dX4_takeCommand_215 rfl) (mpp 216 rfl ?_)
    obtain ⟨z68, h69⟩ := ti_ex ((fv P7 289 2) + 1 : Int32)
    have wz68 := ti_full z68
    refine mp_t (s_iadd (v := z68) dX4_takeCommand_216 h69) (mpp 217 rfl ?_)
    try have e70 : z68.toInt = (fv P7 289 2).toInt + 1 := ti_addz h69 rfl rfl (by omega) (by omega)
    refine mt_putI (i := 23) (k := 2) (x := z68) hT8 dX4_takeCommand_217 rfl rl_289 (by decide) rfl (by decide) rfl (ti_full z68) rfl rfl (fun P71 hT72 f73 f74 => mpp 220 rfl ?_)
    have k75 : KW [514, 515, 516, 517, 518, 519] Po P71 := KW.step k11 rl_289 rfl f74
    have e76 : (fv P71 289 2).toInt = z68.toInt := congrArg Int32.toInt f73
    refine mp_a (a_aload_n dX4_takeCommand_220 rfl) (mpp 221 rfl ?_)
    refine mt_callv (i := 50) (q' := q_103) (As := []) (rest := []) hT72 dX4_takeCommand_221 rfl qm_103 (by decide) rfl rl_289 (by decide) rfl (Nat.le_of_ble_eq_true rfl) rfl ⟨rfl, rfl⟩ ⟨Nat.le_of_ble_eq_true rfl, Nat.le_of_ble_eq_true rfl⟩ (EvP.mono (by decide) (c_CS_takePiece_Script hT72 )) (fun r77 P78 g79 => mpp 224 rfl ?_)
    obtain ⟨⟨x80, rfl, g81⟩, hT82, k83, R84⟩ := g79
    have k85 : KW [514, 515, 516, 517, 518, 519] Po P78 := KW.trans k75 k83 rfl
    have wx80 := ti_full x80
    have g81 : 0 ≤ x80.toInt ∧ x80.toInt ≤ 1 := g81
    show MEvP _ none q_97 224 [(0, .ref 289)] [.int x80] _ _ _ _
    have u86 : 0 ≤ x80.toInt ∧ x80.toInt ≤ 1 := by omega
    exact mp_iret ⟨⟨_, rfl, u86⟩, hT82, k85, trivial⟩ dX4_takeCommand_224 (Or.inr ⟨rfl, ti_01 (by omega)⟩)
  · refine mp_t (s_tabIn (t := 225) (off := 213) dX4_takeCommand_12 (by omega) (by rw [c15]; rfl) (by decide)) ?_
    refine mp_a (a_iconst (v := 0) dX4_takeCommand_225 rfl) (mpp 226 rfl ?_)
    have u87 : 0 ≤ (0 : Int) ∧ (0 : Int) ≤ 1 := by omega
    exact mp_iret ⟨⟨_, rfl, u87⟩, hT8, k11, trivial⟩ dX4_takeCommand_226 (Or.inr ⟨rfl, by decide⟩)
  · refine mp_t (s_tabIn (t := 225) (off := 213) dX4_takeCommand_12 (by omega) (by rw [c15]; rfl) (by decide)) ?_
    refine mp_a (a_iconst (v := 0) dX4_takeCommand_225 rfl) (mpp 226 rfl ?_)
    have u88 : 0 ≤ (0 : Int) ∧ (0 : Int) ≤ 1 := by omega
    exact mp_iret ⟨⟨_, rfl, u88⟩, hT8, k11, trivial⟩ dX4_takeCommand_226 (Or.inr ⟨rfl, by decide⟩)
  · refine mp_t (s_tabIn (t := 225) (off := 213) dX4_takeCommand_12 (by omega) (by rw [c15]; rfl) (by decide)) ?_
    refine mp_a (a_iconst (v := 0) dX4_takeCommand_225 rfl) (mpp 226 rfl ?_)
    have u89 : 0 ≤ (0 : Int) ∧ (0 : Int) ≤ 1 := by omega
    exact mp_iret ⟨⟨_, rfl, u89⟩, hT8, k11, trivial⟩ dX4_takeCommand_226 (Or.inr ⟨rfl, by decide⟩)
  · refine mp_t (s_tabIn (t := 225) (off := 213) dX4_takeCommand_12 (by omega) (by rw [c15]; rfl) (by decide)) ?_
    refine mp_a (a_iconst (v := 0) dX4_takeCommand_225 rfl) (mpp 226 rfl ?_)
    have u90 : 0 ≤ (0 : Int) ∧ (0 : Int) ≤ 1 := by omega
    exact mp_iret ⟨⟨_, rfl, u90⟩, hT8, k11, trivial⟩ dX4_takeCommand_226 (Or.inr ⟨rfl, by decide⟩)
  · refine mp_t (s_tabIn (t := 225) (off := 213) dX4_takeCommand_12 (by omega) (by rw [c15]; rfl) (by decide)) ?_
    refine mp_a (a_iconst (v := 0) dX4_takeCommand_225 rfl) (mpp 226 rfl ?_)
    have u91 : 0 ≤ (0 : Int) ∧ (0 : Int) ≤ 1 := by omega
    exact mp_iret ⟨⟨_, rfl, u91⟩, hT8, k11, trivial⟩ dX4_takeCommand_226 (Or.inr ⟨rfl, by decide⟩)
  · refine mp_t (s_tabIn (t := 225) (off := 213) dX4_takeCommand_12 (by omega) (by rw [c15]; rfl) (by decide)) ?_
    refine mp_a (a_iconst (v := 0) dX4_takeCommand_225 rfl) (mpp 226 rfl ?_)
    have u92 : 0 ≤ (0 : Int) ∧ (0 : Int) ≤ 1 := by omega
    exact mp_iret ⟨⟨_, rfl, u92⟩, hT8, k11, trivial⟩ dX4_takeCommand_226 (Or.inr ⟨rfl, by decide⟩)
  · refine mp_t (s_tabIn (t := 155) (off := 143) dX4_takeCommand_12 (by omega) (by rw [c15]; rfl) (by decide)) ?_
    refine mp_a (a_aload_n dX4_takeCommand_155 rfl) (mpp 156 rfl ?_)
    refine mp_t (s_dup dX4_takeCommand_156 rfl) (mpp 157 rfl ?_)
    have g93 := ti_full (fv P7 289 2)
    refine mt_getI (i := 23) (k := 2) hT8 dX4_takeCommand_157 rfl rl_289 (by decide) rfl (by decide) rfl (fun g94 g95 => mpp 160 rfl ?_)
    refine mp_a (a_iconst (v := 1) dX4_takeCommand_160 rfl) (mpp 161 rfl ?_)
    obtain ⟨z96, h97⟩ := ti_ex ((fv P7 289 2) + 1 : Int32)
    have wz96 := ti_full z96
    refine mp_t (s_iadd (v := z96) dX4_takeCommand_161 h97) (mpp 162 rfl ?_)
    try have e98 : z96.toInt = (fv P7 289 2).toInt + 1 := ti_addz h97 rfl rfl (by omega) (by omega)
    refine mt_putI (i := 23) (k := 2) (x := z96) hT8 dX4_takeCommand_162 rfl rl_289 (by decide) rfl (by decide) rfl (ti_full z96) rfl rfl (fun P99 hT100 f101 f102 => mpp 165 rfl ?_)
    have k103 : KW [514, 515, 516, 517, 518, 519] Po P99 := KW.step k11 rl_289 rfl f102
    have e104 : (fv P99 289 2).toInt = z96.toInt := congrArg Int32.toInt f101
    refine mp_a (a_aload_n dX4_takeCommand_165 rfl) (mpp 166 rfl ?_)
    refine mt_callv (i := 50) (q' := q_103) (As := []) (rest := []) hT100 dX4_takeCommand_166 rfl qm_103 (by decide) rfl rl_289 (by decide) rfl (Nat.le_of_ble_eq_true rfl) rfl ⟨rfl, rfl⟩ ⟨Nat.le_of_ble_eq_true rfl, Nat.le_of_ble_eq_true rfl⟩ (EvP.mono (by decide) (c_CS_takePiece_Script hT100 )) (fun r105 P106 g107 => mpp 169 rfl ?_)
    obtain ⟨⟨x108, rfl, g109⟩, hT110, k111, R112⟩ := g107
    have k113 : KW [514, 515, 516, 517, 518, 519] Po P106 := KW.trans k103 k111 rfl
    have wx108 := ti_full x108
    have g109 : 0 ≤ x108.toInt ∧ x108.toInt ≤ 1 := g109
    show MEvP _ none q_97 169 [(0, .ref 289)] [.int x108] _ _ _ _
    refine mp_Tb (t := 208) (j_if_eq dX4_takeCommand_169) (by decide) (fun c114 => ?_) (fun c114 => mpp 172 rfl ?_)
    · have c114 : x108.toInt = 0 := ti_eq c114
      refine mp_a (a_iconst (v := 0) dX4_takeCommand_208 rfl) (mpp 209 rfl ?_)
      have u115 : 0 ≤ (0 : Int) ∧ (0 : Int) ≤ 1 := by omega
      exact mp_iret ⟨⟨_, rfl, u115⟩, hT110, k113, trivial⟩ dX4_takeCommand_209 (Or.inr ⟨rfl, by decide⟩)
    · have c114 : x108.toInt ≠ 0 := ti_eq_n c114
      refine mp_a (a_aload_n dX4_takeCommand_172 rfl) (mpp 173 rfl ?_)
      refine mp_a (a_bipush (v := 46) dX4_takeCommand_173 rfl) (mpp 175 rfl ?_)
      refine mt_callv (i := 33) (q' := q_100) (As := [.int 46]) (rest := []) hT110 dX4_takeCommand_175 rfl qm_100 (by decide) rfl rl_289 (by decide) rfl (Nat.le_of_ble_eq_true rfl) rfl ⟨rfl, rfl⟩ ⟨Nat.le_of_ble_eq_true rfl, Nat.le_of_ble_eq_true rfl⟩ (EvP.mono (by decide) (c_CS_takeSign_Script hT110 )) (fun r116 P117 g118 => mpp 178 rfl ?_)
      obtain ⟨⟨x119, rfl, g120⟩, hT121, k122, R123⟩ := g118
      have k124 : KW [514, 515, 516, 517, 518, 519] Po P117 := KW.trans k113 k122 rfl
      have wx119 := ti_full x119
      have g120 : 0 ≤ x119.toInt ∧ x119.toInt ≤ 1 := g120
      show MEvP _ none q_97 178 [(0, .ref 289)] [.int x119] _ _ _ _
      refine mp_Tb (t := 208) (j_if_eq dX4_takeCommand_178) (by decide) (fun c125 => ?_) (fun c125 => mpp 181 rfl ?_)
      · have c125 : x119.toInt = 0 := ti_eq c125
        refine mp_a (a_iconst (v := 0) dX4_takeCommand_208 rfl) (mpp 209 rfl ?_)
        have u126 : 0 ≤ (0 : Int) ∧ (0 : Int) ≤ 1 := by omega
        exact mp_iret ⟨⟨_, rfl, u126⟩, hT121, k124, trivial⟩ dX4_takeCommand_209 (Or.inr ⟨rfl, by decide⟩)
      · have c125 : x119.toInt ≠ 0 := ti_eq_n c125
        refine mp_a (a_aload_n dX4_takeCommand_181 rfl) (mpp 182 rfl ?_)
        refine mt_callv (i := 53) (q' := q_105) (As := []) (rest := []) hT121 dX4_takeCommand_182 rfl qm_105 (by decide) rfl rl_289 (by decide) rfl (Nat.le_of_ble_eq_true rfl) rfl ⟨rfl, rfl⟩ ⟨Nat.le_of_ble_eq_true rfl, Nat.le_of_ble_eq_true rfl⟩ (EvP.mono (by decide) (c_CS_takeCrease_Script hT121 )) (fun r127 P128 g129 => mpp 185 rfl ?_)
        obtain ⟨⟨x130, rfl, g131⟩, hT132, k133, R134⟩ := g129
        have k135 : KW [514, 515, 516, 517, 518, 519] Po P128 := KW.trans k124 k133 rfl
        have wx130 := ti_full x130
        have g131 : 0 ≤ x130.toInt ∧ x130.toInt ≤ 1 := g131
        show MEvP _ none q_97 185 [(0, .ref 289)] [.int x130] _ _ _ _
        refine mp_Tb (t := 208) (j_if_eq dX4_takeCommand_185) (by decide) (fun c136 => ?_) (fun c136 => mpp 188 rfl ?_)
        · have c136 : x130.toInt = 0 := ti_eq c136
          refine mp_a (a_iconst (v := 0) dX4_takeCommand_208 rfl) (mpp 209 rfl ?_)
          have u137 : 0 ≤ (0 : Int) ∧ (0 : Int) ≤ 1 := by omega
          exact mp_iret ⟨⟨_, rfl, u137⟩, hT132, k135, trivial⟩ dX4_takeCommand_209 (Or.inr ⟨rfl, by decide⟩)
        · have c136 : x130.toInt ≠ 0 := ti_eq_n c136
          refine mp_a (a_aload_n dX4_takeCommand_188 rfl) (mpp 189 rfl ?_)
          refine mp_a (a_bipush (v := 61) dX4_takeCommand_189 rfl) (mpp 191 rfl ?_)
          refine mt_callv (i := 33) (q' := q_100) (As := [.int 61]) (rest := []) hT132 dX4_takeCommand_191 rfl qm_100 (by decide) rfl rl_289 (by decide) rfl (Nat.le_of_ble_eq_true rfl) rfl ⟨rfl, rfl⟩ ⟨Nat.le_of_ble_eq_true rfl, Nat.le_of_ble_eq_true rfl⟩ (EvP.mono (by decide) (c_CS_takeSign_Script hT132 )) (fun r138 P139 g140 => mpp 194 rfl ?_)
          obtain ⟨⟨x141, rfl, g142⟩, hT143, k144, R145⟩ := g140
          have k146 : KW [514, 515, 516, 517, 518, 519] Po P139 := KW.trans k135 k144 rfl
          have wx141 := ti_full x141
          have g142 : 0 ≤ x141.toInt ∧ x141.toInt ≤ 1 := g142
          show MEvP _ none q_97 194 [(0, .ref 289)] [.int x141] _ _ _ _
          refine mp_Tb (t := 208) (j_if_eq dX4_takeCommand_194) (by decide) (fun c147 => ?_) (fun c147 => mpp 197 rfl ?_)
          · have c147 : x141.toInt = 0 := ti_eq c147
            refine mp_a (a_iconst (v := 0) dX4_takeCommand_208 rfl) (mpp 209 rfl ?_)
            have u148 : 0 ≤ (0 : Int) ∧ (0 : Int) ≤ 1 := by omega
            exact mp_iret ⟨⟨_, rfl, u148⟩, hT143, k146, trivial⟩ dX4_takeCommand_209 (Or.inr ⟨rfl, by decide⟩)
          · have c147 : x141.toInt ≠ 0 := ti_eq_n c147
            refine mp_a (a_aload_n dX4_takeCommand_197 rfl) (mpp 198 rfl ?_)
            refine mt_callv (i := 56) (q' := q_102) (As := []) (rest := []) hT143 dX4_takeCommand_198 rfl qm_102 (by decide) rfl rl_289 (by decide) rfl (Nat.le_of_ble_eq_true rfl) rfl ⟨rfl, rfl⟩ ⟨Nat.le_of_ble_eq_true rfl, Nat.le_of_ble_eq_true rfl⟩ (EvP.mono (by decide) (c_CS_takeKind_Script hT143 )) (fun r149 P150 g151 => mpp 201 rfl ?_)
            obtain ⟨⟨x152, rfl, g153⟩, hT154, k155, R156⟩ := g151
            have k157 : KW [514, 515, 516, 517, 518, 519] Po P150 := KW.trans k146 k155 rfl
            have wx152 := ti_full x152
            have g153 : 0 ≤ x152.toInt ∧ x152.toInt ≤ 1 := g153
            show MEvP _ none q_97 201 [(0, .ref 289)] [.int x152] _ _ _ _
            refine mp_Tb (t := 208) (j_if_eq dX4_takeCommand_201) (by decide) (fun c158 => ?_) (fun c158 => mpp 204 rfl ?_)
            · have c158 : x152.toInt = 0 := ti_eq c158
              refine mp_a (a_iconst (v := 0) dX4_takeCommand_208 rfl) (mpp 209 rfl ?_)
              have u159 : 0 ≤ (0 : Int) ∧ (0 : Int) ≤ 1 := by omega
              exact mp_iret ⟨⟨_, rfl, u159⟩, hT154, k157, trivial⟩ dX4_takeCommand_209 (Or.inr ⟨rfl, by decide⟩)
            · have c158 : x152.toInt ≠ 0 := ti_eq_n c158
              refine mp_a (a_iconst (v := 1) dX4_takeCommand_204 rfl) (mpp 205 rfl ?_)
              refine mp_a (a_goto (t := 209) dX4_takeCommand_205 (by decide)) ?_
              have u160 : 0 ≤ (1 : Int) ∧ (1 : Int) ≤ 1 := by omega
              exact mp_iret ⟨⟨_, rfl, u160⟩, hT154, k157, trivial⟩ dX4_takeCommand_209 (Or.inr ⟨rfl, by decide⟩)
  · refine mp_t (s_tabIn (t := 225) (off := 213) dX4_takeCommand_12 (by omega) (by rw [c15]; rfl) (by decide)) ?_
    refine mp_a (a_iconst (v := 0) dX4_takeCommand_225 rfl) (mpp 226 rfl ?_)
    have u161 : 0 ≤ (0 : Int) ∧ (0 : Int) ≤ 1 := by omega
    exact mp_iret ⟨⟨_, rfl, u161⟩, hT8, k11, trivial⟩ dX4_takeCommand_226 (Or.inr ⟨rfl, by decide⟩)
  · refine mp_t (s_tabIn (t := 225) (off := 213) dX4_takeCommand_12 (by omega) (by rw [c15]; rfl) (by decide)) ?_
    refine mp_a (a_iconst (v := 0) dX4_takeCommand_225 rfl) (mpp 226 rfl ?_)
    have u162 : 0 ≤ (0 : Int) ∧ (0 : Int) ≤ 1 := by omega
    exact mp_iret ⟨⟨_, rfl, u162⟩, hT8, k11, trivial⟩ dX4_takeCommand_226 (Or.inr ⟨rfl, by decide⟩)
  · refine mp_t (s_tabIn (t := 225) (off := 213) dX4_takeCommand_12 (by omega) (by rw [c15]; rfl) (by decide)) ?_
    refine mp_a (a_iconst (v := 0) dX4_takeCommand_225 rfl) (mpp 226 rfl ?_)
    have u163 : 0 ≤ (0 : Int) ∧ (0 : Int) ≤ 1 := by omega
    exact mp_iret ⟨⟨_, rfl, u163⟩, hT8, k11, trivial⟩ dX4_takeCommand_226 (Or.inr ⟨rfl, by decide⟩)
  · refine mp_t (s_tabIn (t := 225) (off := 213) dX4_takeCommand_12 (by omega) (by rw [c15]; rfl) (by decide)) ?_
    refine mp_a (a_iconst (v := 0) dX4_takeCommand_225 rfl) (mpp 226 rfl ?_)
    have u164 : 0 ≤ (0 : Int) ∧ (0 : Int) ≤ 1 := by omega
    exact mp_iret ⟨⟨_, rfl, u164⟩, hT8, k11, trivial⟩ dX4_takeCommand_226 (Or.inr ⟨rfl, by decide⟩)
  · refine mp_t (s_tabIn (t := 225) (off := 213) dX4_takeCommand_12 (by omega) (by rw [c15]; rfl) (by decide)) ?_
    refine mp_a (a_iconst (v := 0) dX4_takeCommand_225 rfl) (mpp 226 rfl ?_)
    have u165 : 0 ≤ (0 : Int) ∧ (0 : Int) ≤ 1 := by omega
    exact mp_iret ⟨⟨_, rfl, u165⟩, hT8, k11, trivial⟩ dX4_takeCommand_226 (Or.inr ⟨rfl, by decide⟩)
  · refine mp_t (s_tabIn (t := 116) (off := 104) dX4_takeCommand_12 (by omega) (by rw [c15]; rfl) (by decide)) ?_
    refine mp_a (a_aload_n dX4_takeCommand_116 rfl) (mpp 117 rfl ?_)
    refine mp_t (s_dup dX4_takeCommand_117 rfl) (mpp 118 rfl ?_)
    have g166 := ti_full (fv P7 289 2)
    refine mt_getI (i := 23) (k := 2) hT8 dX4_takeCommand_118 rfl rl_289 (by decide) rfl (by decide) rfl (fun g167 g168 => mpp 121 rfl ?_)
    refine mp_a (a_iconst (v := 1) dX4_takeCommand_121 rfl) (mpp 122 rfl ?_)
    obtain ⟨z169, h170⟩ := ti_ex ((fv P7 289 2) + 1 : Int32)
    have wz169 := ti_full z169
    refine mp_t (s_iadd (v := z169) dX4_takeCommand_122 h170) (mpp 123 rfl ?_)
    try have e171 : z169.toInt = (fv P7 289 2).toInt + 1 := ti_addz h170 rfl rfl (by omega) (by omega)
    refine mt_putI (i := 23) (k := 2) (x := z169) hT8 dX4_takeCommand_123 rfl rl_289 (by decide) rfl (by decide) rfl (ti_full z169) rfl rfl (fun P172 hT173 f174 f175 => mpp 126 rfl ?_)
    have k176 : KW [514, 515, 516, 517, 518, 519] Po P172 := KW.step k11 rl_289 rfl f175
    have e177 : (fv P172 289 2).toInt = z169.toInt := congrArg Int32.toInt f174
    refine mp_a (a_aload_n dX4_takeCommand_126 rfl) (mpp 127 rfl ?_)
    refine mt_callv (i := 44) (q' := q_99) (As := []) (rest := []) hT173 dX4_takeCommand_127 rfl qm_99 (by decide) rfl rl_289 (by decide) rfl (Nat.le_of_ble_eq_true rfl) rfl ⟨rfl, rfl⟩ ⟨Nat.le_of_ble_eq_true rfl, Nat.le_of_ble_eq_true rfl⟩ (EvP.mono (by decide) (c_CS_takeSizes_Script hT173 )) (fun r178 P179 g180 => mpp 130 rfl ?_)
    obtain ⟨⟨x181, rfl, g182⟩, hT183, k184, R185⟩ := g180
    have k186 : KW [514, 515, 516, 517, 518, 519] Po P179 := KW.trans k176 k184 rfl
    have wx181 := ti_full x181
    have g182 : 0 ≤ x181.toInt ∧ x181.toInt ≤ 1 := g182
    show MEvP _ none q_97 130 [(0, .ref 289)] [.int x181] _ _ _ _
    refine mp_Tb (t := 153) (j_if_eq dX4_takeCommand_130) (by decide) (fun c187 => ?_) (fun c187 => mpp 133 rfl ?_)
    · have c187 : x181.toInt = 0 := ti_eq c187
      refine mp_a (a_iconst (v := 0) dX4_takeCommand_153 rfl) (mpp 154 rfl ?_)
      have u188 : 0 ≤ (0 : Int) ∧ (0 : Int) ≤ 1 := by omega
      exact mp_iret ⟨⟨_, rfl, u188⟩, hT183, k186, trivial⟩ dX4_takeCommand_154 (Or.inr ⟨rfl, by decide⟩)
    · have c187 : x181.toInt ≠ 0 := ti_eq_n c187
      refine mp_a (a_aload_n dX4_takeCommand_133 rfl) (mpp 134 rfl ?_)
      refine mp_a (a_bipush (v := 58) dX4_takeCommand_134 rfl) (mpp 136 rfl ?_)
      refine mt_callv (i := 33) (q' := q_100) (As := [.int 58]) (rest := []) hT183 dX4_takeCommand_136 rfl qm_100 (by decide) rfl rl_289 (by decide) rfl (Nat.le_of_ble_eq_true rfl) rfl ⟨rfl, rfl⟩ ⟨Nat.le_of_ble_eq_true rfl, Nat.le_of_ble_eq_true rfl⟩ (EvP.mono (by decide) (c_CS_takeSign_Script hT183 )) (fun r189 P190 g191 => mpp 139 rfl ?_)
      obtain ⟨⟨x192, rfl, g193⟩, hT194, k195, R196⟩ := g191
      have k197 : KW [514, 515, 516, 517, 518, 519] Po P190 := KW.trans k186 k195 rfl
      have wx192 := ti_full x192
      have g193 : 0 ≤ x192.toInt ∧ x192.toInt ≤ 1 := g193
      show MEvP _ none q_97 139 [(0, .ref 289)] [.int x192] _ _ _ _
      refine mp_Tb (t := 153) (j_if_eq dX4_takeCommand_139) (by decide) (fun c198 => ?_) (fun c198 => mpp 142 rfl ?_)
      · have c198 : x192.toInt = 0 := ti_eq c198
        refine mp_a (a_iconst (v := 0) dX4_takeCommand_153 rfl) (mpp 154 rfl ?_)
        have u199 : 0 ≤ (0 : Int) ∧ (0 : Int) ≤ 1 := by omega
        exact mp_iret ⟨⟨_, rfl, u199⟩, hT194, k197, trivial⟩ dX4_takeCommand_154 (Or.inr ⟨rfl, by decide⟩)
      · have c198 : x192.toInt ≠ 0 := ti_eq_n c198
        refine mp_a (a_aload_n dX4_takeCommand_142 rfl) (mpp 143 rfl ?_)
        refine mt_callv (i := 47) (q' := q_101) (As := []) (rest := []) hT194 dX4_takeCommand_143 rfl qm_101 (by decide) rfl rl_289 (by decide) rfl (Nat.le_of_ble_eq_true rfl) rfl ⟨rfl, rfl⟩ ⟨Nat.le_of_ble_eq_true rfl, Nat.le_of_ble_eq_true rfl⟩ (EvP.mono (by decide) (c_CS_takeCreases_Script hT194 )) (fun r200 P201 g202 => mpp 146 rfl ?_)
        obtain ⟨⟨x203, rfl, g204⟩, hT205, k206, R207⟩ := g202
        have k208 : KW [514, 515, 516, 517, 518, 519] Po P201 := KW.trans k197 k206 rfl
        have wx203 := ti_full x203
        have g204 : 0 ≤ x203.toInt ∧ x203.toInt ≤ 1 := g204
        show MEvP _ none q_97 146 [(0, .ref 289)] [.int x203] _ _ _ _
        refine mp_Tb (t := 153) (j_if_eq dX4_takeCommand_146) (by decide) (fun c209 => ?_) (fun c209 => mpp 149 rfl ?_)
        · have c209 : x203.toInt = 0 := ti_eq c209
          refine mp_a (a_iconst (v := 0) dX4_takeCommand_153 rfl) (mpp 154 rfl ?_)
          have u210 : 0 ≤ (0 : Int) ∧ (0 : Int) ≤ 1 := by omega
          exact mp_iret ⟨⟨_, rfl, u210⟩, hT205, k208, trivial⟩ dX4_takeCommand_154 (Or.inr ⟨rfl, by decide⟩)
        · have c209 : x203.toInt ≠ 0 := ti_eq_n c209
          refine mp_a (a_iconst (v := 1) dX4_takeCommand_149 rfl) (mpp 150 rfl ?_)
          refine mp_a (a_goto (t := 154) dX4_takeCommand_150 (by decide)) ?_
          have u211 : 0 ≤ (1 : Int) ∧ (1 : Int) ≤ 1 := by omega
          exact mp_iret ⟨⟨_, rfl, u211⟩, hT205, k208, trivial⟩ dX4_takeCommand_154 (Or.inr ⟨rfl, by decide⟩)
  · refine mp_t (s_tabIn (t := 210) (off := 198) dX4_takeCommand_12 (by omega) (by rw [c15]; rfl) (by decide)) ?_
    refine mp_a (a_aload_n dX4_takeCommand_210 rfl) (mpp 211 rfl ?_)
    refine mp_t (s_dup dX4_takeCommand_211 rfl) (mpp 212 rfl ?_)
    have g212 := ti_full (fv P7 289 2)
    refine mt_getI (i := 23) (k := 2) hT8 dX4_takeCommand_212 rfl rl_289 (by decide) rfl (by decide) rfl (fun g213 g214 => mpp 215 rfl ?_)
    refine mp_a (a_iconst (v := 1) dX4_takeCommand_215 rfl) (mpp 216 rfl ?_)
    obtain ⟨z215, h216⟩ := ti_ex ((fv P7 289 2) + 1 : Int32)
    have wz215 := ti_full z215
    refine mp_t (s_iadd (v := z215) dX4_takeCommand_216 h216) (mpp 217 rfl ?_)
    try have e217 : z215.toInt = (fv P7 289 2).toInt + 1 := ti_addz h216 rfl rfl (by omega) (by omega)
    refine mt_putI (i := 23) (k := 2) (x := z215) hT8 dX4_takeCommand_217 rfl rl_289 (by decide) rfl (by decide) rfl (ti_full z215) rfl rfl (fun P218 hT219 f220 f221 => mpp 220 rfl ?_)
    have k222 : KW [514, 515, 516, 517, 518, 519] Po P218 := KW.step k11 rl_289 rfl f221
    have e223 : (fv P218 289 2).toInt = z215.toInt := congrArg Int32.toInt f220
    refine mp_a (a_aload_n dX4_takeCommand_220 rfl) (mpp 221 rfl ?_)
    refine mt_callv (i := 50) (q' := q_103) (As := []) (rest := []) hT219 dX4_takeCommand_221 rfl qm_103 (by decide) rfl rl_289 (by decide) rfl (Nat.le_of_ble_eq_true rfl) rfl ⟨rfl, rfl⟩ ⟨Nat.le_of_ble_eq_true rfl, Nat.le_of_ble_eq_true rfl⟩ (EvP.mono (by decide) (c_CS_takePiece_Script hT219 )) (fun r224 P225 g226 => mpp 224 rfl ?_)
    obtain ⟨⟨x227, rfl, g228⟩, hT229, k230, R231⟩ := g226
    have k232 : KW [514, 515, 516, 517, 518, 519] Po P225 := KW.trans k222 k230 rfl
    have wx227 := ti_full x227
    have g228 : 0 ≤ x227.toInt ∧ x227.toInt ≤ 1 := g228
    show MEvP _ none q_97 224 [(0, .ref 289)] [.int x227] _ _ _ _
    have u233 : 0 ≤ x227.toInt ∧ x227.toInt ≤ 1 := by omega
    exact mp_iret ⟨⟨_, rfl, u233⟩, hT229, k232, trivial⟩ dX4_takeCommand_224 (Or.inr ⟨rfl, ti_01 (by omega)⟩)
  · refine mp_t (s_tabIn (t := 210) (off := 198) dX4_takeCommand_12 (by omega) (by rw [c15]; rfl) (by decide)) ?_
    refine mp_a (a_aload_n dX4_takeCommand_210 rfl) (mpp 211 rfl ?_)
    refine mp_t (s_dup dX4_takeCommand_211 rfl) (mpp 212 rfl ?_)
    have g234 := ti_full (fv P7 289 2)
    refine mt_getI (i := 23) (k := 2) hT8 dX4_takeCommand_212 rfl rl_289 (by decide) rfl (by decide) rfl (fun g235 g236 => mpp 215 rfl ?_)
    refine mp_a (a_iconst (v := 1) dX4_takeCommand_215 rfl) (mpp 216 rfl ?_)
    obtain ⟨z237, h238⟩ := ti_ex ((fv P7 289 2) + 1 : Int32)
    have wz237 := ti_full z237
    refine mp_t (s_iadd (v := z237) dX4_takeCommand_216 h238) (mpp 217 rfl ?_)
    try have e239 : z237.toInt = (fv P7 289 2).toInt + 1 := ti_addz h238 rfl rfl (by omega) (by omega)
    refine mt_putI (i := 23) (k := 2) (x := z237) hT8 dX4_takeCommand_217 rfl rl_289 (by decide) rfl (by decide) rfl (ti_full z237) rfl rfl (fun P240 hT241 f242 f243 => mpp 220 rfl ?_)
    have k244 : KW [514, 515, 516, 517, 518, 519] Po P240 := KW.step k11 rl_289 rfl f243
    have e245 : (fv P240 289 2).toInt = z237.toInt := congrArg Int32.toInt f242
    refine mp_a (a_aload_n dX4_takeCommand_220 rfl) (mpp 221 rfl ?_)
    refine mt_callv (i := 50) (q' := q_103) (As := []) (rest := []) hT241 dX4_takeCommand_221 rfl qm_103 (by decide) rfl rl_289 (by decide) rfl (Nat.le_of_ble_eq_true rfl) rfl ⟨rfl, rfl⟩ ⟨Nat.le_of_ble_eq_true rfl, Nat.le_of_ble_eq_true rfl⟩ (EvP.mono (by decide) (c_CS_takePiece_Script hT241 )) (fun r246 P247 g248 => mpp 224 rfl ?_)
    obtain ⟨⟨x249, rfl, g250⟩, hT251, k252, R253⟩ := g248
    have k254 : KW [514, 515, 516, 517, 518, 519] Po P247 := KW.trans k244 k252 rfl
    have wx249 := ti_full x249
    have g250 : 0 ≤ x249.toInt ∧ x249.toInt ≤ 1 := g250
    show MEvP _ none q_97 224 [(0, .ref 289)] [.int x249] _ _ _ _
    have u255 : 0 ≤ x249.toInt ∧ x249.toInt ≤ 1 := by omega
    exact mp_iret ⟨⟨_, rfl, u255⟩, hT251, k254, trivial⟩ dX4_takeCommand_224 (Or.inr ⟨rfl, ti_01 (by omega)⟩)
  · refine mp_t (s_tabIn (t := 225) (off := 213) dX4_takeCommand_12 (by omega) (by rw [c15]; rfl) (by decide)) ?_
    refine mp_a (a_iconst (v := 0) dX4_takeCommand_225 rfl) (mpp 226 rfl ?_)
    have u256 : 0 ≤ (0 : Int) ∧ (0 : Int) ≤ 1 := by omega
    exact mp_iret ⟨⟨_, rfl, u256⟩, hT8, k11, trivial⟩ dX4_takeCommand_226 (Or.inr ⟨rfl, by decide⟩)
  · refine mp_t (s_tabIn (t := 225) (off := 213) dX4_takeCommand_12 (by omega) (by rw [c15]; rfl) (by decide)) ?_
    refine mp_a (a_iconst (v := 0) dX4_takeCommand_225 rfl) (mpp 226 rfl ?_)
    have u257 : 0 ≤ (0 : Int) ∧ (0 : Int) ≤ 1 := by omega
    exact mp_iret ⟨⟨_, rfl, u257⟩, hT8, k11, trivial⟩ dX4_takeCommand_226 (Or.inr ⟨rfl, by decide⟩)
  · refine mp_t (s_tabIn (t := 210) (off := 198) dX4_takeCommand_12 (by omega) (by rw [c15]; rfl) (by decide)) ?_
    refine mp_a (a_aload_n dX4_takeCommand_210 rfl) (mpp 211 rfl ?_)
    refine mp_t (s_dup dX4_takeCommand_211 rfl) (mpp 212 rfl ?_)
    have g258 := ti_full (fv P7 289 2)
    refine mt_getI (i := 23) (k := 2) hT8 dX4_takeCommand_212 rfl rl_289 (by decide) rfl (by decide) rfl (fun g259 g260 => mpp 215 rfl ?_)
    refine mp_a (a_iconst (v := 1) dX4_takeCommand_215 rfl) (mpp 216 rfl ?_)
    obtain ⟨z261, h262⟩ := ti_ex ((fv P7 289 2) + 1 : Int32)
    have wz261 := ti_full z261
    refine mp_t (s_iadd (v := z261) dX4_takeCommand_216 h262) (mpp 217 rfl ?_)
    try have e263 : z261.toInt = (fv P7 289 2).toInt + 1 := ti_addz h262 rfl rfl (by omega) (by omega)
    refine mt_putI (i := 23) (k := 2) (x := z261) hT8 dX4_takeCommand_217 rfl rl_289 (by decide) rfl (by decide) rfl (ti_full z261) rfl rfl (fun P264 hT265 f266 f267 => mpp 220 rfl ?_)
    have k268 : KW [514, 515, 516, 517, 518, 519] Po P264 := KW.step k11 rl_289 rfl f267
    have e269 : (fv P264 289 2).toInt = z261.toInt := congrArg Int32.toInt f266
    refine mp_a (a_aload_n dX4_takeCommand_220 rfl) (mpp 221 rfl ?_)
    refine mt_callv (i := 50) (q' := q_103) (As := []) (rest := []) hT265 dX4_takeCommand_221 rfl qm_103 (by decide) rfl rl_289 (by decide) rfl (Nat.le_of_ble_eq_true rfl) rfl ⟨rfl, rfl⟩ ⟨Nat.le_of_ble_eq_true rfl, Nat.le_of_ble_eq_true rfl⟩ (EvP.mono (by decide) (c_CS_takePiece_Script hT265 )) (fun r270 P271 g272 => mpp 224 rfl ?_)
    obtain ⟨⟨x273, rfl, g274⟩, hT275, k276, R277⟩ := g272
    have k278 : KW [514, 515, 516, 517, 518, 519] Po P271 := KW.trans k268 k276 rfl
    have wx273 := ti_full x273
    have g274 : 0 ≤ x273.toInt ∧ x273.toInt ≤ 1 := g274
    show MEvP _ none q_97 224 [(0, .ref 289)] [.int x273] _ _ _ _
    have u279 : 0 ≤ x273.toInt ∧ x273.toInt ≤ 1 := by omega
    exact mp_iret ⟨⟨_, rfl, u279⟩, hT275, k278, trivial⟩ dX4_takeCommand_224 (Or.inr ⟨rfl, ti_01 (by omega)⟩)

set_option maxHeartbeats 4000000 in
theorem c_CS_faultPosition_Script_l6 {Po : mP}   : ∀ (n : Nat) (v1 : Int32), ∀ (P : mP), Typ P → KW [514, 515, 516, 517, 518, 519] Po P → (0 ≤ v1.toInt) → (2147483647 - v1.toInt).toNat = n → MEvP 5 none q_95 6 [(0, .ref 289), (1, .int v1)] [] P 0 0 (fun r P' => (∃ x : Int32, r = some (.int x) ∧ (True)) ∧ Typ P' ∧ KW [514, 515, 516, 517, 518, 519] Po P' ∧ True) := by
  intro n
  induction n using Nat.strongRecOn with | _ n ih => ?_
  intro v1 P hT hK i_0 hm
  have w_v1 := ti_full v1
  refine mp_a (a_iload_n dX4_faultPosition_6 rfl) (mpp 7 rfl ?_)
  refine mp_a (a_bipush (v := 80) dX4_faultPosition_7 rfl) (mpp 9 rfl ?_)
  refine mp_Tb (t := 54) (j_icmp_ge dX4_faultPosition_9) (by decide) (fun c1 => ?_) (fun c1 => mpp 12 rfl ?_)
  · have c1 : v1.toInt ≥ 80 := ti_ge c1
    refine mp_a (a_aload_n dX4_faultPosition_54 rfl) (mpp 55 rfl ?_)
    have g2 := ti_full (fv P 289 2)
    refine mt_getI (i := 23) (k := 2) hT dX4_faultPosition_55 rfl rl_289 (by decide) rfl (by decide) rfl (fun g3 g4 => mpp 58 rfl ?_)
    exact mp_iret ⟨⟨_, rfl, trivial⟩, hT, hK, trivial⟩ dX4_faultPosition_58 (Or.inl rfl)
  · have c1 : v1.toInt < 80 := ti_ge_n c1
    refine mp_a (a_aload_n dX4_faultPosition_12 rfl) (mpp 13 rfl ?_)
    refine mt_callv (i := 29) (q' := q_97) (As := []) (rest := []) hT dX4_faultPosition_13 rfl qm_97 (by decide) rfl rl_289 (by decide) rfl (Nat.le_of_ble_eq_true rfl) rfl ⟨rfl, rfl⟩ ⟨Nat.le_of_ble_eq_true rfl, Nat.le_of_ble_eq_true rfl⟩ (EvP.mono (by decide) (c_CS_takeCommand_Script hT )) (fun r5 P6 g7 => mpp 16 rfl ?_)
    obtain ⟨⟨x8, rfl, g9⟩, hT10, k11, R12⟩ := g7
    have k13 : KW [514, 515, 516, 517, 518, 519] Po P6 := KW.trans hK k11 rfl
    have wx8 := ti_full x8
    have g9 : 0 ≤ x8.toInt ∧ x8.toInt ≤ 1 := g9
    show MEvP _ none q_95 16 [(0, .ref 289), (1, .int v1)] [.int x8] _ _ _ _
    refine mp_Tb (t := 54) (j_if_eq dX4_faultPosition_16) (by decide) (fun c14 => ?_) (fun c14 => mpp 19 rfl ?_)
    · have c14 : x8.toInt = 0 := ti_eq c14
      refine mp_a (a_aload_n dX4_faultPosition_54 rfl) (mpp 55 rfl ?_)
      have g15 := ti_full (fv P6 289 2)
      refine mt_getI (i := 23) (k := 2) hT10 dX4_faultPosition_55 rfl rl_289 (by decide) rfl (by decide) rfl (fun g16 g17 => mpp 58 rfl ?_)
      exact mp_iret ⟨⟨_, rfl, trivial⟩, hT10, k13, trivial⟩ dX4_faultPosition_58 (Or.inl rfl)
    · have c14 : x8.toInt ≠ 0 := ti_eq_n c14
      refine mp_a (a_aload_n dX4_faultPosition_19 rfl) (mpp 20 rfl ?_)
      have g18 := ti_full (fv P6 289 2)
      refine mt_getI (i := 23) (k := 2) hT10 dX4_faultPosition_20 rfl rl_289 (by decide) rfl (by decide) rfl (fun g19 g20 => mpp 23 rfl ?_)
      refine mp_a (a_aload_n dX4_faultPosition_23 rfl) (mpp 24 rfl ?_)
      have g21 : (0 : Int) ≤ (fv P6 289 1).toInt ∧ (fv P6 289 1).toInt ≤ 80 := Typ.rng hT10 rl_289 (by decide) (by decide) rfl
      refine mt_getI (i := 15) (k := 1) hT10 dX4_faultPosition_24 rfl rl_289 (by decide) rfl (by decide) rfl (fun g22 g23 => mpp 27 rfl ?_)
      refine mp_Tb (t := 34) (j_icmp_ne dX4_faultPosition_27) (by decide) (fun c24 => ?_) (fun c24 => mpp 30 rfl ?_)
      · have c24 : (fv P6 289 2).toInt ≠ (fv P6 289 1).toInt := ti_ne c24
        refine mp_a (a_aload_n dX4_faultPosition_34 rfl) (mpp 35 rfl ?_)
        refine mp_a (a_bipush (v := 59) dX4_faultPosition_35 rfl) (mpp 37 rfl ?_)
        refine mt_callv (i := 33) (q' := q_100) (As := [.int 59]) (rest := []) hT10 dX4_faultPosition_37 rfl qm_100 (by decide) rfl rl_289 (by decide) rfl (Nat.le_of_ble_eq_true rfl) rfl ⟨rfl, rfl⟩ ⟨Nat.le_of_ble_eq_true rfl, Nat.le_of_ble_eq_true rfl⟩ (EvP.mono (by decide) (c_CS_takeSign_Script hT10 )) (fun r25 P26 g27 => mpp 40 rfl ?_)
        obtain ⟨⟨x28, rfl, g29⟩, hT30, k31, R32⟩ := g27
        have k33 : KW [514, 515, 516, 517, 518, 519] Po P26 := KW.trans k13 k31 rfl
        have wx28 := ti_full x28
        have g29 : 0 ≤ x28.toInt ∧ x28.toInt ≤ 1 := g29
        show MEvP _ none q_95 40 [(0, .ref 289), (1, .int v1)] [.int x28] _ _ _ _
        refine mp_Tb (t := 48) (j_if_ne dX4_faultPosition_40) (by decide) (fun c34 => ?_) (fun c34 => mpp 43 rfl ?_)
        · have c34 : x28.toInt ≠ 0 := ti_ne c34
          obtain ⟨z35, h36⟩ := ti_ex (v1 + 1 : Int32)
          have wz35 := ti_full z35
          refine mp_a (a_iinc (v := z35) (L' := [(1, .int z35), (0, .ref 289)]) dX4_faultPosition_48 (by decide) rfl h36 rfl) (mpp 51 rfl ?_)
          try have e37 : z35.toInt = v1.toInt + 1 := ti_addz h36 rfl rfl (by omega) (by omega)
          refine mp_a (a_goto (t := 6) dX4_faultPosition_51 (by decide)) ?_
          refine MEvP.less (L := [(0, .ref 289), (1, .int z35)]) rfl rfl ⟨rfl, rfl, trivial⟩ ?_
          have i38 : 0 ≤ z35.toInt := by omega
          exact ih _ (by omega) _ P26 hT30 k33 i38 rfl
        · have c34 : x28.toInt = 0 := ti_ne_n c34
          refine mp_a (a_aload_n dX4_faultPosition_43 rfl) (mpp 44 rfl ?_)
          have g39 := ti_full (fv P26 289 2)
          refine mt_getI (i := 23) (k := 2) hT30 dX4_faultPosition_44 rfl rl_289 (by decide) rfl (by decide) rfl (fun g40 g41 => mpp 47 rfl ?_)
          exact mp_iret ⟨⟨_, rfl, trivial⟩, hT30, k33, trivial⟩ dX4_faultPosition_47 (Or.inl rfl)
      · have c24 : (fv P6 289 2).toInt = (fv P6 289 1).toInt := ti_ne_n c24
        refine mp_a (a_sipush (v := -1004) dX4_faultPosition_30 rfl) (mpp 33 rfl ?_)
        exact mp_iret ⟨⟨_, rfl, trivial⟩, hT10, k13, trivial⟩ dX4_faultPosition_33 (Or.inl rfl)

set_option maxHeartbeats 4000000 in
theorem c_CS_faultPosition_Script {Po : mP}  (hT : Typ Po)   : EvP 6 95 [.ref 289] Po (fun r P' => (∃ x : Int32, r = some (.int x) ∧ (True)) ∧ Typ P' ∧ KW [514, 515, 516, 517, 518, 519] Po P' ∧ True) := by
  refine EvP.of qm_95 (Nat.le_of_ble_eq_true rfl) rfl ?_
  show MEvP _ none q_95 0 [(0, .ref 289)] [] _ 0 0 _
  refine mp_a (a_aload_n dX4_faultPosition_0 rfl) (mpp 1 rfl ?_)
  refine mt_callv (i := 26) (q' := q_96) (As := []) (rest := []) hT dX4_faultPosition_1 rfl qm_96 (by decide) rfl rl_289 (by decide) rfl (Nat.le_of_ble_eq_true rfl) rfl ⟨rfl, rfl⟩ ⟨Nat.le_of_ble_eq_true rfl, Nat.le_of_ble_eq_true rfl⟩ (EvP.mono (by decide) (c_CS_rewind_Script hT )) (fun r1 P2 g3 => mpp 4 rfl ?_)
  obtain ⟨⟨rfl, g5⟩, hT6, k7, R8⟩ := g3
  have k9 : KW [514, 515, 516, 517, 518, 519] Po P2 := KW.trans KW.refl k7 rfl
  show MEvP _ none q_95 4 [(0, .ref 289)] [] _ _ _ _
  refine mp_a (a_iconst (v := 0) dX4_faultPosition_4 rfl) (mpp 5 rfl ?_)
  refine mp_a (a_istore_n (L' := [(1, .int 0), (0, .ref 289)]) dX4_faultPosition_5 (by decide) rfl) (mpp 6 rfl ?_)
  refine MEvP.less (L := [(0, .ref 289), (1, .int 0)]) rfl rfl ⟨rfl, rfl, trivial⟩ ?_
  have i10 : 0 ≤ (0 : Int) := by omega
  exact c_CS_faultPosition_Script_l6   _ _ P2 hT6 k9 i10 rfl

set_option maxHeartbeats 4000000 in
theorem c_CS_clear_Script {Po : mP}  (hT : Typ Po)   : EvP 1 106 [.ref 289] Po (fun r P' => (r = none ∧ ((fv P' 289 1).toInt = 0)) ∧ Typ P' ∧ KW [513] Po P' ∧ True) := by
  refine EvP.of qm_106 (Nat.le_of_ble_eq_true rfl) rfl ?_
  show MEvP _ none q_106 0 [(0, .ref 289)] [] _ 0 0 _
  refine mp_a (a_aload_n dX4_clear_0 rfl) (mpp 1 rfl ?_)
  refine mp_a (a_iconst (v := 0) dX4_clear_1 rfl) (mpp 2 rfl ?_)
  refine mt_putI (i := 15) (k := 1) (x := 0) hT dX4_clear_2 rfl rl_289 (by decide) rfl (by decide) rfl (by decide) rfl rfl (fun P1 hT2 f3 f4 => mpp 5 rfl ?_)
  have k5 : KW [513] Po P1 := KW.step KW.refl rl_289 rfl f4
  have e6 : (fv P1 289 1).toInt = 0 := congrArg Int32.toInt f3
  have u7 : (fv P1 289 1).toInt = 0 := by omega
  exact mp_ret ⟨⟨rfl, u7⟩, hT2, k5, trivial⟩ dX4_clear_5 rfl

