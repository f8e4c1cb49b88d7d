/-! methods on typed pools, 16 (written by a program) -/
set_option maxHeartbeats 4000000 in
theorem c_CS_takePiece_Script {Po : mP}  (hT : Typ Po) (hX : XR Po)   : EvP 4 103 [.ref 289] Po (fun r P' => (∃ x : Int32, r = some (.int x) ∧ (0 ≤ x.toInt ∧ x.toInt ≤ 1)) ∧ Typ P' ∧ KW [514, 516] Po P' ∧ True) := by
  refine EvP.of qm_103 (Nat.le_of_ble_eq_true rfl) rfl ?_
  show MEvP _ none q_103 0 [(0, .ref 289)] [] _ 0 0 _
  refine mp_a (a_aload_n dX4_takePiece_0 rfl) (mpp 1 rfl ?_)
  refine mp_a (a_aload_n dX4_takePiece_1 rfl) (mpp 2 rfl ?_)
  refine mt_callv (i := 37) (q' := q_98) (As := []) (rest := [.ref 289]) hT dX4_takePiece_2 rfl qm_98 (by decide) rfl rl_289 (by decide) rfl (Nat.le_of_ble_eq_true rfl) rfl ⟨rfl, rfl⟩ ⟨Nat.le_of_ble_eq_true rfl, Nat.le_of_ble_eq_true rfl⟩ (EvP.mono (by decide) (c_CS_codeHere_Script hT hX )) (fun r1 P2 g3 => mpp 5 rfl ?_)
  obtain ⟨⟨x4, rfl, g5⟩, e6⟩ := g3
  have e6 := e6.symm
  subst e6
  have wx4 := ti_full x4
  show MEvP _ none q_103 5 [(0, .ref 289)] [.int x4, .ref 289] _ _ _ _
  refine mp_a (a_bipush (v := 48) dX4_takePiece_5 rfl) (mpp 7 rfl ?_)
  obtain ⟨z7, h8⟩ := ti_ex (x4 - 48 : Int32)
  have wz7 := ti_full z7
  refine mp_t (s_isub (v := z7) dX4_takePiece_7 h8) (mpp 8 rfl ?_)
  try have e9 : z7.toInt = x4.toInt - 48 := ti_subz h8 rfl rfl (by omega) (by omega)
  refine mt_putI (i := 63) (k := 4) (x := z7) hT dX4_takePiece_8 rfl rl_289 (by decide) rfl (by decide) rfl (ti_full z7) rfl rfl (fun P10 hT11 f12 f13 f14 => mpp 11 rfl ?_)
  have k15 : KW [514, 516] Po P10 := KW.step KW.refl rl_289 rfl f13 f14
  have e16 : (fv P10 289 4).toInt = z7.toInt := congrArg Int32.toInt f12
  refine mp_a (a_aload_n dX4_takePiece_11 rfl) (mpp 12 rfl ?_)
  refine mt_callv (i := 75) (q' := q_104) (As := []) (rest := []) hT11 dX4_takePiece_12 rfl qm_104 (by decide) rfl rl_289 (by decide) rfl (Nat.le_of_ble_eq_true rfl) rfl ⟨rfl, rfl⟩ ⟨Nat.le_of_ble_eq_true rfl, Nat.le_of_ble_eq_true rfl⟩ (EvP.mono (by decide) (c_CS_takeDigit_Script hT11 (KW.xr k15 hX) )) (fun r17 P18 g19 => mpp 15 rfl ?_)
  obtain ⟨⟨x20, rfl, g21⟩, hT22, k23, R24⟩ := g19
  have k25 : KW [514, 516] Po P18 := KW.trans k15 k23 rfl
  have wx20 := ti_full x20
  replace g21 : 0 ≤ x20.toInt ∧ x20.toInt ≤ 1 := g21
  show MEvP _ none q_103 15 [(0, .ref 289)] [.int x20] _ _ _ _
  have u27 : 0 ≤ x20.toInt ∧ x20.toInt ≤ 1 := by omega
  exact mp_iret ⟨⟨_, rfl, u27⟩, hT22, k25, trivial⟩ dX4_takePiece_15 (Or.inr ⟨rfl, ti_01 (by omega)⟩)

set_option maxHeartbeats 4000000 in
theorem c_CS_takeCrease_Script {Po : mP}  (hT : Typ Po) (hX : XR Po)   : EvP 4 105 [.ref 289] Po (fun r P' => (∃ x : Int32, r = some (.int x) ∧ (0 ≤ x.toInt ∧ x.toInt ≤ 1)) ∧ Typ P' ∧ KW [514, 517] Po P' ∧ True) := by
  refine EvP.of qm_105 (Nat.le_of_ble_eq_true rfl) rfl ?_
  show MEvP _ none q_105 0 [(0, .ref 289)] [] _ 0 0 _
  refine mp_a (a_aload_n dX4_takeCrease_0 rfl) (mpp 1 rfl ?_)
  refine mp_a (a_aload_n dX4_takeCrease_1 rfl) (mpp 2 rfl ?_)
  refine mt_callv (i := 37) (q' := q_98) (As := []) (rest := [.ref 289]) hT dX4_takeCrease_2 rfl qm_98 (by decide) rfl rl_289 (by decide) rfl (Nat.le_of_ble_eq_true rfl) rfl ⟨rfl, rfl⟩ ⟨Nat.le_of_ble_eq_true rfl, Nat.le_of_ble_eq_true rfl⟩ (EvP.mono (by decide) (c_CS_codeHere_Script hT hX )) (fun r1 P2 g3 => mpp 5 rfl ?_)
  obtain ⟨⟨x4, rfl, g5⟩, e6⟩ := g3
  have e6 := e6.symm
  subst e6
  have wx4 := ti_full x4
  show MEvP _ none q_105 5 [(0, .ref 289)] [.int x4, .ref 289] _ _ _ _
  refine mp_a (a_bipush (v := 48) dX4_takeCrease_5 rfl) (mpp 7 rfl ?_)
  obtain ⟨z7, h8⟩ := ti_ex (x4 - 48 : Int32)
  have wz7 := ti_full z7
  refine mp_t (s_isub (v := z7) dX4_takeCrease_7 h8) (mpp 8 rfl ?_)
  try have e9 : z7.toInt = x4.toInt - 48 := ti_subz h8 rfl rfl (by omega) (by omega)
  refine mt_putI (i := 66) (k := 5) (x := z7) hT dX4_takeCrease_8 rfl rl_289 (by decide) rfl (by decide) rfl (ti_full z7) rfl rfl (fun P10 hT11 f12 f13 f14 => mpp 11 rfl ?_)
  have k15 : KW [514, 517] Po P10 := KW.step KW.refl rl_289 rfl f13 f14
  have e16 : (fv P10 289 5).toInt = z7.toInt := congrArg Int32.toInt f12
  refine mp_a (a_aload_n dX4_takeCrease_11 rfl) (mpp 12 rfl ?_)
  refine mt_callv (i := 75) (q' := q_104) (As := []) (rest := []) hT11 dX4_takeCrease_12 rfl qm_104 (by decide) rfl rl_289 (by decide) rfl (Nat.le_of_ble_eq_true rfl) rfl ⟨rfl, rfl⟩ ⟨Nat.le_of_ble_eq_true rfl, Nat.le_of_ble_eq_true rfl⟩ (EvP.mono (by decide) (c_CS_takeDigit_Script hT11 (KW.xr k15 hX) )) (fun r17 P18 g19 => mpp 15 rfl ?_)
  obtain ⟨⟨x20, rfl, g21⟩, hT22, k23, R24⟩ := g19
  have k25 : KW [514, 517] Po P18 := KW.trans k15 k23 rfl
  have wx20 := ti_full x20
  replace g21 : 0 ≤ x20.toInt ∧ x20.toInt ≤ 1 := g21
  show MEvP _ none q_105 15 [(0, .ref 289)] [.int x20] _ _ _ _
  have u27 : 0 ≤ x20.toInt ∧ x20.toInt ≤ 1 := by omega
  exact mp_iret ⟨⟨_, rfl, u27⟩, hT22, k25, trivial⟩ dX4_takeCrease_15 (Or.inr ⟨rfl, ti_01 (by omega)⟩)

set_option maxHeartbeats 4000000 in
theorem c_CS_takeCommand_Script {Po : mP}  (hT : Typ Po) (hX : XR Po)   : EvP 5 97 [.ref 289] Po (fun r P' => (∃ x : Int32, r = some (.int x) ∧ (0 ≤ x.toInt ∧ x.toInt ≤ 1)) ∧ Typ P' ∧ KW [514, 515, 516, 517, 518, 519] Po P' ∧ True) := by
  refine EvP.of qm_97 (Nat.le_of_ble_eq_true rfl) rfl ?_
  show MEvP _ none q_97 0 [(0, .ref 289)] [] _ 0 0 _
  refine mp_a (a_aload_n dX4_takeCommand_0 rfl) (mpp 1 rfl ?_)
  refine mp_a (a_aload_n dX4_takeCommand_1 rfl) (mpp 2 rfl ?_)
  refine mt_callv (i := 37) (q' := q_98) (As := []) (rest := [.ref 289]) hT dX4_takeCommand_2 rfl qm_98 (by decide) rfl rl_289 (by decide) rfl (Nat.le_of_ble_eq_true rfl) rfl ⟨rfl, rfl⟩ ⟨Nat.le_of_ble_eq_true rfl, Nat.le_of_ble_eq_true rfl⟩ (EvP.mono (by decide) (c_CS_codeHere_Script hT hX )) (fun r1 P2 g3 => mpp 5 rfl ?_)
  obtain ⟨⟨x4, rfl, g5⟩, e6⟩ := g3
  have e6 := e6.symm
  subst e6
  have wx4 := ti_full x4
  show MEvP _ none q_97 5 [(0, .ref 289)] [.int x4, .ref 289] _ _ _ _
  refine mt_putI (i := 41) (k := 3) (x := x4) hT dX4_takeCommand_5 rfl rl_289 (by decide) rfl (by decide) rfl (ti_full x4) rfl rfl (fun P7 hT8 f9 f10 f11 => mpp 8 rfl ?_)
  have k12 : KW [514, 515, 516, 517, 518, 519] Po P7 := KW.step KW.refl rl_289 rfl f10 f11
  have e13 : (fv P7 289 3).toInt = x4.toInt := congrArg Int32.toInt f9
  refine mp_a (a_aload_n dX4_takeCommand_8 rfl) (mpp 9 rfl ?_)
  refine mt_getI (i := 41) (k := 3) hT8 dX4_takeCommand_9 rfl rl_289 (by decide) rfl (by decide) rfl (fun g14 g15 => mpp 12 rfl ?_)
  have c16 : ((fv P7 289 3).toInt < 99 ∨ 120 < (fv P7 289 3).toInt) ∨ (fv P7 289 3).toInt = 99 ∨ (fv P7 289 3).toInt = 100 ∨ (fv P7 289 3).toInt = 101 ∨ (fv P7 289 3).toInt = 102 ∨ (fv P7 289 3).toInt = 103 ∨ (fv P7 289 3).toInt = 104 ∨ (fv P7 289 3).toInt = 105 ∨ (fv P7 289 3).toInt = 106 ∨ (fv P7 289 3).toInt = 107 ∨ (fv P7 289 3).toInt = 108 ∨ (fv P7 289 3).toInt = 109 ∨ (fv P7 289 3).toInt = 110 ∨ (fv P7 289 3).toInt = 111 ∨ (fv P7 289 3).toInt = 112 ∨ (fv P7 289 3).toInt = 113 ∨ (fv P7 289 3).toInt = 114 ∨ (fv P7 289 3).toInt = 115 ∨ (fv P7 289 3).toInt = 116 ∨ (fv P7 289 3).toInt = 117 ∨ (fv P7 289 3).toInt = 118 ∨ (fv P7 289 3).toInt = 119 ∨ (fv P7 289 3).toInt = 120 := by omega
  rcases c16 with c16 | c16 | c16 | c16 | c16 | c16 | c16 | c16 | c16 | c16 | c16 | c16 | c16 | c16 | c16 | c16 | c16 | c16 | c16 | c16 | c16 | c16 | c16
  · refine mp_t (s_tabOut (t := 225) dX4_takeCommand_12 c16 (by decide)) ?_
    refine mp_a (a_iconst (v := 0) dX4_takeCommand_225 rfl) (mpp 226 rfl ?_)
    have u17 : 0 ≤ (0 : Int) ∧ (0 : Int) ≤ 1 := by omega
    exact mp_iret ⟨⟨_, rfl, u17⟩, hT8, k12, trivial⟩ dX4_takeCommand_226 (Or.inr ⟨rfl, by decide⟩)
  · refine mp_t (s_tabIn (t := 116) (off := 104) dX4_takeCommand_12 (by omega) (by rw [c16]; rfl) (by decide)) ?_
    refine mp_a (a_aload_n dX4_takeCommand_116 rfl) (mpp 117 rfl ?_)
    refine mp_t (s_dup dX4_takeCommand_117 rfl) (mpp 118 rfl ?_)
    have g18 := ti_full (fv P7 289 2)
    refine mt_getI (i := 23) (k := 2) hT8 dX4_takeCommand_118 rfl rl_289 (by decide) rfl (by decide) rfl (fun g19 g20 => mpp 121 rfl ?_)
    refine mp_a (a_iconst (v := 1) dX4_takeCommand_121 rfl) (mpp 122 rfl ?_)
    obtain ⟨z21, h22⟩ := ti_ex ((fv P7 289 2) + 1 : Int32)
    have wz21 := ti_full z21
    refine mp_t (s_iadd (v := z21) dX4_takeCommand_122 h22) (mpp 123 rfl ?_)
    try have e23 : z21.toInt = (fv P7 289 2).toInt + 1 := ti_addz h22 rfl rfl (by omega) (by omega)
    refine mt_putI (i := 23) (k := 2) (x := z21) hT8 dX4_takeCommand_123 rfl rl_289 (by decide) rfl (by decide) rfl (ti_full z21) rfl rfl (fun P24 hT25 f26 f27 f28 => mpp 126 rfl ?_)
    have k29 : KW [514, 515, 516, 517, 518, 519] Po P24 := KW.step k12 rl_289 rfl f27 f28
    have e30 : (fv P24 289 2).toInt = z21.toInt := congrArg Int32.toInt f26
    refine mp_a (a_aload_n dX4_takeCommand_126 rfl) (mpp 127 rfl ?_)
    refine mt_callv (i := 44) (q' := q_99) (As := []) (rest := []) hT25 dX4_takeCommand_127 rfl qm_99 (by decide) rfl rl_289 (by decide) rfl (Nat.le_of_ble_eq_true rfl) rfl ⟨rfl, rfl⟩ ⟨Nat.le_of_ble_eq_true rfl, Nat.le_of_ble_eq_true rfl⟩ (EvP.mono (by decide) (c_CS_takeSizes_Script hT25 (KW.xr k29 hX) )) (fun r31 P32 g33 => mpp 130 rfl ?_)
    obtain ⟨⟨x34, rfl, g35⟩, hT36, k37, R38⟩ := g33
    have k39 : KW [514, 515, 516, 517, 518, 519] Po P32 := KW.trans k29 k37 rfl
    have wx34 := ti_full x34
    replace g35 : 0 ≤ x34.toInt ∧ x34.toInt ≤ 1 := g35
    show MEvP _ none q_97 130 [(0, .ref 289)] [.int x34] _ _ _ _
    refine mp_Tb (t := 153) (j_if_eq dX4_takeCommand_130) (by decide) (fun c41 => ?_) (fun c41 => mpp 133 rfl ?_)
    · have c41 : x34.toInt = 0 := ti_eq c41
      refine mp_a (a_iconst (v := 0) dX4_takeCommand_153 rfl) (mpp 154 rfl ?_)
      have u42 : 0 ≤ (0 : Int) ∧ (0 : Int) ≤ 1 := by omega
      exact mp_iret ⟨⟨_, rfl, u42⟩, hT36, k39, trivial⟩ dX4_takeCommand_154 (Or.inr ⟨rfl, by decide⟩)
    · have c41 : x34.toInt ≠ 0 := ti_eq_n c41
      refine mp_a (a_aload_n dX4_takeCommand_133 rfl) (mpp 134 rfl ?_)
      refine mp_a (a_bipush (v := 58) dX4_takeCommand_134 rfl) (mpp 136 rfl ?_)
      refine mt_callv (i := 33) (q' := q_100) (As := [.int 58]) (rest := []) hT36 dX4_takeCommand_136 rfl qm_100 (by decide) rfl rl_289 (by decide) rfl (Nat.le_of_ble_eq_true rfl) rfl ⟨rfl, rfl⟩ ⟨Nat.le_of_ble_eq_true rfl, Nat.le_of_ble_eq_true rfl⟩ (EvP.mono (by decide) (c_CS_takeSign_Script hT36 (KW.xr k39 hX) )) (fun r43 P44 g45 => mpp 139 rfl ?_)
      obtain ⟨⟨x46, rfl, g47⟩, hT48, k49, R50⟩ := g45
      have k51 : KW [514, 515, 516, 517, 518, 519] Po P44 := KW.trans k39 k49 rfl
      have wx46 := ti_full x46
      replace g47 : 0 ≤ x46.toInt ∧ x46.toInt ≤ 1 := g47
      show MEvP _ none q_97 139 [(0, .ref 289)] [.int x46] _ _ _ _
      refine mp_Tb (t := 153) (j_if_eq dX4_takeCommand_139) (by decide) (fun c53 => ?_) (fun c53 => mpp 142 rfl ?_)
      · have c53 : x46.toInt = 0 := ti_eq c53
        refine mp_a (a_iconst (v := 0) dX4_takeCommand_153 rfl) (mpp 154 rfl ?_)
        have u54 : 0 ≤ (0 : Int) ∧ (0 : Int) ≤ 1 := by omega
        exact mp_iret ⟨⟨_, rfl, u54⟩, hT48, k51, trivial⟩ dX4_takeCommand_154 (Or.inr ⟨rfl, by decide⟩)
      · have c53 : x46.toInt ≠ 0 := ti_eq_n c53
        refine mp_a (a_aload_n dX4_takeCommand_142 rfl) (mpp 143 rfl ?_)
        refine mt_callv (i := 47) (q' := q_101) (As := []) (rest := []) hT48 dX4_takeCommand_143 rfl qm_101 (by decide) rfl rl_289 (by decide) rfl (Nat.le_of_ble_eq_true rfl) rfl ⟨rfl, rfl⟩ ⟨Nat.le_of_ble_eq_true rfl, Nat.le_of_ble_eq_true rfl⟩ (EvP.mono (by decide) (c_CS_takeCreases_Script hT48 (KW.xr k51 hX) )) (fun r55 P56 g57 => mpp 146 rfl ?_)
        obtain ⟨⟨x58, rfl, g59⟩, hT60, k61, R62⟩ := g57
        have k63 : KW [514, 515, 516, 517, 518, 519] Po P56 := KW.trans k51 k61 rfl
        have wx58 := ti_full x58
        replace g59 : 0 ≤ x58.toInt ∧ x58.toInt ≤ 1 := g59
        show MEvP _ none q_97 146 [(0, .ref 289)] [.int x58] _ _ _ _
        refine mp_Tb (t := 153) (j_if_eq dX4_takeCommand_146) (by decide) (fun c65 => ?_) (fun c65 => mpp 149 rfl ?_)
        · have c65 : x58.toInt = 0 := ti_eq c65
          refine mp_a (a_iconst (v := 0) dX4_takeCommand_153 rfl) (mpp 154 rfl ?_)
          have u66 : 0 ≤ (0 : Int) ∧ (0 : Int) ≤ 1 := by omega
          exact mp_iret ⟨⟨_, rfl, u66⟩, hT60, k63, trivial⟩ dX4_takeCommand_154 (Or.inr ⟨rfl, by decide⟩)
        · have c65 : x58.toInt ≠ 0 := ti_eq_n c65
          refine mp_a (a_iconst (v := 1) dX4_takeCommand_149 rfl) (mpp 150 rfl ?_)
          refine mp_a (a_goto (t := 154) dX4_takeCommand_150 (by decide)) ?_
          have u67 : 0 ≤ (1 : Int) ∧ (1 : Int) ≤ 1 := by omega
          exact mp_iret ⟨⟨_, rfl, u67⟩, hT60, k63, trivial⟩ dX4_takeCommand_154 (Or.inr ⟨rfl, by decide⟩)
  · refine mp_t (s_tabIn (t := 225) (off := 213) dX4_takeCommand_12 (by omega) (by rw [c16]; rfl) (by decide)) ?_
    refine mp_a (a_iconst (v := 0) dX4_takeCommand_225 rfl) (mpp 226 rfl ?_)
    have u68 : 0 ≤ (0 : Int) ∧ (0 : Int) ≤ 1 := by omega
    exact mp_iret ⟨⟨_, rfl, u68⟩, hT8, k12, trivial⟩ dX4_takeCommand_226 (Or.inr ⟨rfl, by decide⟩)
  · refine mp_t (s_tabIn (t := 225) (off := 213) dX4_takeCommand_12 (by omega) (by rw [c16]; rfl) (by decide)) ?_
    refine mp_a (a_iconst (v := 0) dX4_takeCommand_225 rfl) (mpp 226 rfl ?_)
    have u69 : 0 ≤ (0 : Int) ∧ (0 : Int) ≤ 1 := by omega
    exact mp_iret ⟨⟨_, rfl, u69⟩, hT8, k12, trivial⟩ dX4_takeCommand_226 (Or.inr ⟨rfl, by decide⟩)
  · refine mp_t (s_tabIn (t := 210) (off := 198) dX4_takeCommand_12 (by omega) (by rw [c16]; rfl) (by decide)) ?_
    refine mp_a (a_aload_n dX4_takeCommand_210 rfl) (mpp 211 rfl ?_)
    refine mp_t (s_dup dX4_takeCommand_211 rfl) (mpp 212 rfl ?_)
    have g70 := ti_full (fv P7 289 2)
    refine mt_getI (i := 23) (k := 2) hT8 dX4_takeCommand_212 rfl rl_289 (by decide) rfl (by decide) rfl (fun g71 g72 => mpp 215 rfl ?_)
    refine mp_a (a_iconst (v := 1) dX4_takeCommand_215 rfl) (mpp 216 rfl ?_)
    obtain ⟨z73, h74⟩ := ti_ex ((fv P7 289 2) + 1 : Int32)
    have wz73 := ti_full z73
    refine mp_t (s_iadd (v := z73) dX4_takeCommand_216 h74) (mpp 217 rfl ?_)
    try have e75 : z73.toInt = (fv P7 289 2).toInt + 1 := ti_addz h74 rfl rfl (by omega) (by omega)
    refine mt_putI (i := 23) (k := 2) (x := z73) hT8 dX4_takeCommand_217 rfl rl_289 (by decide) rfl (by decide) rfl (ti_full z73) rfl rfl (fun P76 hT77 f78 f79 f80 => mpp 220 rfl ?_)
    have k81 : KW [514, 515, 516, 517, 518, 519] Po P76 := KW.step k12 rl_289 rfl f79 f80
    have e82 : (fv P76 289 2).toInt = z73.toInt := congrArg Int32.toInt f78
    refine mp_a (a_aload_n dX4_takeCommand_220 rfl) (mpp 221 rfl ?_)
    refine mt_callv (i := 50) (q' := q_103) (As := []) (rest := []) hT77 dX4_takeCommand_221 rfl qm_103 (by decide) rfl rl_289 (by decide) rfl (Nat.le_of_ble_eq_true rfl) rfl ⟨rfl, rfl⟩ ⟨Nat.le_of_ble_eq_true rfl, Nat.le_of_ble_eq_true rfl⟩ (EvP.mono (by decide) (c_CS_takePiece_Script hT77 (KW.xr k81 hX) )) (fun r83 P84 g85 => mpp 224 rfl ?_)
    obtain ⟨⟨x86, rfl, g87⟩, hT88, k89, R90⟩ := g85
    have k91 : KW [514, 515, 516, 517, 518, 519] Po P84 := KW.trans k81 k89 rfl
    have wx86 := ti_full x86
    replace g87 : 0 ≤ x86.toInt ∧ x86.toInt ≤ 1 := g87
    show MEvP _ none q_97 224 [(0, .ref 289)] [.int x86] _ _ _ _
    have u93 : 0 ≤ x86.toInt ∧ x86.toInt ≤ 1 := by omega
    exact mp_iret ⟨⟨_, rfl, u93⟩, hT88, k91, trivial⟩ dX4_takeCommand_224 (Or.inr ⟨rfl, ti_01 (by omega)⟩)
  · refine mp_t (s_tabIn (t := 225) (off := 213) dX4_takeCommand_12 (by omega) (by rw [c16]; rfl) (by decide)) ?_
    refine mp_a (a_iconst (v := 0) dX4_takeCommand_225 rfl) (mpp 226 rfl ?_)
    have u94 : 0 ≤ (0 : Int) ∧ (0 : Int) ≤ 1 := by omega
    exact mp_iret ⟨⟨_, rfl, u94⟩, hT8, k12, trivial⟩ dX4_takeCommand_226 (Or.inr ⟨rfl, by decide⟩)
  · refine mp_t (s_tabIn (t := 225) (off := 213) dX4_takeCommand_12 (by omega) (by rw [c16]; rfl) (by decide)) ?_
    refine mp_a (a_iconst (v := 0) dX4_takeCommand_225 rfl) (mpp 226 rfl ?_)
    have u95 : 0 ≤ (0 : Int) ∧ (0 : Int) ≤ 1 := by omega
    exact mp_iret ⟨⟨_, rfl, u95⟩, hT8, k12, trivial⟩ dX4_takeCommand_226 (Or.inr ⟨rfl, by decide⟩)
  · refine mp_t (s_tabIn (t := 225) (off := 213) dX4_takeCommand_12 (by omega) (by rw [c16]; rfl) (by decide)) ?_
    refine mp_a (a_iconst (v := 0) dX4_takeCommand_225 rfl) (mpp 226 rfl ?_)
    have u96 : 0 ≤ (0 : Int) ∧ (0 : Int) ≤ 1 := by omega
    exact mp_iret ⟨⟨_, rfl, u96⟩, hT8, k12, trivial⟩ dX4_takeCommand_226 (Or.inr ⟨rfl, by decide⟩)
  · refine mp_t (s_tabIn (t := 225) (off := 213) dX4_takeCommand_12 (by omega) (by rw [c16]; rfl) (by decide)) ?_
    refine mp_a (a_iconst (v := 0) dX4_takeCommand_225 rfl) (mpp 226 rfl ?_)
    have u97 : 0 ≤ (0 : Int) ∧ (0 : Int) ≤ 1 := by omega
    exact mp_iret ⟨⟨_, rfl, u97⟩, hT8, k12, trivial⟩ dX4_takeCommand_226 (Or.inr ⟨rfl, by decide⟩)
  · refine mp_t (s_tabIn (t := 225) (off := 213) dX4_takeCommand_12 (by omega) (by rw [c16]; rfl) (by decide)) ?_
    refine mp_a (a_iconst (v := 0) dX4_takeCommand_225 rfl) (mpp 226 rfl ?_)
    have u98 : 0 ≤ (0 : Int) ∧ (0 : Int) ≤ 1 := by omega
    exact mp_iret ⟨⟨_, rfl, u98⟩, hT8, k12, trivial⟩ dX4_takeCommand_226 (Or.inr ⟨rfl, by decide⟩)
  · refine mp_t (s_tabIn (t := 225) (off := 213) dX4_takeCommand_12 (by omega) (by rw [c16]; rfl) (by decide)) ?_
    refine mp_a (a_iconst (v := 0) dX4_takeCommand_225 rfl) (mpp 226 rfl ?_)
    have u99 : 0 ≤ (0 : Int) ∧ (0 : Int) ≤ 1 := by omega
    exact mp_iret ⟨⟨_, rfl, u99⟩, hT8, k12, trivial⟩ dX4_takeCommand_226 (Or.inr ⟨rfl, by decide⟩)
  · refine mp_t (s_tabIn (t := 155) (off := 143) dX4_takeCommand_12 (by omega) (by rw [c16]; rfl) (by decide)) ?_
    refine mp_a (a_aload_n dX4_takeCommand_155 rfl) (mpp 156 rfl ?_)
    refine mp_t (s_dup dX4_takeCommand_156 rfl) (mpp 157 rfl ?_)
    have g100 := ti_full (fv P7 289 2)
    refine mt_getI (i := 23) (k := 2) hT8 dX4_takeCommand_157 rfl rl_289 (by decide) rfl (by decide) rfl (fun g101 g102 => mpp 160 rfl ?_)
    refine mp_a (a_iconst (v := 1) dX4_takeCommand_160 rfl) (mpp 161 rfl ?_)
    obtain ⟨z103, h104⟩ := ti_ex ((fv P7 289 2) + 1 : Int32)
    have wz103 := ti_full z103
    refine mp_t (s_iadd (v := z103) dX4_takeCommand_161 h104) (mpp 162 rfl ?_)
    try have e105 : z103.toInt = (fv P7 289 2).toInt + 1 := ti_addz h104 rfl rfl (by omega) (by omega)
    refine mt_putI (i := 23) (k := 2) (x := z103) hT8 dX4_takeCommand_162 rfl rl_289 (by decide) rfl (by decide) rfl (ti_full z103) rfl rfl (fun P106 hT107 f108 f109 f110 => mpp 165 rfl ?_)
    have k111 : KW [514, 515, 516, 517, 518, 519] Po P106 := KW.step k12 rl_289 rfl f109 f110
    have e112 : (fv P106 289 2).toInt = z103.toInt := congrArg Int32.toInt f108
    refine mp_a (a_aload_n dX4_takeCommand_165 rfl) (mpp 166 rfl ?_)
    refine mt_callv (i := 50) (q' := q_103) (As := []) (rest := []) hT107 dX4_takeCommand_166 rfl qm_103 (by decide) rfl rl_289 (by decide) rfl (Nat.le_of_ble_eq_true rfl) rfl ⟨rfl, rfl⟩ ⟨Nat.le_of_ble_eq_true rfl, Nat.le_of_ble_eq_true rfl⟩ (EvP.mono (by decide) (c_CS_takePiece_Script hT107 (KW.xr k111 hX) )) (fun r113 P114 g115 => mpp 169 rfl ?_)
    obtain ⟨⟨x116, rfl, g117⟩, hT118, k119, R120⟩ := g115
    have k121 : KW [514, 515, 516, 517, 518, 519] Po P114 := KW.trans k111 k119 rfl
    have wx116 := ti_full x116
    replace g117 : 0 ≤ x116.toInt ∧ x116.toInt ≤ 1 := g117
    show MEvP _ none q_97 169 [(0, .ref 289)] [.int x116] _ _ _ _
    refine mp_Tb (t := 208) (j_if_eq dX4_takeCommand_169) (by decide) (fun c123 => ?_) (fun c123 => mpp 172 rfl ?_)
    · have c123 : x116.toInt = 0 := ti_eq c123
      refine mp_a (a_iconst (v := 0) dX4_takeCommand_208 rfl) (mpp 209 rfl ?_)
      have u124 : 0 ≤ (0 : Int) ∧ (0 : Int) ≤ 1 := by omega
      exact mp_iret ⟨⟨_, rfl, u124⟩, hT118, k121, trivial⟩ dX4_takeCommand_209 (Or.inr ⟨rfl, by decide⟩)
    · have c123 : x116.toInt ≠ 0 := ti_eq_n c123
      refine mp_a (a_aload_n dX4_takeCommand_172 rfl) (mpp 173 rfl ?_)
      refine mp_a (a_bipush (v := 46) dX4_takeCommand_173 rfl) (mpp 175 rfl ?_)
      refine mt_callv (i := 33) (q' := q_100) (As := [.int 46]) (rest := []) hT118 dX4_takeCommand_175 rfl qm_100 (by decide) rfl rl_289 (by decide) rfl (Nat.le_of_ble_eq_true rfl) rfl ⟨rfl, rfl⟩ ⟨Nat.le_of_ble_eq_true rfl, Nat.le_of_ble_eq_true rfl⟩ (EvP.mono (by decide) (c_CS_takeSign_Script hT118 (KW.xr k121 hX) )) (fun r125 P126 g127 => mpp 178 rfl ?_)
      obtain ⟨⟨x128, rfl, g129⟩, hT130, k131, R132⟩ := g127
      have k133 : KW [514, 515, 516, 517, 518, 519] Po P126 := KW.trans k121 k131 rfl
      have wx128 := ti_full x128
      replace g129 : 0 ≤ x128.toInt ∧ x128.toInt ≤ 1 := g129
      show MEvP _ none q_97 178 [(0, .ref 289)] [.int x128] _ _ _ _
      refine mp_Tb (t := 208) (j_if_eq dX4_takeCommand_178) (by decide) (fun c135 => ?_) (fun c135 => mpp 181 rfl ?_)
      · have c135 : x128.toInt = 0 := ti_eq c135
        refine mp_a (a_iconst (v := 0) dX4_takeCommand_208 rfl) (mpp 209 rfl ?_)
        have u136 : 0 ≤ (0 : Int) ∧ (0 : Int) ≤ 1 := by omega
        exact mp_iret ⟨⟨_, rfl, u136⟩, hT130, k133, trivial⟩ dX4_takeCommand_209 (Or.inr ⟨rfl, by decide⟩)
      · have c135 : x128.toInt ≠ 0 := ti_eq_n c135
        refine mp_a (a_aload_n dX4_takeCommand_181 rfl) (mpp 182 rfl ?_)
        refine mt_callv (i := 53) (q' := q_105) (As := []) (rest := []) hT130 dX4_takeCommand_182 rfl qm_105 (by decide) rfl rl_289 (by decide) rfl (Nat.le_of_ble_eq_true rfl) rfl ⟨rfl, rfl⟩ ⟨Nat.le_of_ble_eq_true rfl, Nat.le_of_ble_eq_true rfl⟩ (EvP.mono (by decide) (c_CS_takeCrease_Script hT130 (KW.xr k133 hX) )) (fun r137 P138 g139 => mpp 185 rfl ?_)
        obtain ⟨⟨x140, rfl, g141⟩, hT142, k143, R144⟩ := g139
        have k145 : KW [514, 515, 516, 517, 518, 519] Po P138 := KW.trans k133 k143 rfl
        have wx140 := ti_full x140
        replace g141 : 0 ≤ x140.toInt ∧ x140.toInt ≤ 1 := g141
        show MEvP _ none q_97 185 [(0, .ref 289)] [.int x140] _ _ _ _
        refine mp_Tb (t := 208) (j_if_eq dX4_takeCommand_185) (by decide) (fun c147 => ?_) (fun c147 => mpp 188 rfl ?_)
        · have c147 : x140.toInt = 0 := ti_eq c147
          refine mp_a (a_iconst (v := 0) dX4_takeCommand_208 rfl) (mpp 209 rfl ?_)
          have u148 : 0 ≤ (0 : Int) ∧ (0 : Int) ≤ 1 := by omega
          exact mp_iret ⟨⟨_, rfl, u148⟩, hT142, k145, trivial⟩ dX4_takeCommand_209 (Or.inr ⟨rfl, by decide⟩)
        · have c147 : x140.toInt ≠ 0 := ti_eq_n c147
          refine mp_a (a_aload_n dX4_takeCommand_188 rfl) (mpp 189 rfl ?_)
          refine mp_a (a_bipush (v := 61) dX4_takeCommand_189 rfl) (mpp 191 rfl ?_)
          refine mt_callv (i := 33) (q' := q_100) (As := [.int 61]) (rest := []) hT142 dX4_takeCommand_191 rfl qm_100 (by decide) rfl rl_289 (by decide) rfl (Nat.le_of_ble_eq_true rfl) rfl ⟨rfl, rfl⟩ ⟨Nat.le_of_ble_eq_true rfl, Nat.le_of_ble_eq_true rfl⟩ (EvP.mono (by decide) (c_CS_takeSign_Script hT142 (KW.xr k145 hX) )) (fun r149 P150 g151 => mpp 194 rfl ?_)
          obtain ⟨⟨x152, rfl, g153⟩, hT154, k155, R156⟩ := g151
          have k157 : KW [514, 515, 516, 517, 518, 519] Po P150 := KW.trans k145 k155 rfl
          have wx152 := ti_full x152
          replace g153 : 0 ≤ x152.toInt ∧ x152.toInt ≤ 1 := g153
          show MEvP _ none q_97 194 [(0, .ref 289)] [.int x152] _ _ _ _
          refine mp_Tb (t := 208) (j_if_eq dX4_takeCommand_194) (by decide) (fun c159 => ?_) (fun c159 => mpp 197 rfl ?_)
          · have c159 : x152.toInt = 0 := ti_eq c159
            refine mp_a (a_iconst (v := 0) dX4_takeCommand_208 rfl) (mpp 209 rfl ?_)
            have u160 : 0 ≤ (0 : Int) ∧ (0 : Int) ≤ 1 := by omega
            exact mp_iret ⟨⟨_, rfl, u160⟩, hT154, k157, trivial⟩ dX4_takeCommand_209 (Or.inr ⟨rfl, by decide⟩)
          · have c159 : x152.toInt ≠ 0 := ti_eq_n c159
            refine mp_a (a_aload_n dX4_takeCommand_197 rfl) (mpp 198 rfl ?_)
            refine mt_callv (i := 56) (q' := q_102) (As := []) (rest := []) hT154 dX4_takeCommand_198 rfl qm_102 (by decide) rfl rl_289 (by decide) rfl (Nat.le_of_ble_eq_true rfl) rfl ⟨rfl, rfl⟩ ⟨Nat.le_of_ble_eq_true rfl, Nat.le_of_ble_eq_true rfl⟩ (EvP.mono (by decide) (c_CS_takeKind_Script hT154 (KW.xr k157 hX) )) (fun r161 P162 g163 => mpp 201 rfl ?_)
            obtain ⟨⟨x164, rfl, g165⟩, hT166, k167, R168⟩ := g163
            have k169 : KW [514, 515, 516, 517, 518, 519] Po P162 := KW.trans k157 k167 rfl
            have wx164 := ti_full x164
            replace g165 : 0 ≤ x164.toInt ∧ x164.toInt ≤ 1 := g165
            show MEvP _ none q_97 201 [(0, .ref 289)] [.int x164] _ _ _ _
            refine mp_Tb (t := 208) (j_if_eq dX4_takeCommand_201) (by decide) (fun c171 => ?_) (fun c171 => mpp 204 rfl ?_)
            · have c171 : x164.toInt = 0 := ti_eq c171
              refine mp_a (a_iconst (v := 0) dX4_takeCommand_208 rfl) (mpp 209 rfl ?_)
              have u172 : 0 ≤ (0 : Int) ∧ (0 : Int) ≤ 1 := by omega
              exact mp_iret ⟨⟨_, rfl, u172⟩, hT166, k169, trivial⟩ dX4_takeCommand_209 (Or.inr ⟨rfl, by decide⟩)
            · have c171 : x164.toInt ≠ 0 := ti_eq_n c171
              refine mp_a (a_iconst (v := 1) dX4_takeCommand_204 rfl) (mpp 205 rfl ?_)
              refine mp_a (a_goto (t := 209) dX4_takeCommand_205 (by decide)) ?_
              have u173 : 0 ≤ (1 : Int) ∧ (1 : Int) ≤ 1 := by omega
              exact mp_iret ⟨⟨_, rfl, u173⟩, hT166, k169, trivial⟩ dX4_takeCommand_209 (Or.inr ⟨rfl, by decide⟩)
  · refine mp_t (s_tabIn (t := 225) (off := 213) dX4_takeCommand_12 (by omega) (by rw [c16]; rfl) (by decide)) ?_
    refine mp_a (a_iconst (v := 0) dX4_takeCommand_225 rfl) (mpp 226 rfl ?_)
    have u174 : 0 ≤ (0 : Int) ∧ (0 : Int) ≤ 1 := by omega
    exact mp_iret ⟨⟨_, rfl, u174⟩, hT8, k12, trivial⟩ dX4_takeCommand_226 (Or.inr ⟨rfl, by decide⟩)
  · refine mp_t (s_tabIn (t := 225) (off := 213) dX4_takeCommand_12 (by omega) (by rw [c16]; rfl) (by decide)) ?_
    refine mp_a (a_iconst (v := 0) dX4_takeCommand_225 rfl) (mpp 226 rfl ?_)
    have u175 : 0 ≤ (0 : Int) ∧ (0 : Int) ≤ 1 := by omega
    exact mp_iret ⟨⟨_, rfl, u175⟩, hT8, k12, trivial⟩ dX4_takeCommand_226 (Or.inr ⟨rfl, by decide⟩)
  · refine mp_t (s_tabIn (t := 225) (off := 213) dX4_takeCommand_12 (by omega) (by rw [c16]; rfl) (by decide)) ?_
    refine mp_a (a_iconst (v := 0) dX4_takeCommand_225 rfl) (mpp 226 rfl ?_)
    have u176 : 0 ≤ (0 : Int) ∧ (0 : Int) ≤ 1 := by omega
    exact mp_iret ⟨⟨_, rfl, u176⟩, hT8, k12, trivial⟩ dX4_takeCommand_226 (Or.inr ⟨rfl, by decide⟩)
  · refine mp_t (s_tabIn (t := 225) (off := 213) dX4_takeCommand_12 (by omega) (by rw [c16]; rfl) (by decide)) ?_
    refine mp_a (a_iconst (v := 0) dX4_takeCommand_225 rfl) (mpp 226 rfl ?_)
    have u177 : 0 ≤ (0 : Int) ∧ (0 : Int) ≤ 1 := by omega
    exact mp_iret ⟨⟨_, rfl, u177⟩, hT8, k12, trivial⟩ dX4_takeCommand_226 (Or.inr ⟨rfl, by decide⟩)
  · refine mp_t (s_tabIn (t := 225) (off := 213) dX4_takeCommand_12 (by omega) (by rw [c16]; rfl) (by decide)) ?_
    refine mp_a (a_iconst (v := 0) dX4_takeCommand_225 rfl) (mpp 226 rfl ?_)
    have u178 : 0 ≤ (0 : Int) ∧ (0 : Int) ≤ 1 := by omega
    exact mp_iret ⟨⟨_, rfl, u178⟩, hT8, k12, trivial⟩ dX4_takeCommand_226 (Or.inr ⟨rfl, by decide⟩)
  · refine mp_t (s_tabIn (t := 116) (off := 104) dX4_takeCommand_12 (by omega) (by rw [c16]; rfl) (by decide)) ?_
    refine mp_a (a_aload_n dX4_takeCommand_116 rfl) (mpp 117 rfl ?_)
    refine mp_t (s_dup dX4_takeCommand_117 rfl) (mpp 118 rfl ?_)
    have g179 := ti_full (fv P7 289 2)
    refine mt_getI (i := 23) (k := 2) hT8 dX4_takeCommand_118 rfl rl_289 (by decide) rfl (by decide) rfl (fun g180 g181 => mpp 121 rfl ?_)
    refine mp_a (a_iconst (v := 1) dX4_takeCommand_121 rfl) (mpp 122 rfl ?_)
    obtain ⟨z182, h183⟩ := ti_ex ((fv P7 289 2) + 1 : Int32)
    have wz182 := ti_full z182
    refine mp_t (s_iadd (v := z182) dX4_takeCommand_122 h183) (mpp 123 rfl ?_)
    try have e184 : z182.toInt = (fv P7 289 2).toInt + 1 := ti_addz h183 rfl rfl (by omega) (by omega)
    refine mt_putI (i := 23) (k := 2) (x := z182) hT8 dX4_takeCommand_123 rfl rl_289 (by decide) rfl (by decide) rfl (ti_full z182) rfl rfl (fun P185 hT186 f187 f188 f189 => mpp 126 rfl ?_)
    have k190 : KW [514, 515, 516, 517, 518, 519] Po P185 := KW.step k12 rl_289 rfl f188 f189
    have e191 : (fv P185 289 2).toInt = z182.toInt := congrArg Int32.toInt f187
    refine mp_a (a_aload_n dX4_takeCommand_126 rfl) (mpp 127 rfl ?_)
    refine mt_callv (i := 44) (q' := q_99) (As := []) (rest := []) hT186 dX4_takeCommand_127 rfl qm_99 (by decide) rfl rl_289 (by decide) rfl (Nat.le_of_ble_eq_true rfl) rfl ⟨rfl, rfl⟩ ⟨Nat.le_of_ble_eq_true rfl, Nat.le_of_ble_eq_true rfl⟩ (EvP.mono (by decide) (c_CS_takeSizes_Script hT186 (KW.xr k190 hX) )) (fun r192 P193 g194 => mpp 130 rfl ?_)
    obtain ⟨⟨x195, rfl, g196⟩, hT197, k198, R199⟩ := g194
    have k200 : KW [514, 515, 516, 517, 518, 519] Po P193 := KW.trans k190 k198 rfl
    have wx195 := ti_full x195
    replace g196 : 0 ≤ x195.toInt ∧ x195.toInt ≤ 1 := g196
    show MEvP _ none q_97 130 [(0, .ref 289)] [.int x195] _ _ _ _
    refine mp_Tb (t := 153) (j_if_eq dX4_takeCommand_130) (by decide) (fun c202 => ?_) (fun c202 => mpp 133 rfl ?_)
    · have c202 : x195.toInt = 0 := ti_eq c202
      refine mp_a (a_iconst (v := 0) dX4_takeCommand_153 rfl) (mpp 154 rfl ?_)
      have u203 : 0 ≤ (0 : Int) ∧ (0 : Int) ≤ 1 := by omega
      exact mp_iret ⟨⟨_, rfl, u203⟩, hT197, k200, trivial⟩ dX4_takeCommand_154 (Or.inr ⟨rfl, by decide⟩)
    · have c202 : x195.toInt ≠ 0 := ti_eq_n c202
      refine mp_a (a_aload_n dX4_takeCommand_133 rfl) (mpp 134 rfl ?_)
      refine mp_a (a_bipush (v := 58) dX4_takeCommand_134 rfl) (mpp 136 rfl ?_)
      refine mt_callv (i := 33) (q' := q_100) (As := [.int 58]) (rest := []) hT197 dX4_takeCommand_136 rfl qm_100 (by decide) rfl rl_289 (by decide) rfl (Nat.le_of_ble_eq_true rfl) rfl ⟨rfl, rfl⟩ ⟨Nat.le_of_ble_eq_true rfl, Nat.le_of_ble_eq_true rfl⟩ (EvP.mono (by decide) (c_CS_takeSign_Script hT197 (KW.xr k200 hX) )) (fun r204 P205 g206 => mpp 139 rfl ?_)
      obtain ⟨⟨x207, rfl, g208⟩, hT209, k210, R211⟩ := g206
      have k212 : KW [514, 515, 516, 517, 518, 519] Po P205 := KW.trans k200 k210 rfl
      have wx207 := ti_full x207
      replace g208 : 0 ≤ x207.toInt ∧ x207.toInt ≤ 1 := g208
      show MEvP _ none q_97 139 [(0, .ref 289)] [.int x207] _ _ _ _
      refine mp_Tb (t := 153) (j_if_eq dX4_takeCommand_139) (by decide) (fun c214 => ?_) (fun c214 => mpp 142 rfl ?_)
      · have c214 : x207.toInt = 0 := ti_eq c214
        refine mp_a (a_iconst (v := 0) dX4_takeCommand_153 rfl) (mpp 154 rfl ?_)
        have u215 : 0 ≤ (0 : Int) ∧ (0 : Int) ≤ 1 := by omega
        exact mp_iret ⟨⟨_, rfl, u215⟩, hT209, k212, trivial⟩ dX4_takeCommand_154 (Or.inr ⟨rfl, by decide⟩)
      · have c214 : x207.toInt ≠ 0 := ti_eq_n c214
        refine mp_a (a_aload_n dX4_takeCommand_142 rfl) (mpp 143 rfl ?_)
        refine mt_callv (i := 47) (q' := q_101) (As := []) (rest := []) hT209 dX4_takeCommand_143 rfl qm_101 (by decide) rfl rl_289 (by decide) rfl (Nat.le_of_ble_eq_true rfl) rfl ⟨rfl, rfl⟩ ⟨Nat.le_of_ble_eq_true rfl, Nat.le_of_ble_eq_true rfl⟩ (EvP.mono (by decide) (c_CS_takeCreases_Script hT209 (KW.xr k212 hX) )) (fun r216 P217 g218 => mpp 146 rfl ?_)
        obtain ⟨⟨x219, rfl, g220⟩, hT221, k222, R223⟩ := g218
        have k224 : KW [514, 515, 516, 517, 518, 519] Po P217 := KW.trans k212 k222 rfl
        have wx219 := ti_full x219
        replace g220 : 0 ≤ x219.toInt ∧ x219.toInt ≤ 1 := g220
        show MEvP _ none q_97 146 [(0, .ref 289)] [.int x219] _ _ _ _
        refine mp_Tb (t := 153) (j_if_eq dX4_takeCommand_146) (by decide) (fun c226 => ?_) (fun c226 => mpp 149 rfl ?_)
        · have c226 : x219.toInt = 0 := ti_eq c226
          refine mp_a (a_iconst (v := 0) dX4_takeCommand_153 rfl) (mpp 154 rfl ?_)
          have u227 : 0 ≤ (0 : Int) ∧ (0 : Int) ≤ 1 := by omega
          exact mp_iret ⟨⟨_, rfl, u227⟩, hT221, k224, trivial⟩ dX4_takeCommand_154 (Or.inr ⟨rfl, by decide⟩)
        · have c226 : x219.toInt ≠ 0 := ti_eq_n c226
          refine mp_a (a_iconst (v := 1) dX4_takeCommand_149 rfl) (mpp 150 rfl ?_)
          refine mp_a (a_goto (t := 154) dX4_takeCommand_150 (by decide)) ?_
          have u228 : 0 ≤ (1 : Int) ∧ (1 : Int) ≤ 1 := by omega
          exact mp_iret ⟨⟨_, rfl, u228⟩, hT221, k224, trivial⟩ dX4_takeCommand_154 (Or.inr ⟨rfl, by decide⟩)
  · refine mp_t (s_tabIn (t := 210) (off := 198) dX4_takeCommand_12 (by omega) (by rw [c16]; rfl) (by decide)) ?_
    refine mp_a (a_aload_n dX4_takeCommand_210 rfl) (mpp 211 rfl ?_)
    refine mp_t (s_dup dX4_takeCommand_211 rfl) (mpp 212 rfl ?_)
    have g229 := ti_full (fv P7 289 2)
    refine mt_getI (i := 23) (k := 2) hT8 dX4_takeCommand_212 rfl rl_289 (by decide) rfl (by decide) rfl (fun g230 g231 => mpp 215 rfl ?_)
    refine mp_a (a_iconst (v := 1) dX4_takeCommand_215 rfl) (mpp 216 rfl ?_)
    obtain ⟨z232, h233⟩ := ti_ex ((fv P7 289 2) + 1 : Int32)
    have wz232 := ti_full z232
    refine mp_t (s_iadd (v := z232) dX4_takeCommand_216 h233) (mpp 217 rfl ?_)
    try have e234 : z232.toInt = (fv P7 289 2).toInt + 1 := ti_addz h233 rfl rfl (by omega) (by omega)
    refine mt_putI (i := 23) (k := 2) (x := z232) hT8 dX4_takeCommand_217 rfl rl_289 (by decide) rfl (by decide) rfl (ti_full z232) rfl rfl (fun P235 hT236 f237 f238 f239 => mpp 220 rfl ?_)
    have k240 : KW [514, 515, 516, 517, 518, 519] Po P235 := KW.step k12 rl_289 rfl f238 f239
    have e241 : (fv P235 289 2).toInt = z232.toInt := congrArg Int32.toInt f237
    refine mp_a (a_aload_n dX4_takeCommand_220 rfl) (mpp 221 rfl ?_)
    refine mt_callv (i := 50) (q' := q_103) (As := []) (rest := []) hT236 dX4_takeCommand_221 rfl qm_103 (by decide) rfl rl_289 (by decide) rfl (Nat.le_of_ble_eq_true rfl) rfl ⟨rfl, rfl⟩ ⟨Nat.le_of_ble_eq_true rfl, Nat.le_of_ble_eq_true rfl⟩ (EvP.mono (by decide) (c_CS_takePiece_Script hT236 (KW.xr k240 hX) )) (fun r242 P243 g244 => mpp 224 rfl ?_)
    obtain ⟨⟨x245, rfl, g246⟩, hT247, k248, R249⟩ := g244
    have k250 : KW [514, 515, 516, 517, 518, 519] Po P243 := KW.trans k240 k248 rfl
    have wx245 := ti_full x245
    replace g246 : 0 ≤ x245.toInt ∧ x245.toInt ≤ 1 := g246
    show MEvP _ none q_97 224 [(0, .ref 289)] [.int x245] _ _ _ _
    have u252 : 0 ≤ x245.toInt ∧ x245.toInt ≤ 1 := by omega
    exact mp_iret ⟨⟨_, rfl, u252⟩, hT247, k250, trivial⟩ dX4_takeCommand_224 (Or.inr ⟨rfl, ti_01 (by omega)⟩)
  · refine mp_t (s_tabIn (t := 210) (off := 198) dX4_takeCommand_12 (by omega) (by rw [c16]; rfl) (by decide)) ?_
    refine mp_a (a_aload_n dX4_takeCommand_210 rfl) (mpp 211 rfl ?_)
    refine mp_t (s_dup dX4_takeCommand_211 rfl) (mpp 212 rfl ?_)
    have g253 := ti_full (fv P7 289 2)
    refine mt_getI (i := 23) (k := 2) hT8 dX4_takeCommand_212 rfl rl_289 (by decide) rfl (by decide) rfl (fun g254 g255 => mpp 215 rfl ?_)
    refine mp_a (a_iconst (v := 1) dX4_takeCommand_215 rfl) (mpp 216 rfl ?_)
    obtain ⟨z256, h257⟩ := ti_ex ((fv P7 289 2) + 1 : Int32)
    have wz256 := ti_full z256
    refine mp_t (s_iadd (v := z256) dX4_takeCommand_216 h257) (mpp 217 rfl ?_)
    try have e258 : z256.toInt = (fv P7 289 2).toInt + 1 := ti_addz h257 rfl rfl (by omega) (by omega)
    refine mt_putI (i := 23) (k := 2) (x := z256) hT8 dX4_takeCommand_217 rfl rl_289 (by decide) rfl (by decide) rfl (ti_full z256) rfl rfl (fun P259 hT260 f261 f262 f263 => mpp 220 rfl ?_)
    have k264 : KW [514, 515, 516, 517, 518, 519] Po P259 := KW.step k12 rl_289 rfl f262 f263
    have e265 : (fv P259 289 2).toInt = z256.toInt := congrArg Int32.toInt f261
    refine mp_a (a_aload_n dX4_takeCommand_220 rfl) (mpp 221 rfl ?_)
    refine mt_callv (i := 50) (q' := q_103) (As := []) (rest := []) hT260 dX4_takeCommand_221 rfl qm_103 (by decide) rfl rl_289 (by decide) rfl (Nat.le_of_ble_eq_true rfl) rfl ⟨rfl, rfl⟩ ⟨Nat.le_of_ble_eq_true rfl, Nat.le_of_ble_eq_true rfl⟩ (EvP.mono (by decide) (c_CS_takePiece_Script hT260 (KW.xr k264 hX) )) (fun r266 P267 g268 => mpp 224 rfl ?_)
    obtain ⟨⟨x269, rfl, g270⟩, hT271, k272, R273⟩ := g268
    have k274 : KW [514, 515, 516, 517, 518, 519] Po P267 := KW.trans k264 k272 rfl
    have wx269 := ti_full x269
    replace g270 : 0 ≤ x269.toInt ∧ x269.toInt ≤ 1 := g270
    show MEvP _ none q_97 224 [(0, .ref 289)] [.int x269] _ _ _ _
    have u276 : 0 ≤ x269.toInt ∧ x269.toInt ≤ 1 := by omega
    exact mp_iret ⟨⟨_, rfl, u276⟩, hT271, k274, trivial⟩ dX4_takeCommand_224 (Or.inr ⟨rfl, ti_01 (by omega)⟩)
  · refine mp_t (s_tabIn (t := 225) (off := 213) dX4_takeCommand_12 (by omega) (by rw [c16]; rfl) (by decide)) ?_
    refine mp_a (a_iconst (v := 0) dX4_takeCommand_225 rfl) (mpp 226 rfl ?_)
    have u277 : 0 ≤ (0 : Int) ∧ (0 : Int) ≤ 1 := by omega
    exact mp_iret ⟨⟨_, rfl, u277⟩, hT8, k12, trivial⟩ dX4_takeCommand_226 (Or.inr ⟨rfl, by decide⟩)
  · refine mp_t (s_tabIn (t := 225) (off := 213) dX4_takeCommand_12 (by omega) (by rw [c16]; rfl) (by decide)) ?_
    refine mp_a (a_iconst (v := 0) dX4_takeCommand_225 rfl) (mpp 226 rfl ?_)
    have u278 : 0 ≤ (0 : Int) ∧ (0 : Int) ≤ 1 := by omega
    exact mp_iret ⟨⟨_, rfl, u278⟩, hT8, k12, trivial⟩ dX4_takeCommand_226 (Or.inr ⟨rfl, by decide⟩)
  · refine mp_t (s_tabIn (t := 210) (off := 198) dX4_takeCommand_12 (by omega) (by rw [c16]; rfl) (by decide)) ?_
    refine mp_a (a_aload_n dX4_takeCommand_210 rfl) (mpp 211 rfl ?_)
    refine mp_t (s_dup dX4_takeCommand_211 rfl) (mpp 212 rfl ?_)
    have g279 := ti_full (fv P7 289 2)
    refine mt_getI (i := 23) (k := 2) hT8 dX4_takeCommand_212 rfl rl_289 (by decide) rfl (by decide) rfl (fun g280 g281 => mpp 215 rfl ?_)
    refine mp_a (a_iconst (v := 1) dX4_takeCommand_215 rfl) (mpp 216 rfl ?_)
    obtain ⟨z282, h283⟩ := ti_ex ((fv P7 289 2) + 1 : Int32)
    have wz282 := ti_full z282
    refine mp_t (s_iadd (v := z282) dX4_takeCommand_216 h283) (mpp 217 rfl ?_)
    try have e284 : z282.toInt = (fv P7 289 2).toInt + 1 := ti_addz h283 rfl rfl (by omega) (by omega)
    refine mt_putI (i := 23) (k := 2) (x := z282) hT8 dX4_takeCommand_217 rfl rl_289 (by decide) rfl (by decide) rfl (ti_full z282) rfl rfl (fun P285 hT286 f287 f288 f289 => mpp 220 rfl ?_)
    have k290 : KW [514, 515, 516, 517, 518, 519] Po P285 := KW.step k12 rl_289 rfl f288 f289
    have e291 : (fv P285 289 2).toInt = z282.toInt := congrArg Int32.toInt f287
    refine mp_a (a_aload_n dX4_takeCommand_220 rfl) (mpp 221 rfl ?_)
    refine mt_callv (i := 50) (q' := q_103) (As := []) (rest := []) hT286 dX4_takeCommand_221 rfl qm_103 (by decide) rfl rl_289 (by decide) rfl (Nat.le_of_ble_eq_true rfl) rfl ⟨rfl, rfl⟩ ⟨Nat.le_of_ble_eq_true rfl, Nat.le_of_ble_eq_true rfl⟩ (EvP.mono (by decide) (c_CS_takePiece_Script hT286 (KW.xr k290 hX) )) (fun r292 P293 g294 => mpp 224 rfl ?_)
    obtain ⟨⟨x295, rfl, g296⟩, hT297, k298, R299⟩ := g294
    have k300 : KW [514, 515, 516, 517, 518, 519] Po P293 := KW.trans k290 k298 rfl
    have wx295 := ti_full x295
    replace g296 : 0 ≤ x295.toInt ∧ x295.toInt ≤ 1 := g296
    show MEvP _ none q_97 224 [(0, .ref 289)] [.int x295] _ _ _ _
    have u302 : 0 ≤ x295.toInt ∧ x295.toInt ≤ 1 := by omega
    exact mp_iret ⟨⟨_, rfl, u302⟩, hT297, k300, trivial⟩ dX4_takeCommand_224 (Or.inr ⟨rfl, ti_01 (by omega)⟩)

set_option maxHeartbeats 4000000 in
theorem c_CS_faultPosition_Script_l6 {Po : mP}  (hTo : Typ Po) (hX : XR Po)  : ∀ (n : Nat) (v1 : Int32), ∀ (P : mP), Typ P → KW [514, 515, 516, 517, 518, 519] Po P → (0 ≤ v1.toInt) → (2147483647 - v1.toInt).toNat = n → MEvP 5 none q_95 6 [(0, .ref 289), (1, .int v1)] [] P 0 0 (fun r P' => (∃ x : Int32, r = some (.int x) ∧ (True)) ∧ Typ P' ∧ KW [514, 515, 516, 517, 518, 519] Po P' ∧ True) := by
  intro n
  induction n using Nat.strongRecOn with | _ n ih => ?_
  intro v1 P hT hK i_0 hm
  have w_v1 := ti_full v1
  refine mp_a (a_iload_n dX4_faultPosition_6 rfl) (mpp 7 rfl ?_)
  refine mp_a (a_bipush (v := 80) dX4_faultPosition_7 rfl) (mpp 9 rfl ?_)
  refine mp_Tb (t := 54) (j_icmp_ge dX4_faultPosition_9) (by decide) (fun c1 => ?_) (fun c1 => mpp 12 rfl ?_)
  · have c1 : v1.toInt ≥ 80 := ti_ge c1
    refine mp_a (a_aload_n dX4_faultPosition_54 rfl) (mpp 55 rfl ?_)
    have g2 := ti_full (fv P 289 2)
    refine mt_getI (i := 23) (k := 2) hT dX4_faultPosition_55 rfl rl_289 (by decide) rfl (by decide) rfl (fun g3 g4 => mpp 58 rfl ?_)
    exact mp_iret ⟨⟨_, rfl, trivial⟩, hT, hK, trivial⟩ dX4_faultPosition_58 (Or.inl rfl)
  · have c1 : v1.toInt < 80 := ti_ge_n c1
    refine mp_a (a_aload_n dX4_faultPosition_12 rfl) (mpp 13 rfl ?_)
    refine mt_callv (i := 29) (q' := q_97) (As := []) (rest := []) hT dX4_faultPosition_13 rfl qm_97 (by decide) rfl rl_289 (by decide) rfl (Nat.le_of_ble_eq_true rfl) rfl ⟨rfl, rfl⟩ ⟨Nat.le_of_ble_eq_true rfl, Nat.le_of_ble_eq_true rfl⟩ (EvP.mono (by decide) (c_CS_takeCommand_Script hT (KW.xr hK hX) )) (fun r5 P6 g7 => mpp 16 rfl ?_)
    obtain ⟨⟨x8, rfl, g9⟩, hT10, k11, R12⟩ := g7
    have k13 : KW [514, 515, 516, 517, 518, 519] Po P6 := KW.trans hK k11 rfl
    have wx8 := ti_full x8
    replace g9 : 0 ≤ x8.toInt ∧ x8.toInt ≤ 1 := g9
    show MEvP _ none q_95 16 [(0, .ref 289), (1, .int v1)] [.int x8] _ _ _ _
    refine mp_Tb (t := 54) (j_if_eq dX4_faultPosition_16) (by decide) (fun c15 => ?_) (fun c15 => mpp 19 rfl ?_)
    · have c15 : x8.toInt = 0 := ti_eq c15
      refine mp_a (a_aload_n dX4_faultPosition_54 rfl) (mpp 55 rfl ?_)
      have g16 := ti_full (fv P6 289 2)
      refine mt_getI (i := 23) (k := 2) hT10 dX4_faultPosition_55 rfl rl_289 (by decide) rfl (by decide) rfl (fun g17 g18 => mpp 58 rfl ?_)
      exact mp_iret ⟨⟨_, rfl, trivial⟩, hT10, k13, trivial⟩ dX4_faultPosition_58 (Or.inl rfl)
    · have c15 : x8.toInt ≠ 0 := ti_eq_n c15
      refine mp_a (a_aload_n dX4_faultPosition_19 rfl) (mpp 20 rfl ?_)
      have g19 := ti_full (fv P6 289 2)
      refine mt_getI (i := 23) (k := 2) hT10 dX4_faultPosition_20 rfl rl_289 (by decide) rfl (by decide) rfl (fun g20 g21 => mpp 23 rfl ?_)
      refine mp_a (a_aload_n dX4_faultPosition_23 rfl) (mpp 24 rfl ?_)
      have g22 : (0 : Int) ≤ (fv P6 289 1).toInt ∧ (fv P6 289 1).toInt ≤ 80 := Typ.rng hT10 rl_289 (by decide) (by decide) rfl
      refine mt_getI (i := 15) (k := 1) hT10 dX4_faultPosition_24 rfl rl_289 (by decide) rfl (by decide) rfl (fun g23 g24 => mpp 27 rfl ?_)
      refine mp_Tb (t := 34) (j_icmp_ne dX4_faultPosition_27) (by decide) (fun c25 => ?_) (fun c25 => mpp 30 rfl ?_)
      · have c25 : (fv P6 289 2).toInt ≠ (fv P6 289 1).toInt := ti_ne c25
        refine mp_a (a_aload_n dX4_faultPosition_34 rfl) (mpp 35 rfl ?_)
        refine mp_a (a_bipush (v := 59) dX4_faultPosition_35 rfl) (mpp 37 rfl ?_)
        refine mt_callv (i := 33) (q' := q_100) (As := [.int 59]) (rest := []) hT10 dX4_faultPosition_37 rfl qm_100 (by decide) rfl rl_289 (by decide) rfl (Nat.le_of_ble_eq_true rfl) rfl ⟨rfl, rfl⟩ ⟨Nat.le_of_ble_eq_true rfl, Nat.le_of_ble_eq_true rfl⟩ (EvP.mono (by decide) (c_CS_takeSign_Script hT10 (KW.xr k13 hX) )) (fun r26 P27 g28 => mpp 40 rfl ?_)
        obtain ⟨⟨x29, rfl, g30⟩, hT31, k32, R33⟩ := g28
        have k34 : KW [514, 515, 516, 517, 518, 519] Po P27 := KW.trans k13 k32 rfl
        have wx29 := ti_full x29
        replace g30 : 0 ≤ x29.toInt ∧ x29.toInt ≤ 1 := g30
        show MEvP _ none q_95 40 [(0, .ref 289), (1, .int v1)] [.int x29] _ _ _ _
        refine mp_Tb (t := 48) (j_if_ne dX4_faultPosition_40) (by decide) (fun c36 => ?_) (fun c36 => mpp 43 rfl ?_)
        · have c36 : x29.toInt ≠ 0 := ti_ne c36
          obtain ⟨z37, h38⟩ := ti_ex (v1 + 1 : Int32)
          have wz37 := ti_full z37
          refine mp_a (a_iinc (v := z37) (L' := [(1, .int z37), (0, .ref 289)]) dX4_faultPosition_48 (by decide) rfl h38 rfl) (mpp 51 rfl ?_)
          try have e39 : z37.toInt = v1.toInt + 1 := ti_addz h38 rfl rfl (by omega) (by omega)
          refine mp_a (a_goto (t := 6) dX4_faultPosition_51 (by decide)) ?_
          refine MEvP.less (L := [(0, .ref 289), (1, .int z37)]) rfl rfl ⟨rfl, rfl, trivial⟩ ?_
          have i40 : 0 ≤ z37.toInt := by omega
          exact ih _ (by omega) _ P27 hT31 k34 i40 rfl
        · have c36 : x29.toInt = 0 := ti_ne_n c36
          refine mp_a (a_aload_n dX4_faultPosition_43 rfl) (mpp 44 rfl ?_)
          have g41 := ti_full (fv P27 289 2)
          refine mt_getI (i := 23) (k := 2) hT31 dX4_faultPosition_44 rfl rl_289 (by decide) rfl (by decide) rfl (fun g42 g43 => mpp 47 rfl ?_)
          exact mp_iret ⟨⟨_, rfl, trivial⟩, hT31, k34, trivial⟩ dX4_faultPosition_47 (Or.inl rfl)
      · have c25 : (fv P6 289 2).toInt = (fv P6 289 1).toInt := ti_ne_n c25
        refine mp_a (a_sipush (v := -1004) dX4_faultPosition_30 rfl) (mpp 33 rfl ?_)
        exact mp_iret ⟨⟨_, rfl, trivial⟩, hT10, k13, trivial⟩ dX4_faultPosition_33 (Or.inl rfl)

set_option maxHeartbeats 4000000 in
theorem c_CS_faultPosition_Script {Po : mP}  (hT : Typ Po) (hX : XR Po)   : EvP 6 95 [.ref 289] Po (fun r P' => (∃ x : Int32, r = some (.int x) ∧ (True)) ∧ Typ P' ∧ KW [514, 515, 516, 517, 518, 519] Po P' ∧ True) := by
  refine EvP.of qm_95 (Nat.le_of_ble_eq_true rfl) rfl ?_
  show MEvP _ none q_95 0 [(0, .ref 289)] [] _ 0 0 _
  refine mp_a (a_aload_n dX4_faultPosition_0 rfl) (mpp 1 rfl ?_)
  refine mt_callv (i := 26) (q' := q_96) (As := []) (rest := []) hT dX4_faultPosition_1 rfl qm_96 (by decide) rfl rl_289 (by decide) rfl (Nat.le_of_ble_eq_true rfl) rfl ⟨rfl, rfl⟩ ⟨Nat.le_of_ble_eq_true rfl, Nat.le_of_ble_eq_true rfl⟩ (EvP.mono (by decide) (c_CS_rewind_Script hT hX )) (fun r1 P2 g3 => mpp 4 rfl ?_)
  obtain ⟨⟨rfl, g5⟩, hT6, k7, R8⟩ := g3
  have k9 : KW [514, 515, 516, 517, 518, 519] Po P2 := KW.trans KW.refl k7 rfl
  show MEvP _ none q_95 4 [(0, .ref 289)] [] _ _ _ _
  refine mp_a (a_iconst (v := 0) dX4_faultPosition_4 rfl) (mpp 5 rfl ?_)
  refine mp_a (a_istore_n (L' := [(1, .int 0), (0, .ref 289)]) dX4_faultPosition_5 (by decide) rfl) (mpp 6 rfl ?_)
  refine MEvP.less (L := [(0, .ref 289), (1, .int 0)]) rfl rfl ⟨rfl, rfl, trivial⟩ ?_
  have i11 : 0 ≤ (0 : Int) := by omega
  exact c_CS_faultPosition_Script_l6 hT hX   _ _ P2 hT6 k9 i11 rfl

set_option maxHeartbeats 4000000 in
theorem c_CS_clear_Script {Po : mP}  (hT : Typ Po) (hX : XR Po)   : EvP 1 106 [.ref 289] Po (fun r P' => (r = none ∧ ((fv P' 289 1).toInt = 0)) ∧ Typ P' ∧ KW [513] Po P' ∧ True) := by
  refine EvP.of qm_106 (Nat.le_of_ble_eq_true rfl) rfl ?_
  show MEvP _ none q_106 0 [(0, .ref 289)] [] _ 0 0 _
  refine mp_a (a_aload_n dX4_clear_0 rfl) (mpp 1 rfl ?_)
  refine mp_a (a_iconst (v := 0) dX4_clear_1 rfl) (mpp 2 rfl ?_)
  refine mt_putI (i := 15) (k := 1) (x := 0) hT dX4_clear_2 rfl rl_289 (by decide) rfl (by decide) rfl (by decide) rfl rfl (fun P1 hT2 f3 f4 f5 => mpp 5 rfl ?_)
  have k6 : KW [513] Po P1 := KW.step KW.refl rl_289 rfl f4 f5
  have e7 : (fv P1 289 1).toInt = 0 := congrArg Int32.toInt f3
  have u8 : (fv P1 289 1).toInt = 0 := by omega
  exact mp_ret ⟨⟨rfl, u8⟩, hT2, k6, trivial⟩ dX4_clear_5 rfl

set_option maxHeartbeats 4000000 in
theorem c_CP_copyFrom_Piece_Piece {Po : mP} {a0_ : Nat} {a1_ : Nat} (hT : Typ Po) (hX : XR Po)  (hp0 : a0_ + 3 ≤ a1_ ∨ a1_ + 3 ≤ a0_) (ha0 : rl a0_ = 3) (ha1 : rl a1_ = 3) : EvP 2 18 [.ref a0_, .ref a1_] Po (fun r P' => (r = none ∧ (True)) ∧ Typ P' ∧ KW [192, 193, 194, 256, 320] Po P' ∧ fv P' a0_ 0 = fv Po a1_ 0 ∧ fv P' a0_ 1 = fv Po a1_ 1 ∧ fv P' a0_ 2 = fv Po a1_ 2 ∧ (∀ j : Nat, j < 8 → fv P' (a0_ + 1) j = fv Po (a1_ + 1) j) ∧ (∀ j : Nat, j < 8 → fv P' (a0_ + 2) j = fv Po (a1_ + 2) j) ∧ KI a0_ (a0_ + 3) Po P') := by
  refine EvP.of qm_18 (Nat.le_of_ble_eq_true rfl) rfl ?_
  show MEvP _ none q_18 0 [(0, .ref a0_), (1, .ref a1_)] [] _ 0 0 _
  have w1 := pc_ar ha0
  have w2 := pc_ar ha1
  refine mp_a (a_aload_n dX2_copyFrom_0 rfl) (mpp 1 rfl ?_)
  refine mp_a (a_aload_n dX2_copyFrom_1 rfl) (mpp 2 rfl ?_)
  have g3 := ti_full (fv Po a1_ 0)
  refine mt_getI (i := 18) (k := 0) hT dX2_copyFrom_2 rfl ha1 (by decide) rfl (by decide) rfl (fun g4 g5 => mpp 5 rfl ?_)
  refine mt_putI (i := 18) (k := 0) (x := (fv Po a1_ 0)) hT dX2_copyFrom_5 rfl ha0 (by decide) rfl (by decide) rfl (ti_full (fv Po a1_ 0)) rfl rfl (fun P6 hT7 f8 f9 f10 => mpp 8 rfl ?_)
  have k11 : KW [192, 193, 194, 256, 320] Po P6 := KW.step KW.refl ha0 rfl f9 f10
  have e12 : (fv P6 a0_ 0).toInt = (fv Po a1_ 0).toInt := congrArg Int32.toInt f8
  refine mp_a (a_aload_n dX2_copyFrom_8 rfl) (mpp 9 rfl ?_)
  refine mp_a (a_aload_n dX2_copyFrom_9 rfl) (mpp 10 rfl ?_)
  have g13 : (0 : Int) ≤ (fv P6 a1_ 1).toInt ∧ (fv P6 a1_ 1).toInt ≤ 8 := Typ.rng hT7 ha1 (by decide) (by decide) rfl
  refine mt_getI (i := 26) (k := 1) hT7 dX2_copyFrom_10 rfl ha1 (by decide) rfl (by decide) rfl (fun g14 g15 => mpp 13 rfl ?_)
  refine mt_putI (i := 26) (k := 1) (x := (fv P6 a1_ 1)) hT7 dX2_copyFrom_13 rfl ha0 (by decide) rfl (by decide) rfl ⟨by omega, by omega⟩ rfl rfl (fun P16 hT17 f18 f19 f20 => mpp 16 rfl ?_)
  have k21 : KW [192, 193, 194, 256, 320] Po P16 := KW.step k11 ha0 rfl f19 f20
  have e22 : (fv P16 a0_ 1).toInt = (fv P6 a1_ 1).toInt := congrArg Int32.toInt f18
  refine mp_a (a_aload_n dX2_copyFrom_16 rfl) (mpp 17 rfl ?_)
  refine mp_a (a_aload_n dX2_copyFrom_17 rfl) (mpp 18 rfl ?_)
  have g23 : (0 : Int) ≤ (fv P16 a1_ 2).toInt ∧ (fv P16 a1_ 2).toInt ≤ 1 := Typ.rng hT17 ha1 (by decide) (by decide) rfl
  refine mt_getI (i := 22) (k := 2) hT17 dX2_copyFrom_18 rfl ha1 (by decide) rfl (by decide) rfl (fun g24 g25 => mpp 21 rfl ?_)
  refine mt_putI (i := 22) (k := 2) (x := (fv P16 a1_ 2)) hT17 dX2_copyFrom_21 rfl ha0 (by decide) rfl (by decide) rfl ⟨by omega, by omega⟩ (ti_fit (by omega)) rfl (fun P26 hT27 f28 f29 f30 => mpp 24 rfl ?_)
  have k31 : KW [192, 193, 194, 256, 320] Po P26 := KW.step k21 ha0 rfl f29 f30
  have e32 : (fv P26 a0_ 2).toInt = (fv P16 a1_ 2).toInt := congrArg Int32.toInt f28
  refine mp_a (a_aload_n dX2_copyFrom_24 rfl) (mpp 25 rfl ?_)
  refine mt_getE (i := 9) (k := 3) hT27 dX2_copyFrom_25 rfl ha1 (by decide) rfl (by decide) rfl ((KW.xr k31 hX).1 a1_ (Or.inl ha1)).1 (fun q33 => mpp 28 rfl ?_)
  refine mp_a (a_aload_n dX2_copyFrom_28 rfl) (mpp 29 rfl ?_)
  refine mt_getE (i := 9) (k := 3) hT27 dX2_copyFrom_29 rfl ha0 (by decide) rfl (by decide) rfl ((KW.xr k31 hX).1 a0_ (Or.inl ha0)).1 (fun q34 => mpp 32 rfl ?_)
  have p35 : ¬ (a1_ + 1) = (a0_ + 1) := by omega
  refine mp_calls (i := 44) (q' := q_19) (As := [.ref (a1_ + 1), .ref (a0_ + 1)]) (rest := []) dX2_copyFrom_32 rfl qm_19 (by decide) rfl (Nat.le_of_ble_eq_true rfl) rfl ⟨rfl, rfl⟩ ⟨Nat.le_of_ble_eq_true rfl, Nat.le_of_ble_eq_true rfl⟩ (EvP.mono (by decide) (c_F_copyRow_sizes_sizes hT27 (KW.xr k31 hX) p35 q33 q34)) (fun r36 P37 g38 => mpp 35 rfl ?_)
  obtain ⟨⟨rfl, g40⟩, hT41, k42, R43⟩ := g38
  have k44 : KW [192, 193, 194, 256, 320] Po P37 := KW.trans k31 k42 rfl
  show MEvP _ none q_18 35 [(0, .ref a0_), (1, .ref a1_)] [] _ _ _ _
  refine mp_a (a_aload_n dX2_copyFrom_35 rfl) (mpp 36 rfl ?_)
  refine mt_getE (i := 15) (k := 4) hT41 dX2_copyFrom_36 rfl ha1 (by decide) rfl (by decide) rfl ((KW.xr k44 hX).1 a1_ (Or.inl ha1)).2 (fun q46 => mpp 39 rfl ?_)
  refine mp_a (a_aload_n dX2_copyFrom_39 rfl) (mpp 40 rfl ?_)
  refine mt_getE (i := 15) (k := 4) hT41 dX2_copyFrom_40 rfl ha0 (by decide) rfl (by decide) rfl ((KW.xr k44 hX).1 a0_ (Or.inl ha0)).2 (fun q47 => mpp 43 rfl ?_)
  have p48 : ¬ (a1_ + 2) = (a0_ + 2) := by omega
  refine mp_calls (i := 44) (q' := q_19) (As := [.ref (a1_ + 2), .ref (a0_ + 2)]) (rest := []) dX2_copyFrom_43 rfl qm_19 (by decide) rfl (Nat.le_of_ble_eq_true rfl) rfl ⟨rfl, rfl⟩ ⟨Nat.le_of_ble_eq_true rfl, Nat.le_of_ble_eq_true rfl⟩ (EvP.mono (by decide) (c_F_copyRow_creases_creases hT41 (KW.xr k44 hX) p48 q46 q47)) (fun r49 P50 g51 => mpp 46 rfl ?_)
  obtain ⟨⟨rfl, g53⟩, hT54, k55, R56⟩ := g51
  have k57 : KW [192, 193, 194, 256, 320] Po P50 := KW.trans k44 k55 rfl
  show MEvP _ none q_18 46 [(0, .ref a0_), (1, .ref a1_)] [] _ _ _ _
  have u59 : fv P50 a0_ 0 = fv Po a1_ 0 := by rw [R56.2 a0_ 0 (by omega), R43.2 a0_ 0 (by omega), f29 a0_ 0 (by omega), f19 a0_ 0 (by omega), f8]
  have u60 : fv P50 a0_ 1 = fv Po a1_ 1 := by rw [R56.2 a0_ 1 (by omega), R43.2 a0_ 1 (by omega), f29 a0_ 1 (by omega), f18, f9 a1_ 1 (by omega)]
  have u61 : fv P50 a0_ 2 = fv Po a1_ 2 := by rw [R56.2 a0_ 2 (by omega), R43.2 a0_ 2 (by omega), f28, f19 a1_ 2 (by omega), f9 a1_ 2 (by omega)]
  have u62 : (∀ j : Nat, j < 8 → fv P50 (a0_ + 1) j = fv Po (a1_ + 1) j) := by
    intro j hj
    rw [R56.2 (a0_ + 1) j (by omega), R43.1 j (by omega), f29 (a1_ + 1) j (by omega), f19 (a1_ + 1) j (by omega), f9 (a1_ + 1) j (by omega)]
  have u63 : (∀ j : Nat, j < 8 → fv P50 (a0_ + 2) j = fv Po (a1_ + 2) j) := by
    intro j hj
    rw [R56.1 j (by omega), R43.2 (a1_ + 2) j (by omega), f29 (a1_ + 2) j (by omega), f19 (a1_ + 2) j (by omega), f9 (a1_ + 2) j (by omega)]
  have u64 : KI a0_ (a0_ + 3) Po P50 := by
    intro x j hx
    rw [R56.2 x j (by omega), R43.2 x j (by omega), f29 x j (by omega), f19 x j (by omega), f9 x j (by omega)]
  exact mp_ret ⟨⟨rfl, trivial⟩, hT54, k57, ⟨u59, u60, u61, u62, u63, u64⟩⟩ dX2_copyFrom_46 rfl

