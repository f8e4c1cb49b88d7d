/-! methods on typed pools, 17 (written by a program) -/
set_option maxHeartbeats 4000000 in
theorem c_CS_takeCommand_Script {Po : mP}  (hT : Typ Po) (hX : XR Po)   : EvP 5 97 [.ref 289] Po (fun r P' => (∃ x : Int32, r = some (.int x) ∧ (0 ≤ x.toInt ∧ x.toInt ≤ 1)) ∧ Typ P' ∧ KW [514, 515, 516, 517, 518, 519] Po P' ∧ True) := by
  refine EvP.of qm_97 (Nat.le_of_ble_eq_true rfl) rfl ?_
  show MEvP _ none q_97 0 [(0, .ref 289)] [] _ 0 0 _
  refine mp_a (a_aload_n dX4_takeCommand_0 rfl) (mpp 1 rfl ?_)
  refine mp_a (a_aload_n dX4_takeCommand_1 rfl) (mpp 2 rfl ?_)
  have g1 := ti_full (fv Po 289 2)
  have p2 : 0 ≤ (fv Po 289 2).toInt := by omega
  refine mt_callv (i := 37) (q' := q_98) (As := []) (rest := [.ref 289]) hT dX4_takeCommand_2 rfl qm_98 (by decide) rfl rl_289 (by decide) rfl (Nat.le_of_ble_eq_true rfl) rfl ⟨rfl, rfl⟩ ⟨Nat.le_of_ble_eq_true rfl, Nat.le_of_ble_eq_true rfl⟩ (EvP.mono (by decide) (c_CS_codeHere_Script hT hX p2 )) (fun r3 P4 g5 => mpp 5 rfl ?_)
  obtain ⟨⟨x6, rfl, g7⟩, e8⟩ := g5
  have e8 := e8.symm
  subst e8
  have wx6 := ti_full x6
  replace g7 : x6.toInt = (chC Po (fv Po 289 2).toInt).toInt ∨ (x6.toInt = 0 ∧ (chC Po (fv Po 289 2).toInt).toInt = -1) := g7
  show MEvP _ none q_97 5 [(0, .ref 289)] [.int x6, .ref 289] _ _ _ _
  refine mt_putI (i := 41) (k := 3) (x := x6) hT dX4_takeCommand_5 rfl rl_289 (by decide) rfl (by decide) rfl (ti_full x6) rfl rfl (fun P9 hT10 f11 f12 f13 => mpp 8 rfl ?_)
  have k14 : KW [514, 515, 516, 517, 518, 519] Po P9 := KW.step KW.refl rl_289 rfl f12 f13
  have e15 : (fv P9 289 3).toInt = x6.toInt := congrArg Int32.toInt f11
  refine mp_a (a_aload_n dX4_takeCommand_8 rfl) (mpp 9 rfl ?_)
  refine mt_getI (i := 41) (k := 3) hT10 dX4_takeCommand_9 rfl rl_289 (by decide) rfl (by decide) rfl (fun g16 g17 => mpp 12 rfl ?_)
  have c18 : ((fv P9 289 3).toInt < 99 ∨ 120 < (fv P9 289 3).toInt) ∨ (fv P9 289 3).toInt = 99 ∨ (fv P9 289 3).toInt = 100 ∨ (fv P9 289 3).toInt = 101 ∨ (fv P9 289 3).toInt = 102 ∨ (fv P9 289 3).toInt = 103 ∨ (fv P9 289 3).toInt = 104 ∨ (fv P9 289 3).toInt = 105 ∨ (fv P9 289 3).toInt = 106 ∨ (fv P9 289 3).toInt = 107 ∨ (fv P9 289 3).toInt = 108 ∨ (fv P9 289 3).toInt = 109 ∨ (fv P9 289 3).toInt = 110 ∨ (fv P9 289 3).toInt = 111 ∨ (fv P9 289 3).toInt = 112 ∨ (fv P9 289 3).toInt = 113 ∨ (fv P9 289 3).toInt = 114 ∨ (fv P9 289 3).toInt = 115 ∨ (fv P9 289 3).toInt = 116 ∨ (fv P9 289 3).toInt = 117 ∨ (fv P9 289 3).toInt = 118 ∨ (fv P9 289 3).toInt = 119 ∨ (fv P9 289 3).toInt = 120 := by omega
  rcases c18 with c18 | c18 | c18 | c18 | c18 | c18 | c18 | c18 | c18 | c18 | c18 | c18 | c18 | c18 | c18 | c18 | c18 | c18 | c18 | c18 | c18 | c18 | c18
  · refine mp_t (s_tabOut (t := 225) dX4_takeCommand_12 c18 (by decide)) ?_
    refine mp_a (a_iconst (v := 0) dX4_takeCommand_225 rfl) (mpp 226 rfl ?_)
    have u19 : 0 ≤ (0 : Int) ∧ (0 : Int) ≤ 1 := by omega
    exact mp_iret ⟨⟨_, rfl, u19⟩, hT10, k14, trivial⟩ dX4_takeCommand_226 (Or.inr ⟨rfl, by decide⟩)
  · refine mp_t (s_tabIn (t := 116) (off := 104) dX4_takeCommand_12 (by omega) (by rw [c18]; rfl) (by decide)) ?_
    refine mp_a (a_aload_n dX4_takeCommand_116 rfl) (mpp 117 rfl ?_)
    refine mp_t (s_dup dX4_takeCommand_117 rfl) (mpp 118 rfl ?_)
    have e20 : (fv P9 289 2).toInt = (fv Po 289 2).toInt := congrArg Int32.toInt (f12 289 2 (ne_k rfl))
    refine mt_getI (i := 23) (k := 2) hT10 dX4_takeCommand_118 rfl rl_289 (by decide) rfl (by decide) rfl (fun g21 g22 => mpp 121 rfl ?_)
    refine mp_a (a_iconst (v := 1) dX4_takeCommand_121 rfl) (mpp 122 rfl ?_)
    obtain ⟨z23, h24⟩ := ti_ex ((fv P9 289 2) + 1 : Int32)
    have wz23 := ti_full z23
    refine mp_t (s_iadd (v := z23) dX4_takeCommand_122 h24) (mpp 123 rfl ?_)
    try have e25 : z23.toInt = (fv P9 289 2).toInt + 1 := ti_addz h24 rfl rfl (by omega) (by omega)
    refine mt_putI (i := 23) (k := 2) (x := z23) hT10 dX4_takeCommand_123 rfl rl_289 (by decide) rfl (by decide) rfl (ti_full z23) rfl rfl (fun P26 hT27 f28 f29 f30 => mpp 126 rfl ?_)
    have k31 : KW [514, 515, 516, 517, 518, 519] Po P26 := KW.step k14 rl_289 rfl f29 f30
    have e32 : (fv P26 289 2).toInt = z23.toInt := congrArg Int32.toInt f28
    refine mp_a (a_aload_n dX4_takeCommand_126 rfl) (mpp 127 rfl ?_)
    have p33 : 0 ≤ (fv P26 289 2).toInt := by omega
    refine mt_callv (i := 44) (q' := q_99) (As := []) (rest := []) hT27 dX4_takeCommand_127 rfl qm_99 (by decide) rfl rl_289 (by decide) rfl (Nat.le_of_ble_eq_true rfl) rfl ⟨rfl, rfl⟩ ⟨Nat.le_of_ble_eq_true rfl, Nat.le_of_ble_eq_true rfl⟩ (EvP.mono (by decide) (c_CS_takeSizes_Script hT27 (KW.xr k31 hX) p33 )) (fun r34 P35 g36 => mpp 130 rfl ?_)
    obtain ⟨⟨x37, rfl, g38⟩, hT39, k40, R41⟩ := g36
    have k42 : KW [514, 515, 516, 517, 518, 519] Po P35 := KW.trans k31 k40 rfl
    have wx37 := ti_full x37
    replace g38 : 0 ≤ x37.toInt ∧ x37.toInt ≤ 1 ∧ (∃ k : Nat, RUN D1 (chC P26) (fv P26 289 2).toInt k ∧ (fv P35 289 2).toInt = (fv P26 289 2).toInt + (k : Int) ∧ fv P35 289 4 = szI (chC P26) (fv P26 289 2).toInt k ∧ ((x37.toInt = 1 ∧ 1 ≤ k) ∨ (x37.toInt = 0 ∧ k = 0))) := g38
    have g44 := ti_full (fv P35 289 2)
    show MEvP _ none q_97 130 [(0, .ref 289)] [.int x37] _ _ _ _
    refine mp_Tb (t := 153) (j_if_eq dX4_takeCommand_130) (by decide) (fun c45 => ?_) (fun c45 => mpp 133 rfl ?_)
    · have c45 : x37.toInt = 0 := ti_eq c45
      refine mp_a (a_iconst (v := 0) dX4_takeCommand_153 rfl) (mpp 154 rfl ?_)
      have u46 : 0 ≤ (0 : Int) ∧ (0 : Int) ≤ 1 := by omega
      exact mp_iret ⟨⟨_, rfl, u46⟩, hT39, k42, trivial⟩ dX4_takeCommand_154 (Or.inr ⟨rfl, by decide⟩)
    · have c45 : x37.toInt ≠ 0 := ti_eq_n c45
      refine mp_a (a_aload_n dX4_takeCommand_133 rfl) (mpp 134 rfl ?_)
      refine mp_a (a_bipush (v := 58) dX4_takeCommand_134 rfl) (mpp 136 rfl ?_)
      have p47 : 0 ≤ (fv P35 289 2).toInt := by omega
      have p48 : 1 ≤ (58 : Int) := by omega
      refine mt_callv (i := 33) (q' := q_100) (As := [.int 58]) (rest := []) hT39 dX4_takeCommand_136 rfl qm_100 (by decide) rfl rl_289 (by decide) rfl (Nat.le_of_ble_eq_true rfl) rfl ⟨rfl, rfl⟩ ⟨Nat.le_of_ble_eq_true rfl, Nat.le_of_ble_eq_true rfl⟩ (EvP.mono (by decide) (c_CS_takeSign_Script hT39 (KW.xr k42 hX) p47 p48 )) (fun r49 P50 g51 => mpp 139 rfl ?_)
      obtain ⟨⟨x52, rfl, g53⟩, hT54, k55, R56⟩ := g51
      have k57 : KW [514, 515, 516, 517, 518, 519] Po P50 := KW.trans k42 k55 rfl
      have wx52 := ti_full x52
      replace g53 : 0 ≤ x52.toInt ∧ x52.toInt ≤ 1 ∧ ((x52.toInt = 1 ∧ (chC P35 (fv P35 289 2).toInt).toInt = (58 : Int) ∧ (fv P50 289 2).toInt = (fv P35 289 2).toInt + 1) ∨ (x52.toInt = 0 ∧ ¬ (chC P35 (fv P35 289 2).toInt).toInt = (58 : Int) ∧ (fv P50 289 2).toInt = (fv P35 289 2).toInt)) := g53
      have g59 := ti_full (fv P50 289 2)
      have g60 := ti_full (fv P50 289 2)
      show MEvP _ none q_97 139 [(0, .ref 289)] [.int x52] _ _ _ _
      refine mp_Tb (t := 153) (j_if_eq dX4_takeCommand_139) (by decide) (fun c61 => ?_) (fun c61 => mpp 142 rfl ?_)
      · have c61 : x52.toInt = 0 := ti_eq c61
        refine mp_a (a_iconst (v := 0) dX4_takeCommand_153 rfl) (mpp 154 rfl ?_)
        have u62 : 0 ≤ (0 : Int) ∧ (0 : Int) ≤ 1 := by omega
        exact mp_iret ⟨⟨_, rfl, u62⟩, hT54, k57, trivial⟩ dX4_takeCommand_154 (Or.inr ⟨rfl, by decide⟩)
      · have c61 : x52.toInt ≠ 0 := ti_eq_n c61
        refine mp_a (a_aload_n dX4_takeCommand_142 rfl) (mpp 143 rfl ?_)
        have p63 : 0 ≤ (fv P50 289 2).toInt := by omega
        refine mt_callv (i := 47) (q' := q_101) (As := []) (rest := []) hT54 dX4_takeCommand_143 rfl qm_101 (by decide) rfl rl_289 (by decide) rfl (Nat.le_of_ble_eq_true rfl) rfl ⟨rfl, rfl⟩ ⟨Nat.le_of_ble_eq_true rfl, Nat.le_of_ble_eq_true rfl⟩ (EvP.mono (by decide) (c_CS_takeCreases_Script hT54 (KW.xr k57 hX) p63 )) (fun r64 P65 g66 => mpp 146 rfl ?_)
        obtain ⟨⟨x67, rfl, g68⟩, hT69, k70, R71⟩ := g66
        have k72 : KW [514, 515, 516, 517, 518, 519] Po P65 := KW.trans k57 k70 rfl
        have wx67 := ti_full x67
        replace g68 : 0 ≤ x67.toInt ∧ x67.toInt ≤ 1 ∧ (∃ k : Nat, RUN KK (chC P50) (fv P50 289 2).toInt k ∧ (fv P65 289 2).toInt = (fv P50 289 2).toInt + (k : Int) ∧ fv P65 289 5 = knV (chC P50) (fv P50 289 2).toInt k ∧ (fv P65 289 6).toInt = (k : Int) ∧ ((x67.toInt = 1 ∧ 1 ≤ k) ∨ (x67.toInt = 0 ∧ k = 0))) := g68
        have g74 := ti_full (fv P65 289 2)
        show MEvP _ none q_97 146 [(0, .ref 289)] [.int x67] _ _ _ _
        refine mp_Tb (t := 153) (j_if_eq dX4_takeCommand_146) (by decide) (fun c75 => ?_) (fun c75 => mpp 149 rfl ?_)
        · have c75 : x67.toInt = 0 := ti_eq c75
          refine mp_a (a_iconst (v := 0) dX4_takeCommand_153 rfl) (mpp 154 rfl ?_)
          have u76 : 0 ≤ (0 : Int) ∧ (0 : Int) ≤ 1 := by omega
          exact mp_iret ⟨⟨_, rfl, u76⟩, hT69, k72, trivial⟩ dX4_takeCommand_154 (Or.inr ⟨rfl, by decide⟩)
        · have c75 : x67.toInt ≠ 0 := ti_eq_n c75
          refine mp_a (a_iconst (v := 1) dX4_takeCommand_149 rfl) (mpp 150 rfl ?_)
          refine mp_a (a_goto (t := 154) dX4_takeCommand_150 (by decide)) ?_
          have u77 : 0 ≤ (1 : Int) ∧ (1 : Int) ≤ 1 := by omega
          exact mp_iret ⟨⟨_, rfl, u77⟩, hT69, k72, trivial⟩ dX4_takeCommand_154 (Or.inr ⟨rfl, by decide⟩)
  · refine mp_t (s_tabIn (t := 225) (off := 213) dX4_takeCommand_12 (by omega) (by rw [c18]; rfl) (by decide)) ?_
    refine mp_a (a_iconst (v := 0) dX4_takeCommand_225 rfl) (mpp 226 rfl ?_)
    have u78 : 0 ≤ (0 : Int) ∧ (0 : Int) ≤ 1 := by omega
    exact mp_iret ⟨⟨_, rfl, u78⟩, hT10, k14, trivial⟩ dX4_takeCommand_226 (Or.inr ⟨rfl, by decide⟩)
  · refine mp_t (s_tabIn (t := 225) (off := 213) dX4_takeCommand_12 (by omega) (by rw [c18]; rfl) (by decide)) ?_
    refine mp_a (a_iconst (v := 0) dX4_takeCommand_225 rfl) (mpp 226 rfl ?_)
    have u79 : 0 ≤ (0 : Int) ∧ (0 : Int) ≤ 1 := by omega
    exact mp_iret ⟨⟨_, rfl, u79⟩, hT10, k14, trivial⟩ dX4_takeCommand_226 (Or.inr ⟨rfl, by decide⟩)
  · refine mp_t (s_tabIn (t := 210) (off := 198) dX4_takeCommand_12 (by omega) (by rw [c18]; rfl) (by decide)) ?_
    refine mp_a (a_aload_n dX4_takeCommand_210 rfl) (mpp 211 rfl ?_)
    refine mp_t (s_dup dX4_takeCommand_211 rfl) (mpp 212 rfl ?_)
    have e80 : (fv P9 289 2).toInt = (fv Po 289 2).toInt := congrArg Int32.toInt (f12 289 2 (ne_k rfl))
    refine mt_getI (i := 23) (k := 2) hT10 dX4_takeCommand_212 rfl rl_289 (by decide) rfl (by decide) rfl (fun g81 g82 => mpp 215 rfl ?_)
    refine mp_a (a_iconst (v := 1) dX4_takeCommand_215 rfl) (mpp 216 rfl ?_)
    obtain ⟨z83, h84⟩ := ti_ex ((fv P9 289 2) + 1 : Int32)
    have wz83 := ti_full z83
    refine mp_t (s_iadd (v := z83) dX4_takeCommand_216 h84) (mpp 217 rfl ?_)
    try have e85 : z83.toInt = (fv P9 289 2).toInt + 1 := ti_addz h84 rfl rfl (by omega) (by omega)
    refine mt_putI (i := 23) (k := 2) (x := z83) hT10 dX4_takeCommand_217 rfl rl_289 (by decide) rfl (by decide) rfl (ti_full z83) rfl rfl (fun P86 hT87 f88 f89 f90 => mpp 220 rfl ?_)
    have k91 : KW [514, 515, 516, 517, 518, 519] Po P86 := KW.step k14 rl_289 rfl f89 f90
    have e92 : (fv P86 289 2).toInt = z83.toInt := congrArg Int32.toInt f88
    refine mp_a (a_aload_n dX4_takeCommand_220 rfl) (mpp 221 rfl ?_)
    have p93 : 0 ≤ (fv P86 289 2).toInt := by omega
    refine mt_callv (i := 50) (q' := q_103) (As := []) (rest := []) hT87 dX4_takeCommand_221 rfl qm_103 (by decide) rfl rl_289 (by decide) rfl (Nat.le_of_ble_eq_true rfl) rfl ⟨rfl, rfl⟩ ⟨Nat.le_of_ble_eq_true rfl, Nat.le_of_ble_eq_true rfl⟩ (EvP.mono (by decide) (c_CS_takePiece_Script hT87 (KW.xr k91 hX) p93 )) (fun r94 P95 g96 => mpp 224 rfl ?_)
    obtain ⟨⟨x97, rfl, g98⟩, hT99, k100, R101⟩ := g96
    have k102 : KW [514, 515, 516, 517, 518, 519] Po P95 := KW.trans k91 k100 rfl
    have wx97 := ti_full x97
    replace g98 : 0 ≤ x97.toInt ∧ x97.toInt ≤ 1 ∧ ((x97.toInt = 1 ∧ (48 ≤ (chC P86 (fv P86 289 2).toInt).toInt ∧ (chC P86 (fv P86 289 2).toInt).toInt ≤ 57) ∧ (fv P95 289 2).toInt = (fv P86 289 2).toInt + 1 ∧ (fv P95 289 4).toInt = (chC P86 (fv P86 289 2).toInt).toInt - 48) ∨ (x97.toInt = 0 ∧ ¬ (48 ≤ (chC P86 (fv P86 289 2).toInt).toInt ∧ (chC P86 (fv P86 289 2).toInt).toInt ≤ 57))) := g98
    have g104 := ti_full (fv P95 289 2)
    show MEvP _ none q_97 224 [(0, .ref 289)] [.int x97] _ _ _ _
    have u105 : 0 ≤ x97.toInt ∧ x97.toInt ≤ 1 := by omega
    exact mp_iret ⟨⟨_, rfl, u105⟩, hT99, k102, trivial⟩ dX4_takeCommand_224 (Or.inr ⟨rfl, ti_01 (by omega)⟩)
  · refine mp_t (s_tabIn (t := 225) (off := 213) dX4_takeCommand_12 (by omega) (by rw [c18]; rfl) (by decide)) ?_
    refine mp_a (a_iconst (v := 0) dX4_takeCommand_225 rfl) (mpp 226 rfl ?_)
    have u106 : 0 ≤ (0 : Int) ∧ (0 : Int) ≤ 1 := by omega
    exact mp_iret ⟨⟨_, rfl, u106⟩, hT10, k14, trivial⟩ dX4_takeCommand_226 (Or.inr ⟨rfl, by decide⟩)
  · refine mp_t (s_tabIn (t := 225) (off := 213) dX4_takeCommand_12 (by omega) (by rw [c18]; rfl) (by decide)) ?_
    refine mp_a (a_iconst (v := 0) dX4_takeCommand_225 rfl) (mpp 226 rfl ?_)
    have u107 : 0 ≤ (0 : Int) ∧ (0 : Int) ≤ 1 := by omega
    exact mp_iret ⟨⟨_, rfl, u107⟩, hT10, k14, trivial⟩ dX4_takeCommand_226 (Or.inr ⟨rfl, by decide⟩)
  · refine mp_t (s_tabIn (t := 225) (off := 213) dX4_takeCommand_12 (by omega) (by rw [c18]; rfl) (by decide)) ?_
    refine mp_a (a_iconst (v := 0) dX4_takeCommand_225 rfl) (mpp 226 rfl ?_)
    have u108 : 0 ≤ (0 : Int) ∧ (0 : Int) ≤ 1 := by omega
    exact mp_iret ⟨⟨_, rfl, u108⟩, hT10, k14, trivial⟩ dX4_takeCommand_226 (Or.inr ⟨rfl, by decide⟩)
  · refine mp_t (s_tabIn (t := 225) (off := 213) dX4_takeCommand_12 (by omega) (by rw [c18]; rfl) (by decide)) ?_
    refine mp_a (a_iconst (v := 0) dX4_takeCommand_225 rfl) (mpp 226 rfl ?_)
    have u109 : 0 ≤ (0 : Int) ∧ (0 : Int) ≤ 1 := by omega
    exact mp_iret ⟨⟨_, rfl, u109⟩, hT10, k14, trivial⟩ dX4_takeCommand_226 (Or.inr ⟨rfl, by decide⟩)
  · refine mp_t (s_tabIn (t := 225) (off := 213) dX4_takeCommand_12 (by omega) (by rw [c18]; rfl) (by decide)) ?_
    refine mp_a (a_iconst (v := 0) dX4_takeCommand_225 rfl) (mpp 226 rfl ?_)
    have u110 : 0 ≤ (0 : Int) ∧ (0 : Int) ≤ 1 := by omega
    exact mp_iret ⟨⟨_, rfl, u110⟩, hT10, k14, trivial⟩ dX4_takeCommand_226 (Or.inr ⟨rfl, by decide⟩)
  · refine mp_t (s_tabIn (t := 225) (off := 213) dX4_takeCommand_12 (by omega) (by rw [c18]; rfl) (by decide)) ?_
    refine mp_a (a_iconst (v := 0) dX4_takeCommand_225 rfl) (mpp 226 rfl ?_)
    have u111 : 0 ≤ (0 : Int) ∧ (0 : Int) ≤ 1 := by omega
    exact mp_iret ⟨⟨_, rfl, u111⟩, hT10, k14, trivial⟩ dX4_takeCommand_226 (Or.inr ⟨rfl, by decide⟩)
  · refine mp_t (s_tabIn (t := 155) (off := 143) dX4_takeCommand_12 (by omega) (by rw [c18]; rfl) (by decide)) ?_
    refine mp_a (a_aload_n dX4_takeCommand_155 rfl) (mpp 156 rfl ?_)
    refine mp_t (s_dup dX4_takeCommand_156 rfl) (mpp 157 rfl ?_)
    have e112 : (fv P9 289 2).toInt = (fv Po 289 2).toInt := congrArg Int32.toInt (f12 289 2 (ne_k rfl))
    refine mt_getI (i := 23) (k := 2) hT10 dX4_takeCommand_157 rfl rl_289 (by decide) rfl (by decide) rfl (fun g113 g114 => mpp 160 rfl ?_)
    refine mp_a (a_iconst (v := 1) dX4_takeCommand_160 rfl) (mpp 161 rfl ?_)
    obtain ⟨z115, h116⟩ := ti_ex ((fv P9 289 2) + 1 : Int32)
    have wz115 := ti_full z115
    refine mp_t (s_iadd (v := z115) dX4_takeCommand_161 h116) (mpp 162 rfl ?_)
    try have e117 : z115.toInt = (fv P9 289 2).toInt + 1 := ti_addz h116 rfl rfl (by omega) (by omega)
    refine mt_putI (i := 23) (k := 2) (x := z115) hT10 dX4_takeCommand_162 rfl rl_289 (by decide) rfl (by decide) rfl (ti_full z115) rfl rfl (fun P118 hT119 f120 f121 f122 => mpp 165 rfl ?_)
    have k123 : KW [514, 515, 516, 517, 518, 519] Po P118 := KW.step k14 rl_289 rfl f121 f122
    have e124 : (fv P118 289 2).toInt = z115.toInt := congrArg Int32.toInt f120
    refine mp_a (a_aload_n dX4_takeCommand_165 rfl) (mpp 166 rfl ?_)
    have p125 : 0 ≤ (fv P118 289 2).toInt := by omega
    refine mt_callv (i := 50) (q' := q_103) (As := []) (rest := []) hT119 dX4_takeCommand_166 rfl qm_103 (by decide) rfl rl_289 (by decide) rfl (Nat.le_of_ble_eq_true rfl) rfl ⟨rfl, rfl⟩ ⟨Nat.le_of_ble_eq_true rfl, Nat.le_of_ble_eq_true rfl⟩ (EvP.mono (by decide) (c_CS_takePiece_Script hT119 (KW.xr k123 hX) p125 )) (fun r126 P127 g128 => mpp 169 rfl ?_)
    obtain ⟨⟨x129, rfl, g130⟩, hT131, k132, R133⟩ := g128
    have k134 : KW [514, 515, 516, 517, 518, 519] Po P127 := KW.trans k123 k132 rfl
    have wx129 := ti_full x129
    replace g130 : 0 ≤ x129.toInt ∧ x129.toInt ≤ 1 ∧ ((x129.toInt = 1 ∧ (48 ≤ (chC P118 (fv P118 289 2).toInt).toInt ∧ (chC P118 (fv P118 289 2).toInt).toInt ≤ 57) ∧ (fv P127 289 2).toInt = (fv P118 289 2).toInt + 1 ∧ (fv P127 289 4).toInt = (chC P118 (fv P118 289 2).toInt).toInt - 48) ∨ (x129.toInt = 0 ∧ ¬ (48 ≤ (chC P118 (fv P118 289 2).toInt).toInt ∧ (chC P118 (fv P118 289 2).toInt).toInt ≤ 57))) := g130
    have g136 := ti_full (fv P127 289 2)
    show MEvP _ none q_97 169 [(0, .ref 289)] [.int x129] _ _ _ _
    refine mp_Tb (t := 208) (j_if_eq dX4_takeCommand_169) (by decide) (fun c137 => ?_) (fun c137 => mpp 172 rfl ?_)
    · have c137 : x129.toInt = 0 := ti_eq c137
      refine mp_a (a_iconst (v := 0) dX4_takeCommand_208 rfl) (mpp 209 rfl ?_)
      have u138 : 0 ≤ (0 : Int) ∧ (0 : Int) ≤ 1 := by omega
      exact mp_iret ⟨⟨_, rfl, u138⟩, hT131, k134, trivial⟩ dX4_takeCommand_209 (Or.inr ⟨rfl, by decide⟩)
    · have c137 : x129.toInt ≠ 0 := ti_eq_n c137
      refine mp_a (a_aload_n dX4_takeCommand_172 rfl) (mpp 173 rfl ?_)
      refine mp_a (a_bipush (v := 46) dX4_takeCommand_173 rfl) (mpp 175 rfl ?_)
      have p139 : 0 ≤ (fv P127 289 2).toInt := by omega
      have p140 : 1 ≤ (46 : Int) := by omega
      refine mt_callv (i := 33) (q' := q_100) (As := [.int 46]) (rest := []) hT131 dX4_takeCommand_175 rfl qm_100 (by decide) rfl rl_289 (by decide) rfl (Nat.le_of_ble_eq_true rfl) rfl ⟨rfl, rfl⟩ ⟨Nat.le_of_ble_eq_true rfl, Nat.le_of_ble_eq_true rfl⟩ (EvP.mono (by decide) (c_CS_takeSign_Script hT131 (KW.xr k134 hX) p139 p140 )) (fun r141 P142 g143 => mpp 178 rfl ?_)
      obtain ⟨⟨x144, rfl, g145⟩, hT146, k147, R148⟩ := g143
      have k149 : KW [514, 515, 516, 517, 518, 519] Po P142 := KW.trans k134 k147 rfl
      have wx144 := ti_full x144
      replace g145 : 0 ≤ x144.toInt ∧ x144.toInt ≤ 1 ∧ ((x144.toInt = 1 ∧ (chC P127 (fv P127 289 2).toInt).toInt = (46 : Int) ∧ (fv P142 289 2).toInt = (fv P127 289 2).toInt + 1) ∨ (x144.toInt = 0 ∧ ¬ (chC P127 (fv P127 289 2).toInt).toInt = (46 : Int) ∧ (fv P142 289 2).toInt = (fv P127 289 2).toInt)) := g145
      have g151 := ti_full (fv P142 289 2)
      have g152 := ti_full (fv P142 289 2)
      show MEvP _ none q_97 178 [(0, .ref 289)] [.int x144] _ _ _ _
      refine mp_Tb (t := 208) (j_if_eq dX4_takeCommand_178) (by decide) (fun c153 => ?_) (fun c153 => mpp 181 rfl ?_)
      · have c153 : x144.toInt = 0 := ti_eq c153
        refine mp_a (a_iconst (v := 0) dX4_takeCommand_208 rfl) (mpp 209 rfl ?_)
        have u154 : 0 ≤ (0 : Int) ∧ (0 : Int) ≤ 1 := by omega
        exact mp_iret ⟨⟨_, rfl, u154⟩, hT146, k149, trivial⟩ dX4_takeCommand_209 (Or.inr ⟨rfl, by decide⟩)
      · have c153 : x144.toInt ≠ 0 := ti_eq_n c153
        refine mp_a (a_aload_n dX4_takeCommand_181 rfl) (mpp 182 rfl ?_)
        have p155 : 0 ≤ (fv P142 289 2).toInt := by omega
        refine mt_callv (i := 53) (q' := q_105) (As := []) (rest := []) hT146 dX4_takeCommand_182 rfl qm_105 (by decide) rfl rl_289 (by decide) rfl (Nat.le_of_ble_eq_true rfl) rfl ⟨rfl, rfl⟩ ⟨Nat.le_of_ble_eq_true rfl, Nat.le_of_ble_eq_true rfl⟩ (EvP.mono (by decide) (c_CS_takeCrease_Script hT146 (KW.xr k149 hX) p155 )) (fun r156 P157 g158 => mpp 185 rfl ?_)
        obtain ⟨⟨x159, rfl, g160⟩, hT161, k162, R163⟩ := g158
        have k164 : KW [514, 515, 516, 517, 518, 519] Po P157 := KW.trans k149 k162 rfl
        have wx159 := ti_full x159
        replace g160 : 0 ≤ x159.toInt ∧ x159.toInt ≤ 1 ∧ ((x159.toInt = 1 ∧ (48 ≤ (chC P142 (fv P142 289 2).toInt).toInt ∧ (chC P142 (fv P142 289 2).toInt).toInt ≤ 57) ∧ (fv P157 289 2).toInt = (fv P142 289 2).toInt + 1 ∧ (fv P157 289 5).toInt = (chC P142 (fv P142 289 2).toInt).toInt - 48) ∨ (x159.toInt = 0 ∧ ¬ (48 ≤ (chC P142 (fv P142 289 2).toInt).toInt ∧ (chC P142 (fv P142 289 2).toInt).toInt ≤ 57))) := g160
        have g166 := ti_full (fv P157 289 2)
        show MEvP _ none q_97 185 [(0, .ref 289)] [.int x159] _ _ _ _
        refine mp_Tb (t := 208) (j_if_eq dX4_takeCommand_185) (by decide) (fun c167 => ?_) (fun c167 => mpp 188 rfl ?_)
        · have c167 : x159.toInt = 0 := ti_eq c167
          refine mp_a (a_iconst (v := 0) dX4_takeCommand_208 rfl) (mpp 209 rfl ?_)
          have u168 : 0 ≤ (0 : Int) ∧ (0 : Int) ≤ 1 := by omega
          exact mp_iret ⟨⟨_, rfl, u168⟩, hT161, k164, trivial⟩ dX4_takeCommand_209 (Or.inr ⟨rfl, by decide⟩)
        · have c167 : x159.toInt ≠ 0 := ti_eq_n c167
          refine mp_a (a_aload_n dX4_takeCommand_188 rfl) (mpp 189 rfl ?_)
          refine mp_a (a_bipush (v := 61) dX4_takeCommand_189 rfl) (mpp 191 rfl ?_)
          have p169 : 0 ≤ (fv P157 289 2).toInt := by omega
          have p170 : 1 ≤ (61 : Int) := by omega
          refine mt_callv (i := 33) (q' := q_100) (As := [.int 61]) (rest := []) hT161 dX4_takeCommand_191 rfl qm_100 (by decide) rfl rl_289 (by decide) rfl (Nat.le_of_ble_eq_true rfl) rfl ⟨rfl, rfl⟩ ⟨Nat.le_of_ble_eq_true rfl, Nat.le_of_ble_eq_true rfl⟩ (EvP.mono (by decide) (c_CS_takeSign_Script hT161 (KW.xr k164 hX) p169 p170 )) (fun r171 P172 g173 => mpp 194 rfl ?_)
          obtain ⟨⟨x174, rfl, g175⟩, hT176, k177, R178⟩ := g173
          have k179 : KW [514, 515, 516, 517, 518, 519] Po P172 := KW.trans k164 k177 rfl
          have wx174 := ti_full x174
          replace g175 : 0 ≤ x174.toInt ∧ x174.toInt ≤ 1 ∧ ((x174.toInt = 1 ∧ (chC P157 (fv P157 289 2).toInt).toInt = (61 : Int) ∧ (fv P172 289 2).toInt = (fv P157 289 2).toInt + 1) ∨ (x174.toInt = 0 ∧ ¬ (chC P157 (fv P157 289 2).toInt).toInt = (61 : Int) ∧ (fv P172 289 2).toInt = (fv P157 289 2).toInt)) := g175
          have g181 := ti_full (fv P172 289 2)
          have g182 := ti_full (fv P172 289 2)
          show MEvP _ none q_97 194 [(0, .ref 289)] [.int x174] _ _ _ _
          refine mp_Tb (t := 208) (j_if_eq dX4_takeCommand_194) (by decide) (fun c183 => ?_) (fun c183 => mpp 197 rfl ?_)
          · have c183 : x174.toInt = 0 := ti_eq c183
            refine mp_a (a_iconst (v := 0) dX4_takeCommand_208 rfl) (mpp 209 rfl ?_)
            have u184 : 0 ≤ (0 : Int) ∧ (0 : Int) ≤ 1 := by omega
            exact mp_iret ⟨⟨_, rfl, u184⟩, hT176, k179, trivial⟩ dX4_takeCommand_209 (Or.inr ⟨rfl, by decide⟩)
          · have c183 : x174.toInt ≠ 0 := ti_eq_n c183
            refine mp_a (a_aload_n dX4_takeCommand_197 rfl) (mpp 198 rfl ?_)
            have p185 : 0 ≤ (fv P172 289 2).toInt := by omega
            refine mt_callv (i := 56) (q' := q_102) (As := []) (rest := []) hT176 dX4_takeCommand_198 rfl qm_102 (by decide) rfl rl_289 (by decide) rfl (Nat.le_of_ble_eq_true rfl) rfl ⟨rfl, rfl⟩ ⟨Nat.le_of_ble_eq_true rfl, Nat.le_of_ble_eq_true rfl⟩ (EvP.mono (by decide) (c_CS_takeKind_Script hT176 (KW.xr k179 hX) p185 )) (fun r186 P187 g188 => mpp 201 rfl ?_)
            obtain ⟨⟨x189, rfl, g190⟩, hT191, k192, R193⟩ := g188
            have k194 : KW [514, 515, 516, 517, 518, 519] Po P187 := KW.trans k179 k192 rfl
            have wx189 := ti_full x189
            replace g190 : 0 ≤ x189.toInt ∧ x189.toInt ≤ 1 ∧ ((x189.toInt = 1 ∧ ((chC P172 (fv P172 289 2).toInt).toInt = 111 ∨ (chC P172 (fv P172 289 2).toInt).toInt = 109 ∨ (chC P172 (fv P172 289 2).toInt).toInt = 118) ∧ (fv P187 289 2).toInt = (fv P172 289 2).toInt + 1 ∧ (fv P187 289 7).toInt = (kn (chC P172 (fv P172 289 2).toInt).toInt).toInt) ∨ (x189.toInt = 0 ∧ ¬ ((chC P172 (fv P172 289 2).toInt).toInt = 111 ∨ (chC P172 (fv P172 289 2).toInt).toInt = 109 ∨ (chC P172 (fv P172 289 2).toInt).toInt = 118) ∧ (fv P187 289 2).toInt = (fv P172 289 2).toInt ∧ fv P187 289 7 = fv P172 289 7)) := g190
            have g196 := ti_full (fv P187 289 2)
            have g197 := ti_full (fv P187 289 2)
            show MEvP _ none q_97 201 [(0, .ref 289)] [.int x189] _ _ _ _
            refine mp_Tb (t := 208) (j_if_eq dX4_takeCommand_201) (by decide) (fun c198 => ?_) (fun c198 => mpp 204 rfl ?_)
            · have c198 : x189.toInt = 0 := ti_eq c198
              refine mp_a (a_iconst (v := 0) dX4_takeCommand_208 rfl) (mpp 209 rfl ?_)
              have u199 : 0 ≤ (0 : Int) ∧ (0 : Int) ≤ 1 := by omega
              exact mp_iret ⟨⟨_, rfl, u199⟩, hT191, k194, trivial⟩ dX4_takeCommand_209 (Or.inr ⟨rfl, by decide⟩)
            · have c198 : x189.toInt ≠ 0 := ti_eq_n c198
              refine mp_a (a_iconst (v := 1) dX4_takeCommand_204 rfl) (mpp 205 rfl ?_)
              refine mp_a (a_goto (t := 209) dX4_takeCommand_205 (by decide)) ?_
              have u200 : 0 ≤ (1 : Int) ∧ (1 : Int) ≤ 1 := by omega
              exact mp_iret ⟨⟨_, rfl, u200⟩, hT191, k194, trivial⟩ dX4_takeCommand_209 (Or.inr ⟨rfl, by decide⟩)
  · refine mp_t (s_tabIn (t := 225) (off := 213) dX4_takeCommand_12 (by omega) (by rw [c18]; rfl) (by decide)) ?_
    refine mp_a (a_iconst (v := 0) dX4_takeCommand_225 rfl) (mpp 226 rfl ?_)
    have u201 : 0 ≤ (0 : Int) ∧ (0 : Int) ≤ 1 := by omega
    exact mp_iret ⟨⟨_, rfl, u201⟩, hT10, k14, trivial⟩ dX4_takeCommand_226 (Or.inr ⟨rfl, by decide⟩)
  · refine mp_t (s_tabIn (t := 225) (off := 213) dX4_takeCommand_12 (by omega) (by rw [c18]; rfl) (by decide)) ?_
    refine mp_a (a_iconst (v := 0) dX4_takeCommand_225 rfl) (mpp 226 rfl ?_)
    have u202 : 0 ≤ (0 : Int) ∧ (0 : Int) ≤ 1 := by omega
    exact mp_iret ⟨⟨_, rfl, u202⟩, hT10, k14, trivial⟩ dX4_takeCommand_226 (Or.inr ⟨rfl, by decide⟩)
  · refine mp_t (s_tabIn (t := 225) (off := 213) dX4_takeCommand_12 (by omega) (by rw [c18]; rfl) (by decide)) ?_
    refine mp_a (a_iconst (v := 0) dX4_takeCommand_225 rfl) (mpp 226 rfl ?_)
    have u203 : 0 ≤ (0 : Int) ∧ (0 : Int) ≤ 1 := by omega
    exact mp_iret ⟨⟨_, rfl, u203⟩, hT10, k14, trivial⟩ dX4_takeCommand_226 (Or.inr ⟨rfl, by decide⟩)
  · refine mp_t (s_tabIn (t := 225) (off := 213) dX4_takeCommand_12 (by omega) (by rw [c18]; rfl) (by decide)) ?_
    refine mp_a (a_iconst (v := 0) dX4_takeCommand_225 rfl) (mpp 226 rfl ?_)
    have u204 : 0 ≤ (0 : Int) ∧ (0 : Int) ≤ 1 := by omega
    exact mp_iret ⟨⟨_, rfl, u204⟩, hT10, k14, trivial⟩ dX4_takeCommand_226 (Or.inr ⟨rfl, by decide⟩)
  · refine mp_t (s_tabIn (t := 225) (off := 213) dX4_takeCommand_12 (by omega) (by rw [c18]; rfl) (by decide)) ?_
    refine mp_a (a_iconst (v := 0) dX4_takeCommand_225 rfl) (mpp 226 rfl ?_)
    have u205 : 0 ≤ (0 : Int) ∧ (0 : Int) ≤ 1 := by omega
    exact mp_iret ⟨⟨_, rfl, u205⟩, hT10, k14, trivial⟩ dX4_takeCommand_226 (Or.inr ⟨rfl, by decide⟩)
  · refine mp_t (s_tabIn (t := 116) (off := 104) dX4_takeCommand_12 (by omega) (by rw [c18]; rfl) (by decide)) ?_
    refine mp_a (a_aload_n dX4_takeCommand_116 rfl) (mpp 117 rfl ?_)
    refine mp_t (s_dup dX4_takeCommand_117 rfl) (mpp 118 rfl ?_)
    have e206 : (fv P9 289 2).toInt = (fv Po 289 2).toInt := congrArg Int32.toInt (f12 289 2 (ne_k rfl))
    refine mt_getI (i := 23) (k := 2) hT10 dX4_takeCommand_118 rfl rl_289 (by decide) rfl (by decide) rfl (fun g207 g208 => mpp 121 rfl ?_)
    refine mp_a (a_iconst (v := 1) dX4_takeCommand_121 rfl) (mpp 122 rfl ?_)
    obtain ⟨z209, h210⟩ := ti_ex ((fv P9 289 2) + 1 : Int32)
    have wz209 := ti_full z209
    refine mp_t (s_iadd (v := z209) dX4_takeCommand_122 h210) (mpp 123 rfl ?_)
    try have e211 : z209.toInt = (fv P9 289 2).toInt + 1 := ti_addz h210 rfl rfl (by omega) (by omega)
    refine mt_putI (i := 23) (k := 2) (x := z209) hT10 dX4_takeCommand_123 rfl rl_289 (by decide) rfl (by decide) rfl (ti_full z209) rfl rfl (fun P212 hT213 f214 f215 f216 => mpp 126 rfl ?_)
    have k217 : KW [514, 515, 516, 517, 518, 519] Po P212 := KW.step k14 rl_289 rfl f215 f216
    have e218 : (fv P212 289 2).toInt = z209.toInt := congrArg Int32.toInt f214
    refine mp_a (a_aload_n dX4_takeCommand_126 rfl) (mpp 127 rfl ?_)
    have p219 : 0 ≤ (fv P212 289 2).toInt := by omega
    refine mt_callv (i := 44) (q' := q_99) (As := []) (rest := []) hT213 dX4_takeCommand_127 rfl qm_99 (by decide) rfl rl_289 (by decide) rfl (Nat.le_of_ble_eq_true rfl) rfl ⟨rfl, rfl⟩ ⟨Nat.le_of_ble_eq_true rfl, Nat.le_of_ble_eq_true rfl⟩ (EvP.mono (by decide) (c_CS_takeSizes_Script hT213 (KW.xr k217 hX) p219 )) (fun r220 P221 g222 => mpp 130 rfl ?_)
    obtain ⟨⟨x223, rfl, g224⟩, hT225, k226, R227⟩ := g222
    have k228 : KW [514, 515, 516, 517, 518, 519] Po P221 := KW.trans k217 k226 rfl
    have wx223 := ti_full x223
    replace g224 : 0 ≤ x223.toInt ∧ x223.toInt ≤ 1 ∧ (∃ k : Nat, RUN D1 (chC P212) (fv P212 289 2).toInt k ∧ (fv P221 289 2).toInt = (fv P212 289 2).toInt + (k : Int) ∧ fv P221 289 4 = szI (chC P212) (fv P212 289 2).toInt k ∧ ((x223.toInt = 1 ∧ 1 ≤ k) ∨ (x223.toInt = 0 ∧ k = 0))) := g224
    have g230 := ti_full (fv P221 289 2)
    show MEvP _ none q_97 130 [(0, .ref 289)] [.int x223] _ _ _ _
    refine mp_Tb (t := 153) (j_if_eq dX4_takeCommand_130) (by decide) (fun c231 => ?_) (fun c231 => mpp 133 rfl ?_)
    · have c231 : x223.toInt = 0 := ti_eq c231
      refine mp_a (a_iconst (v := 0) dX4_takeCommand_153 rfl) (mpp 154 rfl ?_)
      have u232 : 0 ≤ (0 : Int) ∧ (0 : Int) ≤ 1 := by omega
      exact mp_iret ⟨⟨_, rfl, u232⟩, hT225, k228, trivial⟩ dX4_takeCommand_154 (Or.inr ⟨rfl, by decide⟩)
    · have c231 : x223.toInt ≠ 0 := ti_eq_n c231
      refine mp_a (a_aload_n dX4_takeCommand_133 rfl) (mpp 134 rfl ?_)
      refine mp_a (a_bipush (v := 58) dX4_takeCommand_134 rfl) (mpp 136 rfl ?_)
      have p233 : 0 ≤ (fv P221 289 2).toInt := by omega
      have p234 : 1 ≤ (58 : Int) := by omega
      refine mt_callv (i := 33) (q' := q_100) (As := [.int 58]) (rest := []) hT225 dX4_takeCommand_136 rfl qm_100 (by decide) rfl rl_289 (by decide) rfl (Nat.le_of_ble_eq_true rfl) rfl ⟨rfl, rfl⟩ ⟨Nat.le_of_ble_eq_true rfl, Nat.le_of_ble_eq_true rfl⟩ (EvP.mono (by decide) (c_CS_takeSign_Script hT225 (KW.xr k228 hX) p233 p234 )) (fun r235 P236 g237 => mpp 139 rfl ?_)
      obtain ⟨⟨x238, rfl, g239⟩, hT240, k241, R242⟩ := g237
      have k243 : KW [514, 515, 516, 517, 518, 519] Po P236 := KW.trans k228 k241 rfl
      have wx238 := ti_full x238
      replace g239 : 0 ≤ x238.toInt ∧ x238.toInt ≤ 1 ∧ ((x238.toInt = 1 ∧ (chC P221 (fv P221 289 2).toInt).toInt = (58 : Int) ∧ (fv P236 289 2).toInt = (fv P221 289 2).toInt + 1) ∨ (x238.toInt = 0 ∧ ¬ (chC P221 (fv P221 289 2).toInt).toInt = (58 : Int) ∧ (fv P236 289 2).toInt = (fv P221 289 2).toInt)) := g239
      have g245 := ti_full (fv P236 289 2)
      have g246 := ti_full (fv P236 289 2)
      show MEvP _ none q_97 139 [(0, .ref 289)] [.int x238] _ _ _ _
      refine mp_Tb (t := 153) (j_if_eq dX4_takeCommand_139) (by decide) (fun c247 => ?_) (fun c247 => mpp 142 rfl ?_)
      · have c247 : x238.toInt = 0 := ti_eq c247
        refine mp_a (a_iconst (v := 0) dX4_takeCommand_153 rfl) (mpp 154 rfl ?_)
        have u248 : 0 ≤ (0 : Int) ∧ (0 : Int) ≤ 1 := by omega
        exact mp_iret ⟨⟨_, rfl, u248⟩, hT240, k243, trivial⟩ dX4_takeCommand_154 (Or.inr ⟨rfl, by decide⟩)
      · have c247 : x238.toInt ≠ 0 := ti_eq_n c247
        refine mp_a (a_aload_n dX4_takeCommand_142 rfl) (mpp 143 rfl ?_)
        have p249 : 0 ≤ (fv P236 289 2).toInt := by omega
        refine mt_callv (i := 47) (q' := q_101) (As := []) (rest := []) hT240 dX4_takeCommand_143 rfl qm_101 (by decide) rfl rl_289 (by decide) rfl (Nat.le_of_ble_eq_true rfl) rfl ⟨rfl, rfl⟩ ⟨Nat.le_of_ble_eq_true rfl, Nat.le_of_ble_eq_true rfl⟩ (EvP.mono (by decide) (c_CS_takeCreases_Script hT240 (KW.xr k243 hX) p249 )) (fun r250 P251 g252 => mpp 146 rfl ?_)
        obtain ⟨⟨x253, rfl, g254⟩, hT255, k256, R257⟩ := g252
        have k258 : KW [514, 515, 516, 517, 518, 519] Po P251 := KW.trans k243 k256 rfl
        have wx253 := ti_full x253
        replace g254 : 0 ≤ x253.toInt ∧ x253.toInt ≤ 1 ∧ (∃ k : Nat, RUN KK (chC P236) (fv P236 289 2).toInt k ∧ (fv P251 289 2).toInt = (fv P236 289 2).toInt + (k : Int) ∧ fv P251 289 5 = knV (chC P236) (fv P236 289 2).toInt k ∧ (fv P251 289 6).toInt = (k : Int) ∧ ((x253.toInt = 1 ∧ 1 ≤ k) ∨ (x253.toInt = 0 ∧ k = 0))) := g254
        have g260 := ti_full (fv P251 289 2)
        show MEvP _ none q_97 146 [(0, .ref 289)] [.int x253] _ _ _ _
        refine mp_Tb (t := 153) (j_if_eq dX4_takeCommand_146) (by decide) (fun c261 => ?_) (fun c261 => mpp 149 rfl ?_)
        · have c261 : x253.toInt = 0 := ti_eq c261
          refine mp_a (a_iconst (v := 0) dX4_takeCommand_153 rfl) (mpp 154 rfl ?_)
          have u262 : 0 ≤ (0 : Int) ∧ (0 : Int) ≤ 1 := by omega
          exact mp_iret ⟨⟨_, rfl, u262⟩, hT255, k258, trivial⟩ dX4_takeCommand_154 (Or.inr ⟨rfl, by decide⟩)
        · have c261 : x253.toInt ≠ 0 := ti_eq_n c261
          refine mp_a (a_iconst (v := 1) dX4_takeCommand_149 rfl) (mpp 150 rfl ?_)
          refine mp_a (a_goto (t := 154) dX4_takeCommand_150 (by decide)) ?_
          have u263 : 0 ≤ (1 : Int) ∧ (1 : Int) ≤ 1 := by omega
          exact mp_iret ⟨⟨_, rfl, u263⟩, hT255, k258, trivial⟩ dX4_takeCommand_154 (Or.inr ⟨rfl, by decide⟩)
  · refine mp_t (s_tabIn (t := 210) (off := 198) dX4_takeCommand_12 (by omega) (by rw [c18]; rfl) (by decide)) ?_
    refine mp_a (a_aload_n dX4_takeCommand_210 rfl) (mpp 211 rfl ?_)
    refine mp_t (s_dup dX4_takeCommand_211 rfl) (mpp 212 rfl ?_)
    have e264 : (fv P9 289 2).toInt = (fv Po 289 2).toInt := congrArg Int32.toInt (f12 289 2 (ne_k rfl))
    refine mt_getI (i := 23) (k := 2) hT10 dX4_takeCommand_212 rfl rl_289 (by decide) rfl (by decide) rfl (fun g265 g266 => mpp 215 rfl ?_)
    refine mp_a (a_iconst (v := 1) dX4_takeCommand_215 rfl) (mpp 216 rfl ?_)
    obtain ⟨z267, h268⟩ := ti_ex ((fv P9 289 2) + 1 : Int32)
    have wz267 := ti_full z267
    refine mp_t (s_iadd (v := z267) dX4_takeCommand_216 h268) (mpp 217 rfl ?_)
    try have e269 : z267.toInt = (fv P9 289 2).toInt + 1 := ti_addz h268 rfl rfl (by omega) (by omega)
    refine mt_putI (i := 23) (k := 2) (x := z267) hT10 dX4_takeCommand_217 rfl rl_289 (by decide) rfl (by decide) rfl (ti_full z267) rfl rfl (fun P270 hT271 f272 f273 f274 => mpp 220 rfl ?_)
    have k275 : KW [514, 515, 516, 517, 518, 519] Po P270 := KW.step k14 rl_289 rfl f273 f274
    have e276 : (fv P270 289 2).toInt = z267.toInt := congrArg Int32.toInt f272
    refine mp_a (a_aload_n dX4_takeCommand_220 rfl) (mpp 221 rfl ?_)
    have p277 : 0 ≤ (fv P270 289 2).toInt := by omega
    refine mt_callv (i := 50) (q' := q_103) (As := []) (rest := []) hT271 dX4_takeCommand_221 rfl qm_103 (by decide) rfl rl_289 (by decide) rfl (Nat.le_of_ble_eq_true rfl) rfl ⟨rfl, rfl⟩ ⟨Nat.le_of_ble_eq_true rfl, Nat.le_of_ble_eq_true rfl⟩ (EvP.mono (by decide) (c_CS_takePiece_Script hT271 (KW.xr k275 hX) p277 )) (fun r278 P279 g280 => mpp 224 rfl ?_)
    obtain ⟨⟨x281, rfl, g282⟩, hT283, k284, R285⟩ := g280
    have k286 : KW [514, 515, 516, 517, 518, 519] Po P279 := KW.trans k275 k284 rfl
    have wx281 := ti_full x281
    replace g282 : 0 ≤ x281.toInt ∧ x281.toInt ≤ 1 ∧ ((x281.toInt = 1 ∧ (48 ≤ (chC P270 (fv P270 289 2).toInt).toInt ∧ (chC P270 (fv P270 289 2).toInt).toInt ≤ 57) ∧ (fv P279 289 2).toInt = (fv P270 289 2).toInt + 1 ∧ (fv P279 289 4).toInt = (chC P270 (fv P270 289 2).toInt).toInt - 48) ∨ (x281.toInt = 0 ∧ ¬ (48 ≤ (chC P270 (fv P270 289 2).toInt).toInt ∧ (chC P270 (fv P270 289 2).toInt).toInt ≤ 57))) := g282
    have g288 := ti_full (fv P279 289 2)
    show MEvP _ none q_97 224 [(0, .ref 289)] [.int x281] _ _ _ _
    have u289 : 0 ≤ x281.toInt ∧ x281.toInt ≤ 1 := by omega
    exact mp_iret ⟨⟨_, rfl, u289⟩, hT283, k286, trivial⟩ dX4_takeCommand_224 (Or.inr ⟨rfl, ti_01 (by omega)⟩)
  · refine mp_t (s_tabIn (t := 210) (off := 198) dX4_takeCommand_12 (by omega) (by rw [c18]; rfl) (by decide)) ?_
    refine mp_a (a_aload_n dX4_takeCommand_210 rfl) (mpp 211 rfl ?_)
    refine mp_t (s_dup dX4_takeCommand_211 rfl) (mpp 212 rfl ?_)
    have e290 : (fv P9 289 2).toInt = (fv Po 289 2).toInt := congrArg Int32.toInt (f12 289 2 (ne_k rfl))
    refine mt_getI (i := 23) (k := 2) hT10 dX4_takeCommand_212 rfl rl_289 (by decide) rfl (by decide) rfl (fun g291 g292 => mpp 215 rfl ?_)
    refine mp_a (a_iconst (v := 1) dX4_takeCommand_215 rfl) (mpp 216 rfl ?_)
    obtain ⟨z293, h294⟩ := ti_ex ((fv P9 289 2) + 1 : Int32)
    have wz293 := ti_full z293
    refine mp_t (s_iadd (v := z293) dX4_takeCommand_216 h294) (mpp 217 rfl ?_)
    try have e295 : z293.toInt = (fv P9 289 2).toInt + 1 := ti_addz h294 rfl rfl (by omega) (by omega)
    refine mt_putI (i := 23) (k := 2) (x := z293) hT10 dX4_takeCommand_217 rfl rl_289 (by decide) rfl (by decide) rfl (ti_full z293) rfl rfl (fun P296 hT297 f298 f299 f300 => mpp 220 rfl ?_)
    have k301 : KW [514, 515, 516, 517, 518, 519] Po P296 := KW.step k14 rl_289 rfl f299 f300
    have e302 : (fv P296 289 2).toInt = z293.toInt := congrArg Int32.toInt f298
    refine mp_a (a_aload_n dX4_takeCommand_220 rfl) (mpp 221 rfl ?_)
    have p303 : 0 ≤ (fv P296 289 2).toInt := by omega
    refine mt_callv (i := 50) (q' := q_103) (As := []) (rest := []) hT297 dX4_takeCommand_221 rfl qm_103 (by decide) rfl rl_289 (by decide) rfl (Nat.le_of_ble_eq_true rfl) rfl ⟨rfl, rfl⟩ ⟨Nat.le_of_ble_eq_true rfl, Nat.le_of_ble_eq_true rfl⟩ (EvP.mono (by decide) (c_CS_takePiece_Script hT297 (KW.xr k301 hX) p303 )) (fun r304 P305 g306 => mpp 224 rfl ?_)
    obtain ⟨⟨x307, rfl, g308⟩, hT309, k310, R311⟩ := g306
    have k312 : KW [514, 515, 516, 517, 518, 519] Po P305 := KW.trans k301 k310 rfl
    have wx307 := ti_full x307
    replace g308 : 0 ≤ x307.toInt ∧ x307.toInt ≤ 1 ∧ ((x307.toInt = 1 ∧ (48 ≤ (chC P296 (fv P296 289 2).toInt).toInt ∧ (chC P296 (fv P296 289 2).toInt).toInt ≤ 57) ∧ (fv P305 289 2).toInt = (fv P296 289 2).toInt + 1 ∧ (fv P305 289 4).toInt = (chC P296 (fv P296 289 2).toInt).toInt - 48) ∨ (x307.toInt = 0 ∧ ¬ (48 ≤ (chC P296 (fv P296 289 2).toInt).toInt ∧ (chC P296 (fv P296 289 2).toInt).toInt ≤ 57))) := g308
    have g314 := ti_full (fv P305 289 2)
    show MEvP _ none q_97 224 [(0, .ref 289)] [.int x307] _ _ _ _
    have u315 : 0 ≤ x307.toInt ∧ x307.toInt ≤ 1 := by omega
    exact mp_iret ⟨⟨_, rfl, u315⟩, hT309, k312, trivial⟩ dX4_takeCommand_224 (Or.inr ⟨rfl, ti_01 (by omega)⟩)
  · refine mp_t (s_tabIn (t := 225) (off := 213) dX4_takeCommand_12 (by omega) (by rw [c18]; rfl) (by decide)) ?_
    refine mp_a (a_iconst (v := 0) dX4_takeCommand_225 rfl) (mpp 226 rfl ?_)
    have u316 : 0 ≤ (0 : Int) ∧ (0 : Int) ≤ 1 := by omega
    exact mp_iret ⟨⟨_, rfl, u316⟩, hT10, k14, trivial⟩ dX4_takeCommand_226 (Or.inr ⟨rfl, by decide⟩)
  · refine mp_t (s_tabIn (t := 225) (off := 213) dX4_takeCommand_12 (by omega) (by rw [c18]; rfl) (by decide)) ?_
    refine mp_a (a_iconst (v := 0) dX4_takeCommand_225 rfl) (mpp 226 rfl ?_)
    have u317 : 0 ≤ (0 : Int) ∧ (0 : Int) ≤ 1 := by omega
    exact mp_iret ⟨⟨_, rfl, u317⟩, hT10, k14, trivial⟩ dX4_takeCommand_226 (Or.inr ⟨rfl, by decide⟩)
  · refine mp_t (s_tabIn (t := 210) (off := 198) dX4_takeCommand_12 (by omega) (by rw [c18]; rfl) (by decide)) ?_
    refine mp_a (a_aload_n dX4_takeCommand_210 rfl) (mpp 211 rfl ?_)
    refine mp_t (s_dup dX4_takeCommand_211 rfl) (mpp 212 rfl ?_)
    have e318 : (fv P9 289 2).toInt = (fv Po 289 2).toInt := congrArg Int32.toInt (f12 289 2 (ne_k rfl))
    refine mt_getI (i := 23) (k := 2) hT10 dX4_takeCommand_212 rfl rl_289 (by decide) rfl (by decide) rfl (fun g319 g320 => mpp 215 rfl ?_)
    refine mp_a (a_iconst (v := 1) dX4_takeCommand_215 rfl) (mpp 216 rfl ?_)
    obtain ⟨z321, h322⟩ := ti_ex ((fv P9 289 2) + 1 : Int32)
    have wz321 := ti_full z321
    refine mp_t (s_iadd (v := z321) dX4_takeCommand_216 h322) (mpp 217 rfl ?_)
    try have e323 : z321.toInt = (fv P9 289 2).toInt + 1 := ti_addz h322 rfl rfl (by omega) (by omega)
    refine mt_putI (i := 23) (k := 2) (x := z321) hT10 dX4_takeCommand_217 rfl rl_289 (by decide) rfl (by decide) rfl (ti_full z321) rfl rfl (fun P324 hT325 f326 f327 f328 => mpp 220 rfl ?_)
    have k329 : KW [514, 515, 516, 517, 518, 519] Po P324 := KW.step k14 rl_289 rfl f327 f328
    have e330 : (fv P324 289 2).toInt = z321.toInt := congrArg Int32.toInt f326
    refine mp_a (a_aload_n dX4_takeCommand_220 rfl) (mpp 221 rfl ?_)
    have p331 : 0 ≤ (fv P324 289 2).toInt := by omega
    refine mt_callv (i := 50) (q' := q_103) (As := []) (rest := []) hT325 dX4_takeCommand_221 rfl qm_103 (by decide) rfl rl_289 (by decide) rfl (Nat.le_of_ble_eq_true rfl) rfl ⟨rfl, rfl⟩ ⟨Nat.le_of_ble_eq_true rfl, Nat.le_of_ble_eq_true rfl⟩ (EvP.mono (by decide) (c_CS_takePiece_Script hT325 (KW.xr k329 hX) p331 )) (fun r332 P333 g334 => mpp 224 rfl ?_)
    obtain ⟨⟨x335, rfl, g336⟩, hT337, k338, R339⟩ := g334
    have k340 : KW [514, 515, 516, 517, 518, 519] Po P333 := KW.trans k329 k338 rfl
    have wx335 := ti_full x335
    replace g336 : 0 ≤ x335.toInt ∧ x335.toInt ≤ 1 ∧ ((x335.toInt = 1 ∧ (48 ≤ (chC P324 (fv P324 289 2).toInt).toInt ∧ (chC P324 (fv P324 289 2).toInt).toInt ≤ 57) ∧ (fv P333 289 2).toInt = (fv P324 289 2).toInt + 1 ∧ (fv P333 289 4).toInt = (chC P324 (fv P324 289 2).toInt).toInt - 48) ∨ (x335.toInt = 0 ∧ ¬ (48 ≤ (chC P324 (fv P324 289 2).toInt).toInt ∧ (chC P324 (fv P324 289 2).toInt).toInt ≤ 57))) := g336
    have g342 := ti_full (fv P333 289 2)
    show MEvP _ none q_97 224 [(0, .ref 289)] [.int x335] _ _ _ _
    have u343 : 0 ≤ x335.toInt ∧ x335.toInt ≤ 1 := by omega
    exact mp_iret ⟨⟨_, rfl, u343⟩, hT337, k340, trivial⟩ dX4_takeCommand_224 (Or.inr ⟨rfl, ti_01 (by omega)⟩)

set_option maxHeartbeats 4000000 in
theorem c_CS_faultPosition_Script_l6 {Po : mP}  (hTo : Typ Po) (hX : XR Po)  : ∀ (n : Nat) (v1 : Int32), ∀ (P : mP), Typ P → KW [514, 515, 516, 517, 518, 519] Po P → (0 ≤ v1.toInt) → (2147483647 - v1.toInt).toNat = n → MEvP 5 none q_95 6 [(0, .ref 289), (1, .int v1)] [] P 0 0 (fun r P' => (∃ x : Int32, r = some (.int x) ∧ (True)) ∧ Typ P' ∧ KW [514, 515, 516, 517, 518, 519] Po P' ∧ True) := by
  intro n
  induction n using Nat.strongRecOn with | _ n ih => ?_
  intro v1 P hT hK i_0 hm
  have w_v1 := ti_full v1
  refine mp_a (a_iload_n dX4_faultPosition_6 rfl) (mpp 7 rfl ?_)
  refine mp_a (a_bipush (v := 80) dX4_faultPosition_7 rfl) (mpp 9 rfl ?_)
  refine mp_Tb (t := 54) (j_icmp_ge dX4_faultPosition_9) (by decide) (fun c1 => ?_) (fun c1 => mpp 12 rfl ?_)
  · have c1 : v1.toInt ≥ 80 := ti_ge c1
    refine mp_a (a_aload_n dX4_faultPosition_54 rfl) (mpp 55 rfl ?_)
    have g2 := ti_full (fv P 289 2)
    refine mt_getI (i := 23) (k := 2) hT dX4_faultPosition_55 rfl rl_289 (by decide) rfl (by decide) rfl (fun g3 g4 => mpp 58 rfl ?_)
    exact mp_iret ⟨⟨_, rfl, trivial⟩, hT, hK, trivial⟩ dX4_faultPosition_58 (Or.inl rfl)
  · have c1 : v1.toInt < 80 := ti_ge_n c1
    refine mp_a (a_aload_n dX4_faultPosition_12 rfl) (mpp 13 rfl ?_)
    refine mt_callv (i := 29) (q' := q_97) (As := []) (rest := []) hT dX4_faultPosition_13 rfl qm_97 (by decide) rfl rl_289 (by decide) rfl (Nat.le_of_ble_eq_true rfl) rfl ⟨rfl, rfl⟩ ⟨Nat.le_of_ble_eq_true rfl, Nat.le_of_ble_eq_true rfl⟩ (EvP.mono (by decide) (c_CS_takeCommand_Script hT (KW.xr hK hX) )) (fun r5 P6 g7 => mpp 16 rfl ?_)
    obtain ⟨⟨x8, rfl, g9⟩, hT10, k11, R12⟩ := g7
    have k13 : KW [514, 515, 516, 517, 518, 519] Po P6 := KW.trans hK k11 rfl
    have wx8 := ti_full x8
    replace g9 : 0 ≤ x8.toInt ∧ x8.toInt ≤ 1 := g9
    show MEvP _ none q_95 16 [(0, .ref 289), (1, .int v1)] [.int x8] _ _ _ _
    refine mp_Tb (t := 54) (j_if_eq dX4_faultPosition_16) (by decide) (fun c15 => ?_) (fun c15 => mpp 19 rfl ?_)
    · have c15 : x8.toInt = 0 := ti_eq c15
      refine mp_a (a_aload_n dX4_faultPosition_54 rfl) (mpp 55 rfl ?_)
      have g16 := ti_full (fv P6 289 2)
      refine mt_getI (i := 23) (k := 2) hT10 dX4_faultPosition_55 rfl rl_289 (by decide) rfl (by decide) rfl (fun g17 g18 => mpp 58 rfl ?_)
      exact mp_iret ⟨⟨_, rfl, trivial⟩, hT10, k13, trivial⟩ dX4_faultPosition_58 (Or.inl rfl)
    · have c15 : x8.toInt ≠ 0 := ti_eq_n c15
      refine mp_a (a_aload_n dX4_faultPosition_19 rfl) (mpp 20 rfl ?_)
      have g19 := ti_full (fv P6 289 2)
      refine mt_getI (i := 23) (k := 2) hT10 dX4_faultPosition_20 rfl rl_289 (by decide) rfl (by decide) rfl (fun g20 g21 => mpp 23 rfl ?_)
      refine mp_a (a_aload_n dX4_faultPosition_23 rfl) (mpp 24 rfl ?_)
      have g22 : (0 : Int) ≤ (fv P6 289 1).toInt ∧ (fv P6 289 1).toInt ≤ 80 := Typ.rng hT10 rl_289 (by decide) (by decide) rfl
      refine mt_getI (i := 15) (k := 1) hT10 dX4_faultPosition_24 rfl rl_289 (by decide) rfl (by decide) rfl (fun g23 g24 => mpp 27 rfl ?_)
      refine mp_Tb (t := 34) (j_icmp_ne dX4_faultPosition_27) (by decide) (fun c25 => ?_) (fun c25 => mpp 30 rfl ?_)
      · have c25 : (fv P6 289 2).toInt ≠ (fv P6 289 1).toInt := ti_ne c25
        refine mp_a (a_aload_n dX4_faultPosition_34 rfl) (mpp 35 rfl ?_)
        refine mp_a (a_bipush (v := 59) dX4_faultPosition_35 rfl) (mpp 37 rfl ?_)
        have p26 : 0 ≤ (fv P6 289 2).toInt := by omega
        have p27 : 1 ≤ (59 : Int) := by omega
        refine mt_callv (i := 33) (q' := q_100) (As := [.int 59]) (rest := []) hT10 dX4_faultPosition_37 rfl qm_100 (by decide) rfl rl_289 (by decide) rfl (Nat.le_of_ble_eq_true rfl) rfl ⟨rfl, rfl⟩ ⟨Nat.le_of_ble_eq_true rfl, Nat.le_of_ble_eq_true rfl⟩ (EvP.mono (by decide) (c_CS_takeSign_Script hT10 (KW.xr k13 hX) p26 p27 )) (fun r28 P29 g30 => mpp 40 rfl ?_)
        obtain ⟨⟨x31, rfl, g32⟩, hT33, k34, R35⟩ := g30
        have k36 : KW [514, 515, 516, 517, 518, 519] Po P29 := KW.trans k13 k34 rfl
        have wx31 := ti_full x31
        replace g32 : 0 ≤ x31.toInt ∧ x31.toInt ≤ 1 ∧ ((x31.toInt = 1 ∧ (chC P6 (fv P6 289 2).toInt).toInt = (59 : Int) ∧ (fv P29 289 2).toInt = (fv P6 289 2).toInt + 1) ∨ (x31.toInt = 0 ∧ ¬ (chC P6 (fv P6 289 2).toInt).toInt = (59 : Int) ∧ (fv P29 289 2).toInt = (fv P6 289 2).toInt)) := g32
        have g38 := ti_full (fv P29 289 2)
        have g39 := ti_full (fv P29 289 2)
        show MEvP _ none q_95 40 [(0, .ref 289), (1, .int v1)] [.int x31] _ _ _ _
        refine mp_Tb (t := 48) (j_if_ne dX4_faultPosition_40) (by decide) (fun c40 => ?_) (fun c40 => mpp 43 rfl ?_)
        · have c40 : x31.toInt ≠ 0 := ti_ne c40
          obtain ⟨z41, h42⟩ := ti_ex (v1 + 1 : Int32)
          have wz41 := ti_full z41
          refine mp_a (a_iinc (v := z41) (L' := [(1, .int z41), (0, .ref 289)]) dX4_faultPosition_48 (by decide) rfl h42 rfl) (mpp 51 rfl ?_)
          try have e43 : z41.toInt = v1.toInt + 1 := ti_addz h42 rfl rfl (by omega) (by omega)
          refine mp_a (a_goto (t := 6) dX4_faultPosition_51 (by decide)) ?_
          refine MEvP.less (L := [(0, .ref 289), (1, .int z41)]) rfl rfl ⟨rfl, rfl, trivial⟩ ?_
          have i44 : 0 ≤ z41.toInt := by omega
          exact ih _ (by omega) _ P29 hT33 k36 i44 rfl
        · have c40 : x31.toInt = 0 := ti_ne_n c40
          refine mp_a (a_aload_n dX4_faultPosition_43 rfl) (mpp 44 rfl ?_)
          refine mt_getI (i := 23) (k := 2) hT33 dX4_faultPosition_44 rfl rl_289 (by decide) rfl (by decide) rfl (fun g45 g46 => mpp 47 rfl ?_)
          exact mp_iret ⟨⟨_, rfl, trivial⟩, hT33, k36, trivial⟩ dX4_faultPosition_47 (Or.inl rfl)
      · have c25 : (fv P6 289 2).toInt = (fv P6 289 1).toInt := ti_ne_n c25
        refine mp_a (a_sipush (v := -1004) dX4_faultPosition_30 rfl) (mpp 33 rfl ?_)
        exact mp_iret ⟨⟨_, rfl, trivial⟩, hT10, k13, trivial⟩ dX4_faultPosition_33 (Or.inl rfl)

set_option maxHeartbeats 4000000 in
theorem c_CS_faultPosition_Script {Po : mP}  (hT : Typ Po) (hX : XR Po)   : EvP 6 95 [.ref 289] Po (fun r P' => (∃ x : Int32, r = some (.int x) ∧ (True)) ∧ Typ P' ∧ KW [514, 515, 516, 517, 518, 519] Po P' ∧ True) := by
  refine EvP.of qm_95 (Nat.le_of_ble_eq_true rfl) rfl ?_
  show MEvP _ none q_95 0 [(0, .ref 289)] [] _ 0 0 _
  refine mp_a (a_aload_n dX4_faultPosition_0 rfl) (mpp 1 rfl ?_)
  refine mt_callv (i := 26) (q' := q_96) (As := []) (rest := []) hT dX4_faultPosition_1 rfl qm_96 (by decide) rfl rl_289 (by decide) rfl (Nat.le_of_ble_eq_true rfl) rfl ⟨rfl, rfl⟩ ⟨Nat.le_of_ble_eq_true rfl, Nat.le_of_ble_eq_true rfl⟩ (EvP.mono (by decide) (c_CS_rewind_Script hT hX )) (fun r1 P2 g3 => mpp 4 rfl ?_)
  obtain ⟨⟨rfl, g5⟩, hT6, k7, R8⟩ := g3
  have k9 : KW [514, 515, 516, 517, 518, 519] Po P2 := KW.trans KW.refl k7 rfl
  show MEvP _ none q_95 4 [(0, .ref 289)] [] _ _ _ _
  refine mp_a (a_iconst (v := 0) dX4_faultPosition_4 rfl) (mpp 5 rfl ?_)
  refine mp_a (a_istore_n (L' := [(1, .int 0), (0, .ref 289)]) dX4_faultPosition_5 (by decide) rfl) (mpp 6 rfl ?_)
  refine MEvP.less (L := [(0, .ref 289), (1, .int 0)]) rfl rfl ⟨rfl, rfl, trivial⟩ ?_
  have i11 : 0 ≤ (0 : Int) := by omega
  exact c_CS_faultPosition_Script_l6 hT hX   _ _ P2 hT6 k9 i11 rfl

set_option maxHeartbeats 4000000 in
theorem c_CS_clear_Script {Po : mP}  (hT : Typ Po) (hX : XR Po)   : EvP 1 106 [.ref 289] Po (fun r P' => (r = none ∧ ((fv P' 289 1).toInt = 0)) ∧ Typ P' ∧ KW [513] Po P' ∧ True) := by
  refine EvP.of qm_106 (Nat.le_of_ble_eq_true rfl) rfl ?_
  show MEvP _ none q_106 0 [(0, .ref 289)] [] _ 0 0 _
  refine mp_a (a_aload_n dX4_clear_0 rfl) (mpp 1 rfl ?_)
  refine mp_a (a_iconst (v := 0) dX4_clear_1 rfl) (mpp 2 rfl ?_)
  refine mt_putI (i := 15) (k := 1) (x := 0) hT dX4_clear_2 rfl rl_289 (by decide) rfl (by decide) rfl (by decide) rfl rfl (fun P1 hT2 f3 f4 f5 => mpp 5 rfl ?_)
  have k6 : KW [513] Po P1 := KW.step KW.refl rl_289 rfl f4 f5
  have e7 : (fv P1 289 1).toInt = 0 := congrArg Int32.toInt f3
  have u8 : (fv P1 289 1).toInt = 0 := by omega
  exact mp_ret ⟨⟨rfl, u8⟩, hT2, k6, trivial⟩ dX4_clear_5 rfl

set_option maxHeartbeats 4000000 in
theorem c_CP_copyFrom_Piece_Piece {Po : mP} {a0_ : Nat} {a1_ : Nat} (hT : Typ Po) (hX : XR Po)  (hp0 : a0_ + 3 ≤ a1_ ∨ a1_ + 3 ≤ a0_) (ha0 : rl a0_ = 3) (ha1 : rl a1_ = 3) : EvP 2 18 [.ref a0_, .ref a1_] Po (fun r P' => (r = none ∧ (True)) ∧ Typ P' ∧ KW [192, 193, 194, 256, 320] Po P' ∧ fv P' a0_ 0 = fv Po a1_ 0 ∧ fv P' a0_ 1 = fv Po a1_ 1 ∧ fv P' a0_ 2 = fv Po a1_ 2 ∧ (∀ j : Nat, j < 8 → fv P' (a0_ + 1) j = fv Po (a1_ + 1) j) ∧ (∀ j : Nat, j < 8 → fv P' (a0_ + 2) j = fv Po (a1_ + 2) j) ∧ KI a0_ (a0_ + 3) Po P') := by
  refine EvP.of qm_18 (Nat.le_of_ble_eq_true rfl) rfl ?_
  show MEvP _ none q_18 0 [(0, .ref a0_), (1, .ref a1_)] [] _ 0 0 _
  have w1 := pc_ar ha0
  have w2 := pc_ar ha1
  refine mp_a (a_aload_n dX2_copyFrom_0 rfl) (mpp 1 rfl ?_)
  refine mp_a (a_aload_n dX2_copyFrom_1 rfl) (mpp 2 rfl ?_)
  have g3 := ti_full (fv Po a1_ 0)
  refine mt_getI (i := 18) (k := 0) hT dX2_copyFrom_2 rfl ha1 (by decide) rfl (by decide) rfl (fun g4 g5 => mpp 5 rfl ?_)
  refine mt_putI (i := 18) (k := 0) (x := (fv Po a1_ 0)) hT dX2_copyFrom_5 rfl ha0 (by decide) rfl (by decide) rfl (ti_full (fv Po a1_ 0)) rfl rfl (fun P6 hT7 f8 f9 f10 => mpp 8 rfl ?_)
  have k11 : KW [192, 193, 194, 256, 320] Po P6 := KW.step KW.refl ha0 rfl f9 f10
  have e12 : (fv P6 a0_ 0).toInt = (fv Po a1_ 0).toInt := congrArg Int32.toInt f8
  refine mp_a (a_aload_n dX2_copyFrom_8 rfl) (mpp 9 rfl ?_)
  refine mp_a (a_aload_n dX2_copyFrom_9 rfl) (mpp 10 rfl ?_)
  have g13 : (0 : Int) ≤ (fv P6 a1_ 1).toInt ∧ (fv P6 a1_ 1).toInt ≤ 8 := Typ.rng hT7 ha1 (by decide) (by decide) rfl
  refine mt_getI (i := 26) (k := 1) hT7 dX2_copyFrom_10 rfl ha1 (by decide) rfl (by decide) rfl (fun g14 g15 => mpp 13 rfl ?_)
  refine mt_putI (i := 26) (k := 1) (x := (fv P6 a1_ 1)) hT7 dX2_copyFrom_13 rfl ha0 (by decide) rfl (by decide) rfl ⟨by omega, by omega⟩ rfl rfl (fun P16 hT17 f18 f19 f20 => mpp 16 rfl ?_)
  have k21 : KW [192, 193, 194, 256, 320] Po P16 := KW.step k11 ha0 rfl f19 f20
  have e22 : (fv P16 a0_ 1).toInt = (fv P6 a1_ 1).toInt := congrArg Int32.toInt f18
  refine mp_a (a_aload_n dX2_copyFrom_16 rfl) (mpp 17 rfl ?_)
  refine mp_a (a_aload_n dX2_copyFrom_17 rfl) (mpp 18 rfl ?_)
  have g23 : (0 : Int) ≤ (fv P16 a1_ 2).toInt ∧ (fv P16 a1_ 2).toInt ≤ 1 := Typ.rng hT17 ha1 (by decide) (by decide) rfl
  refine mt_getI (i := 22) (k := 2) hT17 dX2_copyFrom_18 rfl ha1 (by decide) rfl (by decide) rfl (fun g24 g25 => mpp 21 rfl ?_)
  refine mt_putI (i := 22) (k := 2) (x := (fv P16 a1_ 2)) hT17 dX2_copyFrom_21 rfl ha0 (by decide) rfl (by decide) rfl ⟨by omega, by omega⟩ (ti_fit (by omega)) rfl (fun P26 hT27 f28 f29 f30 => mpp 24 rfl ?_)
  have k31 : KW [192, 193, 194, 256, 320] Po P26 := KW.step k21 ha0 rfl f29 f30
  have e32 : (fv P26 a0_ 2).toInt = (fv P16 a1_ 2).toInt := congrArg Int32.toInt f28
  refine mp_a (a_aload_n dX2_copyFrom_24 rfl) (mpp 25 rfl ?_)
  refine mt_getE (i := 9) (k := 3) hT27 dX2_copyFrom_25 rfl ha1 (by decide) rfl (by decide) rfl ((KW.xr k31 hX).1 a1_ (Or.inl ha1)).1 (fun q33 => mpp 28 rfl ?_)
  refine mp_a (a_aload_n dX2_copyFrom_28 rfl) (mpp 29 rfl ?_)
  refine mt_getE (i := 9) (k := 3) hT27 dX2_copyFrom_29 rfl ha0 (by decide) rfl (by decide) rfl ((KW.xr k31 hX).1 a0_ (Or.inl ha0)).1 (fun q34 => mpp 32 rfl ?_)
  have p35 : ¬ (a1_ + 1) = (a0_ + 1) := by omega
  refine mp_calls (i := 44) (q' := q_19) (As := [.ref (a1_ + 1), .ref (a0_ + 1)]) (rest := []) dX2_copyFrom_32 rfl qm_19 (by decide) rfl (Nat.le_of_ble_eq_true rfl) rfl ⟨rfl, rfl⟩ ⟨Nat.le_of_ble_eq_true rfl, Nat.le_of_ble_eq_true rfl⟩ (EvP.mono (by decide) (c_F_copyRow_sizes_sizes hT27 (KW.xr k31 hX) p35 q33 q34)) (fun r36 P37 g38 => mpp 35 rfl ?_)
  obtain ⟨⟨rfl, g40⟩, hT41, k42, R43⟩ := g38
  have k44 : KW [192, 193, 194, 256, 320] Po P37 := KW.trans k31 k42 rfl
  show MEvP _ none q_18 35 [(0, .ref a0_), (1, .ref a1_)] [] _ _ _ _
  refine mp_a (a_aload_n dX2_copyFrom_35 rfl) (mpp 36 rfl ?_)
  refine mt_getE (i := 15) (k := 4) hT41 dX2_copyFrom_36 rfl ha1 (by decide) rfl (by decide) rfl ((KW.xr k44 hX).1 a1_ (Or.inl ha1)).2 (fun q46 => mpp 39 rfl ?_)
  refine mp_a (a_aload_n dX2_copyFrom_39 rfl) (mpp 40 rfl ?_)
  refine mt_getE (i := 15) (k := 4) hT41 dX2_copyFrom_40 rfl ha0 (by decide) rfl (by decide) rfl ((KW.xr k44 hX).1 a0_ (Or.inl ha0)).2 (fun q47 => mpp 43 rfl ?_)
  have p48 : ¬ (a1_ + 2) = (a0_ + 2) := by omega
  refine mp_calls (i := 44) (q' := q_19) (As := [.ref (a1_ + 2), .ref (a0_ + 2)]) (rest := []) dX2_copyFrom_43 rfl qm_19 (by decide) rfl (Nat.le_of_ble_eq_true rfl) rfl ⟨rfl, rfl⟩ ⟨Nat.le_of_ble_eq_true rfl, Nat.le_of_ble_eq_true rfl⟩ (EvP.mono (by decide) (c_F_copyRow_creases_creases hT41 (KW.xr k44 hX) p48 q46 q47)) (fun r49 P50 g51 => mpp 46 rfl ?_)
  obtain ⟨⟨rfl, g53⟩, hT54, k55, R56⟩ := g51
  have k57 : KW [192, 193, 194, 256, 320] Po P50 := KW.trans k44 k55 rfl
  show MEvP _ none q_18 46 [(0, .ref a0_), (1, .ref a1_)] [] _ _ _ _
  have u59 : fv P50 a0_ 0 = fv Po a1_ 0 := by rw [R56.2 a0_ 0 (by omega), R43.2 a0_ 0 (by omega), f29 a0_ 0 (by omega), f19 a0_ 0 (by omega), f8]
  have u60 : fv P50 a0_ 1 = fv Po a1_ 1 := by rw [R56.2 a0_ 1 (by omega), R43.2 a0_ 1 (by omega), f29 a0_ 1 (by omega), f18, f9 a1_ 1 (by omega)]
  have u61 : fv P50 a0_ 2 = fv Po a1_ 2 := by rw [R56.2 a0_ 2 (by omega), R43.2 a0_ 2 (by omega), f28, f19 a1_ 2 (by omega), f9 a1_ 2 (by omega)]
  have u62 : (∀ j : Nat, j < 8 → fv P50 (a0_ + 1) j = fv Po (a1_ + 1) j) := by
    intro j hj
    rw [R56.2 (a0_ + 1) j (by omega), R43.1 j (by omega), f29 (a1_ + 1) j (by omega), f19 (a1_ + 1) j (by omega), f9 (a1_ + 1) j (by omega)]
  have u63 : (∀ j : Nat, j < 8 → fv P50 (a0_ + 2) j = fv Po (a1_ + 2) j) := by
    intro j hj
    rw [R56.1 j (by omega), R43.2 (a1_ + 2) j (by omega), f29 (a1_ + 2) j (by omega), f19 (a1_ + 2) j (by omega), f9 (a1_ + 2) j (by omega)]
  have u64 : KI a0_ (a0_ + 3) Po P50 := by
    intro x j hx
    rw [R56.2 x j (by omega), R43.2 x j (by omega), f29 x j (by omega), f19 x j (by omega), f9 x j (by omega)]
  exact mp_ret ⟨⟨rfl, trivial⟩, hT54, k57, ⟨u59, u60, u61, u62, u63, u64⟩⟩ dX2_copyFrom_46 rfl

set_option maxHeartbeats 4000000 in
theorem c_CS_copyFrom_State_State_l26 {Po : mP} {a0_ : Nat} {a1_ : Nat} (hTo : Typ Po) (hX : XR Po) (hJo : Inj Po) (hp0 : a0_ + 26 ≤ a1_ ∨ a1_ + 26 ≤ a0_) (ha0 : rl a0_ = 1) (ha1 : rl a1_ = 1) : ∀ (n : Nat) (v2 : Int32), ∀ (P : mP), Typ P → KW [65, 66, 67, 192, 193, 194, 256, 320] Po P → Inj P → ((fv P a0_ 1 = fv Po a1_ 1 ∧ fv P a0_ 2 = fv Po a1_ 2 ∧ fv P a0_ 3 = fv Po a1_ 3)) → (∀ k : Nat, k < 8 → (k : Int) < v2.toInt → PE P (a0_ + 2 + 3 * k) Po (a1_ + 2 + 3 * k)) → (KI a0_ (a0_ + 26) Po P) → ((fv P a0_ 1).toInt = (fv Po a1_ 1).toInt) → (0 ≤ v2.toInt) → (0 ≤ v2.toInt) → (2147483647 - v2.toInt).toNat = n → MEvP 2 none q_17 26 [(0, .ref a0_), (1, .ref a1_), (2, .int v2)] [] P 0 0 (fun r P' => (r = none ∧ (True)) ∧ Typ P' ∧ KW [65, 66, 67, 192, 193, 194, 256, 320] Po P' ∧ Inj P' ∧ fv P' a0_ 1 = fv Po a1_ 1 ∧ fv P' a0_ 2 = fv Po a1_ 2 ∧ fv P' a0_ 3 = fv Po a1_ 3 ∧ (∀ k : Nat, k < 8 → (k : Int) < (fv Po a1_ 1).toInt → PE P' (a0_ + 2 + 3 * k) Po (a1_ + 2 + 3 * k)) ∧ KI a0_ (a0_ + 26) Po P') := by
  intro n
  induction n using Nat.strongRecOn with | _ n ih => ?_
  intro v2 P hT hK hJ i_0 i_1 i_2 i_3 i_4 i_5 hm
  have w1 := st_ar ha0
  have w2 := st_ar ha1
  have w_v2 := ti_full v2
  have g3 : (0 : Int) ≤ (fv P a0_ 1).toInt ∧ (fv P a0_ 1).toInt ≤ 8 := Typ.rng hT ha0 (by decide) (by decide) rfl
  have g4 : (0 : Int) ≤ (fv P a0_ 1).toInt ∧ (fv P a0_ 1).toInt ≤ 8 := Typ.rng hT ha0 (by decide) (by decide) rfl
  have eB : (fv P a1_ 1).toInt = (fv Po a1_ 1).toInt := congrArg Int32.toInt (i_2 _ _ (by omega))
  refine mp_a (a_iload_n dX5_copyFrom_26 rfl) (mpp 27 rfl ?_)
  refine mp_a (a_aload_n dX5_copyFrom_27 rfl) (mpp 28 rfl ?_)
  refine mt_getI (i := 22) (k := 1) hT dX5_copyFrom_28 rfl ha0 (by decide) rfl (by decide) rfl (fun g5 g6 => mpp 31 rfl ?_)
  refine mp_Tb (t := 68) (j_icmp_ge dX5_copyFrom_31) (by decide) (fun c7 => ?_) (fun c7 => mpp 34 rfl ?_)
  · have c7 : v2.toInt ≥ (fv P a0_ 1).toInt := ti_ge c7
    have u8 : fv P a0_ 1 = fv Po a1_ 1 ∧ fv P a0_ 2 = fv Po a1_ 2 ∧ fv P a0_ 3 = fv Po a1_ 3 ∧ (∀ k : Nat, k < 8 → (k : Int) < (fv Po a1_ 1).toInt → PE P (a0_ + 2 + 3 * k) Po (a1_ + 2 + 3 * k)) ∧ KI a0_ (a0_ + 26) Po P := ⟨i_0.1, i_0.2.1, i_0.2.2, fun k hk h => i_1 k hk (by omega), i_2⟩
    exact mp_ret ⟨⟨rfl, trivial⟩, hT, hK, hJ, u8⟩ dX5_copyFrom_68 rfl
  · have c7 : v2.toInt < (fv P a0_ 1).toInt := ti_ge_n c7
    refine mp_a (a_aload_n dX5_copyFrom_34 rfl) (mpp 35 rfl ?_)
    refine mp_a (a_iload_n dX5_copyFrom_35 rfl) (mpp 36 rfl ?_)
    refine mt_callv (i := 28) (q' := q_9) (As := [.int v2]) (rest := []) hT dX5_copyFrom_36 rfl qm_9 (by decide) rfl ha0 (by decide) rfl (Nat.le_of_ble_eq_true rfl) rfl ⟨rfl, rfl⟩ ⟨Nat.le_of_ble_eq_true rfl, Nat.le_of_ble_eq_true rfl⟩ (EvP.mono (by decide) (c_CS_pieceAt_State hT (KW.xr hK hX) ha0)) (fun r9 P10 g11 => mpp 39 rfl ?_)
    obtain ⟨g11, e12⟩ := g11
    have e12 := e12.symm
    subst e12
    rcases g11 with ⟨rfl, q14n⟩ | ⟨b13, rfl, q14, q14r⟩
    · show MEvP _ none q_17 39 [(0, .ref a0_), (1, .ref a1_), (2, .int v2)] [.null] _ _ _ _
      replace q14n : v2.toInt < 0 ∨ (fv P a0_ 1).toInt ≤ v2.toInt ∨ 8 ≤ v2.toInt := q14n
      refine mp_a (a_astore_nN (L' := [(3, .null), (0, .ref a0_), (1, .ref a1_), (2, .int v2)]) dX5_copyFrom_39 (by decide) rfl) (mpp 40 rfl ?_)
      refine mp_a (a_aload_n dX5_copyFrom_40 rfl) (mpp 41 rfl ?_)
      refine mp_a (a_iload_n dX5_copyFrom_41 rfl) (mpp 42 rfl ?_)
      refine mt_callv (i := 28) (q' := q_9) (As := [.int v2]) (rest := []) hT dX5_copyFrom_42 rfl qm_9 (by decide) rfl ha1 (by decide) rfl (Nat.le_of_ble_eq_true rfl) rfl ⟨rfl, rfl⟩ ⟨Nat.le_of_ble_eq_true rfl, Nat.le_of_ble_eq_true rfl⟩ (EvP.mono (by decide) (c_CS_pieceAt_State hT (KW.xr hK hX) ha1)) (fun r15 P16 g17 => mpp 45 rfl ?_)
      obtain ⟨g17, e18⟩ := g17
      have e18 := e18.symm
      subst e18
      rcases g17 with ⟨rfl, q20n⟩ | ⟨b19, rfl, q20, q20r⟩
      · show MEvP _ none q_17 45 [(3, .null), (0, .ref a0_), (1, .ref a1_), (2, .int v2)] [.null] _ _ _ _
        replace q20n : v2.toInt < 0 ∨ (fv P a1_ 1).toInt ≤ v2.toInt ∨ 8 ≤ v2.toInt := q20n
        have g21 : (0 : Int) ≤ (fv P a1_ 1).toInt ∧ (fv P a1_ 1).toInt ≤ 8 := Typ.rng hT ha1 (by decide) (by decide) rfl
        refine mp_a (a_astoreN (L' := [(4, .null), (3, .null), (0, .ref a0_), (1, .ref a1_), (2, .int v2)]) dX5_copyFrom_45 (by decide) rfl) (mpp 47 rfl ?_)
        refine mp_a (a_aload_nN dX5_copyFrom_47 rfl) (mpp 48 rfl ?_)
        refine mp_t (s_ifnullN (t := 62) dX5_copyFrom_48 (by decide)) ?_
        obtain ⟨z22, h23⟩ := ti_ex (v2 + 1 : Int32)
        have wz22 := ti_full z22
        refine mp_a (a_iinc (v := z22) (L' := [(2, .int z22), (4, .null), (3, .null), (0, .ref a0_), (1, .ref a1_)]) dX5_copyFrom_62 (by decide) rfl h23 rfl) (mpp 65 rfl ?_)
        try have e24 : z22.toInt = v2.toInt + 1 := ti_addz h23 rfl rfl (by omega) (by omega)
        refine mp_a (a_goto (t := 26) dX5_copyFrom_65 (by decide)) ?_
        refine MEvP.less (L := [(0, .ref a0_), (1, .ref a1_), (2, .int z22)]) rfl rfl ⟨rfl, rfl, rfl, trivial⟩ ?_
        have i25 : (fv P a0_ 1 = fv Po a1_ 1 ∧ fv P a0_ 2 = fv Po a1_ 2 ∧ fv P a0_ 3 = fv Po a1_ 3) := ⟨i_0.1, i_0.2.1, i_0.2.2⟩
        have i26 : ∀ k : Nat, k < 8 → (k : Int) < z22.toInt → PE P (a0_ + 2 + 3 * k) Po (a1_ + 2 + 3 * k) := fun k hk h => i_1 k hk (by omega)
        have i27 : KI a0_ (a0_ + 26) Po P := i_2
        have i28 : (fv P a0_ 1).toInt = (fv Po a1_ 1).toInt := by omega
        have i29 : 0 ≤ z22.toInt := by omega
        have i30 : 0 ≤ z22.toInt := by omega
        exact ih _ (by omega) _ P hT hK hJ i25 i26 i27 i28 i29 i30 rfl
      · show MEvP _ none q_17 45 [(3, .null), (0, .ref a0_), (1, .ref a1_), (2, .int v2)] [.ref b19] _ _ _ _
        replace q20r : 0 ≤ v2.toInt ∧ v2.toInt ≤ 7 ∧ v2.toInt + 1 ≤ (fv P a1_ 1).toInt ∧ b19 = a1_ + 2 + 3 * v2.toInt.toNat := q20r
        have g31 : (0 : Int) ≤ (fv P a1_ 1).toInt ∧ (fv P a1_ 1).toInt ≤ 8 := Typ.rng hT ha1 (by decide) (by decide) rfl
        have w32 := pc_ar q20
        refine mp_a (a_astore (L' := [(4, .ref b19), (3, .null), (0, .ref a0_), (1, .ref a1_), (2, .int v2)]) dX5_copyFrom_45 (by decide) rfl) (mpp 47 rfl ?_)
        refine mp_a (a_aload_nN dX5_copyFrom_47 rfl) (mpp 48 rfl ?_)
        refine mp_t (s_ifnullN (t := 62) dX5_copyFrom_48 (by decide)) ?_
        obtain ⟨z33, h34⟩ := ti_ex (v2 + 1 : Int32)
        have wz33 := ti_full z33
        refine mp_a (a_iinc (v := z33) (L' := [(2, .int z33), (4, .ref b19), (3, .null), (0, .ref a0_), (1, .ref a1_)]) dX5_copyFrom_62 (by decide) rfl h34 rfl) (mpp 65 rfl ?_)
        try have e35 : z33.toInt = v2.toInt + 1 := ti_addz h34 rfl rfl (by omega) (by omega)
        refine mp_a (a_goto (t := 26) dX5_copyFrom_65 (by decide)) ?_
        refine MEvP.less (L := [(0, .ref a0_), (1, .ref a1_), (2, .int z33)]) rfl rfl ⟨rfl, rfl, rfl, trivial⟩ ?_
        have i36 : (fv P a0_ 1 = fv Po a1_ 1 ∧ fv P a0_ 2 = fv Po a1_ 2 ∧ fv P a0_ 3 = fv Po a1_ 3) := ⟨i_0.1, i_0.2.1, i_0.2.2⟩
        have i37 : ∀ k : Nat, k < 8 → (k : Int) < z33.toInt → PE P (a0_ + 2 + 3 * k) Po (a1_ + 2 + 3 * k) := fun k hk h => i_1 k hk (by omega)
        have i38 : KI a0_ (a0_ + 26) Po P := i_2
        have i39 : (fv P a0_ 1).toInt = (fv Po a1_ 1).toInt := by omega
        have i40 : 0 ≤ z33.toInt := by omega
        have i41 : 0 ≤ z33.toInt := by omega
        exact ih _ (by omega) _ P hT hK hJ i36 i37 i38 i39 i40 i41 rfl
    · show MEvP _ none q_17 39 [(0, .ref a0_), (1, .ref a1_), (2, .int v2)] [.ref b13] _ _ _ _
      replace q14r : 0 ≤ v2.toInt ∧ v2.toInt ≤ 7 ∧ v2.toInt + 1 ≤ (fv P a0_ 1).toInt ∧ b13 = a0_ + 2 + 3 * v2.toInt.toNat := q14r
      have w42 := pc_ar q14
      refine mp_a (a_astore_n (L' := [(3, .ref b13), (0, .ref a0_), (1, .ref a1_), (2, .int v2)]) dX5_copyFrom_39 (by decide) rfl) (mpp 40 rfl ?_)
      refine mp_a (a_aload_n dX5_copyFrom_40 rfl) (mpp 41 rfl ?_)
      refine mp_a (a_iload_n dX5_copyFrom_41 rfl) (mpp 42 rfl ?_)
      refine mt_callv (i := 28) (q' := q_9) (As := [.int v2]) (rest := []) hT dX5_copyFrom_42 rfl qm_9 (by decide) rfl ha1 (by decide) rfl (Nat.le_of_ble_eq_true rfl) rfl ⟨rfl, rfl⟩ ⟨Nat.le_of_ble_eq_true rfl, Nat.le_of_ble_eq_true rfl⟩ (EvP.mono (by decide) (c_CS_pieceAt_State hT (KW.xr hK hX) ha1)) (fun r43 P44 g45 => mpp 45 rfl ?_)
      obtain ⟨g45, e46⟩ := g45
      have e46 := e46.symm
      subst e46
      rcases g45 with ⟨rfl, q48n⟩ | ⟨b47, rfl, q48, q48r⟩
      · show MEvP _ none q_17 45 [(3, .ref b13), (0, .ref a0_), (1, .ref a1_), (2, .int v2)] [.null] _ _ _ _
        replace q48n : v2.toInt < 0 ∨ (fv P a1_ 1).toInt ≤ v2.toInt ∨ 8 ≤ v2.toInt := q48n
        have g49 : (0 : Int) ≤ (fv P a1_ 1).toInt ∧ (fv P a1_ 1).toInt ≤ 8 := Typ.rng hT ha1 (by decide) (by decide) rfl
        refine mp_a (a_astoreN (L' := [(4, .null), (3, .ref b13), (0, .ref a0_), (1, .ref a1_), (2, .int v2)]) dX5_copyFrom_45 (by decide) rfl) (mpp 47 rfl ?_)
        refine mp_a (a_aload_n dX5_copyFrom_47 rfl) (mpp 48 rfl ?_)
        refine mp_t (s_ifnullR dX5_copyFrom_48) (mpp 51 rfl ?_)
        refine mp_a (a_aloadN dX5_copyFrom_51 rfl) (mpp 53 rfl ?_)
        refine mp_t (s_ifnullN (t := 62) dX5_copyFrom_53 (by decide)) ?_
        obtain ⟨z50, h51⟩ := ti_ex (v2 + 1 : Int32)
        have wz50 := ti_full z50
        refine mp_a (a_iinc (v := z50) (L' := [(2, .int z50), (4, .null), (3, .ref b13), (0, .ref a0_), (1, .ref a1_)]) dX5_copyFrom_62 (by decide) rfl h51 rfl) (mpp 65 rfl ?_)
        try have e52 : z50.toInt = v2.toInt + 1 := ti_addz h51 rfl rfl (by omega) (by omega)
        refine mp_a (a_goto (t := 26) dX5_copyFrom_65 (by decide)) ?_
        refine MEvP.less (L := [(0, .ref a0_), (1, .ref a1_), (2, .int z50)]) rfl rfl ⟨rfl, rfl, rfl, trivial⟩ ?_
        have i53 : (fv P a0_ 1 = fv Po a1_ 1 ∧ fv P a0_ 2 = fv Po a1_ 2 ∧ fv P a0_ 3 = fv Po a1_ 3) := ⟨i_0.1, i_0.2.1, i_0.2.2⟩
        have i54 : ∀ k : Nat, k < 8 → (k : Int) < z50.toInt → PE P (a0_ + 2 + 3 * k) Po (a1_ + 2 + 3 * k) := fun k hk h => i_1 k hk (by omega)
        have i55 : KI a0_ (a0_ + 26) Po P := i_2
        have i56 : (fv P a0_ 1).toInt = (fv Po a1_ 1).toInt := by omega
        have i57 : 0 ≤ z50.toInt := by omega
        have i58 : 0 ≤ z50.toInt := by omega
        exact ih _ (by omega) _ P hT hK hJ i53 i54 i55 i56 i57 i58 rfl
      · show MEvP _ none q_17 45 [(3, .ref b13), (0, .ref a0_), (1, .ref a1_), (2, .int v2)] [.ref b47] _ _ _ _
        replace q48r : 0 ≤ v2.toInt ∧ v2.toInt ≤ 7 ∧ v2.toInt + 1 ≤ (fv P a1_ 1).toInt ∧ b47 = a1_ + 2 + 3 * v2.toInt.toNat := q48r
        have g59 : (0 : Int) ≤ (fv P a1_ 1).toInt ∧ (fv P a1_ 1).toInt ≤ 8 := Typ.rng hT ha1 (by decide) (by decide) rfl
        have w60 := pc_ar q48
        refine mp_a (a_astore (L' := [(4, .ref b47), (3, .ref b13), (0, .ref a0_), (1, .ref a1_), (2, .int v2)]) dX5_copyFrom_45 (by decide) rfl) (mpp 47 rfl ?_)
        refine mp_a (a_aload_n dX5_copyFrom_47 rfl) (mpp 48 rfl ?_)
        refine mp_t (s_ifnullR dX5_copyFrom_48) (mpp 51 rfl ?_)
        refine mp_a (a_aload dX5_copyFrom_51 rfl) (mpp 53 rfl ?_)
        refine mp_t (s_ifnullR dX5_copyFrom_53) (mpp 56 rfl ?_)
        refine mp_a (a_aload_n dX5_copyFrom_56 rfl) (mpp 57 rfl ?_)
        refine mp_a (a_aload dX5_copyFrom_57 rfl) (mpp 59 rfl ?_)
        have p61 : b13 + 3 ≤ b47 ∨ b47 + 3 ≤ b13 := by omega
        refine mt_callv (i := 32) (q' := q_18) (As := [.ref b47]) (rest := []) hT dX5_copyFrom_59 rfl qm_18 (by decide) rfl q14 (by decide) rfl (Nat.le_of_ble_eq_true rfl) rfl ⟨rfl, rfl⟩ ⟨Nat.le_of_ble_eq_true rfl, Nat.le_of_ble_eq_true rfl⟩ (EvP.mono (by decide) (c_CP_copyFrom_Piece_Piece hT (KW.xr hK hX) p61 q14 q48)) (fun r62 P63 g64 => mpp 62 rfl ?_)
        obtain ⟨⟨rfl, g66⟩, hT67, k68, R69⟩ := g64
        have k70 : KW [65, 66, 67, 192, 193, 194, 256, 320] Po P63 := KW.trans hK k68 rfl
        have J72 := Inj.kw hJ k68 rfl
        show MEvP _ none q_17 62 [(4, .ref b47), (3, .ref b13), (0, .ref a0_), (1, .ref a1_), (2, .int v2)] [] _ _ _ _
        obtain ⟨z73, h74⟩ := ti_ex (v2 + 1 : Int32)
        have wz73 := ti_full z73
        refine mp_a (a_iinc (v := z73) (L' := [(2, .int z73), (4, .ref b47), (3, .ref b13), (0, .ref a0_), (1, .ref a1_)]) dX5_copyFrom_62 (by decide) rfl h74 rfl) (mpp 65 rfl ?_)
        try have e75 : z73.toInt = v2.toInt + 1 := ti_addz h74 rfl rfl (by omega) (by omega)
        refine mp_a (a_goto (t := 26) dX5_copyFrom_65 (by decide)) ?_
        refine MEvP.less (L := [(0, .ref a0_), (1, .ref a1_), (2, .int z73)]) rfl rfl ⟨rfl, rfl, rfl, trivial⟩ ?_
        have i76 : (fv P63 a0_ 1 = fv Po a1_ 1 ∧ fv P63 a0_ 2 = fv Po a1_ 2 ∧ fv P63 a0_ 3 = fv Po a1_ 3) := ⟨by rw [R69.2.2.2.2.2 a0_ 1 (by omega)]; exact i_0.1, by rw [R69.2.2.2.2.2 a0_ 2 (by omega)]; exact i_0.2.1, by rw [R69.2.2.2.2.2 a0_ 3 (by omega)]; exact i_0.2.2⟩
        have i77 : ∀ k : Nat, k < 8 → (k : Int) < z73.toInt → PE P63 (a0_ + 2 + 3 * k) Po (a1_ + 2 + 3 * k) := pe_back (fun k => a0_ + 2 + 3 * k) (fun k => a1_ + 2 + 3 * k) (v := v2.toInt) i_1 (by omega) (by omega) q14r.2.2.2.symm q48r.2.2.2.symm ⟨R69.1, R69.2.1, R69.2.2.1, R69.2.2.2.1, R69.2.2.2.2.1⟩ i_2 (by omega) R69.2.2.2.2.2 (fun k hk hn => by omega)
        have i78 : KI a0_ (a0_ + 26) Po P63 := i_2.trans R69.2.2.2.2.2 (by omega)
        have e79 : (fv P63 a0_ 1).toInt = (fv P a0_ 1).toInt := congrArg Int32.toInt (KW.at k68 1 ha0 rfl)
        have i80 : (fv P63 a0_ 1).toInt = (fv Po a1_ 1).toInt := by omega
        have i81 : 0 ≤ z73.toInt := by omega
        have i82 : 0 ≤ z73.toInt := by omega
        exact ih _ (by omega) _ P63 hT67 k70 J72 i76 i77 i78 i80 i81 i82 rfl

