/-! methods on typed pools, 18 (written by a program) -/
set_option maxHeartbeats 4000000 in
theorem c_CS_takeCommand_Script_b116 {Po P9 : mP} {x6 : Int32} (hT : Typ Po) (hX : XR Po) (hp0 : 0 ≤ (fv Po 289 2).toInt) (g7 : x6.toInt = (chC Po (fv Po 289 2).toInt).toInt ∨ (x6.toInt = 0 ∧ (chC Po (fv Po 289 2).toInt).toInt = -1)) (hT10 : Typ P9) (f11 : fv P9 289 3 = x6) (f12 : ∀ b j : Nat, ¬ (b = 289 ∧ j = 3) → fv P9 b j = fv Po b j) (f13 : ∀ b k : Nat, rv P9 b k = rv Po b k) (c18 : (fv P9 289 3).toInt = 99 ∨ (fv P9 289 3).toInt = 115) : MEvP 4 none q_97 116 [(0, .ref 289)] [] P9 0 0 (fun r P' => (∃ x : Int32, r = some (.int x) ∧ (0 ≤ x.toInt ∧ x.toInt ≤ 1 ∧ (0 ≤ (fv P' 289 2).toInt ∧ ((x.toInt = 1 ∧ CMD (chC Po) (fv Po 289 2).toInt (fv P' 289 2).toInt (fv P' 289 3).toInt (fv P' 289 4).toInt (fv P' 289 5).toInt (fv P' 289 6).toInt (fv P' 289 7).toInt) ∨ (x.toInt = 0 ∧ ¬ CMO (chC Po) (fv Po 289 2).toInt))))) ∧ Typ P' ∧ KW [514, 515, 516, 517, 518, 519] Po P' ∧ fv P' 289 1 = fv Po 289 1 ∧ KI 289 290 Po P') := by
  have g1 := ti_full (fv Po 289 2)
  have p2 : 0 ≤ (fv Po 289 2).toInt := by omega
  have wx6 := ti_full x6
  have k14 : KW [514, 515, 516, 517, 518, 519] Po P9 := KW.step KW.refl rl_289 rfl f12 f13
  have e15 : (fv P9 289 3).toInt = x6.toInt := congrArg Int32.toInt f11
  replace g7 := g7.resolve_right (by omega)
  have q19 : (0 : Int) ≤ (fv Po 289 1).toInt ∧ (fv Po 289 1).toInt ≤ 80 := Typ.rng hT rl_289 (by decide) (by decide) rfl
  have e20 : (fv P9 289 2).toInt = (fv Po 289 2).toInt := congrArg Int32.toInt (f12 289 2 (by omega))
  have q21 := ch_lt (t := fun j => fv Po 290 j) (L := (fv Po 289 1).toInt) (i := (fv Po 289 2).toInt) (show ¬ (chC Po (fv Po 289 2).toInt).toInt = -1 from by omega)
  refine mp_a (a_aload_n dX4_takeCommand_116 rfl) (mpp 117 rfl ?_)
  refine mp_t (s_dup dX4_takeCommand_117 rfl) (mpp 118 rfl ?_)
  have e22 : (fv P9 289 2).toInt = (fv Po 289 2).toInt := congrArg Int32.toInt (f12 289 2 (ne_k rfl))
  refine mt_getI (i := 23) (k := 2) hT10 dX4_takeCommand_118 rfl rl_289 (by decide) rfl (by decide) rfl (fun g23 g24 => mpp 121 rfl ?_)
  refine mp_a (a_iconst (v := 1) dX4_takeCommand_121 rfl) (mpp 122 rfl ?_)
  obtain ⟨z25, h26⟩ := ti_ex ((fv P9 289 2) + 1 : Int32)
  have wz25 := ti_full z25
  refine mp_t (s_iadd (v := z25) dX4_takeCommand_122 h26) (mpp 123 rfl ?_)
  try have e27 : z25.toInt = (fv P9 289 2).toInt + 1 := ti_addz h26 rfl rfl (by omega) (by omega)
  refine mt_putI (i := 23) (k := 2) (x := z25) hT10 dX4_takeCommand_123 rfl rl_289 (by decide) rfl (by decide) rfl (ti_full z25) rfl rfl (fun P28 hT29 f30 f31 f32 => mpp 126 rfl ?_)
  have k33 : KW [514, 515, 516, 517, 518, 519] Po P28 := KW.step k14 rl_289 rfl f31 f32
  have e34 : (fv P28 289 2).toInt = z25.toInt := congrArg Int32.toInt f30
  refine mp_a (a_aload_n dX4_takeCommand_126 rfl) (mpp 127 rfl ?_)
  have p35 : 0 ≤ (fv P28 289 2).toInt := by omega
  refine mt_callv (i := 44) (q' := q_99) (As := []) (rest := []) hT29 dX4_takeCommand_127 rfl qm_99 (by decide) rfl rl_289 (by decide) rfl (Nat.le_of_ble_eq_true rfl) rfl ⟨rfl, rfl⟩ ⟨Nat.le_of_ble_eq_true rfl, Nat.le_of_ble_eq_true rfl⟩ (EvP.mono (by decide) (c_CS_takeSizes_Script hT29 (KW.xr k33 hX) p35 )) (fun r36 P37 g38 => mpp 130 rfl ?_)
  obtain ⟨⟨x39, rfl, g40⟩, hT41, k42, R43⟩ := g38
  have k44 : KW [514, 515, 516, 517, 518, 519] Po P37 := KW.trans k33 k42 rfl
  have wx39 := ti_full x39
  replace g40 : 0 ≤ x39.toInt ∧ x39.toInt ≤ 1 ∧ (∃ k : Nat, RUN D1 (chC P28) (fv P28 289 2).toInt k ∧ (fv P37 289 2).toInt = (fv P28 289 2).toInt + (k : Int) ∧ fv P37 289 4 = szI (chC P28) (fv P28 289 2).toInt k ∧ ((x39.toInt = 1 ∧ 1 ≤ k) ∨ (x39.toInt = 0 ∧ k = 0))) := g40
  have g46 := ti_full (fv P37 289 2)
  show MEvP _ none q_97 130 [(0, .ref 289)] [.int x39] _ _ _ _
  refine mp_Tb (t := 153) (j_if_eq dX4_takeCommand_130) (by decide) (fun c47 => ?_) (fun c47 => mpp 133 rfl ?_)
  · have c47 : x39.toInt = 0 := ti_eq c47
    refine mp_a (a_iconst (v := 0) dX4_takeCommand_153 rfl) (mpp 154 rfl ?_)
    have e48 : (fv P37 289 3).toInt = (fv P9 289 3).toInt := congrArg Int32.toInt ((KW.at k42 3 rl_289 rfl).trans (f31 289 3 (ne_k rfl)))
    have g49 := ti_full (fv P37 289 4)
    have g50 := ti_full (fv P37 289 5)
    have g51 := ti_full (fv P37 289 6)
    have g52 := ti_full (fv P37 289 7)
    have t55_ : chC P28 = chC Po := chC_eq (fun j => by rw [f31 290 j (by omega), f12 290 j (by omega)]) (by rw [f31 289 1 (by omega), f12 289 1 (by omega)])
    rw [t55_] at g40
    have e56 : (fv P9 289 2).toInt = (fv Po 289 2).toInt := congrArg Int32.toInt (f12 289 2 (by omega))
    obtain ⟨kw54_, rw54_, pw54_, vw54_, ow54_⟩ := g40.2.2
    rw [show (fv P28 289 2).toInt = (fv Po 289 2).toInt + 1 from by omega] at rw54_ pw54_ vw54_
    have u53 : 0 ≤ (0 : Int) ∧ (0 : Int) ≤ 1 ∧ (0 ≤ (fv P37 289 2).toInt ∧ (((0 : Int) = 1 ∧ CMD (chC Po) (fv Po 289 2).toInt (fv P37 289 2).toInt (fv P37 289 3).toInt (fv P37 289 4).toInt (fv P37 289 5).toInt (fv P37 289 6).toInt (fv P37 289 7).toInt) ∨ ((0 : Int) = 0 ∧ ¬ CMO (chC Po) (fv Po 289 2).toInt))) := ⟨by omega, by omega, by omega, Or.inr ⟨rfl, fun ⟨i1, l1, a1, b1, n1, s1, q1, q2⟩ => by
        rcases q2 with ⟨q2, k2, m2, q3, q4, q5, q6, q7, q8⟩ | ⟨q2, _⟩ | ⟨q2, _⟩
        · have e := rw54_.uniq q5; omega
        · omega
        · omega⟩⟩
    have u57 : fv P37 289 1 = fv Po 289 1 := by rw [R43.1, f31 289 1 (by omega), f12 289 1 (by omega)]
    have u58 : KI 289 290 Po P37 := by
      intro x j hx
      rw [R43.2.2 x j (by omega), f31 x j (by omega), f12 x j (by omega)]
    exact mp_iret ⟨⟨_, rfl, u53⟩, hT41, k44, ⟨u57, u58⟩⟩ dX4_takeCommand_154 (Or.inr ⟨rfl, by decide⟩)
  · have c47 : x39.toInt ≠ 0 := ti_eq_n c47
    refine mp_a (a_aload_n dX4_takeCommand_133 rfl) (mpp 134 rfl ?_)
    refine mp_a (a_bipush (v := 58) dX4_takeCommand_134 rfl) (mpp 136 rfl ?_)
    have p59 : 0 ≤ (fv P37 289 2).toInt := by omega
    have p60 : 1 ≤ (58 : Int) := by omega
    refine mt_callv (i := 33) (q' := q_100) (As := [.int 58]) (rest := []) hT41 dX4_takeCommand_136 rfl qm_100 (by decide) rfl rl_289 (by decide) rfl (Nat.le_of_ble_eq_true rfl) rfl ⟨rfl, rfl⟩ ⟨Nat.le_of_ble_eq_true rfl, Nat.le_of_ble_eq_true rfl⟩ (EvP.mono (by decide) (c_CS_takeSign_Script hT41 (KW.xr k44 hX) p59 p60 )) (fun r61 P62 g63 => mpp 139 rfl ?_)
    obtain ⟨⟨x64, rfl, g65⟩, hT66, k67, R68⟩ := g63
    have k69 : KW [514, 515, 516, 517, 518, 519] Po P62 := KW.trans k44 k67 rfl
    have wx64 := ti_full x64
    replace g65 : 0 ≤ x64.toInt ∧ x64.toInt ≤ 1 ∧ ((x64.toInt = 1 ∧ (chC P37 (fv P37 289 2).toInt).toInt = (58 : Int) ∧ (fv P62 289 2).toInt = (fv P37 289 2).toInt + 1) ∨ (x64.toInt = 0 ∧ ¬ (chC P37 (fv P37 289 2).toInt).toInt = (58 : Int) ∧ (fv P62 289 2).toInt = (fv P37 289 2).toInt)) := g65
    have g71 := ti_full (fv P62 289 2)
    have g72 := ti_full (fv P62 289 2)
    show MEvP _ none q_97 139 [(0, .ref 289)] [.int x64] _ _ _ _
    refine mp_Tb (t := 153) (j_if_eq dX4_takeCommand_139) (by decide) (fun c73 => ?_) (fun c73 => mpp 142 rfl ?_)
    · have c73 : x64.toInt = 0 := ti_eq c73
      replace g65 := g65.2.2.resolve_left (fun q => by have := q.1; omega)
      refine mp_a (a_iconst (v := 0) dX4_takeCommand_153 rfl) (mpp 154 rfl ?_)
      have e74 : (fv P62 289 3).toInt = (fv P9 289 3).toInt := congrArg Int32.toInt ((KW.at k67 3 rl_289 rfl).trans ((KW.at k42 3 rl_289 rfl).trans (f31 289 3 (ne_k rfl))))
      have g75 := ti_full (fv P62 289 4)
      have g76 := ti_full (fv P62 289 5)
      have g77 := ti_full (fv P62 289 6)
      have g78 := ti_full (fv P62 289 7)
      have t81_ : chC P28 = chC Po := chC_eq (fun j => by rw [f31 290 j (by omega), f12 290 j (by omega)]) (by rw [f31 289 1 (by omega), f12 289 1 (by omega)])
      rw [t81_] at g40
      have t82_ : chC P37 = chC Po := chC_eq (fun j => by rw [R43.2.2 290 j (by omega), f31 290 j (by omega), f12 290 j (by omega)]) (by rw [R43.1, f31 289 1 (by omega), f12 289 1 (by omega)])
      rw [t82_] at g65
      have e83 : (fv P9 289 2).toInt = (fv Po 289 2).toInt := congrArg Int32.toInt (f12 289 2 (by omega))
      obtain ⟨kw80_, rw80_, pw80_, vw80_, ow80_⟩ := g40.2.2
      rw [show (fv P28 289 2).toInt = (fv Po 289 2).toInt + 1 from by omega] at rw80_ pw80_ vw80_
      rw [show (fv P37 289 2).toInt = (fv Po 289 2).toInt + 1 + (kw80_ : Int) from by omega] at g65
      have u79 : 0 ≤ (0 : Int) ∧ (0 : Int) ≤ 1 ∧ (0 ≤ (fv P62 289 2).toInt ∧ (((0 : Int) = 1 ∧ CMD (chC Po) (fv Po 289 2).toInt (fv P62 289 2).toInt (fv P62 289 3).toInt (fv P62 289 4).toInt (fv P62 289 5).toInt (fv P62 289 6).toInt (fv P62 289 7).toInt) ∨ ((0 : Int) = 0 ∧ ¬ CMO (chC Po) (fv Po 289 2).toInt))) := ⟨by omega, by omega, by omega, Or.inr ⟨rfl, fun ⟨i1, l1, a1, b1, n1, s1, q1, q2⟩ => by
          rcases q2 with ⟨q2, k2, m2, q3, q4, q5, q6, q7, q8⟩ | ⟨q2, _⟩ | ⟨q2, _⟩
          · have e := rw80_.uniq q5; subst e; omega
          · omega
          · omega⟩⟩
      have u84 : fv P62 289 1 = fv Po 289 1 := by rw [R68.1, R43.1, f31 289 1 (by omega), f12 289 1 (by omega)]
      have u85 : KI 289 290 Po P62 := by
        intro x j hx
        rw [R68.2.2.2.2.2.2 x j (by omega), R43.2.2 x j (by omega), f31 x j (by omega), f12 x j (by omega)]
      exact mp_iret ⟨⟨_, rfl, u79⟩, hT66, k69, ⟨u84, u85⟩⟩ dX4_takeCommand_154 (Or.inr ⟨rfl, by decide⟩)
    · have c73 : x64.toInt ≠ 0 := ti_eq_n c73
      replace g65 := g65.2.2.resolve_right (fun q => by have := q.1; omega)
      refine mp_a (a_aload_n dX4_takeCommand_142 rfl) (mpp 143 rfl ?_)
      have p86 : 0 ≤ (fv P62 289 2).toInt := by omega
      refine mt_callv (i := 47) (q' := q_101) (As := []) (rest := []) hT66 dX4_takeCommand_143 rfl qm_101 (by decide) rfl rl_289 (by decide) rfl (Nat.le_of_ble_eq_true rfl) rfl ⟨rfl, rfl⟩ ⟨Nat.le_of_ble_eq_true rfl, Nat.le_of_ble_eq_true rfl⟩ (EvP.mono (by decide) (c_CS_takeCreases_Script hT66 (KW.xr k69 hX) p86 )) (fun r87 P88 g89 => mpp 146 rfl ?_)
      obtain ⟨⟨x90, rfl, g91⟩, hT92, k93, R94⟩ := g89
      have k95 : KW [514, 515, 516, 517, 518, 519] Po P88 := KW.trans k69 k93 rfl
      have wx90 := ti_full x90
      replace g91 : 0 ≤ x90.toInt ∧ x90.toInt ≤ 1 ∧ (∃ k : Nat, RUN KK (chC P62) (fv P62 289 2).toInt k ∧ (fv P88 289 2).toInt = (fv P62 289 2).toInt + (k : Int) ∧ fv P88 289 5 = knV (chC P62) (fv P62 289 2).toInt k ∧ (fv P88 289 6).toInt = (k : Int) ∧ ((x90.toInt = 1 ∧ 1 ≤ k) ∨ (x90.toInt = 0 ∧ k = 0))) := g91
      have g97 := ti_full (fv P88 289 2)
      show MEvP _ none q_97 146 [(0, .ref 289)] [.int x90] _ _ _ _
      refine mp_Tb (t := 153) (j_if_eq dX4_takeCommand_146) (by decide) (fun c98 => ?_) (fun c98 => mpp 149 rfl ?_)
      · have c98 : x90.toInt = 0 := ti_eq c98
        refine mp_a (a_iconst (v := 0) dX4_takeCommand_153 rfl) (mpp 154 rfl ?_)
        have e99 : (fv P88 289 3).toInt = (fv P9 289 3).toInt := congrArg Int32.toInt ((KW.at k93 3 rl_289 rfl).trans ((KW.at k67 3 rl_289 rfl).trans ((KW.at k42 3 rl_289 rfl).trans (f31 289 3 (ne_k rfl)))))
        have g100 := ti_full (fv P88 289 4)
        have g101 := ti_full (fv P88 289 5)
        have g102 := ti_full (fv P88 289 6)
        have g103 := ti_full (fv P88 289 7)
        have t106_ : chC P28 = chC Po := chC_eq (fun j => by rw [f31 290 j (by omega), f12 290 j (by omega)]) (by rw [f31 289 1 (by omega), f12 289 1 (by omega)])
        rw [t106_] at g40
        have t107_ : chC P37 = chC Po := chC_eq (fun j => by rw [R43.2.2 290 j (by omega), f31 290 j (by omega), f12 290 j (by omega)]) (by rw [R43.1, f31 289 1 (by omega), f12 289 1 (by omega)])
        rw [t107_] at g65
        have t108_ : chC P62 = chC Po := chC_eq (fun j => by rw [R68.2.2.2.2.2.2 290 j (by omega), R43.2.2 290 j (by omega), f31 290 j (by omega), f12 290 j (by omega)]) (by rw [R68.1, R43.1, f31 289 1 (by omega), f12 289 1 (by omega)])
        rw [t108_] at g91
        have e109 : (fv P9 289 2).toInt = (fv Po 289 2).toInt := congrArg Int32.toInt (f12 289 2 (by omega))
        obtain ⟨kw105_, rw105_, pw105_, vw105_, ow105_⟩ := g40.2.2
        rw [show (fv P28 289 2).toInt = (fv Po 289 2).toInt + 1 from by omega] at rw105_ pw105_ vw105_
        rw [show (fv P37 289 2).toInt = (fv Po 289 2).toInt + 1 + (kw105_ : Int) from by omega] at g65
        obtain ⟨mw105_, uw105_, tw105_, ww105_, zw105_, yw105_⟩ := g91.2.2
        rw [show (fv P62 289 2).toInt = (fv Po 289 2).toInt + 2 + (kw105_ : Int) from by omega] at uw105_ tw105_ ww105_
        have u104 : 0 ≤ (0 : Int) ∧ (0 : Int) ≤ 1 ∧ (0 ≤ (fv P88 289 2).toInt ∧ (((0 : Int) = 1 ∧ CMD (chC Po) (fv Po 289 2).toInt (fv P88 289 2).toInt (fv P88 289 3).toInt (fv P88 289 4).toInt (fv P88 289 5).toInt (fv P88 289 6).toInt (fv P88 289 7).toInt) ∨ ((0 : Int) = 0 ∧ ¬ CMO (chC Po) (fv Po 289 2).toInt))) := ⟨by omega, by omega, by omega, Or.inr ⟨rfl, fun ⟨i1, l1, a1, b1, n1, s1, q1, q2⟩ => by
            rcases q2 with ⟨q2, k2, m2, q3, q4, q5, q6, q7, q8⟩ | ⟨q2, _⟩ | ⟨q2, _⟩
            · have e := rw105_.uniq q5; subst e; have e2 := uw105_.uniq q7; omega
            · omega
            · omega⟩⟩
        have u110 : fv P88 289 1 = fv Po 289 1 := by rw [R94.1, R68.1, R43.1, f31 289 1 (by omega), f12 289 1 (by omega)]
        have u111 : KI 289 290 Po P88 := by
          intro x j hx
          rw [R94.2.2.2 x j (by omega), R68.2.2.2.2.2.2 x j (by omega), R43.2.2 x j (by omega), f31 x j (by omega), f12 x j (by omega)]
        exact mp_iret ⟨⟨_, rfl, u104⟩, hT92, k95, ⟨u110, u111⟩⟩ dX4_takeCommand_154 (Or.inr ⟨rfl, by decide⟩)
      · have c98 : x90.toInt ≠ 0 := ti_eq_n c98
        refine mp_a (a_iconst (v := 1) dX4_takeCommand_149 rfl) (mpp 150 rfl ?_)
        refine mp_a (a_goto (t := 154) dX4_takeCommand_150 (by decide)) ?_
        have e112 : (fv P88 289 3).toInt = (fv P9 289 3).toInt := congrArg Int32.toInt ((KW.at k93 3 rl_289 rfl).trans ((KW.at k67 3 rl_289 rfl).trans ((KW.at k42 3 rl_289 rfl).trans (f31 289 3 (ne_k rfl)))))
        have g113 := ti_full (fv P88 289 4)
        have g114 := ti_full (fv P88 289 5)
        have g115 := ti_full (fv P88 289 6)
        have g116 := ti_full (fv P88 289 7)
        have t119_ : chC P28 = chC Po := chC_eq (fun j => by rw [f31 290 j (by omega), f12 290 j (by omega)]) (by rw [f31 289 1 (by omega), f12 289 1 (by omega)])
        rw [t119_] at g40
        have t120_ : chC P37 = chC Po := chC_eq (fun j => by rw [R43.2.2 290 j (by omega), f31 290 j (by omega), f12 290 j (by omega)]) (by rw [R43.1, f31 289 1 (by omega), f12 289 1 (by omega)])
        rw [t120_] at g65
        have t121_ : chC P62 = chC Po := chC_eq (fun j => by rw [R68.2.2.2.2.2.2 290 j (by omega), R43.2.2 290 j (by omega), f31 290 j (by omega), f12 290 j (by omega)]) (by rw [R68.1, R43.1, f31 289 1 (by omega), f12 289 1 (by omega)])
        rw [t121_] at g91
        have e122 : (fv P9 289 2).toInt = (fv Po 289 2).toInt := congrArg Int32.toInt (f12 289 2 (by omega))
        obtain ⟨kw118_, rw118_, pw118_, vw118_, ow118_⟩ := g40.2.2
        rw [show (fv P28 289 2).toInt = (fv Po 289 2).toInt + 1 from by omega] at rw118_ pw118_ vw118_
        rw [show (fv P37 289 2).toInt = (fv Po 289 2).toInt + 1 + (kw118_ : Int) from by omega] at g65
        obtain ⟨mw118_, uw118_, tw118_, ww118_, zw118_, yw118_⟩ := g91.2.2
        rw [show (fv P62 289 2).toInt = (fv Po 289 2).toInt + 2 + (kw118_ : Int) from by omega] at uw118_ tw118_ ww118_
        have u117 : 0 ≤ (1 : Int) ∧ (1 : Int) ≤ 1 ∧ (0 ≤ (fv P88 289 2).toInt ∧ (((1 : Int) = 1 ∧ CMD (chC Po) (fv Po 289 2).toInt (fv P88 289 2).toInt (fv P88 289 3).toInt (fv P88 289 4).toInt (fv P88 289 5).toInt (fv P88 289 6).toInt (fv P88 289 7).toInt) ∨ ((1 : Int) = 0 ∧ ¬ CMO (chC Po) (fv Po 289 2).toInt))) := ⟨by omega, by omega, by omega, Or.inl ⟨rfl, (show (fv P88 289 3).toInt = (chC Po (fv Po 289 2).toInt).toInt from by rw [R94.2.1, R68.2.1, R43.2.1, f31 289 3 (by omega), f11]; omega), Or.inl ⟨by have e := (show (fv P88 289 3).toInt = (chC Po (fv Po 289 2).toInt).toInt from by rw [R94.2.1, R68.2.1, R43.2.1, f31 289 3 (by omega), f11]; omega); omega, kw118_, mw118_, by omega, by omega, rw118_, by rw [show (fv Po 289 2).toInt + 1 + (kw118_ : Int) = (fv Po 289 2).toInt + 1 + kw118_ from rfl]; omega, uw118_, by omega, (congrArg Int32.toInt (show fv P88 289 4 = szI (chC Po) ((fv Po 289 2).toInt + 1) kw118_ from by rw [R94.2.2.1, R68.2.2.1]; exact vw118_)), congrArg Int32.toInt ww118_, by omega⟩⟩⟩
        have u123 : fv P88 289 1 = fv Po 289 1 := by rw [R94.1, R68.1, R43.1, f31 289 1 (by omega), f12 289 1 (by omega)]
        have u124 : KI 289 290 Po P88 := by
          intro x j hx
          rw [R94.2.2.2 x j (by omega), R68.2.2.2.2.2.2 x j (by omega), R43.2.2 x j (by omega), f31 x j (by omega), f12 x j (by omega)]
        exact mp_iret ⟨⟨_, rfl, u117⟩, hT92, k95, ⟨u123, u124⟩⟩ dX4_takeCommand_154 (Or.inr ⟨rfl, by decide⟩)

