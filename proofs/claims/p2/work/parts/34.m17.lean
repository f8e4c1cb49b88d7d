/-! methods on typed pools, 17 (written by a program) -/
set_option maxHeartbeats 4000000 in
theorem c_CS_takeCommand_Script_b116 {Po P9 : mP} {x6 : Int32} (hT : Typ Po) (hX : XR Po) (hp0 : 0 ≤ (fv Po 289 2).toInt) (g7 : x6.toInt = (chC Po (fv Po 289 2).toInt).toInt ∨ (x6.toInt = 0 ∧ (chC Po (fv Po 289 2).toInt).toInt = -1)) (hT10 : Typ P9) (f11 : fv P9 289 3 = x6) (f12 : ∀ b j : Nat, ¬ (b = 289 ∧ j = 3) → fv P9 b j = fv Po b j) (f13 : ∀ b k : Nat, rv P9 b k = rv Po b k) (c18 : (fv P9 289 3).toInt = 99 ∨ (fv P9 289 3).toInt = 115) : MEvP 4 none q_97 116 [(0, .ref 289)] [] P9 0 0 (fun r P' => (∃ x : Int32, r = some (.int x) ∧ (0 ≤ x.toInt ∧ x.toInt ≤ 1 ∧ (0 ≤ (fv P' 289 2).toInt ∧ ((x.toInt = 1 ∧ CMD (chC Po) (fv Po 289 2).toInt (fv P' 289 2).toInt (fv P' 289 3).toInt (fv P' 289 4).toInt (fv P' 289 5).toInt (fv P' 289 6).toInt (fv P' 289 7).toInt) ∨ (x.toInt = 0 ∧ ¬ CMO (chC Po) (fv Po 289 2).toInt))))) ∧ Typ P' ∧ KW [514, 515, 516, 517, 518, 519] Po P' ∧ fv P' 289 1 = fv Po 289 1 ∧ KI 289 290 Po P') := by
  have g1 := ti_full (fv Po 289 2)
  have p2 : 0 ≤ (fv Po 289 2).toInt := by omega
  have wx6 := ti_full x6
  have k14 : KW [514, 515, 516, 517, 518, 519] Po P9 := KW.step KW.refl rl_289 rfl f12 f13
  have e15 : (fv P9 289 3).toInt = x6.toInt := congrArg Int32.toInt f11
  have q19 : (0 : Int) ≤ (fv Po 289 1).toInt ∧ (fv Po 289 1).toInt ≤ 80 := Typ.rng hT rl_289 (by decide) (by decide) rfl
  have e20 : (fv P9 289 2).toInt = (fv Po 289 2).toInt := congrArg Int32.toInt (f12 289 2 (by omega))
  have q21 := ch_lt (t := fun j => fv Po 290 j) (L := (fv Po 289 1).toInt) (i := (fv Po 289 2).toInt) (show ¬ (chC Po (fv Po 289 2).toInt).toInt = -1 from by omega)
  refine mp_a (a_aload_n dX4_takeCommand_116 rfl) (mpp 117 rfl ?_)
  refine mp_t (s_dup dX4_takeCommand_117 rfl) (mpp 118 rfl ?_)
  have e22 : (fv P9 289 2).toInt = (fv Po 289 2).toInt := congrArg Int32.toInt (f12 289 2 (ne_k rfl))
  refine mt_getI (i := 23) (k := 2) hT10 dX4_takeCommand_118 rfl rl_289 (by decide) rfl (by decide) rfl (fun g23 g24 => mpp 121 rfl ?_)
  refine mp_a (a_iconst (v := 1) dX4_takeCommand_121 rfl) (mpp 122 rfl ?_)
  obtain ⟨z25, h26⟩ := ti_ex ((fv P9 289 2) + 1 : Int32)
  have wz25 := ti_full z25
  refine mp_t (s_iadd (v := z25) dX4_takeCommand_122 h26) (mpp 123 rfl ?_)
  try have e27 : z25.toInt = (fv P9 289 2).toInt + 1 := ti_addz h26 rfl rfl (by omega) (by omega)
  refine mt_putI (i := 23) (k := 2) (x := z25) hT10 dX4_takeCommand_123 rfl rl_289 (by decide) rfl (by decide) rfl (ti_full z25) rfl rfl (fun P28 hT29 f30 f31 f32 => mpp 126 rfl ?_)
  have k33 : KW [514, 515, 516, 517, 518, 519] Po P28 := KW.step k14 rl_289 rfl f31 f32
  have e34 : (fv P28 289 2).toInt = z25.toInt := congrArg Int32.toInt f30
  refine mp_a (a_aload_n dX4_takeCommand_126 rfl) (mpp 127 rfl ?_)
  have p35 : 0 ≤ (fv P28 289 2).toInt := by omega
  refine mt_callv (i := 44) (q' := q_99) (As := []) (rest := []) hT29 dX4_takeCommand_127 rfl qm_99 (by decide) rfl rl_289 (by decide) rfl (Nat.le_of_ble_eq_true rfl) rfl ⟨rfl, rfl⟩ ⟨Nat.le_of_ble_eq_true rfl, Nat.le_of_ble_eq_true rfl⟩ (EvP.mono (by decide) (c_CS_takeSizes_Script hT29 (KW.xr k33 hX) p35 )) (fun r36 P37 g38 => mpp 130 rfl ?_)
  obtain ⟨⟨x39, rfl, g40⟩, hT41, k42, R43⟩ := g38
  have k44 : KW [514, 515, 516, 517, 518, 519] Po P37 := KW.trans k33 k42 rfl
  have wx39 := ti_full x39
  replace g40 : 0 ≤ x39.toInt ∧ x39.toInt ≤ 1 ∧ (∃ k : Nat, RUN D1 (chC P28) (fv P28 289 2).toInt k ∧ (fv P37 289 2).toInt = (fv P28 289 2).toInt + (k : Int) ∧ fv P37 289 4 = szI (chC P28) (fv P28 289 2).toInt k ∧ ((x39.toInt = 1 ∧ 1 ≤ k) ∨ (x39.toInt = 0 ∧ k = 0))) := g40
  have g46 := ti_full (fv P37 289 2)
  show MEvP _ none q_97 130 [(0, .ref 289)] [.int x39] _ _ _ _
  refine mp_Tb (t := 153) (j_if_eq dX4_takeCommand_130) (by decide) (fun c47 => ?_) (fun c47 => mpp 133 rfl ?_)
  · have c47 : x39.toInt = 0 := ti_eq c47
    refine mp_a (a_iconst (v := 0) dX4_takeCommand_153 rfl) (mpp 154 rfl ?_)
    have e48 : (fv P37 289 3).toInt = (fv P9 289 3).toInt := congrArg Int32.toInt ((KW.at k42 3 rl_289 rfl).trans (f31 289 3 (ne_k rfl)))
    have g49 := ti_full (fv P37 289 4)
    have g50 := ti_full (fv P37 289 5)
    have g51 := ti_full (fv P37 289 6)
    have g52 := ti_full (fv P37 289 7)
    have t55_ : chC P28 = chC Po := chC_eq (fun j => by rw [f31 290 j (by omega), f12 290 j (by omega)]) (by rw [f31 289 1 (by omega), f12 289 1 (by omega)])
    have y56_ := g40
    rw [t55_] at y56_
    have e57 : (fv P9 289 2).toInt = (fv Po 289 2).toInt := congrArg Int32.toInt (f12 289 2 (by omega))
    obtain ⟨kw54_, rw54_, pw54_, vw54_, ow54_⟩ := y56_.2.2
    rw [show (fv P28 289 2).toInt = (fv Po 289 2).toInt + 1 from by omega] at rw54_ pw54_ vw54_
    have u53 : 0 ≤ (0 : Int) ∧ (0 : Int) ≤ 1 ∧ (0 ≤ (fv P37 289 2).toInt ∧ (((0 : Int) = 1 ∧ CMD (chC Po) (fv Po 289 2).toInt (fv P37 289 2).toInt (fv P37 289 3).toInt (fv P37 289 4).toInt (fv P37 289 5).toInt (fv P37 289 6).toInt (fv P37 289 7).toInt) ∨ ((0 : Int) = 0 ∧ ¬ CMO (chC Po) (fv Po 289 2).toInt))) := ⟨by omega, by omega, by omega, Or.inr ⟨rfl, fun ⟨i1, l1, a1, b1, n1, s1, q1, q2⟩ => by
        rcases q2 with ⟨q2, k2, m2, q3, q4, q5, q6, q7, q8⟩ | ⟨q2, _⟩ | ⟨q2, _⟩
        · have e := rw54_.uniq q5; omega
        · omega
        · omega⟩⟩
    have u58 : fv P37 289 1 = fv Po 289 1 := by rw [R43.1, f31 289 1 (by omega), f12 289 1 (by omega)]
    have u59 : KI 289 290 Po P37 := by
      intro x j hx
      rw [R43.2.2 x j (by omega), f31 x j (by omega), f12 x j (by omega)]
    exact mp_iret ⟨⟨_, rfl, u53⟩, hT41, k44, ⟨u58, u59⟩⟩ dX4_takeCommand_154 (Or.inr ⟨rfl, by decide⟩)
  · have c47 : x39.toInt ≠ 0 := ti_eq_n c47
    refine mp_a (a_aload_n dX4_takeCommand_133 rfl) (mpp 134 rfl ?_)
    refine mp_a (a_bipush (v := 58) dX4_takeCommand_134 rfl) (mpp 136 rfl ?_)
    have p60 : 0 ≤ (fv P37 289 2).toInt := by omega
    have p61 : 1 ≤ (58 : Int) := by omega
    refine mt_callv (i := 33) (q' := q_100) (As := [.int 58]) (rest := []) hT41 dX4_takeCommand_136 rfl qm_100 (by decide) rfl rl_289 (by decide) rfl (Nat.le_of_ble_eq_true rfl) rfl ⟨rfl, rfl⟩ ⟨Nat.le_of_ble_eq_true rfl, Nat.le_of_ble_eq_true rfl⟩ (EvP.mono (by decide) (c_CS_takeSign_Script hT41 (KW.xr k44 hX) p60 p61 )) (fun r62 P63 g64 => mpp 139 rfl ?_)
    obtain ⟨⟨x65, rfl, g66⟩, hT67, k68, R69⟩ := g64
    have k70 : KW [514, 515, 516, 517, 518, 519] Po P63 := KW.trans k44 k68 rfl
    have wx65 := ti_full x65
    replace g66 : 0 ≤ x65.toInt ∧ x65.toInt ≤ 1 ∧ ((x65.toInt = 1 ∧ (chC P37 (fv P37 289 2).toInt).toInt = (58 : Int) ∧ (fv P63 289 2).toInt = (fv P37 289 2).toInt + 1) ∨ (x65.toInt = 0 ∧ ¬ (chC P37 (fv P37 289 2).toInt).toInt = (58 : Int) ∧ (fv P63 289 2).toInt = (fv P37 289 2).toInt)) := g66
    have g72 := ti_full (fv P63 289 2)
    have g73 := ti_full (fv P63 289 2)
    show MEvP _ none q_97 139 [(0, .ref 289)] [.int x65] _ _ _ _
    refine mp_Tb (t := 153) (j_if_eq dX4_takeCommand_139) (by decide) (fun c74 => ?_) (fun c74 => mpp 142 rfl ?_)
    · have c74 : x65.toInt = 0 := ti_eq c74
      refine mp_a (a_iconst (v := 0) dX4_takeCommand_153 rfl) (mpp 154 rfl ?_)
      have e75 : (fv P63 289 3).toInt = (fv P9 289 3).toInt := congrArg Int32.toInt ((KW.at k68 3 rl_289 rfl).trans ((KW.at k42 3 rl_289 rfl).trans (f31 289 3 (ne_k rfl))))
      have g76 := ti_full (fv P63 289 4)
      have g77 := ti_full (fv P63 289 5)
      have g78 := ti_full (fv P63 289 6)
      have g79 := ti_full (fv P63 289 7)
      have t82_ : chC P28 = chC Po := chC_eq (fun j => by rw [f31 290 j (by omega), f12 290 j (by omega)]) (by rw [f31 289 1 (by omega), f12 289 1 (by omega)])
      have y83_ := g40
      rw [t82_] at y83_
      have t84_ : chC P37 = chC Po := chC_eq (fun j => by rw [R43.2.2 290 j (by omega), f31 290 j (by omega), f12 290 j (by omega)]) (by rw [R43.1, f31 289 1 (by omega), f12 289 1 (by omega)])
      have y85_ := g66
      rw [t84_] at y85_
      have e86 : (fv P9 289 2).toInt = (fv Po 289 2).toInt := congrArg Int32.toInt (f12 289 2 (by omega))
      obtain ⟨kw81_, rw81_, pw81_, vw81_, ow81_⟩ := y83_.2.2
      rw [show (fv P28 289 2).toInt = (fv Po 289 2).toInt + 1 from by omega] at rw81_ pw81_ vw81_
      rw [show (fv P37 289 2).toInt = (fv Po 289 2).toInt + 1 + (kw81_ : Int) from by omega] at y85_
      have u80 : 0 ≤ (0 : Int) ∧ (0 : Int) ≤ 1 ∧ (0 ≤ (fv P63 289 2).toInt ∧ (((0 : Int) = 1 ∧ CMD (chC Po) (fv Po 289 2).toInt (fv P63 289 2).toInt (fv P63 289 3).toInt (fv P63 289 4).toInt (fv P63 289 5).toInt (fv P63 289 6).toInt (fv P63 289 7).toInt) ∨ ((0 : Int) = 0 ∧ ¬ CMO (chC Po) (fv Po 289 2).toInt))) := ⟨by omega, by omega, by omega, Or.inr ⟨rfl, fun ⟨i1, l1, a1, b1, n1, s1, q1, q2⟩ => by
          rcases q2 with ⟨q2, k2, m2, q3, q4, q5, q6, q7, q8⟩ | ⟨q2, _⟩ | ⟨q2, _⟩
          · have e := rw81_.uniq q5; subst e; omega
          · omega
          · omega⟩⟩
      have u87 : fv P63 289 1 = fv Po 289 1 := by rw [R69.1, R43.1, f31 289 1 (by omega), f12 289 1 (by omega)]
      have u88 : KI 289 290 Po P63 := by
        intro x j hx
        rw [R69.2.2.2.2.2.2 x j (by omega), R43.2.2 x j (by omega), f31 x j (by omega), f12 x j (by omega)]
      exact mp_iret ⟨⟨_, rfl, u80⟩, hT67, k70, ⟨u87, u88⟩⟩ dX4_takeCommand_154 (Or.inr ⟨rfl, by decide⟩)
    · have c74 : x65.toInt ≠ 0 := ti_eq_n c74
      refine mp_a (a_aload_n dX4_takeCommand_142 rfl) (mpp 143 rfl ?_)
      have p89 : 0 ≤ (fv P63 289 2).toInt := by omega
      refine mt_callv (i := 47) (q' := q_101) (As := []) (rest := []) hT67 dX4_takeCommand_143 rfl qm_101 (by decide) rfl rl_289 (by decide) rfl (Nat.le_of_ble_eq_true rfl) rfl ⟨rfl, rfl⟩ ⟨Nat.le_of_ble_eq_true rfl, Nat.le_of_ble_eq_true rfl⟩ (EvP.mono (by decide) (c_CS_takeCreases_Script hT67 (KW.xr k70 hX) p89 )) (fun r90 P91 g92 => mpp 146 rfl ?_)
      obtain ⟨⟨x93, rfl, g94⟩, hT95, k96, R97⟩ := g92
      have k98 : KW [514, 515, 516, 517, 518, 519] Po P91 := KW.trans k70 k96 rfl
      have wx93 := ti_full x93
      replace g94 : 0 ≤ x93.toInt ∧ x93.toInt ≤ 1 ∧ (∃ k : Nat, RUN KK (chC P63) (fv P63 289 2).toInt k ∧ (fv P91 289 2).toInt = (fv P63 289 2).toInt + (k : Int) ∧ fv P91 289 5 = knV (chC P63) (fv P63 289 2).toInt k ∧ (fv P91 289 6).toInt = (k : Int) ∧ ((x93.toInt = 1 ∧ 1 ≤ k) ∨ (x93.toInt = 0 ∧ k = 0))) := g94
      have g100 := ti_full (fv P91 289 2)
      show MEvP _ none q_97 146 [(0, .ref 289)] [.int x93] _ _ _ _
      refine mp_Tb (t := 153) (j_if_eq dX4_takeCommand_146) (by decide) (fun c101 => ?_) (fun c101 => mpp 149 rfl ?_)
      · have c101 : x93.toInt = 0 := ti_eq c101
        refine mp_a (a_iconst (v := 0) dX4_takeCommand_153 rfl) (mpp 154 rfl ?_)
        have e102 : (fv P91 289 3).toInt = (fv P9 289 3).toInt := congrArg Int32.toInt ((KW.at k96 3 rl_289 rfl).trans ((KW.at k68 3 rl_289 rfl).trans ((KW.at k42 3 rl_289 rfl).trans (f31 289 3 (ne_k rfl)))))
        have g103 := ti_full (fv P91 289 4)
        have g104 := ti_full (fv P91 289 5)
        have g105 := ti_full (fv P91 289 6)
        have g106 := ti_full (fv P91 289 7)
        have t109_ : chC P28 = chC Po := chC_eq (fun j => by rw [f31 290 j (by omega), f12 290 j (by omega)]) (by rw [f31 289 1 (by omega), f12 289 1 (by omega)])
        have y110_ := g40
        rw [t109_] at y110_
        have t111_ : chC P37 = chC Po := chC_eq (fun j => by rw [R43.2.2 290 j (by omega), f31 290 j (by omega), f12 290 j (by omega)]) (by rw [R43.1, f31 289 1 (by omega), f12 289 1 (by omega)])
        have y112_ := g66
        rw [t111_] at y112_
        have t113_ : chC P63 = chC Po := chC_eq (fun j => by rw [R69.2.2.2.2.2.2 290 j (by omega), R43.2.2 290 j (by omega), f31 290 j (by omega), f12 290 j (by omega)]) (by rw [R69.1, R43.1, f31 289 1 (by omega), f12 289 1 (by omega)])
        have y114_ := g94
        rw [t113_] at y114_
        have e115 : (fv P9 289 2).toInt = (fv Po 289 2).toInt := congrArg Int32.toInt (f12 289 2 (by omega))
        obtain ⟨kw108_, rw108_, pw108_, vw108_, ow108_⟩ := y110_.2.2
        rw [show (fv P28 289 2).toInt = (fv Po 289 2).toInt + 1 from by omega] at rw108_ pw108_ vw108_
        rw [show (fv P37 289 2).toInt = (fv Po 289 2).toInt + 1 + (kw108_ : Int) from by omega] at y112_
        obtain ⟨mw108_, uw108_, tw108_, ww108_, zw108_, yw108_⟩ := y114_.2.2
        rw [show (fv P63 289 2).toInt = (fv Po 289 2).toInt + 2 + (kw108_ : Int) from by omega] at uw108_ tw108_ ww108_
        have u107 : 0 ≤ (0 : Int) ∧ (0 : Int) ≤ 1 ∧ (0 ≤ (fv P91 289 2).toInt ∧ (((0 : Int) = 1 ∧ CMD (chC Po) (fv Po 289 2).toInt (fv P91 289 2).toInt (fv P91 289 3).toInt (fv P91 289 4).toInt (fv P91 289 5).toInt (fv P91 289 6).toInt (fv P91 289 7).toInt) ∨ ((0 : Int) = 0 ∧ ¬ CMO (chC Po) (fv Po 289 2).toInt))) := ⟨by omega, by omega, by omega, Or.inr ⟨rfl, fun ⟨i1, l1, a1, b1, n1, s1, q1, q2⟩ => by
            rcases q2 with ⟨q2, k2, m2, q3, q4, q5, q6, q7, q8⟩ | ⟨q2, _⟩ | ⟨q2, _⟩
            · have e := rw108_.uniq q5; subst e; have e2 := uw108_.uniq q7; omega
            · omega
            · omega⟩⟩
        have u116 : fv P91 289 1 = fv Po 289 1 := by rw [R97.1, R69.1, R43.1, f31 289 1 (by omega), f12 289 1 (by omega)]
        have u117 : KI 289 290 Po P91 := by
          intro x j hx
          rw [R97.2.2.2 x j (by omega), R69.2.2.2.2.2.2 x j (by omega), R43.2.2 x j (by omega), f31 x j (by omega), f12 x j (by omega)]
        exact mp_iret ⟨⟨_, rfl, u107⟩, hT95, k98, ⟨u116, u117⟩⟩ dX4_takeCommand_154 (Or.inr ⟨rfl, by decide⟩)
      · have c101 : x93.toInt ≠ 0 := ti_eq_n c101
        refine mp_a (a_iconst (v := 1) dX4_takeCommand_149 rfl) (mpp 150 rfl ?_)
        refine mp_a (a_goto (t := 154) dX4_takeCommand_150 (by decide)) ?_
        have e118 : (fv P91 289 3).toInt = (fv P9 289 3).toInt := congrArg Int32.toInt ((KW.at k96 3 rl_289 rfl).trans ((KW.at k68 3 rl_289 rfl).trans ((KW.at k42 3 rl_289 rfl).trans (f31 289 3 (ne_k rfl)))))
        have g119 := ti_full (fv P91 289 4)
        have g120 := ti_full (fv P91 289 5)
        have g121 := ti_full (fv P91 289 6)
        have g122 := ti_full (fv P91 289 7)
        have t125_ : chC P28 = chC Po := chC_eq (fun j => by rw [f31 290 j (by omega), f12 290 j (by omega)]) (by rw [f31 289 1 (by omega), f12 289 1 (by omega)])
        have y126_ := g40
        rw [t125_] at y126_
        have t127_ : chC P37 = chC Po := chC_eq (fun j => by rw [R43.2.2 290 j (by omega), f31 290 j (by omega), f12 290 j (by omega)]) (by rw [R43.1, f31 289 1 (by omega), f12 289 1 (by omega)])
        have y128_ := g66
        rw [t127_] at y128_
        have t129_ : chC P63 = chC Po := chC_eq (fun j => by rw [R69.2.2.2.2.2.2 290 j (by omega), R43.2.2 290 j (by omega), f31 290 j (by omega), f12 290 j (by omega)]) (by rw [R69.1, R43.1, f31 289 1 (by omega), f12 289 1 (by omega)])
        have y130_ := g94
        rw [t129_] at y130_
        have e131 : (fv P9 289 2).toInt = (fv Po 289 2).toInt := congrArg Int32.toInt (f12 289 2 (by omega))
        obtain ⟨kw124_, rw124_, pw124_, vw124_, ow124_⟩ := y126_.2.2
        rw [show (fv P28 289 2).toInt = (fv Po 289 2).toInt + 1 from by omega] at rw124_ pw124_ vw124_
        rw [show (fv P37 289 2).toInt = (fv Po 289 2).toInt + 1 + (kw124_ : Int) from by omega] at y128_
        obtain ⟨mw124_, uw124_, tw124_, ww124_, zw124_, yw124_⟩ := y130_.2.2
        rw [show (fv P63 289 2).toInt = (fv Po 289 2).toInt + 2 + (kw124_ : Int) from by omega] at uw124_ tw124_ ww124_
        have u123 : 0 ≤ (1 : Int) ∧ (1 : Int) ≤ 1 ∧ (0 ≤ (fv P91 289 2).toInt ∧ (((1 : Int) = 1 ∧ CMD (chC Po) (fv Po 289 2).toInt (fv P91 289 2).toInt (fv P91 289 3).toInt (fv P91 289 4).toInt (fv P91 289 5).toInt (fv P91 289 6).toInt (fv P91 289 7).toInt) ∨ ((1 : Int) = 0 ∧ ¬ CMO (chC Po) (fv Po 289 2).toInt))) := ⟨by omega, by omega, by omega, Or.inl ⟨rfl, (show (fv P91 289 3).toInt = (chC Po (fv Po 289 2).toInt).toInt from by rw [R97.2.1, R69.2.1, R43.2.1, f31 289 3 (by omega), f11]; omega), Or.inl ⟨by have e := (show (fv P91 289 3).toInt = (chC Po (fv Po 289 2).toInt).toInt from by rw [R97.2.1, R69.2.1, R43.2.1, f31 289 3 (by omega), f11]; omega); omega, kw124_, mw124_, by omega, by omega, rw124_, by rw [show (fv Po 289 2).toInt + 1 + (kw124_ : Int) = (fv Po 289 2).toInt + 1 + kw124_ from rfl]; omega, uw124_, by omega, (congrArg Int32.toInt (show fv P91 289 4 = szI (chC Po) ((fv Po 289 2).toInt + 1) kw124_ from by rw [R97.2.2.1, R69.2.2.1]; exact vw124_)), congrArg Int32.toInt ww124_, by omega⟩⟩⟩
        have u132 : fv P91 289 1 = fv Po 289 1 := by rw [R97.1, R69.1, R43.1, f31 289 1 (by omega), f12 289 1 (by omega)]
        have u133 : KI 289 290 Po P91 := by
          intro x j hx
          rw [R97.2.2.2 x j (by omega), R69.2.2.2.2.2.2 x j (by omega), R43.2.2 x j (by omega), f31 x j (by omega), f12 x j (by omega)]
        exact mp_iret ⟨⟨_, rfl, u123⟩, hT95, k98, ⟨u132, u133⟩⟩ dX4_takeCommand_154 (Or.inr ⟨rfl, by decide⟩)

set_option maxHeartbeats 4000000 in
theorem c_CS_takeCommand_Script_b155 {Po P9 : mP} {x6 : Int32} (hT : Typ Po) (hX : XR Po) (hp0 : 0 ≤ (fv Po 289 2).toInt) (g7 : x6.toInt = (chC Po (fv Po 289 2).toInt).toInt ∨ (x6.toInt = 0 ∧ (chC Po (fv Po 289 2).toInt).toInt = -1)) (hT10 : Typ P9) (f11 : fv P9 289 3 = x6) (f12 : ∀ b j : Nat, ¬ (b = 289 ∧ j = 3) → fv P9 b j = fv Po b j) (f13 : ∀ b k : Nat, rv P9 b k = rv Po b k) (c18 : (fv P9 289 3).toInt = 109) : MEvP 4 none q_97 155 [(0, .ref 289)] [] P9 0 0 (fun r P' => (∃ x : Int32, r = some (.int x) ∧ (0 ≤ x.toInt ∧ x.toInt ≤ 1 ∧ (0 ≤ (fv P' 289 2).toInt ∧ ((x.toInt = 1 ∧ CMD (chC Po) (fv Po 289 2).toInt (fv P' 289 2).toInt (fv P' 289 3).toInt (fv P' 289 4).toInt (fv P' 289 5).toInt (fv P' 289 6).toInt (fv P' 289 7).toInt) ∨ (x.toInt = 0 ∧ ¬ CMO (chC Po) (fv Po 289 2).toInt))))) ∧ Typ P' ∧ KW [514, 515, 516, 517, 518, 519] Po P' ∧ fv P' 289 1 = fv Po 289 1 ∧ KI 289 290 Po P') := by
  have g1 := ti_full (fv Po 289 2)
  have p2 : 0 ≤ (fv Po 289 2).toInt := by omega
  have wx6 := ti_full x6
  have k14 : KW [514, 515, 516, 517, 518, 519] Po P9 := KW.step KW.refl rl_289 rfl f12 f13
  have e15 : (fv P9 289 3).toInt = x6.toInt := congrArg Int32.toInt f11
  have q134 : (0 : Int) ≤ (fv Po 289 1).toInt ∧ (fv Po 289 1).toInt ≤ 80 := Typ.rng hT rl_289 (by decide) (by decide) rfl
  have e135 : (fv P9 289 2).toInt = (fv Po 289 2).toInt := congrArg Int32.toInt (f12 289 2 (by omega))
  have q136 := ch_lt (t := fun j => fv Po 290 j) (L := (fv Po 289 1).toInt) (i := (fv Po 289 2).toInt) (show ¬ (chC Po (fv Po 289 2).toInt).toInt = -1 from by omega)
  refine mp_a (a_aload_n dX4_takeCommand_155 rfl) (mpp 156 rfl ?_)
  refine mp_t (s_dup dX4_takeCommand_156 rfl) (mpp 157 rfl ?_)
  have e137 : (fv P9 289 2).toInt = (fv Po 289 2).toInt := congrArg Int32.toInt (f12 289 2 (ne_k rfl))
  refine mt_getI (i := 23) (k := 2) hT10 dX4_takeCommand_157 rfl rl_289 (by decide) rfl (by decide) rfl (fun g138 g139 => mpp 160 rfl ?_)
  refine mp_a (a_iconst (v := 1) dX4_takeCommand_160 rfl) (mpp 161 rfl ?_)
  obtain ⟨z140, h141⟩ := ti_ex ((fv P9 289 2) + 1 : Int32)
  have wz140 := ti_full z140
  refine mp_t (s_iadd (v := z140) dX4_takeCommand_161 h141) (mpp 162 rfl ?_)
  try have e142 : z140.toInt = (fv P9 289 2).toInt + 1 := ti_addz h141 rfl rfl (by omega) (by omega)
  refine mt_putI (i := 23) (k := 2) (x := z140) hT10 dX4_takeCommand_162 rfl rl_289 (by decide) rfl (by decide) rfl (ti_full z140) rfl rfl (fun P143 hT144 f145 f146 f147 => mpp 165 rfl ?_)
  have k148 : KW [514, 515, 516, 517, 518, 519] Po P143 := KW.step k14 rl_289 rfl f146 f147
  have e149 : (fv P143 289 2).toInt = z140.toInt := congrArg Int32.toInt f145
  refine mp_a (a_aload_n dX4_takeCommand_165 rfl) (mpp 166 rfl ?_)
  have p150 : 0 ≤ (fv P143 289 2).toInt := by omega
  refine mt_callv (i := 50) (q' := q_103) (As := []) (rest := []) hT144 dX4_takeCommand_166 rfl qm_103 (by decide) rfl rl_289 (by decide) rfl (Nat.le_of_ble_eq_true rfl) rfl ⟨rfl, rfl⟩ ⟨Nat.le_of_ble_eq_true rfl, Nat.le_of_ble_eq_true rfl⟩ (EvP.mono (by decide) (c_CS_takePiece_Script hT144 (KW.xr k148 hX) p150 )) (fun r151 P152 g153 => mpp 169 rfl ?_)
  obtain ⟨⟨x154, rfl, g155⟩, hT156, k157, R158⟩ := g153
  have k159 : KW [514, 515, 516, 517, 518, 519] Po P152 := KW.trans k148 k157 rfl
  have wx154 := ti_full x154
  replace g155 : 0 ≤ x154.toInt ∧ x154.toInt ≤ 1 ∧ ((x154.toInt = 1 ∧ (48 ≤ (chC P143 (fv P143 289 2).toInt).toInt ∧ (chC P143 (fv P143 289 2).toInt).toInt ≤ 57) ∧ (fv P152 289 2).toInt = (fv P143 289 2).toInt + 1 ∧ (fv P152 289 4).toInt = (chC P143 (fv P143 289 2).toInt).toInt - 48) ∨ (x154.toInt = 0 ∧ ¬ (48 ≤ (chC P143 (fv P143 289 2).toInt).toInt ∧ (chC P143 (fv P143 289 2).toInt).toInt ≤ 57) ∧ (fv P152 289 2).toInt = (fv P143 289 2).toInt)) := g155
  have g161 := ti_full (fv P152 289 2)
  have g162 := ti_full (fv P152 289 2)
  show MEvP _ none q_97 169 [(0, .ref 289)] [.int x154] _ _ _ _
  refine mp_Tb (t := 208) (j_if_eq dX4_takeCommand_169) (by decide) (fun c163 => ?_) (fun c163 => mpp 172 rfl ?_)
  · have c163 : x154.toInt = 0 := ti_eq c163
    refine mp_a (a_iconst (v := 0) dX4_takeCommand_208 rfl) (mpp 209 rfl ?_)
    have e164 : (fv P152 289 3).toInt = (fv P9 289 3).toInt := congrArg Int32.toInt ((KW.at k157 3 rl_289 rfl).trans (f146 289 3 (ne_k rfl)))
    have g165 := ti_full (fv P152 289 4)
    have g166 := ti_full (fv P152 289 5)
    have g167 := ti_full (fv P152 289 6)
    have g168 := ti_full (fv P152 289 7)
    have t171_ : chC P143 = chC Po := chC_eq (fun j => by rw [f146 290 j (by omega), f12 290 j (by omega)]) (by rw [f146 289 1 (by omega), f12 289 1 (by omega)])
    have y172_ := g155
    rw [t171_] at y172_
    have e173 : (fv P9 289 2).toInt = (fv Po 289 2).toInt := congrArg Int32.toInt (f12 289 2 (by omega))
    rw [show (fv P143 289 2).toInt = (fv Po 289 2).toInt + 1 from by omega] at y172_
    have u169 : 0 ≤ (0 : Int) ∧ (0 : Int) ≤ 1 ∧ (0 ≤ (fv P152 289 2).toInt ∧ (((0 : Int) = 1 ∧ CMD (chC Po) (fv Po 289 2).toInt (fv P152 289 2).toInt (fv P152 289 3).toInt (fv P152 289 4).toInt (fv P152 289 5).toInt (fv P152 289 6).toInt (fv P152 289 7).toInt) ∨ ((0 : Int) = 0 ∧ ¬ CMO (chC Po) (fv Po 289 2).toInt))) := ⟨by omega, by omega, by omega, Or.inr ⟨rfl, fun ⟨i1, l1, a1, b1, n1, s1, q1, q2⟩ => by
        rcases q2 with ⟨q2, _⟩ | ⟨q2, q3, q4, q5, q6, q7, q8⟩ | ⟨q2, q3, q8⟩
        · omega
        · omega
        · omega⟩⟩
    have u174 : fv P152 289 1 = fv Po 289 1 := by rw [R158.1, f146 289 1 (by omega), f12 289 1 (by omega)]
    have u175 : KI 289 290 Po P152 := by
      intro x j hx
      rw [R158.2.2.2.2.2 x j (by omega), f146 x j (by omega), f12 x j (by omega)]
    exact mp_iret ⟨⟨_, rfl, u169⟩, hT156, k159, ⟨u174, u175⟩⟩ dX4_takeCommand_209 (Or.inr ⟨rfl, by decide⟩)
  · have c163 : x154.toInt ≠ 0 := ti_eq_n c163
    refine mp_a (a_aload_n dX4_takeCommand_172 rfl) (mpp 173 rfl ?_)
    refine mp_a (a_bipush (v := 46) dX4_takeCommand_173 rfl) (mpp 175 rfl ?_)
    have p176 : 0 ≤ (fv P152 289 2).toInt := by omega
    have p177 : 1 ≤ (46 : Int) := by omega
    refine mt_callv (i := 33) (q' := q_100) (As := [.int 46]) (rest := []) hT156 dX4_takeCommand_175 rfl qm_100 (by decide) rfl rl_289 (by decide) rfl (Nat.le_of_ble_eq_true rfl) rfl ⟨rfl, rfl⟩ ⟨Nat.le_of_ble_eq_true rfl, Nat.le_of_ble_eq_true rfl⟩ (EvP.mono (by decide) (c_CS_takeSign_Script hT156 (KW.xr k159 hX) p176 p177 )) (fun r178 P179 g180 => mpp 178 rfl ?_)
    obtain ⟨⟨x181, rfl, g182⟩, hT183, k184, R185⟩ := g180
    have k186 : KW [514, 515, 516, 517, 518, 519] Po P179 := KW.trans k159 k184 rfl
    have wx181 := ti_full x181
    replace g182 : 0 ≤ x181.toInt ∧ x181.toInt ≤ 1 ∧ ((x181.toInt = 1 ∧ (chC P152 (fv P152 289 2).toInt).toInt = (46 : Int) ∧ (fv P179 289 2).toInt = (fv P152 289 2).toInt + 1) ∨ (x181.toInt = 0 ∧ ¬ (chC P152 (fv P152 289 2).toInt).toInt = (46 : Int) ∧ (fv P179 289 2).toInt = (fv P152 289 2).toInt)) := g182
    have g188 := ti_full (fv P179 289 2)
    have g189 := ti_full (fv P179 289 2)
    show MEvP _ none q_97 178 [(0, .ref 289)] [.int x181] _ _ _ _
    refine mp_Tb (t := 208) (j_if_eq dX4_takeCommand_178) (by decide) (fun c190 => ?_) (fun c190 => mpp 181 rfl ?_)
    · have c190 : x181.toInt = 0 := ti_eq c190
      refine mp_a (a_iconst (v := 0) dX4_takeCommand_208 rfl) (mpp 209 rfl ?_)
      have e191 : (fv P179 289 3).toInt = (fv P9 289 3).toInt := congrArg Int32.toInt ((KW.at k184 3 rl_289 rfl).trans ((KW.at k157 3 rl_289 rfl).trans (f146 289 3 (ne_k rfl))))
      have g192 := ti_full (fv P179 289 4)
      have g193 := ti_full (fv P179 289 5)
      have g194 := ti_full (fv P179 289 6)
      have g195 := ti_full (fv P179 289 7)
      have t198_ : chC P143 = chC Po := chC_eq (fun j => by rw [f146 290 j (by omega), f12 290 j (by omega)]) (by rw [f146 289 1 (by omega), f12 289 1 (by omega)])
      have y199_ := g155
      rw [t198_] at y199_
      have t200_ : chC P152 = chC Po := chC_eq (fun j => by rw [R158.2.2.2.2.2 290 j (by omega), f146 290 j (by omega), f12 290 j (by omega)]) (by rw [R158.1, f146 289 1 (by omega), f12 289 1 (by omega)])
      have y201_ := g182
      rw [t200_] at y201_
      have e202 : (fv P9 289 2).toInt = (fv Po 289 2).toInt := congrArg Int32.toInt (f12 289 2 (by omega))
      rw [show (fv P143 289 2).toInt = (fv Po 289 2).toInt + 1 from by omega] at y199_
      rw [show (fv P152 289 2).toInt = (fv Po 289 2).toInt + 2 from by omega] at y201_
      have u196 : 0 ≤ (0 : Int) ∧ (0 : Int) ≤ 1 ∧ (0 ≤ (fv P179 289 2).toInt ∧ (((0 : Int) = 1 ∧ CMD (chC Po) (fv Po 289 2).toInt (fv P179 289 2).toInt (fv P179 289 3).toInt (fv P179 289 4).toInt (fv P179 289 5).toInt (fv P179 289 6).toInt (fv P179 289 7).toInt) ∨ ((0 : Int) = 0 ∧ ¬ CMO (chC Po) (fv Po 289 2).toInt))) := ⟨by omega, by omega, by omega, Or.inr ⟨rfl, fun ⟨i1, l1, a1, b1, n1, s1, q1, q2⟩ => by
          rcases q2 with ⟨q2, _⟩ | ⟨q2, q3, q4, q5, q6, q7, q8⟩ | ⟨q2, q3, q8⟩
          · omega
          · omega
          · omega⟩⟩
      have u203 : fv P179 289 1 = fv Po 289 1 := by rw [R185.1, R158.1, f146 289 1 (by omega), f12 289 1 (by omega)]
      have u204 : KI 289 290 Po P179 := by
        intro x j hx
        rw [R185.2.2.2.2.2.2 x j (by omega), R158.2.2.2.2.2 x j (by omega), f146 x j (by omega), f12 x j (by omega)]
      exact mp_iret ⟨⟨_, rfl, u196⟩, hT183, k186, ⟨u203, u204⟩⟩ dX4_takeCommand_209 (Or.inr ⟨rfl, by decide⟩)
    · have c190 : x181.toInt ≠ 0 := ti_eq_n c190
      refine mp_a (a_aload_n dX4_takeCommand_181 rfl) (mpp 182 rfl ?_)
      have p205 : 0 ≤ (fv P179 289 2).toInt := by omega
      refine mt_callv (i := 53) (q' := q_105) (As := []) (rest := []) hT183 dX4_takeCommand_182 rfl qm_105 (by decide) rfl rl_289 (by decide) rfl (Nat.le_of_ble_eq_true rfl) rfl ⟨rfl, rfl⟩ ⟨Nat.le_of_ble_eq_true rfl, Nat.le_of_ble_eq_true rfl⟩ (EvP.mono (by decide) (c_CS_takeCrease_Script hT183 (KW.xr k186 hX) p205 )) (fun r206 P207 g208 => mpp 185 rfl ?_)
      obtain ⟨⟨x209, rfl, g210⟩, hT211, k212, R213⟩ := g208
      have k214 : KW [514, 515, 516, 517, 518, 519] Po P207 := KW.trans k186 k212 rfl
      have wx209 := ti_full x209
      replace g210 : 0 ≤ x209.toInt ∧ x209.toInt ≤ 1 ∧ ((x209.toInt = 1 ∧ (48 ≤ (chC P179 (fv P179 289 2).toInt).toInt ∧ (chC P179 (fv P179 289 2).toInt).toInt ≤ 57) ∧ (fv P207 289 2).toInt = (fv P179 289 2).toInt + 1 ∧ (fv P207 289 5).toInt = (chC P179 (fv P179 289 2).toInt).toInt - 48) ∨ (x209.toInt = 0 ∧ ¬ (48 ≤ (chC P179 (fv P179 289 2).toInt).toInt ∧ (chC P179 (fv P179 289 2).toInt).toInt ≤ 57) ∧ (fv P207 289 2).toInt = (fv P179 289 2).toInt)) := g210
      have g216 := ti_full (fv P207 289 2)
      have g217 := ti_full (fv P207 289 2)
      show MEvP _ none q_97 185 [(0, .ref 289)] [.int x209] _ _ _ _
      refine mp_Tb (t := 208) (j_if_eq dX4_takeCommand_185) (by decide) (fun c218 => ?_) (fun c218 => mpp 188 rfl ?_)
      · have c218 : x209.toInt = 0 := ti_eq c218
        refine mp_a (a_iconst (v := 0) dX4_takeCommand_208 rfl) (mpp 209 rfl ?_)
        have e219 : (fv P207 289 3).toInt = (fv P9 289 3).toInt := congrArg Int32.toInt ((KW.at k212 3 rl_289 rfl).trans ((KW.at k184 3 rl_289 rfl).trans ((KW.at k157 3 rl_289 rfl).trans (f146 289 3 (ne_k rfl)))))
        have g220 := ti_full (fv P207 289 4)
        have g221 := ti_full (fv P207 289 5)
        have g222 := ti_full (fv P207 289 6)
        have g223 := ti_full (fv P207 289 7)
        have t226_ : chC P143 = chC Po := chC_eq (fun j => by rw [f146 290 j (by omega), f12 290 j (by omega)]) (by rw [f146 289 1 (by omega), f12 289 1 (by omega)])
        have y227_ := g155
        rw [t226_] at y227_
        have t228_ : chC P152 = chC Po := chC_eq (fun j => by rw [R158.2.2.2.2.2 290 j (by omega), f146 290 j (by omega), f12 290 j (by omega)]) (by rw [R158.1, f146 289 1 (by omega), f12 289 1 (by omega)])
        have y229_ := g182
        rw [t228_] at y229_
        have t230_ : chC P179 = chC Po := chC_eq (fun j => by rw [R185.2.2.2.2.2.2 290 j (by omega), R158.2.2.2.2.2 290 j (by omega), f146 290 j (by omega), f12 290 j (by omega)]) (by rw [R185.1, R158.1, f146 289 1 (by omega), f12 289 1 (by omega)])
        have y231_ := g210
        rw [t230_] at y231_
        have e232 : (fv P9 289 2).toInt = (fv Po 289 2).toInt := congrArg Int32.toInt (f12 289 2 (by omega))
        rw [show (fv P143 289 2).toInt = (fv Po 289 2).toInt + 1 from by omega] at y227_
        rw [show (fv P152 289 2).toInt = (fv Po 289 2).toInt + 2 from by omega] at y229_
        rw [show (fv P179 289 2).toInt = (fv Po 289 2).toInt + 3 from by omega] at y231_
        have u224 : 0 ≤ (0 : Int) ∧ (0 : Int) ≤ 1 ∧ (0 ≤ (fv P207 289 2).toInt ∧ (((0 : Int) = 1 ∧ CMD (chC Po) (fv Po 289 2).toInt (fv P207 289 2).toInt (fv P207 289 3).toInt (fv P207 289 4).toInt (fv P207 289 5).toInt (fv P207 289 6).toInt (fv P207 289 7).toInt) ∨ ((0 : Int) = 0 ∧ ¬ CMO (chC Po) (fv Po 289 2).toInt))) := ⟨by omega, by omega, by omega, Or.inr ⟨rfl, fun ⟨i1, l1, a1, b1, n1, s1, q1, q2⟩ => by
            rcases q2 with ⟨q2, _⟩ | ⟨q2, q3, q4, q5, q6, q7, q8⟩ | ⟨q2, q3, q8⟩
            · omega
            · omega
            · omega⟩⟩
        have u233 : fv P207 289 1 = fv Po 289 1 := by rw [R213.1, R185.1, R158.1, f146 289 1 (by omega), f12 289 1 (by omega)]
        have u234 : KI 289 290 Po P207 := by
          intro x j hx
          rw [R213.2.2.2.2.2 x j (by omega), R185.2.2.2.2.2.2 x j (by omega), R158.2.2.2.2.2 x j (by omega), f146 x j (by omega), f12 x j (by omega)]
        exact mp_iret ⟨⟨_, rfl, u224⟩, hT211, k214, ⟨u233, u234⟩⟩ dX4_takeCommand_209 (Or.inr ⟨rfl, by decide⟩)
      · have c218 : x209.toInt ≠ 0 := ti_eq_n c218
        refine mp_a (a_aload_n dX4_takeCommand_188 rfl) (mpp 189 rfl ?_)
        refine mp_a (a_bipush (v := 61) dX4_takeCommand_189 rfl) (mpp 191 rfl ?_)
        have p235 : 0 ≤ (fv P207 289 2).toInt := by omega
        have p236 : 1 ≤ (61 : Int) := by omega
        refine mt_callv (i := 33) (q' := q_100) (As := [.int 61]) (rest := []) hT211 dX4_takeCommand_191 rfl qm_100 (by decide) rfl rl_289 (by decide) rfl (Nat.le_of_ble_eq_true rfl) rfl ⟨rfl, rfl⟩ ⟨Nat.le_of_ble_eq_true rfl, Nat.le_of_ble_eq_true rfl⟩ (EvP.mono (by decide) (c_CS_takeSign_Script hT211 (KW.xr k214 hX) p235 p236 )) (fun r237 P238 g239 => mpp 194 rfl ?_)
        obtain ⟨⟨x240, rfl, g241⟩, hT242, k243, R244⟩ := g239
        have k245 : KW [514, 515, 516, 517, 518, 519] Po P238 := KW.trans k214 k243 rfl
        have wx240 := ti_full x240
        replace g241 : 0 ≤ x240.toInt ∧ x240.toInt ≤ 1 ∧ ((x240.toInt = 1 ∧ (chC P207 (fv P207 289 2).toInt).toInt = (61 : Int) ∧ (fv P238 289 2).toInt = (fv P207 289 2).toInt + 1) ∨ (x240.toInt = 0 ∧ ¬ (chC P207 (fv P207 289 2).toInt).toInt = (61 : Int) ∧ (fv P238 289 2).toInt = (fv P207 289 2).toInt)) := g241
        have g247 := ti_full (fv P238 289 2)
        have g248 := ti_full (fv P238 289 2)
        show MEvP _ none q_97 194 [(0, .ref 289)] [.int x240] _ _ _ _
        refine mp_Tb (t := 208) (j_if_eq dX4_takeCommand_194) (by decide) (fun c249 => ?_) (fun c249 => mpp 197 rfl ?_)
        · have c249 : x240.toInt = 0 := ti_eq c249
          refine mp_a (a_iconst (v := 0) dX4_takeCommand_208 rfl) (mpp 209 rfl ?_)
          have e250 : (fv P238 289 3).toInt = (fv P9 289 3).toInt := congrArg Int32.toInt ((KW.at k243 3 rl_289 rfl).trans ((KW.at k212 3 rl_289 rfl).trans ((KW.at k184 3 rl_289 rfl).trans ((KW.at k157 3 rl_289 rfl).trans (f146 289 3 (ne_k rfl))))))
          have g251 := ti_full (fv P238 289 4)
          have g252 := ti_full (fv P238 289 5)
          have g253 := ti_full (fv P238 289 6)
          have g254 := ti_full (fv P238 289 7)
          have t257_ : chC P143 = chC Po := chC_eq (fun j => by rw [f146 290 j (by omega), f12 290 j (by omega)]) (by rw [f146 289 1 (by omega), f12 289 1 (by omega)])
          have y258_ := g155
          rw [t257_] at y258_
          have t259_ : chC P152 = chC Po := chC_eq (fun j => by rw [R158.2.2.2.2.2 290 j (by omega), f146 290 j (by omega), f12 290 j (by omega)]) (by rw [R158.1, f146 289 1 (by omega), f12 289 1 (by omega)])
          have y260_ := g182
          rw [t259_] at y260_
          have t261_ : chC P179 = chC Po := chC_eq (fun j => by rw [R185.2.2.2.2.2.2 290 j (by omega), R158.2.2.2.2.2 290 j (by omega), f146 290 j (by omega), f12 290 j (by omega)]) (by rw [R185.1, R158.1, f146 289 1 (by omega), f12 289 1 (by omega)])
          have y262_ := g210
          rw [t261_] at y262_
          have t263_ : chC P207 = chC Po := chC_eq (fun j => by rw [R213.2.2.2.2.2 290 j (by omega), R185.2.2.2.2.2.2 290 j (by omega), R158.2.2.2.2.2 290 j (by omega), f146 290 j (by omega), f12 290 j (by omega)]) (by rw [R213.1, R185.1, R158.1, f146 289 1 (by omega), f12 289 1 (by omega)])
          have y264_ := g241
          rw [t263_] at y264_
          have e265 : (fv P9 289 2).toInt = (fv Po 289 2).toInt := congrArg Int32.toInt (f12 289 2 (by omega))
          rw [show (fv P143 289 2).toInt = (fv Po 289 2).toInt + 1 from by omega] at y258_
          rw [show (fv P152 289 2).toInt = (fv Po 289 2).toInt + 2 from by omega] at y260_
          rw [show (fv P179 289 2).toInt = (fv Po 289 2).toInt + 3 from by omega] at y262_
          rw [show (fv P207 289 2).toInt = (fv Po 289 2).toInt + 4 from by omega] at y264_
          have u255 : 0 ≤ (0 : Int) ∧ (0 : Int) ≤ 1 ∧ (0 ≤ (fv P238 289 2).toInt ∧ (((0 : Int) = 1 ∧ CMD (chC Po) (fv Po 289 2).toInt (fv P238 289 2).toInt (fv P238 289 3).toInt (fv P238 289 4).toInt (fv P238 289 5).toInt (fv P238 289 6).toInt (fv P238 289 7).toInt) ∨ ((0 : Int) = 0 ∧ ¬ CMO (chC Po) (fv Po 289 2).toInt))) := ⟨by omega, by omega, by omega, Or.inr ⟨rfl, fun ⟨i1, l1, a1, b1, n1, s1, q1, q2⟩ => by
              rcases q2 with ⟨q2, _⟩ | ⟨q2, q3, q4, q5, q6, q7, q8⟩ | ⟨q2, q3, q8⟩
              · omega
              · omega
              · omega⟩⟩
          have u266 : fv P238 289 1 = fv Po 289 1 := by rw [R244.1, R213.1, R185.1, R158.1, f146 289 1 (by omega), f12 289 1 (by omega)]
          have u267 : KI 289 290 Po P238 := by
            intro x j hx
            rw [R244.2.2.2.2.2.2 x j (by omega), R213.2.2.2.2.2 x j (by omega), R185.2.2.2.2.2.2 x j (by omega), R158.2.2.2.2.2 x j (by omega), f146 x j (by omega), f12 x j (by omega)]
          exact mp_iret ⟨⟨_, rfl, u255⟩, hT242, k245, ⟨u266, u267⟩⟩ dX4_takeCommand_209 (Or.inr ⟨rfl, by decide⟩)
        · have c249 : x240.toInt ≠ 0 := ti_eq_n c249
          refine mp_a (a_aload_n dX4_takeCommand_197 rfl) (mpp 198 rfl ?_)
          have p268 : 0 ≤ (fv P238 289 2).toInt := by omega
          refine mt_callv (i := 56) (q' := q_102) (As := []) (rest := []) hT242 dX4_takeCommand_198 rfl qm_102 (by decide) rfl rl_289 (by decide) rfl (Nat.le_of_ble_eq_true rfl) rfl ⟨rfl, rfl⟩ ⟨Nat.le_of_ble_eq_true rfl, Nat.le_of_ble_eq_true rfl⟩ (EvP.mono (by decide) (c_CS_takeKind_Script hT242 (KW.xr k245 hX) p268 )) (fun r269 P270 g271 => mpp 201 rfl ?_)
          obtain ⟨⟨x272, rfl, g273⟩, hT274, k275, R276⟩ := g271
          have k277 : KW [514, 515, 516, 517, 518, 519] Po P270 := KW.trans k245 k275 rfl
          have wx272 := ti_full x272
          replace g273 : 0 ≤ x272.toInt ∧ x272.toInt ≤ 1 ∧ ((x272.toInt = 1 ∧ ((chC P238 (fv P238 289 2).toInt).toInt = 111 ∨ (chC P238 (fv P238 289 2).toInt).toInt = 109 ∨ (chC P238 (fv P238 289 2).toInt).toInt = 118) ∧ (fv P270 289 2).toInt = (fv P238 289 2).toInt + 1 ∧ (fv P270 289 7).toInt = (kn (chC P238 (fv P238 289 2).toInt).toInt).toInt) ∨ (x272.toInt = 0 ∧ ¬ ((chC P238 (fv P238 289 2).toInt).toInt = 111 ∨ (chC P238 (fv P238 289 2).toInt).toInt = 109 ∨ (chC P238 (fv P238 289 2).toInt).toInt = 118) ∧ (fv P270 289 2).toInt = (fv P238 289 2).toInt ∧ fv P270 289 7 = fv P238 289 7)) := g273
          have g279 := ti_full (fv P270 289 2)
          have g280 := ti_full (fv P270 289 2)
          show MEvP _ none q_97 201 [(0, .ref 289)] [.int x272] _ _ _ _
          refine mp_Tb (t := 208) (j_if_eq dX4_takeCommand_201) (by decide) (fun c281 => ?_) (fun c281 => mpp 204 rfl ?_)
          · have c281 : x272.toInt = 0 := ti_eq c281
            refine mp_a (a_iconst (v := 0) dX4_takeCommand_208 rfl) (mpp 209 rfl ?_)
            have e282 : (fv P270 289 3).toInt = (fv P9 289 3).toInt := congrArg Int32.toInt ((KW.at k275 3 rl_289 rfl).trans ((KW.at k243 3 rl_289 rfl).trans ((KW.at k212 3 rl_289 rfl).trans ((KW.at k184 3 rl_289 rfl).trans ((KW.at k157 3 rl_289 rfl).trans (f146 289 3 (ne_k rfl)))))))
            have g283 := ti_full (fv P270 289 4)
            have g284 := ti_full (fv P270 289 5)
            have g285 := ti_full (fv P270 289 6)
            have g286 := ti_full (fv P270 289 7)
            have t289_ : chC P143 = chC Po := chC_eq (fun j => by rw [f146 290 j (by omega), f12 290 j (by omega)]) (by rw [f146 289 1 (by omega), f12 289 1 (by omega)])
            have y290_ := g155
            rw [t289_] at y290_
            have t291_ : chC P152 = chC Po := chC_eq (fun j => by rw [R158.2.2.2.2.2 290 j (by omega), f146 290 j (by omega), f12 290 j (by omega)]) (by rw [R158.1, f146 289 1 (by omega), f12 289 1 (by omega)])
            have y292_ := g182
            rw [t291_] at y292_
            have t293_ : chC P179 = chC Po := chC_eq (fun j => by rw [R185.2.2.2.2.2.2 290 j (by omega), R158.2.2.2.2.2 290 j (by omega), f146 290 j (by omega), f12 290 j (by omega)]) (by rw [R185.1, R158.1, f146 289 1 (by omega), f12 289 1 (by omega)])
            have y294_ := g210
            rw [t293_] at y294_
            have t295_ : chC P207 = chC Po := chC_eq (fun j => by rw [R213.2.2.2.2.2 290 j (by omega), R185.2.2.2.2.2.2 290 j (by omega), R158.2.2.2.2.2 290 j (by omega), f146 290 j (by omega), f12 290 j (by omega)]) (by rw [R213.1, R185.1, R158.1, f146 289 1 (by omega), f12 289 1 (by omega)])
            have y296_ := g241
            rw [t295_] at y296_
            have t297_ : chC P238 = chC Po := chC_eq (fun j => by rw [R244.2.2.2.2.2.2 290 j (by omega), R213.2.2.2.2.2 290 j (by omega), R185.2.2.2.2.2.2 290 j (by omega), R158.2.2.2.2.2 290 j (by omega), f146 290 j (by omega), f12 290 j (by omega)]) (by rw [R244.1, R213.1, R185.1, R158.1, f146 289 1 (by omega), f12 289 1 (by omega)])
            have y298_ := g273
            rw [t297_] at y298_
            have e299 : (fv P9 289 2).toInt = (fv Po 289 2).toInt := congrArg Int32.toInt (f12 289 2 (by omega))
            rw [show (fv P143 289 2).toInt = (fv Po 289 2).toInt + 1 from by omega] at y290_
            rw [show (fv P152 289 2).toInt = (fv Po 289 2).toInt + 2 from by omega] at y292_
            rw [show (fv P179 289 2).toInt = (fv Po 289 2).toInt + 3 from by omega] at y294_
            rw [show (fv P207 289 2).toInt = (fv Po 289 2).toInt + 4 from by omega] at y296_
            rw [show (fv P238 289 2).toInt = (fv Po 289 2).toInt + 5 from by omega] at y298_
            have u287 : 0 ≤ (0 : Int) ∧ (0 : Int) ≤ 1 ∧ (0 ≤ (fv P270 289 2).toInt ∧ (((0 : Int) = 1 ∧ CMD (chC Po) (fv Po 289 2).toInt (fv P270 289 2).toInt (fv P270 289 3).toInt (fv P270 289 4).toInt (fv P270 289 5).toInt (fv P270 289 6).toInt (fv P270 289 7).toInt) ∨ ((0 : Int) = 0 ∧ ¬ CMO (chC Po) (fv Po 289 2).toInt))) := ⟨by omega, by omega, by omega, Or.inr ⟨rfl, fun ⟨i1, l1, a1, b1, n1, s1, q1, q2⟩ => by
                rcases q2 with ⟨q2, _⟩ | ⟨q2, q3, q4, q5, q6, q7, q8⟩ | ⟨q2, q3, q8⟩
                · omega
                · omega
                · omega⟩⟩
            have u300 : fv P270 289 1 = fv Po 289 1 := by rw [R276.1, R244.1, R213.1, R185.1, R158.1, f146 289 1 (by omega), f12 289 1 (by omega)]
            have u301 : KI 289 290 Po P270 := by
              intro x j hx
              rw [R276.2.2.2.2.2 x j (by omega), R244.2.2.2.2.2.2 x j (by omega), R213.2.2.2.2.2 x j (by omega), R185.2.2.2.2.2.2 x j (by omega), R158.2.2.2.2.2 x j (by omega), f146 x j (by omega), f12 x j (by omega)]
            exact mp_iret ⟨⟨_, rfl, u287⟩, hT274, k277, ⟨u300, u301⟩⟩ dX4_takeCommand_209 (Or.inr ⟨rfl, by decide⟩)
          · have c281 : x272.toInt ≠ 0 := ti_eq_n c281
            refine mp_a (a_iconst (v := 1) dX4_takeCommand_204 rfl) (mpp 205 rfl ?_)
            refine mp_a (a_goto (t := 209) dX4_takeCommand_205 (by decide)) ?_
            have e302 : (fv P270 289 3).toInt = (fv P9 289 3).toInt := congrArg Int32.toInt ((KW.at k275 3 rl_289 rfl).trans ((KW.at k243 3 rl_289 rfl).trans ((KW.at k212 3 rl_289 rfl).trans ((KW.at k184 3 rl_289 rfl).trans ((KW.at k157 3 rl_289 rfl).trans (f146 289 3 (ne_k rfl)))))))
            have g303 := ti_full (fv P270 289 4)
            have g304 := ti_full (fv P270 289 5)
            have g305 := ti_full (fv P270 289 6)
            have g306 := ti_full (fv P270 289 7)
            have t309_ : chC P143 = chC Po := chC_eq (fun j => by rw [f146 290 j (by omega), f12 290 j (by omega)]) (by rw [f146 289 1 (by omega), f12 289 1 (by omega)])
            have y310_ := g155
            rw [t309_] at y310_
            have t311_ : chC P152 = chC Po := chC_eq (fun j => by rw [R158.2.2.2.2.2 290 j (by omega), f146 290 j (by omega), f12 290 j (by omega)]) (by rw [R158.1, f146 289 1 (by omega), f12 289 1 (by omega)])
            have y312_ := g182
            rw [t311_] at y312_
            have t313_ : chC P179 = chC Po := chC_eq (fun j => by rw [R185.2.2.2.2.2.2 290 j (by omega), R158.2.2.2.2.2 290 j (by omega), f146 290 j (by omega), f12 290 j (by omega)]) (by rw [R185.1, R158.1, f146 289 1 (by omega), f12 289 1 (by omega)])
            have y314_ := g210
            rw [t313_] at y314_
            have t315_ : chC P207 = chC Po := chC_eq (fun j => by rw [R213.2.2.2.2.2 290 j (by omega), R185.2.2.2.2.2.2 290 j (by omega), R158.2.2.2.2.2 290 j (by omega), f146 290 j (by omega), f12 290 j (by omega)]) (by rw [R213.1, R185.1, R158.1, f146 289 1 (by omega), f12 289 1 (by omega)])
            have y316_ := g241
            rw [t315_] at y316_
            have t317_ : chC P238 = chC Po := chC_eq (fun j => by rw [R244.2.2.2.2.2.2 290 j (by omega), R213.2.2.2.2.2 290 j (by omega), R185.2.2.2.2.2.2 290 j (by omega), R158.2.2.2.2.2 290 j (by omega), f146 290 j (by omega), f12 290 j (by omega)]) (by rw [R244.1, R213.1, R185.1, R158.1, f146 289 1 (by omega), f12 289 1 (by omega)])
            have y318_ := g273
            rw [t317_] at y318_
            have e319 : (fv P9 289 2).toInt = (fv Po 289 2).toInt := congrArg Int32.toInt (f12 289 2 (by omega))
            rw [show (fv P143 289 2).toInt = (fv Po 289 2).toInt + 1 from by omega] at y310_
            rw [show (fv P152 289 2).toInt = (fv Po 289 2).toInt + 2 from by omega] at y312_
            rw [show (fv P179 289 2).toInt = (fv Po 289 2).toInt + 3 from by omega] at y314_
            rw [show (fv P207 289 2).toInt = (fv Po 289 2).toInt + 4 from by omega] at y316_
            rw [show (fv P238 289 2).toInt = (fv Po 289 2).toInt + 5 from by omega] at y318_
            have e320 : (fv P270 289 4).toInt = (fv P152 289 4).toInt := by rw [R276.2.2.1, R244.2.2.1, R213.2.2.1, R185.2.2.1]
            have e321 : (fv P270 289 5).toInt = (fv P207 289 5).toInt := by rw [R276.2.2.2.1, R244.2.2.2.1]
            have u307 : 0 ≤ (1 : Int) ∧ (1 : Int) ≤ 1 ∧ (0 ≤ (fv P270 289 2).toInt ∧ (((1 : Int) = 1 ∧ CMD (chC Po) (fv Po 289 2).toInt (fv P270 289 2).toInt (fv P270 289 3).toInt (fv P270 289 4).toInt (fv P270 289 5).toInt (fv P270 289 6).toInt (fv P270 289 7).toInt) ∨ ((1 : Int) = 0 ∧ ¬ CMO (chC Po) (fv Po 289 2).toInt))) := ⟨by omega, by omega, by omega, Or.inl ⟨rfl, (show (fv P270 289 3).toInt = (chC Po (fv Po 289 2).toInt).toInt from by rw [R276.2.1, R244.2.1, R213.2.1, R185.2.1, R158.2.1, f146 289 3 (by omega), f11]; omega), Or.inr (Or.inl ⟨by have e := (show (fv P270 289 3).toInt = (chC Po (fv Po 289 2).toInt).toInt from by rw [R276.2.1, R244.2.1, R213.2.1, R185.2.1, R158.2.1, f146 289 3 (by omega), f11]; omega); omega, ⟨by omega, by omega⟩, by omega, ⟨by omega, by omega⟩, by omega, by have q : ((chC Po ((fv Po 289 2).toInt + 5)).toInt = 111 ∨ (chC Po ((fv Po 289 2).toInt + 5)).toInt = 109 ∨ (chC Po ((fv Po 289 2).toInt + 5)).toInt = 118) := (by omega); exact q, by omega, by omega, by omega, by omega⟩)⟩⟩
            have u322 : fv P270 289 1 = fv Po 289 1 := by rw [R276.1, R244.1, R213.1, R185.1, R158.1, f146 289 1 (by omega), f12 289 1 (by omega)]
            have u323 : KI 289 290 Po P270 := by
              intro x j hx
              rw [R276.2.2.2.2.2 x j (by omega), R244.2.2.2.2.2.2 x j (by omega), R213.2.2.2.2.2 x j (by omega), R185.2.2.2.2.2.2 x j (by omega), R158.2.2.2.2.2 x j (by omega), f146 x j (by omega), f12 x j (by omega)]
            exact mp_iret ⟨⟨_, rfl, u307⟩, hT274, k277, ⟨u322, u323⟩⟩ dX4_takeCommand_209 (Or.inr ⟨rfl, by decide⟩)

set_option maxHeartbeats 4000000 in
theorem c_CS_takeCommand_Script_b210 {Po P9 : mP} {x6 : Int32} (hT : Typ Po) (hX : XR Po) (hp0 : 0 ≤ (fv Po 289 2).toInt) (g7 : x6.toInt = (chC Po (fv Po 289 2).toInt).toInt ∨ (x6.toInt = 0 ∧ (chC Po (fv Po 289 2).toInt).toInt = -1)) (hT10 : Typ P9) (f11 : fv P9 289 3 = x6) (f12 : ∀ b j : Nat, ¬ (b = 289 ∧ j = 3) → fv P9 b j = fv Po b j) (f13 : ∀ b k : Nat, rv P9 b k = rv Po b k) (c18 : (fv P9 289 3).toInt = 102 ∨ (fv P9 289 3).toInt = 116 ∨ (fv P9 289 3).toInt = 117 ∨ (fv P9 289 3).toInt = 120) : MEvP 4 none q_97 210 [(0, .ref 289)] [] P9 0 0 (fun r P' => (∃ x : Int32, r = some (.int x) ∧ (0 ≤ x.toInt ∧ x.toInt ≤ 1 ∧ (0 ≤ (fv P' 289 2).toInt ∧ ((x.toInt = 1 ∧ CMD (chC Po) (fv Po 289 2).toInt (fv P' 289 2).toInt (fv P' 289 3).toInt (fv P' 289 4).toInt (fv P' 289 5).toInt (fv P' 289 6).toInt (fv P' 289 7).toInt) ∨ (x.toInt = 0 ∧ ¬ CMO (chC Po) (fv Po 289 2).toInt))))) ∧ Typ P' ∧ KW [514, 515, 516, 517, 518, 519] Po P' ∧ fv P' 289 1 = fv Po 289 1 ∧ KI 289 290 Po P') := by
  have g1 := ti_full (fv Po 289 2)
  have p2 : 0 ≤ (fv Po 289 2).toInt := by omega
  have wx6 := ti_full x6
  have k14 : KW [514, 515, 516, 517, 518, 519] Po P9 := KW.step KW.refl rl_289 rfl f12 f13
  have e15 : (fv P9 289 3).toInt = x6.toInt := congrArg Int32.toInt f11
  have q324 : (0 : Int) ≤ (fv Po 289 1).toInt ∧ (fv Po 289 1).toInt ≤ 80 := Typ.rng hT rl_289 (by decide) (by decide) rfl
  have e325 : (fv P9 289 2).toInt = (fv Po 289 2).toInt := congrArg Int32.toInt (f12 289 2 (by omega))
  have q326 := ch_lt (t := fun j => fv Po 290 j) (L := (fv Po 289 1).toInt) (i := (fv Po 289 2).toInt) (show ¬ (chC Po (fv Po 289 2).toInt).toInt = -1 from by omega)
  refine mp_a (a_aload_n dX4_takeCommand_210 rfl) (mpp 211 rfl ?_)
  refine mp_t (s_dup dX4_takeCommand_211 rfl) (mpp 212 rfl ?_)
  have e327 : (fv P9 289 2).toInt = (fv Po 289 2).toInt := congrArg Int32.toInt (f12 289 2 (ne_k rfl))
  refine mt_getI (i := 23) (k := 2) hT10 dX4_takeCommand_212 rfl rl_289 (by decide) rfl (by decide) rfl (fun g328 g329 => mpp 215 rfl ?_)
  refine mp_a (a_iconst (v := 1) dX4_takeCommand_215 rfl) (mpp 216 rfl ?_)
  obtain ⟨z330, h331⟩ := ti_ex ((fv P9 289 2) + 1 : Int32)
  have wz330 := ti_full z330
  refine mp_t (s_iadd (v := z330) dX4_takeCommand_216 h331) (mpp 217 rfl ?_)
  try have e332 : z330.toInt = (fv P9 289 2).toInt + 1 := ti_addz h331 rfl rfl (by omega) (by omega)
  refine mt_putI (i := 23) (k := 2) (x := z330) hT10 dX4_takeCommand_217 rfl rl_289 (by decide) rfl (by decide) rfl (ti_full z330) rfl rfl (fun P333 hT334 f335 f336 f337 => mpp 220 rfl ?_)
  have k338 : KW [514, 515, 516, 517, 518, 519] Po P333 := KW.step k14 rl_289 rfl f336 f337
  have e339 : (fv P333 289 2).toInt = z330.toInt := congrArg Int32.toInt f335
  refine mp_a (a_aload_n dX4_takeCommand_220 rfl) (mpp 221 rfl ?_)
  have p340 : 0 ≤ (fv P333 289 2).toInt := by omega
  refine mt_callv (i := 50) (q' := q_103) (As := []) (rest := []) hT334 dX4_takeCommand_221 rfl qm_103 (by decide) rfl rl_289 (by decide) rfl (Nat.le_of_ble_eq_true rfl) rfl ⟨rfl, rfl⟩ ⟨Nat.le_of_ble_eq_true rfl, Nat.le_of_ble_eq_true rfl⟩ (EvP.mono (by decide) (c_CS_takePiece_Script hT334 (KW.xr k338 hX) p340 )) (fun r341 P342 g343 => mpp 224 rfl ?_)
  obtain ⟨⟨x344, rfl, g345⟩, hT346, k347, R348⟩ := g343
  have k349 : KW [514, 515, 516, 517, 518, 519] Po P342 := KW.trans k338 k347 rfl
  have wx344 := ti_full x344
  replace g345 : 0 ≤ x344.toInt ∧ x344.toInt ≤ 1 ∧ ((x344.toInt = 1 ∧ (48 ≤ (chC P333 (fv P333 289 2).toInt).toInt ∧ (chC P333 (fv P333 289 2).toInt).toInt ≤ 57) ∧ (fv P342 289 2).toInt = (fv P333 289 2).toInt + 1 ∧ (fv P342 289 4).toInt = (chC P333 (fv P333 289 2).toInt).toInt - 48) ∨ (x344.toInt = 0 ∧ ¬ (48 ≤ (chC P333 (fv P333 289 2).toInt).toInt ∧ (chC P333 (fv P333 289 2).toInt).toInt ≤ 57) ∧ (fv P342 289 2).toInt = (fv P333 289 2).toInt)) := g345
  have g351 := ti_full (fv P342 289 2)
  have g352 := ti_full (fv P342 289 2)
  show MEvP _ none q_97 224 [(0, .ref 289)] [.int x344] _ _ _ _
  have e353 : (fv P342 289 3).toInt = (fv P9 289 3).toInt := congrArg Int32.toInt ((KW.at k347 3 rl_289 rfl).trans (f336 289 3 (ne_k rfl)))
  have g354 := ti_full (fv P342 289 4)
  have g355 := ti_full (fv P342 289 5)
  have g356 := ti_full (fv P342 289 6)
  have g357 := ti_full (fv P342 289 7)
  have t360_ : chC P333 = chC Po := chC_eq (fun j => by rw [f336 290 j (by omega), f12 290 j (by omega)]) (by rw [f336 289 1 (by omega), f12 289 1 (by omega)])
  have y361_ := g345
  rw [t360_] at y361_
  have e362 : (fv P9 289 2).toInt = (fv Po 289 2).toInt := congrArg Int32.toInt (f12 289 2 (by omega))
  rw [show (fv P333 289 2).toInt = (fv Po 289 2).toInt + 1 from by omega] at y361_
  have u358 : 0 ≤ x344.toInt ∧ x344.toInt ≤ 1 ∧ (0 ≤ (fv P342 289 2).toInt ∧ ((x344.toInt = 1 ∧ CMD (chC Po) (fv Po 289 2).toInt (fv P342 289 2).toInt (fv P342 289 3).toInt (fv P342 289 4).toInt (fv P342 289 5).toInt (fv P342 289 6).toInt (fv P342 289 7).toInt) ∨ (x344.toInt = 0 ∧ ¬ CMO (chC Po) (fv Po 289 2).toInt))) := ⟨by omega, by omega, by omega, if hx : x344.toInt = 1 then (Or.inl ⟨by omega, (show (fv P342 289 3).toInt = (chC Po (fv Po 289 2).toInt).toInt from by rw [R348.2.1, f336 289 3 (by omega), f11]; omega), Or.inr (Or.inr ⟨by have e := (show (fv P342 289 3).toInt = (chC Po (fv Po 289 2).toInt).toInt from by rw [R348.2.1, f336 289 3 (by omega), f11]; omega); omega, ⟨by omega, by omega⟩, by omega, by omega⟩)⟩) else Or.inr ⟨by omega, fun ⟨i1, l1, a1, b1, n1, s1, q1, q2⟩ => by rcases q2 with ⟨q2, _⟩ | ⟨q2, q3, _⟩ | ⟨q2, q3, _⟩ <;> omega⟩⟩
  have u363 : fv P342 289 1 = fv Po 289 1 := by rw [R348.1, f336 289 1 (by omega), f12 289 1 (by omega)]
  have u364 : KI 289 290 Po P342 := by
    intro x j hx
    rw [R348.2.2.2.2.2 x j (by omega), f336 x j (by omega), f12 x j (by omega)]
  exact mp_iret ⟨⟨_, rfl, u358⟩, hT346, k349, ⟨u363, u364⟩⟩ dX4_takeCommand_224 (Or.inr ⟨rfl, ti_01 (by omega)⟩)

set_option maxHeartbeats 4000000 in
theorem c_CS_takeCommand_Script_b225 {Po P9 : mP} {x6 : Int32} (hT : Typ Po) (hX : XR Po) (hp0 : 0 ≤ (fv Po 289 2).toInt) (g7 : x6.toInt = (chC Po (fv Po 289 2).toInt).toInt ∨ (x6.toInt = 0 ∧ (chC Po (fv Po 289 2).toInt).toInt = -1)) (hT10 : Typ P9) (f11 : fv P9 289 3 = x6) (f12 : ∀ b j : Nat, ¬ (b = 289 ∧ j = 3) → fv P9 b j = fv Po b j) (f13 : ∀ b k : Nat, rv P9 b k = rv Po b k) (c18 : ¬ (fv P9 289 3).toInt = 99 ∧ ¬ (fv P9 289 3).toInt = 115 ∧ ¬ (fv P9 289 3).toInt = 109 ∧ ¬ (fv P9 289 3).toInt = 102 ∧ ¬ (fv P9 289 3).toInt = 116 ∧ ¬ (fv P9 289 3).toInt = 117 ∧ ¬ (fv P9 289 3).toInt = 120) : MEvP 4 none q_97 225 [(0, .ref 289)] [] P9 0 0 (fun r P' => (∃ x : Int32, r = some (.int x) ∧ (0 ≤ x.toInt ∧ x.toInt ≤ 1 ∧ (0 ≤ (fv P' 289 2).toInt ∧ ((x.toInt = 1 ∧ CMD (chC Po) (fv Po 289 2).toInt (fv P' 289 2).toInt (fv P' 289 3).toInt (fv P' 289 4).toInt (fv P' 289 5).toInt (fv P' 289 6).toInt (fv P' 289 7).toInt) ∨ (x.toInt = 0 ∧ ¬ CMO (chC Po) (fv Po 289 2).toInt))))) ∧ Typ P' ∧ KW [514, 515, 516, 517, 518, 519] Po P' ∧ fv P' 289 1 = fv Po 289 1 ∧ KI 289 290 Po P') := by
  have g1 := ti_full (fv Po 289 2)
  have p2 : 0 ≤ (fv Po 289 2).toInt := by omega
  have wx6 := ti_full x6
  have k14 : KW [514, 515, 516, 517, 518, 519] Po P9 := KW.step KW.refl rl_289 rfl f12 f13
  have e15 : (fv P9 289 3).toInt = x6.toInt := congrArg Int32.toInt f11
  refine mp_a (a_iconst (v := 0) dX4_takeCommand_225 rfl) (mpp 226 rfl ?_)
  have e365 : (fv P9 289 2).toInt = (fv Po 289 2).toInt := congrArg Int32.toInt (f12 289 2 (ne_k rfl))
  have g366 := ti_full (fv P9 289 4)
  have g367 := ti_full (fv P9 289 5)
  have g368 := ti_full (fv P9 289 6)
  have g369 := ti_full (fv P9 289 7)
  have u370 : 0 ≤ (0 : Int) ∧ (0 : Int) ≤ 1 ∧ (0 ≤ (fv P9 289 2).toInt ∧ (((0 : Int) = 1 ∧ CMD (chC Po) (fv Po 289 2).toInt (fv P9 289 2).toInt (fv P9 289 3).toInt (fv P9 289 4).toInt (fv P9 289 5).toInt (fv P9 289 6).toInt (fv P9 289 7).toInt) ∨ ((0 : Int) = 0 ∧ ¬ CMO (chC Po) (fv Po 289 2).toInt))) := ⟨by omega, by omega, by omega, Or.inr ⟨rfl, fun ⟨i1, l1, a1, b1, n1, s1, q1, q2⟩ => by rcases q2 with ⟨q2, _⟩ | ⟨q2, _⟩ | ⟨q2, _⟩ <;> omega⟩⟩
  have u372 : fv P9 289 1 = fv Po 289 1 := by rw [f12 289 1 (by omega)]
  have u373 : KI 289 290 Po P9 := by
    intro x j hx
    rw [f12 x j (by omega)]
  exact mp_iret ⟨⟨_, rfl, u370⟩, hT10, k14, ⟨u372, u373⟩⟩ dX4_takeCommand_226 (Or.inr ⟨rfl, by decide⟩)

set_option maxHeartbeats 4000000 in
theorem c_CS_takeCommand_Script {Po : mP}  (hT : Typ Po) (hX : XR Po)  (hp0 : 0 ≤ (fv Po 289 2).toInt)  : EvP 5 97 [.ref 289] Po (fun r P' => (∃ x : Int32, r = some (.int x) ∧ (0 ≤ x.toInt ∧ x.toInt ≤ 1 ∧ (0 ≤ (fv P' 289 2).toInt ∧ ((x.toInt = 1 ∧ CMD (chC Po) (fv Po 289 2).toInt (fv P' 289 2).toInt (fv P' 289 3).toInt (fv P' 289 4).toInt (fv P' 289 5).toInt (fv P' 289 6).toInt (fv P' 289 7).toInt) ∨ (x.toInt = 0 ∧ ¬ CMO (chC Po) (fv Po 289 2).toInt))))) ∧ Typ P' ∧ KW [514, 515, 516, 517, 518, 519] Po P' ∧ fv P' 289 1 = fv Po 289 1 ∧ KI 289 290 Po P') := by
  refine EvP.of qm_97 (Nat.le_of_ble_eq_true rfl) rfl ?_
  show MEvP _ none q_97 0 [(0, .ref 289)] [] _ 0 0 _
  have g1 := ti_full (fv Po 289 2)
  refine mp_a (a_aload_n dX4_takeCommand_0 rfl) (mpp 1 rfl ?_)
  refine mp_a (a_aload_n dX4_takeCommand_1 rfl) (mpp 2 rfl ?_)
  have p2 : 0 ≤ (fv Po 289 2).toInt := by omega
  refine mt_callv (i := 37) (q' := q_98) (As := []) (rest := [.ref 289]) hT dX4_takeCommand_2 rfl qm_98 (by decide) rfl rl_289 (by decide) rfl (Nat.le_of_ble_eq_true rfl) rfl ⟨rfl, rfl⟩ ⟨Nat.le_of_ble_eq_true rfl, Nat.le_of_ble_eq_true rfl⟩ (EvP.mono (by decide) (c_CS_codeHere_Script hT hX p2 )) (fun r3 P4 g5 => mpp 5 rfl ?_)
  obtain ⟨⟨x6, rfl, g7⟩, e8⟩ := g5
  have e8 := e8.symm
  subst e8
  have wx6 := ti_full x6
  replace g7 : x6.toInt = (chC Po (fv Po 289 2).toInt).toInt ∨ (x6.toInt = 0 ∧ (chC Po (fv Po 289 2).toInt).toInt = -1) := g7
  show MEvP _ none q_97 5 [(0, .ref 289)] [.int x6, .ref 289] _ _ _ _
  refine mt_putI (i := 41) (k := 3) (x := x6) hT dX4_takeCommand_5 rfl rl_289 (by decide) rfl (by decide) rfl (ti_full x6) rfl rfl (fun P9 hT10 f11 f12 f13 => mpp 8 rfl ?_)
  have k14 : KW [514, 515, 516, 517, 518, 519] Po P9 := KW.step KW.refl rl_289 rfl f12 f13
  have e15 : (fv P9 289 3).toInt = x6.toInt := congrArg Int32.toInt f11
  refine mp_a (a_aload_n dX4_takeCommand_8 rfl) (mpp 9 rfl ?_)
  refine mt_getI (i := 41) (k := 3) hT10 dX4_takeCommand_9 rfl rl_289 (by decide) rfl (by decide) rfl (fun g16 g17 => mpp 12 rfl ?_)
  have c18 : ((fv P9 289 3).toInt < 99 ∨ 120 < (fv P9 289 3).toInt) ∨ (fv P9 289 3).toInt = 99 ∨ (fv P9 289 3).toInt = 100 ∨ (fv P9 289 3).toInt = 101 ∨ (fv P9 289 3).toInt = 102 ∨ (fv P9 289 3).toInt = 103 ∨ (fv P9 289 3).toInt = 104 ∨ (fv P9 289 3).toInt = 105 ∨ (fv P9 289 3).toInt = 106 ∨ (fv P9 289 3).toInt = 107 ∨ (fv P9 289 3).toInt = 108 ∨ (fv P9 289 3).toInt = 109 ∨ (fv P9 289 3).toInt = 110 ∨ (fv P9 289 3).toInt = 111 ∨ (fv P9 289 3).toInt = 112 ∨ (fv P9 289 3).toInt = 113 ∨ (fv P9 289 3).toInt = 114 ∨ (fv P9 289 3).toInt = 115 ∨ (fv P9 289 3).toInt = 116 ∨ (fv P9 289 3).toInt = 117 ∨ (fv P9 289 3).toInt = 118 ∨ (fv P9 289 3).toInt = 119 ∨ (fv P9 289 3).toInt = 120 := by omega
  rcases c18 with c18 | c18 | c18 | c18 | c18 | c18 | c18 | c18 | c18 | c18 | c18 | c18 | c18 | c18 | c18 | c18 | c18 | c18 | c18 | c18 | c18 | c18 | c18
  · refine mp_t (s_tabOut (t := 225) dX4_takeCommand_12 c18 (by decide)) ?_
    exact c_CS_takeCommand_Script_b225 hT hX hp0 g7 hT10 f11 f12 f13 (by omega)
  · refine mp_t (s_tabIn (t := 116) (off := 104) dX4_takeCommand_12 (by omega) (by rw [c18]; rfl) (by decide)) ?_
    exact c_CS_takeCommand_Script_b116 hT hX hp0 g7 hT10 f11 f12 f13 (by omega)
  · refine mp_t (s_tabIn (t := 225) (off := 213) dX4_takeCommand_12 (by omega) (by rw [c18]; rfl) (by decide)) ?_
    exact c_CS_takeCommand_Script_b225 hT hX hp0 g7 hT10 f11 f12 f13 (by omega)
  · refine mp_t (s_tabIn (t := 225) (off := 213) dX4_takeCommand_12 (by omega) (by rw [c18]; rfl) (by decide)) ?_
    exact c_CS_takeCommand_Script_b225 hT hX hp0 g7 hT10 f11 f12 f13 (by omega)
  · refine mp_t (s_tabIn (t := 210) (off := 198) dX4_takeCommand_12 (by omega) (by rw [c18]; rfl) (by decide)) ?_
    exact c_CS_takeCommand_Script_b210 hT hX hp0 g7 hT10 f11 f12 f13 (by omega)
  · refine mp_t (s_tabIn (t := 225) (off := 213) dX4_takeCommand_12 (by omega) (by rw [c18]; rfl) (by decide)) ?_
    exact c_CS_takeCommand_Script_b225 hT hX hp0 g7 hT10 f11 f12 f13 (by omega)
  · refine mp_t (s_tabIn (t := 225) (off := 213) dX4_takeCommand_12 (by omega) (by rw [c18]; rfl) (by decide)) ?_
    exact c_CS_takeCommand_Script_b225 hT hX hp0 g7 hT10 f11 f12 f13 (by omega)
  · refine mp_t (s_tabIn (t := 225) (off := 213) dX4_takeCommand_12 (by omega) (by rw [c18]; rfl) (by decide)) ?_
    exact c_CS_takeCommand_Script_b225 hT hX hp0 g7 hT10 f11 f12 f13 (by omega)
  · refine mp_t (s_tabIn (t := 225) (off := 213) dX4_takeCommand_12 (by omega) (by rw [c18]; rfl) (by decide)) ?_
    exact c_CS_takeCommand_Script_b225 hT hX hp0 g7 hT10 f11 f12 f13 (by omega)
  · refine mp_t (s_tabIn (t := 225) (off := 213) dX4_takeCommand_12 (by omega) (by rw [c18]; rfl) (by decide)) ?_
    exact c_CS_takeCommand_Script_b225 hT hX hp0 g7 hT10 f11 f12 f13 (by omega)
  · refine mp_t (s_tabIn (t := 225) (off := 213) dX4_takeCommand_12 (by omega) (by rw [c18]; rfl) (by decide)) ?_
    exact c_CS_takeCommand_Script_b225 hT hX hp0 g7 hT10 f11 f12 f13 (by omega)
  · refine mp_t (s_tabIn (t := 155) (off := 143) dX4_takeCommand_12 (by omega) (by rw [c18]; rfl) (by decide)) ?_
    exact c_CS_takeCommand_Script_b155 hT hX hp0 g7 hT10 f11 f12 f13 (by omega)
  · refine mp_t (s_tabIn (t := 225) (off := 213) dX4_takeCommand_12 (by omega) (by rw [c18]; rfl) (by decide)) ?_
    exact c_CS_takeCommand_Script_b225 hT hX hp0 g7 hT10 f11 f12 f13 (by omega)
  · refine mp_t (s_tabIn (t := 225) (off := 213) dX4_takeCommand_12 (by omega) (by rw [c18]; rfl) (by decide)) ?_
    exact c_CS_takeCommand_Script_b225 hT hX hp0 g7 hT10 f11 f12 f13 (by omega)
  · refine mp_t (s_tabIn (t := 225) (off := 213) dX4_takeCommand_12 (by omega) (by rw [c18]; rfl) (by decide)) ?_
    exact c_CS_takeCommand_Script_b225 hT hX hp0 g7 hT10 f11 f12 f13 (by omega)
  · refine mp_t (s_tabIn (t := 225) (off := 213) dX4_takeCommand_12 (by omega) (by rw [c18]; rfl) (by decide)) ?_
    exact c_CS_takeCommand_Script_b225 hT hX hp0 g7 hT10 f11 f12 f13 (by omega)
  · refine mp_t (s_tabIn (t := 225) (off := 213) dX4_takeCommand_12 (by omega) (by rw [c18]; rfl) (by decide)) ?_
    exact c_CS_takeCommand_Script_b225 hT hX hp0 g7 hT10 f11 f12 f13 (by omega)
  · refine mp_t (s_tabIn (t := 116) (off := 104) dX4_takeCommand_12 (by omega) (by rw [c18]; rfl) (by decide)) ?_
    exact c_CS_takeCommand_Script_b116 hT hX hp0 g7 hT10 f11 f12 f13 (by omega)
  · refine mp_t (s_tabIn (t := 210) (off := 198) dX4_takeCommand_12 (by omega) (by rw [c18]; rfl) (by decide)) ?_
    exact c_CS_takeCommand_Script_b210 hT hX hp0 g7 hT10 f11 f12 f13 (by omega)
  · refine mp_t (s_tabIn (t := 210) (off := 198) dX4_takeCommand_12 (by omega) (by rw [c18]; rfl) (by decide)) ?_
    exact c_CS_takeCommand_Script_b210 hT hX hp0 g7 hT10 f11 f12 f13 (by omega)
  · refine mp_t (s_tabIn (t := 225) (off := 213) dX4_takeCommand_12 (by omega) (by rw [c18]; rfl) (by decide)) ?_
    exact c_CS_takeCommand_Script_b225 hT hX hp0 g7 hT10 f11 f12 f13 (by omega)
  · refine mp_t (s_tabIn (t := 225) (off := 213) dX4_takeCommand_12 (by omega) (by rw [c18]; rfl) (by decide)) ?_
    exact c_CS_takeCommand_Script_b225 hT hX hp0 g7 hT10 f11 f12 f13 (by omega)
  · refine mp_t (s_tabIn (t := 210) (off := 198) dX4_takeCommand_12 (by omega) (by rw [c18]; rfl) (by decide)) ?_
    exact c_CS_takeCommand_Script_b210 hT hX hp0 g7 hT10 f11 f12 f13 (by omega)

set_option maxHeartbeats 4000000 in
theorem c_CS_faultPosition_Script_l6 {Po : mP}  (hTo : Typ Po) (hX : XR Po)  : ∀ (n : Nat) (v1 : Int32), ∀ (P : mP), Typ P → KW [514, 515, 516, 517, 518, 519] Po P → (KI 289 290 Po P ∧ fv P 289 1 = fv Po 289 1) → (0 ≤ (fv P 289 2).toInt ∧ 2 * v1.toInt ≤ (fv P 289 2).toInt ∧ (fv P 289 2).toInt ≤ (fv Po 289 1).toInt) → (TKT (chC Po) (fv Po 289 1).toInt 0 ↔ TKT (chC Po) (fv Po 289 1).toInt (fv P 289 2).toInt) → ((fv Po 289 1).toInt ≤ 80) → (0 ≤ v1.toInt) → (2147483647 - v1.toInt).toNat = n → MEvP 5 none q_95 6 [(0, .ref 289), (1, .int v1)] [] P 0 0 (fun r P' => (∃ x : Int32, r = some (.int x) ∧ ((x.toInt = -1004 ∧ TKT (chC Po) (fv Po 289 1).toInt 0) ∨ (0 ≤ x.toInt ∧ ¬ TKT (chC Po) (fv Po 289 1).toInt 0))) ∧ Typ P' ∧ KW [514, 515, 516, 517, 518, 519] Po P' ∧ fv P' 289 1 = fv Po 289 1 ∧ KI 289 290 Po P') := by
  intro n
  induction n using Nat.strongRecOn with | _ n ih => ?_
  intro v1 P hT hK i_0 i_1 i_2 i_3 i_4 hm
  have w_v1 := ti_full v1
  have g1 := ti_full (fv P 289 2)
  have g2 := ti_full (fv P 289 2)
  refine mp_a (a_iload_n dX4_faultPosition_6 rfl) (mpp 7 rfl ?_)
  refine mp_a (a_bipush (v := 80) dX4_faultPosition_7 rfl) (mpp 9 rfl ?_)
  refine mp_Tb (t := 54) (j_icmp_ge dX4_faultPosition_9) (by decide) (fun c3 => ?_) (fun c3 => mpp 12 rfl ?_)
  · have c3 : v1.toInt ≥ 80 := ti_ge c3
    refine mp_a (a_aload_n dX4_faultPosition_54 rfl) (mpp 55 rfl ?_)
    refine mt_getI (i := 23) (k := 2) hT dX4_faultPosition_55 rfl rl_289 (by decide) rfl (by decide) rfl (fun g4 g5 => mpp 58 rfl ?_)
    have w7_c : chC P = chC Po := chC_eq (fun j => i_0.1 290 j (by omega)) i_0.2
    have w7_l : (fv P 289 1).toInt = (fv Po 289 1).toInt := congrArg Int32.toInt i_0.2
    have u6 : ((fv P 289 2).toInt = -1004 ∧ TKT (chC Po) (fv Po 289 1).toInt 0) ∨ (0 ≤ (fv P 289 2).toInt ∧ ¬ TKT (chC Po) (fv Po 289 1).toInt 0) := by exfalso; omega
    have u8 : fv P 289 1 = fv Po 289 1 ∧ KI 289 290 Po P := ⟨i_0.2, i_0.1⟩
    exact mp_iret ⟨⟨_, rfl, u6⟩, hT, hK, u8⟩ dX4_faultPosition_58 (Or.inl rfl)
  · have c3 : v1.toInt < 80 := ti_ge_n c3
    refine mp_a (a_aload_n dX4_faultPosition_12 rfl) (mpp 13 rfl ?_)
    have p9 : 0 ≤ (fv P 289 2).toInt := by omega
    refine mt_callv (i := 29) (q' := q_97) (As := []) (rest := []) hT dX4_faultPosition_13 rfl qm_97 (by decide) rfl rl_289 (by decide) rfl (Nat.le_of_ble_eq_true rfl) rfl ⟨rfl, rfl⟩ ⟨Nat.le_of_ble_eq_true rfl, Nat.le_of_ble_eq_true rfl⟩ (EvP.mono (by decide) (c_CS_takeCommand_Script hT (KW.xr hK hX) p9 )) (fun r10 P11 g12 => mpp 16 rfl ?_)
    obtain ⟨⟨x13, rfl, g14⟩, hT15, k16, R17⟩ := g12
    have k18 : KW [514, 515, 516, 517, 518, 519] Po P11 := KW.trans hK k16 rfl
    have wx13 := ti_full x13
    replace g14 : 0 ≤ x13.toInt ∧ x13.toInt ≤ 1 ∧ (0 ≤ (fv P11 289 2).toInt ∧ ((x13.toInt = 1 ∧ CMD (chC P) (fv P 289 2).toInt (fv P11 289 2).toInt (fv P11 289 3).toInt (fv P11 289 4).toInt (fv P11 289 5).toInt (fv P11 289 6).toInt (fv P11 289 7).toInt) ∨ (x13.toInt = 0 ∧ ¬ CMO (chC P) (fv P 289 2).toInt))) := g14
    have g20 := ti_full (fv P11 289 2)
    have g21 := ti_full (fv P11 289 2)
    have g22 := ti_full (fv P11 289 3)
    have g23 := ti_full (fv P11 289 4)
    have g24 := ti_full (fv P11 289 5)
    have g25 := ti_full (fv P11 289 6)
    have g26 := ti_full (fv P11 289 7)
    show MEvP _ none q_95 16 [(0, .ref 289), (1, .int v1)] [.int x13] _ _ _ _
    refine mp_Tb (t := 54) (j_if_eq dX4_faultPosition_16) (by decide) (fun c27 => ?_) (fun c27 => mpp 19 rfl ?_)
    · have c27 : x13.toInt = 0 := ti_eq c27
      refine mp_a (a_aload_n dX4_faultPosition_54 rfl) (mpp 55 rfl ?_)
      refine mt_getI (i := 23) (k := 2) hT15 dX4_faultPosition_55 rfl rl_289 (by decide) rfl (by decide) rfl (fun g28 g29 => mpp 58 rfl ?_)
      have w31_c : chC P = chC Po := chC_eq (fun j => i_0.1 290 j (by omega)) i_0.2
      have w31_l : (fv P 289 1).toInt = (fv Po 289 1).toInt := congrArg Int32.toInt i_0.2
      have w31_g := g14.2.2.2
      rw [w31_c] at w31_g
      have w31_k : (fv P11 289 1).toInt = (fv P 289 1).toInt := congrArg Int32.toInt (R17.1)
      have u30 : ((fv P11 289 2).toInt = -1004 ∧ TKT (chC Po) (fv Po 289 1).toInt 0) ∨ (0 ≤ (fv P11 289 2).toInt ∧ ¬ TKT (chC Po) (fv Po 289 1).toInt 0) := Or.inr ⟨by omega, fun q => TKT.no (w31_g.resolve_left (by omega)).2 (i_2.mp q)⟩
      have u32 : fv P11 289 1 = fv Po 289 1 ∧ KI 289 290 Po P11 := ⟨by rw [R17.1]; exact i_0.2, fun x j hx => by rw [R17.2 x j (by omega)]; exact i_0.1 x j hx⟩
      exact mp_iret ⟨⟨_, rfl, u30⟩, hT15, k18, u32⟩ dX4_faultPosition_58 (Or.inl rfl)
    · have c27 : x13.toInt ≠ 0 := ti_eq_n c27
      have w33_c : chC P = chC Po := chC_eq (fun j => i_0.1 290 j (by omega)) i_0.2
      have w33_l : (fv P 289 1).toInt = (fv Po 289 1).toInt := congrArg Int32.toInt i_0.2
      have w33_g := g14.2.2.2
      rw [w33_c] at w33_g
      have w33_k : (fv P11 289 1).toInt = (fv P 289 1).toInt := congrArg Int32.toInt (R17.1)
      have w33_m := (w33_g.resolve_right (by omega)).2
      have w33_n := CMD.len (t := fun j => fv Po 290 j) (L := (fv Po 289 1).toInt) w33_m
      have w33_a := CMD.adv w33_m
      refine mp_a (a_aload_n dX4_faultPosition_19 rfl) (mpp 20 rfl ?_)
      refine mt_getI (i := 23) (k := 2) hT15 dX4_faultPosition_20 rfl rl_289 (by decide) rfl (by decide) rfl (fun g34 g35 => mpp 23 rfl ?_)
      refine mp_a (a_aload_n dX4_faultPosition_23 rfl) (mpp 24 rfl ?_)
      have e36 : (fv P11 289 1).toInt = (fv Po 289 1).toInt := congrArg Int32.toInt ((KW.at k16 1 rl_289 rfl).trans (KW.at hK 1 rl_289 rfl))
      refine mt_getI (i := 15) (k := 1) hT15 dX4_faultPosition_24 rfl rl_289 (by decide) rfl (by decide) rfl (fun g37 g38 => mpp 27 rfl ?_)
      refine mp_Tb (t := 34) (j_icmp_ne dX4_faultPosition_27) (by decide) (fun c39 => ?_) (fun c39 => mpp 30 rfl ?_)
      · have c39 : (fv P11 289 2).toInt ≠ (fv P11 289 1).toInt := ti_ne c39
        refine mp_a (a_aload_n dX4_faultPosition_34 rfl) (mpp 35 rfl ?_)
        refine mp_a (a_bipush (v := 59) dX4_faultPosition_35 rfl) (mpp 37 rfl ?_)
        have p40 : 0 ≤ (fv P11 289 2).toInt := by omega
        have p41 : 1 ≤ (59 : Int) := by omega
        refine mt_callv (i := 33) (q' := q_100) (As := [.int 59]) (rest := []) hT15 dX4_faultPosition_37 rfl qm_100 (by decide) rfl rl_289 (by decide) rfl (Nat.le_of_ble_eq_true rfl) rfl ⟨rfl, rfl⟩ ⟨Nat.le_of_ble_eq_true rfl, Nat.le_of_ble_eq_true rfl⟩ (EvP.mono (by decide) (c_CS_takeSign_Script hT15 (KW.xr k18 hX) p40 p41 )) (fun r42 P43 g44 => mpp 40 rfl ?_)
        obtain ⟨⟨x45, rfl, g46⟩, hT47, k48, R49⟩ := g44
        have k50 : KW [514, 515, 516, 517, 518, 519] Po P43 := KW.trans k18 k48 rfl
        have wx45 := ti_full x45
        replace g46 : 0 ≤ x45.toInt ∧ x45.toInt ≤ 1 ∧ ((x45.toInt = 1 ∧ (chC P11 (fv P11 289 2).toInt).toInt = (59 : Int) ∧ (fv P43 289 2).toInt = (fv P11 289 2).toInt + 1) ∨ (x45.toInt = 0 ∧ ¬ (chC P11 (fv P11 289 2).toInt).toInt = (59 : Int) ∧ (fv P43 289 2).toInt = (fv P11 289 2).toInt)) := g46
        have g52 := ti_full (fv P43 289 2)
        have g53 := ti_full (fv P43 289 2)
        show MEvP _ none q_95 40 [(0, .ref 289), (1, .int v1)] [.int x45] _ _ _ _
        refine mp_Tb (t := 48) (j_if_ne dX4_faultPosition_40) (by decide) (fun c54 => ?_) (fun c54 => mpp 43 rfl ?_)
        · have c54 : x45.toInt ≠ 0 := ti_ne c54
          obtain ⟨z55, h56⟩ := ti_ex (v1 + 1 : Int32)
          have wz55 := ti_full z55
          refine mp_a (a_iinc (v := z55) (L' := [(1, .int z55), (0, .ref 289)]) dX4_faultPosition_48 (by decide) rfl h56 rfl) (mpp 51 rfl ?_)
          try have e57 : z55.toInt = v1.toInt + 1 := ti_addz h56 rfl rfl (by omega) (by omega)
          refine mp_a (a_goto (t := 6) dX4_faultPosition_51 (by decide)) ?_
          refine MEvP.less (L := [(0, .ref 289), (1, .int z55)]) rfl rfl ⟨rfl, rfl, trivial⟩ ?_
          have i58 : KI 289 290 Po P43 ∧ fv P43 289 1 = fv Po 289 1 := ⟨fun x j hx => by rw [R49.2.2.2.2.2.2 x j (by omega), R17.2 x j (by omega)]; exact i_0.1 x j hx, by rw [R49.1, R17.1]; exact i_0.2⟩
          have w60_c : chC P = chC Po := chC_eq (fun j => i_0.1 290 j (by omega)) i_0.2
          have w60_l : (fv P 289 1).toInt = (fv Po 289 1).toInt := congrArg Int32.toInt i_0.2
          have w60_g := g14.2.2.2
          rw [w60_c] at w60_g
          have w60_k : (fv P11 289 1).toInt = (fv P 289 1).toInt := congrArg Int32.toInt (R17.1)
          have t61_ : chC P11 = chC P := chC_eq (fun j => by rw [R17.2 290 j (by omega)]) (by rw [R17.1])
          have w60_s := g46
          rw [t61_, w60_c] at w60_s
          have w60_q := ch_lt (t := fun j => fv Po 290 j) (L := (fv Po 289 1).toInt) (i := (fv P11 289 2).toInt) (show ¬ (chC Po (fv P11 289 2).toInt).toInt = -1 from by omega)
          have i59 : 0 ≤ (fv P43 289 2).toInt ∧ 2 * z55.toInt ≤ (fv P43 289 2).toInt ∧ (fv P43 289 2).toInt ≤ (fv Po 289 1).toInt := by omega
          have i62 : TKT (chC Po) (fv Po 289 1).toInt 0 ↔ TKT (chC Po) (fv Po 289 1).toInt (fv P43 289 2).toInt := i_2.trans ((TKT.at (w60_g.resolve_right (by omega)).2).trans ⟨fun q => q.elim (fun q => absurd q (by omega)) (fun q => (show (fv P43 289 2).toInt = (fv P11 289 2).toInt + 1 from by omega) ▸ q.2), fun q => Or.inr ⟨(show (chC Po (fv P11 289 2).toInt).toInt = 59 from by omega), (show (fv P43 289 2).toInt = (fv P11 289 2).toInt + 1 from by omega) ▸ q⟩⟩)
          have i63 : (fv Po 289 1).toInt ≤ 80 := by omega
          have i64 : 0 ≤ z55.toInt := by omega
          exact ih _ (by omega) _ P43 hT47 k50 i58 i59 i62 i63 i64 rfl
        · have c54 : x45.toInt = 0 := ti_ne_n c54
          refine mp_a (a_aload_n dX4_faultPosition_43 rfl) (mpp 44 rfl ?_)
          refine mt_getI (i := 23) (k := 2) hT47 dX4_faultPosition_44 rfl rl_289 (by decide) rfl (by decide) rfl (fun g65 g66 => mpp 47 rfl ?_)
          have w68_c : chC P = chC Po := chC_eq (fun j => i_0.1 290 j (by omega)) i_0.2
          have w68_l : (fv P 289 1).toInt = (fv Po 289 1).toInt := congrArg Int32.toInt i_0.2
          have w68_g := g14.2.2.2
          rw [w68_c] at w68_g
          have w68_k : (fv P11 289 1).toInt = (fv P 289 1).toInt := congrArg Int32.toInt (R17.1)
          have t69_ : chC P11 = chC P := chC_eq (fun j => by rw [R17.2 290 j (by omega)]) (by rw [R17.1])
          have w68_s := g46
          rw [t69_, w68_c] at w68_s
          have u67 : ((fv P43 289 2).toInt = -1004 ∧ TKT (chC Po) (fv Po 289 1).toInt 0) ∨ (0 ≤ (fv P43 289 2).toInt ∧ ¬ TKT (chC Po) (fv Po 289 1).toInt 0) := Or.inr ⟨by omega, fun q => by rcases (show (fv P11 289 2).toInt = (fv Po 289 1).toInt ∨ ((chC Po (fv P11 289 2).toInt).toInt = 59 ∧ TKT (chC Po) (fv Po 289 1).toInt ((fv P11 289 2).toInt + 1)) from (TKT.at (w68_g.resolve_right (by omega)).2).mp (i_2.mp q)) with q | q <;> omega⟩
          have u70 : fv P43 289 1 = fv Po 289 1 ∧ KI 289 290 Po P43 := ⟨by rw [R49.1, R17.1]; exact i_0.2, fun x j hx => by rw [R49.2.2.2.2.2.2 x j (by omega), R17.2 x j (by omega)]; exact i_0.1 x j hx⟩
          exact mp_iret ⟨⟨_, rfl, u67⟩, hT47, k50, u70⟩ dX4_faultPosition_47 (Or.inl rfl)
      · have c39 : (fv P11 289 2).toInt = (fv P11 289 1).toInt := ti_ne_n c39
        refine mp_a (a_sipush (v := -1004) dX4_faultPosition_30 rfl) (mpp 33 rfl ?_)
        have w72_c : chC P = chC Po := chC_eq (fun j => i_0.1 290 j (by omega)) i_0.2
        have w72_l : (fv P 289 1).toInt = (fv Po 289 1).toInt := congrArg Int32.toInt i_0.2
        have w72_g := g14.2.2.2
        rw [w72_c] at w72_g
        have w72_k : (fv P11 289 1).toInt = (fv P 289 1).toInt := congrArg Int32.toInt (R17.1)
        have u71 : ((-1004 : Int) = -1004 ∧ TKT (chC Po) (fv Po 289 1).toInt 0) ∨ (0 ≤ (-1004 : Int) ∧ ¬ TKT (chC Po) (fv Po 289 1).toInt 0) := Or.inl ⟨rfl, i_2.mpr ((TKT.at (w72_g.resolve_right (by omega)).2).mpr (Or.inl (by omega)))⟩
        have u73 : fv P11 289 1 = fv Po 289 1 ∧ KI 289 290 Po P11 := ⟨by rw [R17.1]; exact i_0.2, fun x j hx => by rw [R17.2 x j (by omega)]; exact i_0.1 x j hx⟩
        exact mp_iret ⟨⟨_, rfl, u71⟩, hT15, k18, u73⟩ dX4_faultPosition_33 (Or.inl rfl)

