/-! methods on typed pools, 17 (written by a program) -/
set_option maxHeartbeats 4000000 in
theorem c_CS_takeCommand_Script {Po : mP}  (hT : Typ Po) (hX : XR Po)  (hp0 : 0 ≤ (fv Po 289 2).toInt)  : EvP 5 97 [.ref 289] Po (fun r P' => (∃ x : Int32, r = some (.int x) ∧ (0 ≤ x.toInt ∧ x.toInt ≤ 1 ∧ ((x.toInt = 1 ∧ CMD (chC Po) (fv Po 289 2).toInt (fv P' 289 2).toInt (fv P' 289 3).toInt (fv P' 289 4).toInt (fv P' 289 5).toInt (fv P' 289 6).toInt (fv P' 289 7).toInt) ∨ (x.toInt = 0 ∧ ¬ CMO (chC Po) (fv Po 289 2).toInt)))) ∧ Typ P' ∧ KW [514, 515, 516, 517, 518, 519] Po P' ∧ fv P' 289 1 = fv Po 289 1 ∧ KI 289 290 Po P') := by
  refine EvP.of qm_97 (Nat.le_of_ble_eq_true rfl) rfl ?_
  show MEvP _ none q_97 0 [(0, .ref 289)] [] _ 0 0 _
  have g1 := ti_full (fv Po 289 2)
  refine mp_a (a_aload_n dX4_takeCommand_0 rfl) (mpp 1 rfl ?_)
  refine mp_a (a_aload_n dX4_takeCommand_1 rfl) (mpp 2 rfl ?_)
  have p2 : 0 ≤ (fv Po 289 2).toInt := by omega
  refine mt_callv (i := 37) (q' := q_98) (As := []) (rest := [.ref 289]) hT dX4_takeCommand_2 rfl qm_98 (by decide) rfl rl_289 (by decide) rfl (Nat.le_of_ble_eq_true rfl) rfl ⟨rfl, rfl⟩ ⟨Nat.le_of_ble_eq_true rfl, Nat.le_of_ble_eq_true rfl⟩ (EvP.mono (by decide) (c_CS_codeHere_Script hT hX p2 )) (fun r3 P4 g5 => mpp 5 rfl ?_)
  obtain ⟨⟨x6, rfl, g7⟩, e8⟩ := g5
  have e8 := e8.symm
  subst e8
  have wx6 := ti_full x6
  replace g7 : x6.toInt = (chC Po (fv Po 289 2).toInt).toInt ∨ (x6.toInt = 0 ∧ (chC Po (fv Po 289 2).toInt).toInt = -1) := g7
  show MEvP _ none q_97 5 [(0, .ref 289)] [.int x6, .ref 289] _ _ _ _
  refine mt_putI (i := 41) (k := 3) (x := x6) hT dX4_takeCommand_5 rfl rl_289 (by decide) rfl (by decide) rfl (ti_full x6) rfl rfl (fun P9 hT10 f11 f12 f13 => mpp 8 rfl ?_)
  have k14 : KW [514, 515, 516, 517, 518, 519] Po P9 := KW.step KW.refl rl_289 rfl f12 f13
  have e15 : (fv P9 289 3).toInt = x6.toInt := congrArg Int32.toInt f11
  refine mp_a (a_aload_n dX4_takeCommand_8 rfl) (mpp 9 rfl ?_)
  refine mt_getI (i := 41) (k := 3) hT10 dX4_takeCommand_9 rfl rl_289 (by decide) rfl (by decide) rfl (fun g16 g17 => mpp 12 rfl ?_)
  have c18 : ((fv P9 289 3).toInt < 99 ∨ 120 < (fv P9 289 3).toInt) ∨ (fv P9 289 3).toInt = 99 ∨ (fv P9 289 3).toInt = 100 ∨ (fv P9 289 3).toInt = 101 ∨ (fv P9 289 3).toInt = 102 ∨ (fv P9 289 3).toInt = 103 ∨ (fv P9 289 3).toInt = 104 ∨ (fv P9 289 3).toInt = 105 ∨ (fv P9 289 3).toInt = 106 ∨ (fv P9 289 3).toInt = 107 ∨ (fv P9 289 3).toInt = 108 ∨ (fv P9 289 3).toInt = 109 ∨ (fv P9 289 3).toInt = 110 ∨ (fv P9 289 3).toInt = 111 ∨ (fv P9 289 3).toInt = 112 ∨ (fv P9 289 3).toInt = 113 ∨ (fv P9 289 3).toInt = 114 ∨ (fv P9 289 3).toInt = 115 ∨ (fv P9 289 3).toInt = 116 ∨ (fv P9 289 3).toInt = 117 ∨ (fv P9 289 3).toInt = 118 ∨ (fv P9 289 3).toInt = 119 ∨ (fv P9 289 3).toInt = 120 := by omega
  rcases c18 with c18 | c18 | c18 | c18 | c18 | c18 | c18 | c18 | c18 | c18 | c18 | c18 | c18 | c18 | c18 | c18 | c18 | c18 | c18 | c18 | c18 | c18 | c18
  · refine mp_t (s_tabOut (t := 225) dX4_takeCommand_12 c18 (by decide)) ?_
    refine mp_a (a_iconst (v := 0) dX4_takeCommand_225 rfl) (mpp 226 rfl ?_)
    have e19 : (fv P9 289 2).toInt = (fv Po 289 2).toInt := congrArg Int32.toInt (f12 289 2 (ne_k rfl))
    have g20 := ti_full (fv P9 289 4)
    have g21 := ti_full (fv P9 289 5)
    have g22 := ti_full (fv P9 289 6)
    have g23 := ti_full (fv P9 289 7)
    have u24 : 0 ≤ (0 : Int) ∧ (0 : Int) ≤ 1 ∧ (((0 : Int) = 1 ∧ CMD (chC Po) (fv Po 289 2).toInt (fv P9 289 2).toInt (fv P9 289 3).toInt (fv P9 289 4).toInt (fv P9 289 5).toInt (fv P9 289 6).toInt (fv P9 289 7).toInt) ∨ ((0 : Int) = 0 ∧ ¬ CMO (chC Po) (fv Po 289 2).toInt)) := ⟨by omega, by omega, Or.inr ⟨rfl, fun ⟨i1, l1, a1, b1, n1, s1, q1, q2⟩ => by rcases q2 with ⟨q2, _⟩ | ⟨q2, _⟩ | ⟨q2, _⟩ <;> omega⟩⟩
    have u26 : fv P9 289 1 = fv Po 289 1 := by rw [f12 289 1 (by omega)]
    have u27 : KI 289 290 Po P9 := by
      intro x j hx
      rw [f12 x j (by omega)]
    exact mp_iret ⟨⟨_, rfl, u24⟩, hT10, k14, ⟨u26, u27⟩⟩ dX4_takeCommand_226 (Or.inr ⟨rfl, by decide⟩)
  · refine mp_t (s_tabIn (t := 116) (off := 104) dX4_takeCommand_12 (by omega) (by rw [c18]; rfl) (by decide)) ?_
    have q28 : (0 : Int) ≤ (fv Po 289 1).toInt ∧ (fv Po 289 1).toInt ≤ 80 := Typ.rng hT rl_289 (by decide) (by decide) rfl
    have e29 : (fv P9 289 2).toInt = (fv Po 289 2).toInt := congrArg Int32.toInt (f12 289 2 (by omega))
    have q30 := ch_lt (t := fun j => fv Po 290 j) (L := (fv Po 289 1).toInt) (i := (fv Po 289 2).toInt) (show ¬ (chC Po (fv Po 289 2).toInt).toInt = -1 from by omega)
    refine mp_a (a_aload_n dX4_takeCommand_116 rfl) (mpp 117 rfl ?_)
    refine mp_t (s_dup dX4_takeCommand_117 rfl) (mpp 118 rfl ?_)
    have e31 : (fv P9 289 2).toInt = (fv Po 289 2).toInt := congrArg Int32.toInt (f12 289 2 (ne_k rfl))
    refine mt_getI (i := 23) (k := 2) hT10 dX4_takeCommand_118 rfl rl_289 (by decide) rfl (by decide) rfl (fun g32 g33 => mpp 121 rfl ?_)
    refine mp_a (a_iconst (v := 1) dX4_takeCommand_121 rfl) (mpp 122 rfl ?_)
    obtain ⟨z34, h35⟩ := ti_ex ((fv P9 289 2) + 1 : Int32)
    have wz34 := ti_full z34
    refine mp_t (s_iadd (v := z34) dX4_takeCommand_122 h35) (mpp 123 rfl ?_)
    try have e36 : z34.toInt = (fv P9 289 2).toInt + 1 := ti_addz h35 rfl rfl (by omega) (by omega)
    refine mt_putI (i := 23) (k := 2) (x := z34) hT10 dX4_takeCommand_123 rfl rl_289 (by decide) rfl (by decide) rfl (ti_full z34) rfl rfl (fun P37 hT38 f39 f40 f41 => mpp 126 rfl ?_)
    have k42 : KW [514, 515, 516, 517, 518, 519] Po P37 := KW.step k14 rl_289 rfl f40 f41
    have e43 : (fv P37 289 2).toInt = z34.toInt := congrArg Int32.toInt f39
    refine mp_a (a_aload_n dX4_takeCommand_126 rfl) (mpp 127 rfl ?_)
    have p44 : 0 ≤ (fv P37 289 2).toInt := by omega
    refine mt_callv (i := 44) (q' := q_99) (As := []) (rest := []) hT38 dX4_takeCommand_127 rfl qm_99 (by decide) rfl rl_289 (by decide) rfl (Nat.le_of_ble_eq_true rfl) rfl ⟨rfl, rfl⟩ ⟨Nat.le_of_ble_eq_true rfl, Nat.le_of_ble_eq_true rfl⟩ (EvP.mono (by decide) (c_CS_takeSizes_Script hT38 (KW.xr k42 hX) p44 )) (fun r45 P46 g47 => mpp 130 rfl ?_)
    obtain ⟨⟨x48, rfl, g49⟩, hT50, k51, R52⟩ := g47
    have k53 : KW [514, 515, 516, 517, 518, 519] Po P46 := KW.trans k42 k51 rfl
    have wx48 := ti_full x48
    replace g49 : 0 ≤ x48.toInt ∧ x48.toInt ≤ 1 ∧ (∃ k : Nat, RUN D1 (chC P37) (fv P37 289 2).toInt k ∧ (fv P46 289 2).toInt = (fv P37 289 2).toInt + (k : Int) ∧ fv P46 289 4 = szI (chC P37) (fv P37 289 2).toInt k ∧ ((x48.toInt = 1 ∧ 1 ≤ k) ∨ (x48.toInt = 0 ∧ k = 0))) := g49
    have g55 := ti_full (fv P46 289 2)
    show MEvP _ none q_97 130 [(0, .ref 289)] [.int x48] _ _ _ _
    refine mp_Tb (t := 153) (j_if_eq dX4_takeCommand_130) (by decide) (fun c56 => ?_) (fun c56 => mpp 133 rfl ?_)
    · have c56 : x48.toInt = 0 := ti_eq c56
      refine mp_a (a_iconst (v := 0) dX4_takeCommand_153 rfl) (mpp 154 rfl ?_)
      have e57 : (fv P46 289 3).toInt = (fv P9 289 3).toInt := congrArg Int32.toInt ((KW.at k51 3 rl_289 rfl).trans (f40 289 3 (ne_k rfl)))
      have g58 := ti_full (fv P46 289 4)
      have g59 := ti_full (fv P46 289 5)
      have g60 := ti_full (fv P46 289 6)
      have g61 := ti_full (fv P46 289 7)
      have t64_ : chC P37 = chC Po := chC_eq (fun j => by rw [f40 290 j (by omega), f12 290 j (by omega)]) (by rw [f40 289 1 (by omega), f12 289 1 (by omega)])
      have y65_ := g49
      rw [t64_] at y65_
      have e66 : (fv P9 289 2).toInt = (fv Po 289 2).toInt := congrArg Int32.toInt (f12 289 2 (by omega))
      obtain ⟨kw63_, rw63_, pw63_, vw63_, ow63_⟩ := y65_.2.2
      rw [show (fv P37 289 2).toInt = (fv Po 289 2).toInt + 1 from by omega] at rw63_ pw63_ vw63_
      have u62 : 0 ≤ (0 : Int) ∧ (0 : Int) ≤ 1 ∧ (((0 : Int) = 1 ∧ CMD (chC Po) (fv Po 289 2).toInt (fv P46 289 2).toInt (fv P46 289 3).toInt (fv P46 289 4).toInt (fv P46 289 5).toInt (fv P46 289 6).toInt (fv P46 289 7).toInt) ∨ ((0 : Int) = 0 ∧ ¬ CMO (chC Po) (fv Po 289 2).toInt)) := ⟨by omega, by omega, Or.inr ⟨rfl, fun ⟨i1, l1, a1, b1, n1, s1, q1, q2⟩ => by
          rcases q2 with ⟨q2, k2, m2, q3, q4, q5, q6, q7, q8⟩ | ⟨q2, _⟩ | ⟨q2, _⟩
          · have e := rw63_.uniq q5; omega
          · omega
          · omega⟩⟩
      have u67 : fv P46 289 1 = fv Po 289 1 := by rw [R52.1, f40 289 1 (by omega), f12 289 1 (by omega)]
      have u68 : KI 289 290 Po P46 := by
        intro x j hx
        rw [R52.2.2 x j (by omega), f40 x j (by omega), f12 x j (by omega)]
      exact mp_iret ⟨⟨_, rfl, u62⟩, hT50, k53, ⟨u67, u68⟩⟩ dX4_takeCommand_154 (Or.inr ⟨rfl, by decide⟩)
    · have c56 : x48.toInt ≠ 0 := ti_eq_n c56
      refine mp_a (a_aload_n dX4_takeCommand_133 rfl) (mpp 134 rfl ?_)
      refine mp_a (a_bipush (v := 58) dX4_takeCommand_134 rfl) (mpp 136 rfl ?_)
      have p69 : 0 ≤ (fv P46 289 2).toInt := by omega
      have p70 : 1 ≤ (58 : Int) := by omega
      refine mt_callv (i := 33) (q' := q_100) (As := [.int 58]) (rest := []) hT50 dX4_takeCommand_136 rfl qm_100 (by decide) rfl rl_289 (by decide) rfl (Nat.le_of_ble_eq_true rfl) rfl ⟨rfl, rfl⟩ ⟨Nat.le_of_ble_eq_true rfl, Nat.le_of_ble_eq_true rfl⟩ (EvP.mono (by decide) (c_CS_takeSign_Script hT50 (KW.xr k53 hX) p69 p70 )) (fun r71 P72 g73 => mpp 139 rfl ?_)
      obtain ⟨⟨x74, rfl, g75⟩, hT76, k77, R78⟩ := g73
      have k79 : KW [514, 515, 516, 517, 518, 519] Po P72 := KW.trans k53 k77 rfl
      have wx74 := ti_full x74
      replace g75 : 0 ≤ x74.toInt ∧ x74.toInt ≤ 1 ∧ ((x74.toInt = 1 ∧ (chC P46 (fv P46 289 2).toInt).toInt = (58 : Int) ∧ (fv P72 289 2).toInt = (fv P46 289 2).toInt + 1) ∨ (x74.toInt = 0 ∧ ¬ (chC P46 (fv P46 289 2).toInt).toInt = (58 : Int) ∧ (fv P72 289 2).toInt = (fv P46 289 2).toInt)) := g75
      have g81 := ti_full (fv P72 289 2)
      have g82 := ti_full (fv P72 289 2)
      show MEvP _ none q_97 139 [(0, .ref 289)] [.int x74] _ _ _ _
      refine mp_Tb (t := 153) (j_if_eq dX4_takeCommand_139) (by decide) (fun c83 => ?_) (fun c83 => mpp 142 rfl ?_)
      · have c83 : x74.toInt = 0 := ti_eq c83
        refine mp_a (a_iconst (v := 0) dX4_takeCommand_153 rfl) (mpp 154 rfl ?_)
        have e84 : (fv P72 289 3).toInt = (fv P9 289 3).toInt := congrArg Int32.toInt ((KW.at k77 3 rl_289 rfl).trans ((KW.at k51 3 rl_289 rfl).trans (f40 289 3 (ne_k rfl))))
        have g85 := ti_full (fv P72 289 4)
        have g86 := ti_full (fv P72 289 5)
        have g87 := ti_full (fv P72 289 6)
        have g88 := ti_full (fv P72 289 7)
        have t91_ : chC P37 = chC Po := chC_eq (fun j => by rw [f40 290 j (by omega), f12 290 j (by omega)]) (by rw [f40 289 1 (by omega), f12 289 1 (by omega)])
        have y92_ := g49
        rw [t91_] at y92_
        have t93_ : chC P46 = chC Po := chC_eq (fun j => by rw [R52.2.2 290 j (by omega), f40 290 j (by omega), f12 290 j (by omega)]) (by rw [R52.1, f40 289 1 (by omega), f12 289 1 (by omega)])
        have y94_ := g75
        rw [t93_] at y94_
        have e95 : (fv P9 289 2).toInt = (fv Po 289 2).toInt := congrArg Int32.toInt (f12 289 2 (by omega))
        obtain ⟨kw90_, rw90_, pw90_, vw90_, ow90_⟩ := y92_.2.2
        rw [show (fv P37 289 2).toInt = (fv Po 289 2).toInt + 1 from by omega] at rw90_ pw90_ vw90_
        rw [show (fv P46 289 2).toInt = (fv Po 289 2).toInt + 1 + (kw90_ : Int) from by omega] at y94_
        have u89 : 0 ≤ (0 : Int) ∧ (0 : Int) ≤ 1 ∧ (((0 : Int) = 1 ∧ CMD (chC Po) (fv Po 289 2).toInt (fv P72 289 2).toInt (fv P72 289 3).toInt (fv P72 289 4).toInt (fv P72 289 5).toInt (fv P72 289 6).toInt (fv P72 289 7).toInt) ∨ ((0 : Int) = 0 ∧ ¬ CMO (chC Po) (fv Po 289 2).toInt)) := ⟨by omega, by omega, Or.inr ⟨rfl, fun ⟨i1, l1, a1, b1, n1, s1, q1, q2⟩ => by
            rcases q2 with ⟨q2, k2, m2, q3, q4, q5, q6, q7, q8⟩ | ⟨q2, _⟩ | ⟨q2, _⟩
            · have e := rw90_.uniq q5; subst e; omega
            · omega
            · omega⟩⟩
        have u96 : fv P72 289 1 = fv Po 289 1 := by rw [R78.1, R52.1, f40 289 1 (by omega), f12 289 1 (by omega)]
        have u97 : KI 289 290 Po P72 := by
          intro x j hx
          rw [R78.2.2.2.2.2.2 x j (by omega), R52.2.2 x j (by omega), f40 x j (by omega), f12 x j (by omega)]
        exact mp_iret ⟨⟨_, rfl, u89⟩, hT76, k79, ⟨u96, u97⟩⟩ dX4_takeCommand_154 (Or.inr ⟨rfl, by decide⟩)
      · have c83 : x74.toInt ≠ 0 := ti_eq_n c83
        refine mp_a (a_aload_n dX4_takeCommand_142 rfl) (mpp 143 rfl ?_)
        have p98 : 0 ≤ (fv P72 289 2).toInt := by omega
        refine mt_callv (i := 47) (q' := q_101) (As := []) (rest := []) hT76 dX4_takeCommand_143 rfl qm_101 (by decide) rfl rl_289 (by decide) rfl (Nat.le_of_ble_eq_true rfl) rfl ⟨rfl, rfl⟩ ⟨Nat.le_of_ble_eq_true rfl, Nat.le_of_ble_eq_true rfl⟩ (EvP.mono (by decide) (c_CS_takeCreases_Script hT76 (KW.xr k79 hX) p98 )) (fun r99 P100 g101 => mpp 146 rfl ?_)
        obtain ⟨⟨x102, rfl, g103⟩, hT104, k105, R106⟩ := g101
        have k107 : KW [514, 515, 516, 517, 518, 519] Po P100 := KW.trans k79 k105 rfl
        have wx102 := ti_full x102
        replace g103 : 0 ≤ x102.toInt ∧ x102.toInt ≤ 1 ∧ (∃ k : Nat, RUN KK (chC P72) (fv P72 289 2).toInt k ∧ (fv P100 289 2).toInt = (fv P72 289 2).toInt + (k : Int) ∧ fv P100 289 5 = knV (chC P72) (fv P72 289 2).toInt k ∧ (fv P100 289 6).toInt = (k : Int) ∧ ((x102.toInt = 1 ∧ 1 ≤ k) ∨ (x102.toInt = 0 ∧ k = 0))) := g103
        have g109 := ti_full (fv P100 289 2)
        show MEvP _ none q_97 146 [(0, .ref 289)] [.int x102] _ _ _ _
        refine mp_Tb (t := 153) (j_if_eq dX4_takeCommand_146) (by decide) (fun c110 => ?_) (fun c110 => mpp 149 rfl ?_)
        · have c110 : x102.toInt = 0 := ti_eq c110
          refine mp_a (a_iconst (v := 0) dX4_takeCommand_153 rfl) (mpp 154 rfl ?_)
          have e111 : (fv P100 289 3).toInt = (fv P9 289 3).toInt := congrArg Int32.toInt ((KW.at k105 3 rl_289 rfl).trans ((KW.at k77 3 rl_289 rfl).trans ((KW.at k51 3 rl_289 rfl).trans (f40 289 3 (ne_k rfl)))))
          have g112 := ti_full (fv P100 289 4)
          have g113 := ti_full (fv P100 289 5)
          have g114 := ti_full (fv P100 289 6)
          have g115 := ti_full (fv P100 289 7)
          have t118_ : chC P37 = chC Po := chC_eq (fun j => by rw [f40 290 j (by omega), f12 290 j (by omega)]) (by rw [f40 289 1 (by omega), f12 289 1 (by omega)])
          have y119_ := g49
          rw [t118_] at y119_
          have t120_ : chC P46 = chC Po := chC_eq (fun j => by rw [R52.2.2 290 j (by omega), f40 290 j (by omega), f12 290 j (by omega)]) (by rw [R52.1, f40 289 1 (by omega), f12 289 1 (by omega)])
          have y121_ := g75
          rw [t120_] at y121_
          have t122_ : chC P72 = chC Po := chC_eq (fun j => by rw [R78.2.2.2.2.2.2 290 j (by omega), R52.2.2 290 j (by omega), f40 290 j (by omega), f12 290 j (by omega)]) (by rw [R78.1, R52.1, f40 289 1 (by omega), f12 289 1 (by omega)])
          have y123_ := g103
          rw [t122_] at y123_
          have e124 : (fv P9 289 2).toInt = (fv Po 289 2).toInt := congrArg Int32.toInt (f12 289 2 (by omega))
          obtain ⟨kw117_, rw117_, pw117_, vw117_, ow117_⟩ := y119_.2.2
          rw [show (fv P37 289 2).toInt = (fv Po 289 2).toInt + 1 from by omega] at rw117_ pw117_ vw117_
          rw [show (fv P46 289 2).toInt = (fv Po 289 2).toInt + 1 + (kw117_ : Int) from by omega] at y121_
          obtain ⟨mw117_, uw117_, tw117_, ww117_, zw117_, yw117_⟩ := y123_.2.2
          rw [show (fv P72 289 2).toInt = (fv Po 289 2).toInt + 2 + (kw117_ : Int) from by omega] at uw117_ tw117_ ww117_
          have u116 : 0 ≤ (0 : Int) ∧ (0 : Int) ≤ 1 ∧ (((0 : Int) = 1 ∧ CMD (chC Po) (fv Po 289 2).toInt (fv P100 289 2).toInt (fv P100 289 3).toInt (fv P100 289 4).toInt (fv P100 289 5).toInt (fv P100 289 6).toInt (fv P100 289 7).toInt) ∨ ((0 : Int) = 0 ∧ ¬ CMO (chC Po) (fv Po 289 2).toInt)) := ⟨by omega, by omega, Or.inr ⟨rfl, fun ⟨i1, l1, a1, b1, n1, s1, q1, q2⟩ => by
              rcases q2 with ⟨q2, k2, m2, q3, q4, q5, q6, q7, q8⟩ | ⟨q2, _⟩ | ⟨q2, _⟩
              · have e := rw117_.uniq q5; subst e; have e2 := uw117_.uniq q7; omega
              · omega
              · omega⟩⟩
          have u125 : fv P100 289 1 = fv Po 289 1 := by rw [R106.1, R78.1, R52.1, f40 289 1 (by omega), f12 289 1 (by omega)]
          have u126 : KI 289 290 Po P100 := by
            intro x j hx
            rw [R106.2.2.2 x j (by omega), R78.2.2.2.2.2.2 x j (by omega), R52.2.2 x j (by omega), f40 x j (by omega), f12 x j (by omega)]
          exact mp_iret ⟨⟨_, rfl, u116⟩, hT104, k107, ⟨u125, u126⟩⟩ dX4_takeCommand_154 (Or.inr ⟨rfl, by decide⟩)
        · have c110 : x102.toInt ≠ 0 := ti_eq_n c110
          refine mp_a (a_iconst (v := 1) dX4_takeCommand_149 rfl) (mpp 150 rfl ?_)
          refine mp_a (a_goto (t := 154) dX4_takeCommand_150 (by decide)) ?_
          have e127 : (fv P100 289 3).toInt = (fv P9 289 3).toInt := congrArg Int32.toInt ((KW.at k105 3 rl_289 rfl).trans ((KW.at k77 3 rl_289 rfl).trans ((KW.at k51 3 rl_289 rfl).trans (f40 289 3 (ne_k rfl)))))
          have g128 := ti_full (fv P100 289 4)
          have g129 := ti_full (fv P100 289 5)
          have g130 := ti_full (fv P100 289 6)
          have g131 := ti_full (fv P100 289 7)
          have t134_ : chC P37 = chC Po := chC_eq (fun j => by rw [f40 290 j (by omega), f12 290 j (by omega)]) (by rw [f40 289 1 (by omega), f12 289 1 (by omega)])
          have y135_ := g49
          rw [t134_] at y135_
          have t136_ : chC P46 = chC Po := chC_eq (fun j => by rw [R52.2.2 290 j (by omega), f40 290 j (by omega), f12 290 j (by omega)]) (by rw [R52.1, f40 289 1 (by omega), f12 289 1 (by omega)])
          have y137_ := g75
          rw [t136_] at y137_
          have t138_ : chC P72 = chC Po := chC_eq (fun j => by rw [R78.2.2.2.2.2.2 290 j (by omega), R52.2.2 290 j (by omega), f40 290 j (by omega), f12 290 j (by omega)]) (by rw [R78.1, R52.1, f40 289 1 (by omega), f12 289 1 (by omega)])
          have y139_ := g103
          rw [t138_] at y139_
          have e140 : (fv P9 289 2).toInt = (fv Po 289 2).toInt := congrArg Int32.toInt (f12 289 2 (by omega))
          obtain ⟨kw133_, rw133_, pw133_, vw133_, ow133_⟩ := y135_.2.2
          rw [show (fv P37 289 2).toInt = (fv Po 289 2).toInt + 1 from by omega] at rw133_ pw133_ vw133_
          rw [show (fv P46 289 2).toInt = (fv Po 289 2).toInt + 1 + (kw133_ : Int) from by omega] at y137_
          obtain ⟨mw133_, uw133_, tw133_, ww133_, zw133_, yw133_⟩ := y139_.2.2
          rw [show (fv P72 289 2).toInt = (fv Po 289 2).toInt + 2 + (kw133_ : Int) from by omega] at uw133_ tw133_ ww133_
          have u132 : 0 ≤ (1 : Int) ∧ (1 : Int) ≤ 1 ∧ (((1 : Int) = 1 ∧ CMD (chC Po) (fv Po 289 2).toInt (fv P100 289 2).toInt (fv P100 289 3).toInt (fv P100 289 4).toInt (fv P100 289 5).toInt (fv P100 289 6).toInt (fv P100 289 7).toInt) ∨ ((1 : Int) = 0 ∧ ¬ CMO (chC Po) (fv Po 289 2).toInt)) := ⟨by omega, by omega, Or.inl ⟨rfl, (show (fv P100 289 3).toInt = (chC Po (fv Po 289 2).toInt).toInt from by rw [R106.2.1, R78.2.1, R52.2.1, f40 289 3 (by omega), f11]; omega), Or.inl ⟨by have e := (show (fv P100 289 3).toInt = (chC Po (fv Po 289 2).toInt).toInt from by rw [R106.2.1, R78.2.1, R52.2.1, f40 289 3 (by omega), f11]; omega); omega, kw133_, mw133_, by omega, by omega, rw133_, by rw [show (fv Po 289 2).toInt + 1 + (kw133_ : Int) = (fv Po 289 2).toInt + 1 + kw133_ from rfl]; omega, uw133_, by omega, (congrArg Int32.toInt (show fv P100 289 4 = szI (chC Po) ((fv Po 289 2).toInt + 1) kw133_ from by rw [R106.2.2.1, R78.2.2.1]; exact vw133_)), congrArg Int32.toInt ww133_, by omega⟩⟩⟩
          have u141 : fv P100 289 1 = fv Po 289 1 := by rw [R106.1, R78.1, R52.1, f40 289 1 (by omega), f12 289 1 (by omega)]
          have u142 : KI 289 290 Po P100 := by
            intro x j hx
            rw [R106.2.2.2 x j (by omega), R78.2.2.2.2.2.2 x j (by omega), R52.2.2 x j (by omega), f40 x j (by omega), f12 x j (by omega)]
          exact mp_iret ⟨⟨_, rfl, u132⟩, hT104, k107, ⟨u141, u142⟩⟩ dX4_takeCommand_154 (Or.inr ⟨rfl, by decide⟩)
  · refine mp_t (s_tabIn (t := 225) (off := 213) dX4_takeCommand_12 (by omega) (by rw [c18]; rfl) (by decide)) ?_
    refine mp_a (a_iconst (v := 0) dX4_takeCommand_225 rfl) (mpp 226 rfl ?_)
    have e143 : (fv P9 289 2).toInt = (fv Po 289 2).toInt := congrArg Int32.toInt (f12 289 2 (ne_k rfl))
    have g144 := ti_full (fv P9 289 4)
    have g145 := ti_full (fv P9 289 5)
    have g146 := ti_full (fv P9 289 6)
    have g147 := ti_full (fv P9 289 7)
    have u148 : 0 ≤ (0 : Int) ∧ (0 : Int) ≤ 1 ∧ (((0 : Int) = 1 ∧ CMD (chC Po) (fv Po 289 2).toInt (fv P9 289 2).toInt (fv P9 289 3).toInt (fv P9 289 4).toInt (fv P9 289 5).toInt (fv P9 289 6).toInt (fv P9 289 7).toInt) ∨ ((0 : Int) = 0 ∧ ¬ CMO (chC Po) (fv Po 289 2).toInt)) := ⟨by omega, by omega, Or.inr ⟨rfl, fun ⟨i1, l1, a1, b1, n1, s1, q1, q2⟩ => by rcases q2 with ⟨q2, _⟩ | ⟨q2, _⟩ | ⟨q2, _⟩ <;> omega⟩⟩
    have u150 : fv P9 289 1 = fv Po 289 1 := by rw [f12 289 1 (by omega)]
    have u151 : KI 289 290 Po P9 := by
      intro x j hx
      rw [f12 x j (by omega)]
    exact mp_iret ⟨⟨_, rfl, u148⟩, hT10, k14, ⟨u150, u151⟩⟩ dX4_takeCommand_226 (Or.inr ⟨rfl, by decide⟩)
  · refine mp_t (s_tabIn (t := 225) (off := 213) dX4_takeCommand_12 (by omega) (by rw [c18]; rfl) (by decide)) ?_
    refine mp_a (a_iconst (v := 0) dX4_takeCommand_225 rfl) (mpp 226 rfl ?_)
    have e152 : (fv P9 289 2).toInt = (fv Po 289 2).toInt := congrArg Int32.toInt (f12 289 2 (ne_k rfl))
    have g153 := ti_full (fv P9 289 4)
    have g154 := ti_full (fv P9 289 5)
    have g155 := ti_full (fv P9 289 6)
    have g156 := ti_full (fv P9 289 7)
    have u157 : 0 ≤ (0 : Int) ∧ (0 : Int) ≤ 1 ∧ (((0 : Int) = 1 ∧ CMD (chC Po) (fv Po 289 2).toInt (fv P9 289 2).toInt (fv P9 289 3).toInt (fv P9 289 4).toInt (fv P9 289 5).toInt (fv P9 289 6).toInt (fv P9 289 7).toInt) ∨ ((0 : Int) = 0 ∧ ¬ CMO (chC Po) (fv Po 289 2).toInt)) := ⟨by omega, by omega, Or.inr ⟨rfl, fun ⟨i1, l1, a1, b1, n1, s1, q1, q2⟩ => by rcases q2 with ⟨q2, _⟩ | ⟨q2, _⟩ | ⟨q2, _⟩ <;> omega⟩⟩
    have u159 : fv P9 289 1 = fv Po 289 1 := by rw [f12 289 1 (by omega)]
    have u160 : KI 289 290 Po P9 := by
      intro x j hx
      rw [f12 x j (by omega)]
    exact mp_iret ⟨⟨_, rfl, u157⟩, hT10, k14, ⟨u159, u160⟩⟩ dX4_takeCommand_226 (Or.inr ⟨rfl, by decide⟩)
  · refine mp_t (s_tabIn (t := 210) (off := 198) dX4_takeCommand_12 (by omega) (by rw [c18]; rfl) (by decide)) ?_
    have q161 : (0 : Int) ≤ (fv Po 289 1).toInt ∧ (fv Po 289 1).toInt ≤ 80 := Typ.rng hT rl_289 (by decide) (by decide) rfl
    have e162 : (fv P9 289 2).toInt = (fv Po 289 2).toInt := congrArg Int32.toInt (f12 289 2 (by omega))
    have q163 := ch_lt (t := fun j => fv Po 290 j) (L := (fv Po 289 1).toInt) (i := (fv Po 289 2).toInt) (show ¬ (chC Po (fv Po 289 2).toInt).toInt = -1 from by omega)
    refine mp_a (a_aload_n dX4_takeCommand_210 rfl) (mpp 211 rfl ?_)
    refine mp_t (s_dup dX4_takeCommand_211 rfl) (mpp 212 rfl ?_)
    have e164 : (fv P9 289 2).toInt = (fv Po 289 2).toInt := congrArg Int32.toInt (f12 289 2 (ne_k rfl))
    refine mt_getI (i := 23) (k := 2) hT10 dX4_takeCommand_212 rfl rl_289 (by decide) rfl (by decide) rfl (fun g165 g166 => mpp 215 rfl ?_)
    refine mp_a (a_iconst (v := 1) dX4_takeCommand_215 rfl) (mpp 216 rfl ?_)
    obtain ⟨z167, h168⟩ := ti_ex ((fv P9 289 2) + 1 : Int32)
    have wz167 := ti_full z167
    refine mp_t (s_iadd (v := z167) dX4_takeCommand_216 h168) (mpp 217 rfl ?_)
    try have e169 : z167.toInt = (fv P9 289 2).toInt + 1 := ti_addz h168 rfl rfl (by omega) (by omega)
    refine mt_putI (i := 23) (k := 2) (x := z167) hT10 dX4_takeCommand_217 rfl rl_289 (by decide) rfl (by decide) rfl (ti_full z167) rfl rfl (fun P170 hT171 f172 f173 f174 => mpp 220 rfl ?_)
    have k175 : KW [514, 515, 516, 517, 518, 519] Po P170 := KW.step k14 rl_289 rfl f173 f174
    have e176 : (fv P170 289 2).toInt = z167.toInt := congrArg Int32.toInt f172
    refine mp_a (a_aload_n dX4_takeCommand_220 rfl) (mpp 221 rfl ?_)
    have p177 : 0 ≤ (fv P170 289 2).toInt := by omega
    refine mt_callv (i := 50) (q' := q_103) (As := []) (rest := []) hT171 dX4_takeCommand_221 rfl qm_103 (by decide) rfl rl_289 (by decide) rfl (Nat.le_of_ble_eq_true rfl) rfl ⟨rfl, rfl⟩ ⟨Nat.le_of_ble_eq_true rfl, Nat.le_of_ble_eq_true rfl⟩ (EvP.mono (by decide) (c_CS_takePiece_Script hT171 (KW.xr k175 hX) p177 )) (fun r178 P179 g180 => mpp 224 rfl ?_)
    obtain ⟨⟨x181, rfl, g182⟩, hT183, k184, R185⟩ := g180
    have k186 : KW [514, 515, 516, 517, 518, 519] Po P179 := KW.trans k175 k184 rfl
    have wx181 := ti_full x181
    replace g182 : 0 ≤ x181.toInt ∧ x181.toInt ≤ 1 ∧ ((x181.toInt = 1 ∧ (48 ≤ (chC P170 (fv P170 289 2).toInt).toInt ∧ (chC P170 (fv P170 289 2).toInt).toInt ≤ 57) ∧ (fv P179 289 2).toInt = (fv P170 289 2).toInt + 1 ∧ (fv P179 289 4).toInt = (chC P170 (fv P170 289 2).toInt).toInt - 48) ∨ (x181.toInt = 0 ∧ ¬ (48 ≤ (chC P170 (fv P170 289 2).toInt).toInt ∧ (chC P170 (fv P170 289 2).toInt).toInt ≤ 57))) := g182
    have g188 := ti_full (fv P179 289 2)
    show MEvP _ none q_97 224 [(0, .ref 289)] [.int x181] _ _ _ _
    have e189 : (fv P179 289 3).toInt = (fv P9 289 3).toInt := congrArg Int32.toInt ((KW.at k184 3 rl_289 rfl).trans (f173 289 3 (ne_k rfl)))
    have g190 := ti_full (fv P179 289 4)
    have g191 := ti_full (fv P179 289 5)
    have g192 := ti_full (fv P179 289 6)
    have g193 := ti_full (fv P179 289 7)
    have t196_ : chC P170 = chC Po := chC_eq (fun j => by rw [f173 290 j (by omega), f12 290 j (by omega)]) (by rw [f173 289 1 (by omega), f12 289 1 (by omega)])
    have y197_ := g182
    rw [t196_] at y197_
    have e198 : (fv P9 289 2).toInt = (fv Po 289 2).toInt := congrArg Int32.toInt (f12 289 2 (by omega))
    rw [show (fv P170 289 2).toInt = (fv Po 289 2).toInt + 1 from by omega] at y197_
    have u194 : 0 ≤ x181.toInt ∧ x181.toInt ≤ 1 ∧ ((x181.toInt = 1 ∧ CMD (chC Po) (fv Po 289 2).toInt (fv P179 289 2).toInt (fv P179 289 3).toInt (fv P179 289 4).toInt (fv P179 289 5).toInt (fv P179 289 6).toInt (fv P179 289 7).toInt) ∨ (x181.toInt = 0 ∧ ¬ CMO (chC Po) (fv Po 289 2).toInt)) := ⟨by omega, by omega, if hx : x181.toInt = 1 then (Or.inl ⟨by omega, (show (fv P179 289 3).toInt = (chC Po (fv Po 289 2).toInt).toInt from by rw [R185.2.1, f173 289 3 (by omega), f11]; omega), Or.inr (Or.inr ⟨by have e := (show (fv P179 289 3).toInt = (chC Po (fv Po 289 2).toInt).toInt from by rw [R185.2.1, f173 289 3 (by omega), f11]; omega); omega, ⟨by omega, by omega⟩, by omega, by omega⟩)⟩) else Or.inr ⟨by omega, fun ⟨i1, l1, a1, b1, n1, s1, q1, q2⟩ => by rcases q2 with ⟨q2, _⟩ | ⟨q2, q3, _⟩ | ⟨q2, q3, _⟩ <;> omega⟩⟩
    have u199 : fv P179 289 1 = fv Po 289 1 := by rw [R185.1, f173 289 1 (by omega), f12 289 1 (by omega)]
    have u200 : KI 289 290 Po P179 := by
      intro x j hx
      rw [R185.2.2.2.2.2 x j (by omega), f173 x j (by omega), f12 x j (by omega)]
    exact mp_iret ⟨⟨_, rfl, u194⟩, hT183, k186, ⟨u199, u200⟩⟩ dX4_takeCommand_224 (Or.inr ⟨rfl, ti_01 (by omega)⟩)
  · refine mp_t (s_tabIn (t := 225) (off := 213) dX4_takeCommand_12 (by omega) (by rw [c18]; rfl) (by decide)) ?_
    refine mp_a (a_iconst (v := 0) dX4_takeCommand_225 rfl) (mpp 226 rfl ?_)
    have e201 : (fv P9 289 2).toInt = (fv Po 289 2).toInt := congrArg Int32.toInt (f12 289 2 (ne_k rfl))
    have g202 := ti_full (fv P9 289 4)
    have g203 := ti_full (fv P9 289 5)
    have g204 := ti_full (fv P9 289 6)
    have g205 := ti_full (fv P9 289 7)
    have u206 : 0 ≤ (0 : Int) ∧ (0 : Int) ≤ 1 ∧ (((0 : Int) = 1 ∧ CMD (chC Po) (fv Po 289 2).toInt (fv P9 289 2).toInt (fv P9 289 3).toInt (fv P9 289 4).toInt (fv P9 289 5).toInt (fv P9 289 6).toInt (fv P9 289 7).toInt) ∨ ((0 : Int) = 0 ∧ ¬ CMO (chC Po) (fv Po 289 2).toInt)) := ⟨by omega, by omega, Or.inr ⟨rfl, fun ⟨i1, l1, a1, b1, n1, s1, q1, q2⟩ => by rcases q2 with ⟨q2, _⟩ | ⟨q2, _⟩ | ⟨q2, _⟩ <;> omega⟩⟩
    have u208 : fv P9 289 1 = fv Po 289 1 := by rw [f12 289 1 (by omega)]
    have u209 : KI 289 290 Po P9 := by
      intro x j hx
      rw [f12 x j (by omega)]
    exact mp_iret ⟨⟨_, rfl, u206⟩, hT10, k14, ⟨u208, u209⟩⟩ dX4_takeCommand_226 (Or.inr ⟨rfl, by decide⟩)
  · refine mp_t (s_tabIn (t := 225) (off := 213) dX4_takeCommand_12 (by omega) (by rw [c18]; rfl) (by decide)) ?_
    refine mp_a (a_iconst (v := 0) dX4_takeCommand_225 rfl) (mpp 226 rfl ?_)
    have e210 : (fv P9 289 2).toInt = (fv Po 289 2).toInt := congrArg Int32.toInt (f12 289 2 (ne_k rfl))
    have g211 := ti_full (fv P9 289 4)
    have g212 := ti_full (fv P9 289 5)
    have g213 := ti_full (fv P9 289 6)
    have g214 := ti_full (fv P9 289 7)
    have u215 : 0 ≤ (0 : Int) ∧ (0 : Int) ≤ 1 ∧ (((0 : Int) = 1 ∧ CMD (chC Po) (fv Po 289 2).toInt (fv P9 289 2).toInt (fv P9 289 3).toInt (fv P9 289 4).toInt (fv P9 289 5).toInt (fv P9 289 6).toInt (fv P9 289 7).toInt) ∨ ((0 : Int) = 0 ∧ ¬ CMO (chC Po) (fv Po 289 2).toInt)) := ⟨by omega, by omega, Or.inr ⟨rfl, fun ⟨i1, l1, a1, b1, n1, s1, q1, q2⟩ => by rcases q2 with ⟨q2, _⟩ | ⟨q2, _⟩ | ⟨q2, _⟩ <;> omega⟩⟩
    have u217 : fv P9 289 1 = fv Po 289 1 := by rw [f12 289 1 (by omega)]
    have u218 : KI 289 290 Po P9 := by
      intro x j hx
      rw [f12 x j (by omega)]
    exact mp_iret ⟨⟨_, rfl, u215⟩, hT10, k14, ⟨u217, u218⟩⟩ dX4_takeCommand_226 (Or.inr ⟨rfl, by decide⟩)
  · refine mp_t (s_tabIn (t := 225) (off := 213) dX4_takeCommand_12 (by omega) (by rw [c18]; rfl) (by decide)) ?_
    refine mp_a (a_iconst (v := 0) dX4_takeCommand_225 rfl) (mpp 226 rfl ?_)
    have e219 : (fv P9 289 2).toInt = (fv Po 289 2).toInt := congrArg Int32.toInt (f12 289 2 (ne_k rfl))
    have g220 := ti_full (fv P9 289 4)
    have g221 := ti_full (fv P9 289 5)
    have g222 := ti_full (fv P9 289 6)
    have g223 := ti_full (fv P9 289 7)
    have u224 : 0 ≤ (0 : Int) ∧ (0 : Int) ≤ 1 ∧ (((0 : Int) = 1 ∧ CMD (chC Po) (fv Po 289 2).toInt (fv P9 289 2).toInt (fv P9 289 3).toInt (fv P9 289 4).toInt (fv P9 289 5).toInt (fv P9 289 6).toInt (fv P9 289 7).toInt) ∨ ((0 : Int) = 0 ∧ ¬ CMO (chC Po) (fv Po 289 2).toInt)) := ⟨by omega, by omega, Or.inr ⟨rfl, fun ⟨i1, l1, a1, b1, n1, s1, q1, q2⟩ => by rcases q2 with ⟨q2, _⟩ | ⟨q2, _⟩ | ⟨q2, _⟩ <;> omega⟩⟩
    have u226 : fv P9 289 1 = fv Po 289 1 := by rw [f12 289 1 (by omega)]
    have u227 : KI 289 290 Po P9 := by
      intro x j hx
      rw [f12 x j (by omega)]
    exact mp_iret ⟨⟨_, rfl, u224⟩, hT10, k14, ⟨u226, u227⟩⟩ dX4_takeCommand_226 (Or.inr ⟨rfl, by decide⟩)
  · refine mp_t (s_tabIn (t := 225) (off := 213) dX4_takeCommand_12 (by omega) (by rw [c18]; rfl) (by decide)) ?_
    refine mp_a (a_iconst (v := 0) dX4_takeCommand_225 rfl) (mpp 226 rfl ?_)
    have e228 : (fv P9 289 2).toInt = (fv Po 289 2).toInt := congrArg Int32.toInt (f12 289 2 (ne_k rfl))
    have g229 := ti_full (fv P9 289 4)
    have g230 := ti_full (fv P9 289 5)
    have g231 := ti_full (fv P9 289 6)
    have g232 := ti_full (fv P9 289 7)
    have u233 : 0 ≤ (0 : Int) ∧ (0 : Int) ≤ 1 ∧ (((0 : Int) = 1 ∧ CMD (chC Po) (fv Po 289 2).toInt (fv P9 289 2).toInt (fv P9 289 3).toInt (fv P9 289 4).toInt (fv P9 289 5).toInt (fv P9 289 6).toInt (fv P9 289 7).toInt) ∨ ((0 : Int) = 0 ∧ ¬ CMO (chC Po) (fv Po 289 2).toInt)) := ⟨by omega, by omega, Or.inr ⟨rfl, fun ⟨i1, l1, a1, b1, n1, s1, q1, q2⟩ => by rcases q2 with ⟨q2, _⟩ | ⟨q2, _⟩ | ⟨q2, _⟩ <;> omega⟩⟩
    have u235 : fv P9 289 1 = fv Po 289 1 := by rw [f12 289 1 (by omega)]
    have u236 : KI 289 290 Po P9 := by
      intro x j hx
      rw [f12 x j (by omega)]
    exact mp_iret ⟨⟨_, rfl, u233⟩, hT10, k14, ⟨u235, u236⟩⟩ dX4_takeCommand_226 (Or.inr ⟨rfl, by decide⟩)
  · refine mp_t (s_tabIn (t := 225) (off := 213) dX4_takeCommand_12 (by omega) (by rw [c18]; rfl) (by decide)) ?_
    refine mp_a (a_iconst (v := 0) dX4_takeCommand_225 rfl) (mpp 226 rfl ?_)
    have e237 : (fv P9 289 2).toInt = (fv Po 289 2).toInt := congrArg Int32.toInt (f12 289 2 (ne_k rfl))
    have g238 := ti_full (fv P9 289 4)
    have g239 := ti_full (fv P9 289 5)
    have g240 := ti_full (fv P9 289 6)
    have g241 := ti_full (fv P9 289 7)
    have u242 : 0 ≤ (0 : Int) ∧ (0 : Int) ≤ 1 ∧ (((0 : Int) = 1 ∧ CMD (chC Po) (fv Po 289 2).toInt (fv P9 289 2).toInt (fv P9 289 3).toInt (fv P9 289 4).toInt (fv P9 289 5).toInt (fv P9 289 6).toInt (fv P9 289 7).toInt) ∨ ((0 : Int) = 0 ∧ ¬ CMO (chC Po) (fv Po 289 2).toInt)) := ⟨by omega, by omega, Or.inr ⟨rfl, fun ⟨i1, l1, a1, b1, n1, s1, q1, q2⟩ => by rcases q2 with ⟨q2, _⟩ | ⟨q2, _⟩ | ⟨q2, _⟩ <;> omega⟩⟩
    have u244 : fv P9 289 1 = fv Po 289 1 := by rw [f12 289 1 (by omega)]
    have u245 : KI 289 290 Po P9 := by
      intro x j hx
      rw [f12 x j (by omega)]
    exact mp_iret ⟨⟨_, rfl, u242⟩, hT10, k14, ⟨u244, u245⟩⟩ dX4_takeCommand_226 (Or.inr ⟨rfl, by decide⟩)
  · refine mp_t (s_tabIn (t := 225) (off := 213) dX4_takeCommand_12 (by omega) (by rw [c18]; rfl) (by decide)) ?_
    refine mp_a (a_iconst (v := 0) dX4_takeCommand_225 rfl) (mpp 226 rfl ?_)
    have e246 : (fv P9 289 2).toInt = (fv Po 289 2).toInt := congrArg Int32.toInt (f12 289 2 (ne_k rfl))
    have g247 := ti_full (fv P9 289 4)
    have g248 := ti_full (fv P9 289 5)
    have g249 := ti_full (fv P9 289 6)
    have g250 := ti_full (fv P9 289 7)
    have u251 : 0 ≤ (0 : Int) ∧ (0 : Int) ≤ 1 ∧ (((0 : Int) = 1 ∧ CMD (chC Po) (fv Po 289 2).toInt (fv P9 289 2).toInt (fv P9 289 3).toInt (fv P9 289 4).toInt (fv P9 289 5).toInt (fv P9 289 6).toInt (fv P9 289 7).toInt) ∨ ((0 : Int) = 0 ∧ ¬ CMO (chC Po) (fv Po 289 2).toInt)) := ⟨by omega, by omega, Or.inr ⟨rfl, fun ⟨i1, l1, a1, b1, n1, s1, q1, q2⟩ => by rcases q2 with ⟨q2, _⟩ | ⟨q2, _⟩ | ⟨q2, _⟩ <;> omega⟩⟩
    have u253 : fv P9 289 1 = fv Po 289 1 := by rw [f12 289 1 (by omega)]
    have u254 : KI 289 290 Po P9 := by
      intro x j hx
      rw [f12 x j (by omega)]
    exact mp_iret ⟨⟨_, rfl, u251⟩, hT10, k14, ⟨u253, u254⟩⟩ dX4_takeCommand_226 (Or.inr ⟨rfl, by decide⟩)
  · refine mp_t (s_tabIn (t := 155) (off := 143) dX4_takeCommand_12 (by omega) (by rw [c18]; rfl) (by decide)) ?_
    have q255 : (0 : Int) ≤ (fv Po 289 1).toInt ∧ (fv Po 289 1).toInt ≤ 80 := Typ.rng hT rl_289 (by decide) (by decide) rfl
    have e256 : (fv P9 289 2).toInt = (fv Po 289 2).toInt := congrArg Int32.toInt (f12 289 2 (by omega))
    have q257 := ch_lt (t := fun j => fv Po 290 j) (L := (fv Po 289 1).toInt) (i := (fv Po 289 2).toInt) (show ¬ (chC Po (fv Po 289 2).toInt).toInt = -1 from by omega)
    refine mp_a (a_aload_n dX4_takeCommand_155 rfl) (mpp 156 rfl ?_)
    refine mp_t (s_dup dX4_takeCommand_156 rfl) (mpp 157 rfl ?_)
    have e258 : (fv P9 289 2).toInt = (fv Po 289 2).toInt := congrArg Int32.toInt (f12 289 2 (ne_k rfl))
    refine mt_getI (i := 23) (k := 2) hT10 dX4_takeCommand_157 rfl rl_289 (by decide) rfl (by decide) rfl (fun g259 g260 => mpp 160 rfl ?_)
    refine mp_a (a_iconst (v := 1) dX4_takeCommand_160 rfl) (mpp 161 rfl ?_)
    obtain ⟨z261, h262⟩ := ti_ex ((fv P9 289 2) + 1 : Int32)
    have wz261 := ti_full z261
    refine mp_t (s_iadd (v := z261) dX4_takeCommand_161 h262) (mpp 162 rfl ?_)
    try have e263 : z261.toInt = (fv P9 289 2).toInt + 1 := ti_addz h262 rfl rfl (by omega) (by omega)
    refine mt_putI (i := 23) (k := 2) (x := z261) hT10 dX4_takeCommand_162 rfl rl_289 (by decide) rfl (by decide) rfl (ti_full z261) rfl rfl (fun P264 hT265 f266 f267 f268 => mpp 165 rfl ?_)
    have k269 : KW [514, 515, 516, 517, 518, 519] Po P264 := KW.step k14 rl_289 rfl f267 f268
    have e270 : (fv P264 289 2).toInt = z261.toInt := congrArg Int32.toInt f266
    refine mp_a (a_aload_n dX4_takeCommand_165 rfl) (mpp 166 rfl ?_)
    have p271 : 0 ≤ (fv P264 289 2).toInt := by omega
    refine mt_callv (i := 50) (q' := q_103) (As := []) (rest := []) hT265 dX4_takeCommand_166 rfl qm_103 (by decide) rfl rl_289 (by decide) rfl (Nat.le_of_ble_eq_true rfl) rfl ⟨rfl, rfl⟩ ⟨Nat.le_of_ble_eq_true rfl, Nat.le_of_ble_eq_true rfl⟩ (EvP.mono (by decide) (c_CS_takePiece_Script hT265 (KW.xr k269 hX) p271 )) (fun r272 P273 g274 => mpp 169 rfl ?_)
    obtain ⟨⟨x275, rfl, g276⟩, hT277, k278, R279⟩ := g274
    have k280 : KW [514, 515, 516, 517, 518, 519] Po P273 := KW.trans k269 k278 rfl
    have wx275 := ti_full x275
    replace g276 : 0 ≤ x275.toInt ∧ x275.toInt ≤ 1 ∧ ((x275.toInt = 1 ∧ (48 ≤ (chC P264 (fv P264 289 2).toInt).toInt ∧ (chC P264 (fv P264 289 2).toInt).toInt ≤ 57) ∧ (fv P273 289 2).toInt = (fv P264 289 2).toInt + 1 ∧ (fv P273 289 4).toInt = (chC P264 (fv P264 289 2).toInt).toInt - 48) ∨ (x275.toInt = 0 ∧ ¬ (48 ≤ (chC P264 (fv P264 289 2).toInt).toInt ∧ (chC P264 (fv P264 289 2).toInt).toInt ≤ 57))) := g276
    have g282 := ti_full (fv P273 289 2)
    show MEvP _ none q_97 169 [(0, .ref 289)] [.int x275] _ _ _ _
    refine mp_Tb (t := 208) (j_if_eq dX4_takeCommand_169) (by decide) (fun c283 => ?_) (fun c283 => mpp 172 rfl ?_)
    · have c283 : x275.toInt = 0 := ti_eq c283
      refine mp_a (a_iconst (v := 0) dX4_takeCommand_208 rfl) (mpp 209 rfl ?_)
      have e284 : (fv P273 289 3).toInt = (fv P9 289 3).toInt := congrArg Int32.toInt ((KW.at k278 3 rl_289 rfl).trans (f267 289 3 (ne_k rfl)))
      have g285 := ti_full (fv P273 289 4)
      have g286 := ti_full (fv P273 289 5)
      have g287 := ti_full (fv P273 289 6)
      have g288 := ti_full (fv P273 289 7)
      have t291_ : chC P264 = chC Po := chC_eq (fun j => by rw [f267 290 j (by omega), f12 290 j (by omega)]) (by rw [f267 289 1 (by omega), f12 289 1 (by omega)])
      have y292_ := g276
      rw [t291_] at y292_
      have e293 : (fv P9 289 2).toInt = (fv Po 289 2).toInt := congrArg Int32.toInt (f12 289 2 (by omega))
      rw [show (fv P264 289 2).toInt = (fv Po 289 2).toInt + 1 from by omega] at y292_
      have u289 : 0 ≤ (0 : Int) ∧ (0 : Int) ≤ 1 ∧ (((0 : Int) = 1 ∧ CMD (chC Po) (fv Po 289 2).toInt (fv P273 289 2).toInt (fv P273 289 3).toInt (fv P273 289 4).toInt (fv P273 289 5).toInt (fv P273 289 6).toInt (fv P273 289 7).toInt) ∨ ((0 : Int) = 0 ∧ ¬ CMO (chC Po) (fv Po 289 2).toInt)) := ⟨by omega, by omega, Or.inr ⟨rfl, fun ⟨i1, l1, a1, b1, n1, s1, q1, q2⟩ => by
          rcases q2 with ⟨q2, _⟩ | ⟨q2, q3, q4, q5, q6, q7, q8⟩ | ⟨q2, q3, q8⟩
          · omega
          · omega
          · omega⟩⟩
      have u294 : fv P273 289 1 = fv Po 289 1 := by rw [R279.1, f267 289 1 (by omega), f12 289 1 (by omega)]
      have u295 : KI 289 290 Po P273 := by
        intro x j hx
        rw [R279.2.2.2.2.2 x j (by omega), f267 x j (by omega), f12 x j (by omega)]
      exact mp_iret ⟨⟨_, rfl, u289⟩, hT277, k280, ⟨u294, u295⟩⟩ dX4_takeCommand_209 (Or.inr ⟨rfl, by decide⟩)
    · have c283 : x275.toInt ≠ 0 := ti_eq_n c283
      refine mp_a (a_aload_n dX4_takeCommand_172 rfl) (mpp 173 rfl ?_)
      refine mp_a (a_bipush (v := 46) dX4_takeCommand_173 rfl) (mpp 175 rfl ?_)
      have p296 : 0 ≤ (fv P273 289 2).toInt := by omega
      have p297 : 1 ≤ (46 : Int) := by omega
      refine mt_callv (i := 33) (q' := q_100) (As := [.int 46]) (rest := []) hT277 dX4_takeCommand_175 rfl qm_100 (by decide) rfl rl_289 (by decide) rfl (Nat.le_of_ble_eq_true rfl) rfl ⟨rfl, rfl⟩ ⟨Nat.le_of_ble_eq_true rfl, Nat.le_of_ble_eq_true rfl⟩ (EvP.mono (by decide) (c_CS_takeSign_Script hT277 (KW.xr k280 hX) p296 p297 )) (fun r298 P299 g300 => mpp 178 rfl ?_)
      obtain ⟨⟨x301, rfl, g302⟩, hT303, k304, R305⟩ := g300
      have k306 : KW [514, 515, 516, 517, 518, 519] Po P299 := KW.trans k280 k304 rfl
      have wx301 := ti_full x301
      replace g302 : 0 ≤ x301.toInt ∧ x301.toInt ≤ 1 ∧ ((x301.toInt = 1 ∧ (chC P273 (fv P273 289 2).toInt).toInt = (46 : Int) ∧ (fv P299 289 2).toInt = (fv P273 289 2).toInt + 1) ∨ (x301.toInt = 0 ∧ ¬ (chC P273 (fv P273 289 2).toInt).toInt = (46 : Int) ∧ (fv P299 289 2).toInt = (fv P273 289 2).toInt)) := g302
      have g308 := ti_full (fv P299 289 2)
      have g309 := ti_full (fv P299 289 2)
      show MEvP _ none q_97 178 [(0, .ref 289)] [.int x301] _ _ _ _
      refine mp_Tb (t := 208) (j_if_eq dX4_takeCommand_178) (by decide) (fun c310 => ?_) (fun c310 => mpp 181 rfl ?_)
      · have c310 : x301.toInt = 0 := ti_eq c310
        refine mp_a (a_iconst (v := 0) dX4_takeCommand_208 rfl) (mpp 209 rfl ?_)
        have e311 : (fv P299 289 3).toInt = (fv P9 289 3).toInt := congrArg Int32.toInt ((KW.at k304 3 rl_289 rfl).trans ((KW.at k278 3 rl_289 rfl).trans (f267 289 3 (ne_k rfl))))
        have g312 := ti_full (fv P299 289 4)
        have g313 := ti_full (fv P299 289 5)
        have g314 := ti_full (fv P299 289 6)
        have g315 := ti_full (fv P299 289 7)
        have t318_ : chC P264 = chC Po := chC_eq (fun j => by rw [f267 290 j (by omega), f12 290 j (by omega)]) (by rw [f267 289 1 (by omega), f12 289 1 (by omega)])
        have y319_ := g276
        rw [t318_] at y319_
        have t320_ : chC P273 = chC Po := chC_eq (fun j => by rw [R279.2.2.2.2.2 290 j (by omega), f267 290 j (by omega), f12 290 j (by omega)]) (by rw [R279.1, f267 289 1 (by omega), f12 289 1 (by omega)])
        have y321_ := g302
        rw [t320_] at y321_
        have e322 : (fv P9 289 2).toInt = (fv Po 289 2).toInt := congrArg Int32.toInt (f12 289 2 (by omega))
        rw [show (fv P264 289 2).toInt = (fv Po 289 2).toInt + 1 from by omega] at y319_
        rw [show (fv P273 289 2).toInt = (fv Po 289 2).toInt + 2 from by omega] at y321_
        have u316 : 0 ≤ (0 : Int) ∧ (0 : Int) ≤ 1 ∧ (((0 : Int) = 1 ∧ CMD (chC Po) (fv Po 289 2).toInt (fv P299 289 2).toInt (fv P299 289 3).toInt (fv P299 289 4).toInt (fv P299 289 5).toInt (fv P299 289 6).toInt (fv P299 289 7).toInt) ∨ ((0 : Int) = 0 ∧ ¬ CMO (chC Po) (fv Po 289 2).toInt)) := ⟨by omega, by omega, Or.inr ⟨rfl, fun ⟨i1, l1, a1, b1, n1, s1, q1, q2⟩ => by
            rcases q2 with ⟨q2, _⟩ | ⟨q2, q3, q4, q5, q6, q7, q8⟩ | ⟨q2, q3, q8⟩
            · omega
            · omega
            · omega⟩⟩
        have u323 : fv P299 289 1 = fv Po 289 1 := by rw [R305.1, R279.1, f267 289 1 (by omega), f12 289 1 (by omega)]
        have u324 : KI 289 290 Po P299 := by
          intro x j hx
          rw [R305.2.2.2.2.2.2 x j (by omega), R279.2.2.2.2.2 x j (by omega), f267 x j (by omega), f12 x j (by omega)]
        exact mp_iret ⟨⟨_, rfl, u316⟩, hT303, k306, ⟨u323, u324⟩⟩ dX4_takeCommand_209 (Or.inr ⟨rfl, by decide⟩)
      · have c310 : x301.toInt ≠ 0 := ti_eq_n c310
        refine mp_a (a_aload_n dX4_takeCommand_181 rfl) (mpp 182 rfl ?_)
        have p325 : 0 ≤ (fv P299 289 2).toInt := by omega
        refine mt_callv (i := 53) (q' := q_105) (As := []) (rest := []) hT303 dX4_takeCommand_182 rfl qm_105 (by decide) rfl rl_289 (by decide) rfl (Nat.le_of_ble_eq_true rfl) rfl ⟨rfl, rfl⟩ ⟨Nat.le_of_ble_eq_true rfl, Nat.le_of_ble_eq_true rfl⟩ (EvP.mono (by decide) (c_CS_takeCrease_Script hT303 (KW.xr k306 hX) p325 )) (fun r326 P327 g328 => mpp 185 rfl ?_)
        obtain ⟨⟨x329, rfl, g330⟩, hT331, k332, R333⟩ := g328
        have k334 : KW [514, 515, 516, 517, 518, 519] Po P327 := KW.trans k306 k332 rfl
        have wx329 := ti_full x329
        replace g330 : 0 ≤ x329.toInt ∧ x329.toInt ≤ 1 ∧ ((x329.toInt = 1 ∧ (48 ≤ (chC P299 (fv P299 289 2).toInt).toInt ∧ (chC P299 (fv P299 289 2).toInt).toInt ≤ 57) ∧ (fv P327 289 2).toInt = (fv P299 289 2).toInt + 1 ∧ (fv P327 289 5).toInt = (chC P299 (fv P299 289 2).toInt).toInt - 48) ∨ (x329.toInt = 0 ∧ ¬ (48 ≤ (chC P299 (fv P299 289 2).toInt).toInt ∧ (chC P299 (fv P299 289 2).toInt).toInt ≤ 57))) := g330
        have g336 := ti_full (fv P327 289 2)
        show MEvP _ none q_97 185 [(0, .ref 289)] [.int x329] _ _ _ _
        refine mp_Tb (t := 208) (j_if_eq dX4_takeCommand_185) (by decide) (fun c337 => ?_) (fun c337 => mpp 188 rfl ?_)
        · have c337 : x329.toInt = 0 := ti_eq c337
          refine mp_a (a_iconst (v := 0) dX4_takeCommand_208 rfl) (mpp 209 rfl ?_)
          have e338 : (fv P327 289 3).toInt = (fv P9 289 3).toInt := congrArg Int32.toInt ((KW.at k332 3 rl_289 rfl).trans ((KW.at k304 3 rl_289 rfl).trans ((KW.at k278 3 rl_289 rfl).trans (f267 289 3 (ne_k rfl)))))
          have g339 := ti_full (fv P327 289 4)
          have g340 := ti_full (fv P327 289 5)
          have g341 := ti_full (fv P327 289 6)
          have g342 := ti_full (fv P327 289 7)
          have t345_ : chC P264 = chC Po := chC_eq (fun j => by rw [f267 290 j (by omega), f12 290 j (by omega)]) (by rw [f267 289 1 (by omega), f12 289 1 (by omega)])
          have y346_ := g276
          rw [t345_] at y346_
          have t347_ : chC P273 = chC Po := chC_eq (fun j => by rw [R279.2.2.2.2.2 290 j (by omega), f267 290 j (by omega), f12 290 j (by omega)]) (by rw [R279.1, f267 289 1 (by omega), f12 289 1 (by omega)])
          have y348_ := g302
          rw [t347_] at y348_
          have t349_ : chC P299 = chC Po := chC_eq (fun j => by rw [R305.2.2.2.2.2.2 290 j (by omega), R279.2.2.2.2.2 290 j (by omega), f267 290 j (by omega), f12 290 j (by omega)]) (by rw [R305.1, R279.1, f267 289 1 (by omega), f12 289 1 (by omega)])
          have y350_ := g330
          rw [t349_] at y350_
          have e351 : (fv P9 289 2).toInt = (fv Po 289 2).toInt := congrArg Int32.toInt (f12 289 2 (by omega))
          rw [show (fv P264 289 2).toInt = (fv Po 289 2).toInt + 1 from by omega] at y346_
          rw [show (fv P273 289 2).toInt = (fv Po 289 2).toInt + 2 from by omega] at y348_
          rw [show (fv P299 289 2).toInt = (fv Po 289 2).toInt + 3 from by omega] at y350_
          have u343 : 0 ≤ (0 : Int) ∧ (0 : Int) ≤ 1 ∧ (((0 : Int) = 1 ∧ CMD (chC Po) (fv Po 289 2).toInt (fv P327 289 2).toInt (fv P327 289 3).toInt (fv P327 289 4).toInt (fv P327 289 5).toInt (fv P327 289 6).toInt (fv P327 289 7).toInt) ∨ ((0 : Int) = 0 ∧ ¬ CMO (chC Po) (fv Po 289 2).toInt)) := ⟨by omega, by omega, Or.inr ⟨rfl, fun ⟨i1, l1, a1, b1, n1, s1, q1, q2⟩ => by
              rcases q2 with ⟨q2, _⟩ | ⟨q2, q3, q4, q5, q6, q7, q8⟩ | ⟨q2, q3, q8⟩
              · omega
              · omega
              · omega⟩⟩
          have u352 : fv P327 289 1 = fv Po 289 1 := by rw [R333.1, R305.1, R279.1, f267 289 1 (by omega), f12 289 1 (by omega)]
          have u353 : KI 289 290 Po P327 := by
            intro x j hx
            rw [R333.2.2.2.2.2 x j (by omega), R305.2.2.2.2.2.2 x j (by omega), R279.2.2.2.2.2 x j (by omega), f267 x j (by omega), f12 x j (by omega)]
          exact mp_iret ⟨⟨_, rfl, u343⟩, hT331, k334, ⟨u352, u353⟩⟩ dX4_takeCommand_209 (Or.inr ⟨rfl, by decide⟩)
        · have c337 : x329.toInt ≠ 0 := ti_eq_n c337
          refine mp_a (a_aload_n dX4_takeCommand_188 rfl) (mpp 189 rfl ?_)
          refine mp_a (a_bipush (v := 61) dX4_takeCommand_189 rfl) (mpp 191 rfl ?_)
          have p354 : 0 ≤ (fv P327 289 2).toInt := by omega
          have p355 : 1 ≤ (61 : Int) := by omega
          refine mt_callv (i := 33) (q' := q_100) (As := [.int 61]) (rest := []) hT331 dX4_takeCommand_191 rfl qm_100 (by decide) rfl rl_289 (by decide) rfl (Nat.le_of_ble_eq_true rfl) rfl ⟨rfl, rfl⟩ ⟨Nat.le_of_ble_eq_true rfl, Nat.le_of_ble_eq_true rfl⟩ (EvP.mono (by decide) (c_CS_takeSign_Script hT331 (KW.xr k334 hX) p354 p355 )) (fun r356 P357 g358 => mpp 194 rfl ?_)
          obtain ⟨⟨x359, rfl, g360⟩, hT361, k362, R363⟩ := g358
          have k364 : KW [514, 515, 516, 517, 518, 519] Po P357 := KW.trans k334 k362 rfl
          have wx359 := ti_full x359
          replace g360 : 0 ≤ x359.toInt ∧ x359.toInt ≤ 1 ∧ ((x359.toInt = 1 ∧ (chC P327 (fv P327 289 2).toInt).toInt = (61 : Int) ∧ (fv P357 289 2).toInt = (fv P327 289 2).toInt + 1) ∨ (x359.toInt = 0 ∧ ¬ (chC P327 (fv P327 289 2).toInt).toInt = (61 : Int) ∧ (fv P357 289 2).toInt = (fv P327 289 2).toInt)) := g360
          have g366 := ti_full (fv P357 289 2)
          have g367 := ti_full (fv P357 289 2)
          show MEvP _ none q_97 194 [(0, .ref 289)] [.int x359] _ _ _ _
          refine mp_Tb (t := 208) (j_if_eq dX4_takeCommand_194) (by decide) (fun c368 => ?_) (fun c368 => mpp 197 rfl ?_)
          · have c368 : x359.toInt = 0 := ti_eq c368
            refine mp_a (a_iconst (v := 0) dX4_takeCommand_208 rfl) (mpp 209 rfl ?_)
            have e369 : (fv P357 289 3).toInt = (fv P9 289 3).toInt := congrArg Int32.toInt ((KW.at k362 3 rl_289 rfl).trans ((KW.at k332 3 rl_289 rfl).trans ((KW.at k304 3 rl_289 rfl).trans ((KW.at k278 3 rl_289 rfl).trans (f267 289 3 (ne_k rfl))))))
            have g370 := ti_full (fv P357 289 4)
            have g371 := ti_full (fv P357 289 5)
            have g372 := ti_full (fv P357 289 6)
            have g373 := ti_full (fv P357 289 7)
            have t376_ : chC P264 = chC Po := chC_eq (fun j => by rw [f267 290 j (by omega), f12 290 j (by omega)]) (by rw [f267 289 1 (by omega), f12 289 1 (by omega)])
            have y377_ := g276
            rw [t376_] at y377_
            have t378_ : chC P273 = chC Po := chC_eq (fun j => by rw [R279.2.2.2.2.2 290 j (by omega), f267 290 j (by omega), f12 290 j (by omega)]) (by rw [R279.1, f267 289 1 (by omega), f12 289 1 (by omega)])
            have y379_ := g302
            rw [t378_] at y379_
            have t380_ : chC P299 = chC Po := chC_eq (fun j => by rw [R305.2.2.2.2.2.2 290 j (by omega), R279.2.2.2.2.2 290 j (by omega), f267 290 j (by omega), f12 290 j (by omega)]) (by rw [R305.1, R279.1, f267 289 1 (by omega), f12 289 1 (by omega)])
            have y381_ := g330
            rw [t380_] at y381_
            have t382_ : chC P327 = chC Po := chC_eq (fun j => by rw [R333.2.2.2.2.2 290 j (by omega), R305.2.2.2.2.2.2 290 j (by omega), R279.2.2.2.2.2 290 j (by omega), f267 290 j (by omega), f12 290 j (by omega)]) (by rw [R333.1, R305.1, R279.1, f267 289 1 (by omega), f12 289 1 (by omega)])
            have y383_ := g360
            rw [t382_] at y383_
            have e384 : (fv P9 289 2).toInt = (fv Po 289 2).toInt := congrArg Int32.toInt (f12 289 2 (by omega))
            rw [show (fv P264 289 2).toInt = (fv Po 289 2).toInt + 1 from by omega] at y377_
            rw [show (fv P273 289 2).toInt = (fv Po 289 2).toInt + 2 from by omega] at y379_
            rw [show (fv P299 289 2).toInt = (fv Po 289 2).toInt + 3 from by omega] at y381_
            rw [show (fv P327 289 2).toInt = (fv Po 289 2).toInt + 4 from by omega] at y383_
            have u374 : 0 ≤ (0 : Int) ∧ (0 : Int) ≤ 1 ∧ (((0 : Int) = 1 ∧ CMD (chC Po) (fv Po 289 2).toInt (fv P357 289 2).toInt (fv P357 289 3).toInt (fv P357 289 4).toInt (fv P357 289 5).toInt (fv P357 289 6).toInt (fv P357 289 7).toInt) ∨ ((0 : Int) = 0 ∧ ¬ CMO (chC Po) (fv Po 289 2).toInt)) := ⟨by omega, by omega, Or.inr ⟨rfl, fun ⟨i1, l1, a1, b1, n1, s1, q1, q2⟩ => by
                rcases q2 with ⟨q2, _⟩ | ⟨q2, q3, q4, q5, q6, q7, q8⟩ | ⟨q2, q3, q8⟩
                · omega
                · omega
                · omega⟩⟩
            have u385 : fv P357 289 1 = fv Po 289 1 := by rw [R363.1, R333.1, R305.1, R279.1, f267 289 1 (by omega), f12 289 1 (by omega)]
            have u386 : KI 289 290 Po P357 := by
              intro x j hx
              rw [R363.2.2.2.2.2.2 x j (by omega), R333.2.2.2.2.2 x j (by omega), R305.2.2.2.2.2.2 x j (by omega), R279.2.2.2.2.2 x j (by omega), f267 x j (by omega), f12 x j (by omega)]
            exact mp_iret ⟨⟨_, rfl, u374⟩, hT361, k364, ⟨u385, u386⟩⟩ dX4_takeCommand_209 (Or.inr ⟨rfl, by decide⟩)
          · have c368 : x359.toInt ≠ 0 := ti_eq_n c368
            refine mp_a (a_aload_n dX4_takeCommand_197 rfl) (mpp 198 rfl ?_)
            have p387 : 0 ≤ (fv P357 289 2).toInt := by omega
            refine mt_callv (i := 56) (q' := q_102) (As := []) (rest := []) hT361 dX4_takeCommand_198 rfl qm_102 (by decide) rfl rl_289 (by decide) rfl (Nat.le_of_ble_eq_true rfl) rfl ⟨rfl, rfl⟩ ⟨Nat.le_of_ble_eq_true rfl, Nat.le_of_ble_eq_true rfl⟩ (EvP.mono (by decide) (c_CS_takeKind_Script hT361 (KW.xr k364 hX) p387 )) (fun r388 P389 g390 => mpp 201 rfl ?_)
            obtain ⟨⟨x391, rfl, g392⟩, hT393, k394, R395⟩ := g390
            have k396 : KW [514, 515, 516, 517, 518, 519] Po P389 := KW.trans k364 k394 rfl
            have wx391 := ti_full x391
            replace g392 : 0 ≤ x391.toInt ∧ x391.toInt ≤ 1 ∧ ((x391.toInt = 1 ∧ ((chC P357 (fv P357 289 2).toInt).toInt = 111 ∨ (chC P357 (fv P357 289 2).toInt).toInt = 109 ∨ (chC P357 (fv P357 289 2).toInt).toInt = 118) ∧ (fv P389 289 2).toInt = (fv P357 289 2).toInt + 1 ∧ (fv P389 289 7).toInt = (kn (chC P357 (fv P357 289 2).toInt).toInt).toInt) ∨ (x391.toInt = 0 ∧ ¬ ((chC P357 (fv P357 289 2).toInt).toInt = 111 ∨ (chC P357 (fv P357 289 2).toInt).toInt = 109 ∨ (chC P357 (fv P357 289 2).toInt).toInt = 118) ∧ (fv P389 289 2).toInt = (fv P357 289 2).toInt ∧ fv P389 289 7 = fv P357 289 7)) := g392
            have g398 := ti_full (fv P389 289 2)
            have g399 := ti_full (fv P389 289 2)
            show MEvP _ none q_97 201 [(0, .ref 289)] [.int x391] _ _ _ _
            refine mp_Tb (t := 208) (j_if_eq dX4_takeCommand_201) (by decide) (fun c400 => ?_) (fun c400 => mpp 204 rfl ?_)
            · have c400 : x391.toInt = 0 := ti_eq c400
              refine mp_a (a_iconst (v := 0) dX4_takeCommand_208 rfl) (mpp 209 rfl ?_)
              have e401 : (fv P389 289 3).toInt = (fv P9 289 3).toInt := congrArg Int32.toInt ((KW.at k394 3 rl_289 rfl).trans ((KW.at k362 3 rl_289 rfl).trans ((KW.at k332 3 rl_289 rfl).trans ((KW.at k304 3 rl_289 rfl).trans ((KW.at k278 3 rl_289 rfl).trans (f267 289 3 (ne_k rfl)))))))
              have g402 := ti_full (fv P389 289 4)
              have g403 := ti_full (fv P389 289 5)
              have g404 := ti_full (fv P389 289 6)
              have g405 := ti_full (fv P389 289 7)
              have t408_ : chC P264 = chC Po := chC_eq (fun j => by rw [f267 290 j (by omega), f12 290 j (by omega)]) (by rw [f267 289 1 (by omega), f12 289 1 (by omega)])
              have y409_ := g276
              rw [t408_] at y409_
              have t410_ : chC P273 = chC Po := chC_eq (fun j => by rw [R279.2.2.2.2.2 290 j (by omega), f267 290 j (by omega), f12 290 j (by omega)]) (by rw [R279.1, f267 289 1 (by omega), f12 289 1 (by omega)])
              have y411_ := g302
              rw [t410_] at y411_
              have t412_ : chC P299 = chC Po := chC_eq (fun j => by rw [R305.2.2.2.2.2.2 290 j (by omega), R279.2.2.2.2.2 290 j (by omega), f267 290 j (by omega), f12 290 j (by omega)]) (by rw [R305.1, R279.1, f267 289 1 (by omega), f12 289 1 (by omega)])
              have y413_ := g330
              rw [t412_] at y413_
              have t414_ : chC P327 = chC Po := chC_eq (fun j => by rw [R333.2.2.2.2.2 290 j (by omega), R305.2.2.2.2.2.2 290 j (by omega), R279.2.2.2.2.2 290 j (by omega), f267 290 j (by omega), f12 290 j (by omega)]) (by rw [R333.1, R305.1, R279.1, f267 289 1 (by omega), f12 289 1 (by omega)])
              have y415_ := g360
              rw [t414_] at y415_
              have t416_ : chC P357 = chC Po := chC_eq (fun j => by rw [R363.2.2.2.2.2.2 290 j (by omega), R333.2.2.2.2.2 290 j (by omega), R305.2.2.2.2.2.2 290 j (by omega), R279.2.2.2.2.2 290 j (by omega), f267 290 j (by omega), f12 290 j (by omega)]) (by rw [R363.1, R333.1, R305.1, R279.1, f267 289 1 (by omega), f12 289 1 (by omega)])
              have y417_ := g392
              rw [t416_] at y417_
              have e418 : (fv P9 289 2).toInt = (fv Po 289 2).toInt := congrArg Int32.toInt (f12 289 2 (by omega))
              rw [show (fv P264 289 2).toInt = (fv Po 289 2).toInt + 1 from by omega] at y409_
              rw [show (fv P273 289 2).toInt = (fv Po 289 2).toInt + 2 from by omega] at y411_
              rw [show (fv P299 289 2).toInt = (fv Po 289 2).toInt + 3 from by omega] at y413_
              rw [show (fv P327 289 2).toInt = (fv Po 289 2).toInt + 4 from by omega] at y415_
              rw [show (fv P357 289 2).toInt = (fv Po 289 2).toInt + 5 from by omega] at y417_
              have u406 : 0 ≤ (0 : Int) ∧ (0 : Int) ≤ 1 ∧ (((0 : Int) = 1 ∧ CMD (chC Po) (fv Po 289 2).toInt (fv P389 289 2).toInt (fv P389 289 3).toInt (fv P389 289 4).toInt (fv P389 289 5).toInt (fv P389 289 6).toInt (fv P389 289 7).toInt) ∨ ((0 : Int) = 0 ∧ ¬ CMO (chC Po) (fv Po 289 2).toInt)) := ⟨by omega, by omega, Or.inr ⟨rfl, fun ⟨i1, l1, a1, b1, n1, s1, q1, q2⟩ => by
                  rcases q2 with ⟨q2, _⟩ | ⟨q2, q3, q4, q5, q6, q7, q8⟩ | ⟨q2, q3, q8⟩
                  · omega
                  · omega
                  · omega⟩⟩
              have u419 : fv P389 289 1 = fv Po 289 1 := by rw [R395.1, R363.1, R333.1, R305.1, R279.1, f267 289 1 (by omega), f12 289 1 (by omega)]
              have u420 : KI 289 290 Po P389 := by
                intro x j hx
                rw [R395.2.2.2.2.2 x j (by omega), R363.2.2.2.2.2.2 x j (by omega), R333.2.2.2.2.2 x j (by omega), R305.2.2.2.2.2.2 x j (by omega), R279.2.2.2.2.2 x j (by omega), f267 x j (by omega), f12 x j (by omega)]
              exact mp_iret ⟨⟨_, rfl, u406⟩, hT393, k396, ⟨u419, u420⟩⟩ dX4_takeCommand_209 (Or.inr ⟨rfl, by decide⟩)
            · have c400 : x391.toInt ≠ 0 := ti_eq_n c400
              refine mp_a (a_iconst (v := 1) dX4_takeCommand_204 rfl) (mpp 205 rfl ?_)
              refine mp_a (a_goto (t := 209) dX4_takeCommand_205 (by decide)) ?_
              have e421 : (fv P389 289 3).toInt = (fv P9 289 3).toInt := congrArg Int32.toInt ((KW.at k394 3 rl_289 rfl).trans ((KW.at k362 3 rl_289 rfl).trans ((KW.at k332 3 rl_289 rfl).trans ((KW.at k304 3 rl_289 rfl).trans ((KW.at k278 3 rl_289 rfl).trans (f267 289 3 (ne_k rfl)))))))
              have g422 := ti_full (fv P389 289 4)
              have g423 := ti_full (fv P389 289 5)
              have g424 := ti_full (fv P389 289 6)
              have g425 := ti_full (fv P389 289 7)
              have t428_ : chC P264 = chC Po := chC_eq (fun j => by rw [f267 290 j (by omega), f12 290 j (by omega)]) (by rw [f267 289 1 (by omega), f12 289 1 (by omega)])
              have y429_ := g276
              rw [t428_] at y429_
              have t430_ : chC P273 = chC Po := chC_eq (fun j => by rw [R279.2.2.2.2.2 290 j (by omega), f267 290 j (by omega), f12 290 j (by omega)]) (by rw [R279.1, f267 289 1 (by omega), f12 289 1 (by omega)])
              have y431_ := g302
              rw [t430_] at y431_
              have t432_ : chC P299 = chC Po := chC_eq (fun j => by rw [R305.2.2.2.2.2.2 290 j (by omega), R279.2.2.2.2.2 290 j (by omega), f267 290 j (by omega), f12 290 j (by omega)]) (by rw [R305.1, R279.1, f267 289 1 (by omega), f12 289 1 (by omega)])
              have y433_ := g330
              rw [t432_] at y433_
              have t434_ : chC P327 = chC Po := chC_eq (fun j => by rw [R333.2.2.2.2.2 290 j (by omega), R305.2.2.2.2.2.2 290 j (by omega), R279.2.2.2.2.2 290 j (by omega), f267 290 j (by omega), f12 290 j (by omega)]) (by rw [R333.1, R305.1, R279.1, f267 289 1 (by omega), f12 289 1 (by omega)])
              have y435_ := g360
              rw [t434_] at y435_
              have t436_ : chC P357 = chC Po := chC_eq (fun j => by rw [R363.2.2.2.2.2.2 290 j (by omega), R333.2.2.2.2.2 290 j (by omega), R305.2.2.2.2.2.2 290 j (by omega), R279.2.2.2.2.2 290 j (by omega), f267 290 j (by omega), f12 290 j (by omega)]) (by rw [R363.1, R333.1, R305.1, R279.1, f267 289 1 (by omega), f12 289 1 (by omega)])
              have y437_ := g392
              rw [t436_] at y437_
              have e438 : (fv P9 289 2).toInt = (fv Po 289 2).toInt := congrArg Int32.toInt (f12 289 2 (by omega))
              rw [show (fv P264 289 2).toInt = (fv Po 289 2).toInt + 1 from by omega] at y429_
              rw [show (fv P273 289 2).toInt = (fv Po 289 2).toInt + 2 from by omega] at y431_
              rw [show (fv P299 289 2).toInt = (fv Po 289 2).toInt + 3 from by omega] at y433_
              rw [show (fv P327 289 2).toInt = (fv Po 289 2).toInt + 4 from by omega] at y435_
              rw [show (fv P357 289 2).toInt = (fv Po 289 2).toInt + 5 from by omega] at y437_
              have e439 : (fv P389 289 4).toInt = (fv P273 289 4).toInt := by rw [R395.2.2.1, R363.2.2.1, R333.2.2.1, R305.2.2.1]
              have e440 : (fv P389 289 5).toInt = (fv P327 289 5).toInt := by rw [R395.2.2.2.1, R363.2.2.2.1]
              have u426 : 0 ≤ (1 : Int) ∧ (1 : Int) ≤ 1 ∧ (((1 : Int) = 1 ∧ CMD (chC Po) (fv Po 289 2).toInt (fv P389 289 2).toInt (fv P389 289 3).toInt (fv P389 289 4).toInt (fv P389 289 5).toInt (fv P389 289 6).toInt (fv P389 289 7).toInt) ∨ ((1 : Int) = 0 ∧ ¬ CMO (chC Po) (fv Po 289 2).toInt)) := ⟨by omega, by omega, Or.inl ⟨rfl, (show (fv P389 289 3).toInt = (chC Po (fv Po 289 2).toInt).toInt from by rw [R395.2.1, R363.2.1, R333.2.1, R305.2.1, R279.2.1, f267 289 3 (by omega), f11]; omega), Or.inr (Or.inl ⟨by have e := (show (fv P389 289 3).toInt = (chC Po (fv Po 289 2).toInt).toInt from by rw [R395.2.1, R363.2.1, R333.2.1, R305.2.1, R279.2.1, f267 289 3 (by omega), f11]; omega); omega, ⟨by omega, by omega⟩, by omega, ⟨by omega, by omega⟩, by omega, by have q : ((chC Po ((fv Po 289 2).toInt + 5)).toInt = 111 ∨ (chC Po ((fv Po 289 2).toInt + 5)).toInt = 109 ∨ (chC Po ((fv Po 289 2).toInt + 5)).toInt = 118) := (by omega); exact q, by omega, by omega, by omega, by omega⟩)⟩⟩
              have u441 : fv P389 289 1 = fv Po 289 1 := by rw [R395.1, R363.1, R333.1, R305.1, R279.1, f267 289 1 (by omega), f12 289 1 (by omega)]
              have u442 : KI 289 290 Po P389 := by
                intro x j hx
                rw [R395.2.2.2.2.2 x j (by omega), R363.2.2.2.2.2.2 x j (by omega), R333.2.2.2.2.2 x j (by omega), R305.2.2.2.2.2.2 x j (by omega), R279.2.2.2.2.2 x j (by omega), f267 x j (by omega), f12 x j (by omega)]
              exact mp_iret ⟨⟨_, rfl, u426⟩, hT393, k396, ⟨u441, u442⟩⟩ dX4_takeCommand_209 (Or.inr ⟨rfl, by decide⟩)
  · refine mp_t (s_tabIn (t := 225) (off := 213) dX4_takeCommand_12 (by omega) (by rw [c18]; rfl) (by decide)) ?_
    refine mp_a (a_iconst (v := 0) dX4_takeCommand_225 rfl) (mpp 226 rfl ?_)
    have e443 : (fv P9 289 2).toInt = (fv Po 289 2).toInt := congrArg Int32.toInt (f12 289 2 (ne_k rfl))
    have g444 := ti_full (fv P9 289 4)
    have g445 := ti_full (fv P9 289 5)
    have g446 := ti_full (fv P9 289 6)
    have g447 := ti_full (fv P9 289 7)
    have u448 : 0 ≤ (0 : Int) ∧ (0 : Int) ≤ 1 ∧ (((0 : Int) = 1 ∧ CMD (chC Po) (fv Po 289 2).toInt (fv P9 289 2).toInt (fv P9 289 3).toInt (fv P9 289 4).toInt (fv P9 289 5).toInt (fv P9 289 6).toInt (fv P9 289 7).toInt) ∨ ((0 : Int) = 0 ∧ ¬ CMO (chC Po) (fv Po 289 2).toInt)) := ⟨by omega, by omega, Or.inr ⟨rfl, fun ⟨i1, l1, a1, b1, n1, s1, q1, q2⟩ => by rcases q2 with ⟨q2, _⟩ | ⟨q2, _⟩ | ⟨q2, _⟩ <;> omega⟩⟩
    have u450 : fv P9 289 1 = fv Po 289 1 := by rw [f12 289 1 (by omega)]
    have u451 : KI 289 290 Po P9 := by
      intro x j hx
      rw [f12 x j (by omega)]
    exact mp_iret ⟨⟨_, rfl, u448⟩, hT10, k14, ⟨u450, u451⟩⟩ dX4_takeCommand_226 (Or.inr ⟨rfl, by decide⟩)
  · refine mp_t (s_tabIn (t := 225) (off := 213) dX4_takeCommand_12 (by omega) (by rw [c18]; rfl) (by decide)) ?_
    refine mp_a (a_iconst (v := 0) dX4_takeCommand_225 rfl) (mpp 226 rfl ?_)
    have e452 : (fv P9 289 2).toInt = (fv Po 289 2).toInt := congrArg Int32.toInt (f12 289 2 (ne_k rfl))
    have g453 := ti_full (fv P9 289 4)
    have g454 := ti_full (fv P9 289 5)
    have g455 := ti_full (fv P9 289 6)
    have g456 := ti_full (fv P9 289 7)
    have u457 : 0 ≤ (0 : Int) ∧ (0 : Int) ≤ 1 ∧ (((0 : Int) = 1 ∧ CMD (chC Po) (fv Po 289 2).toInt (fv P9 289 2).toInt (fv P9 289 3).toInt (fv P9 289 4).toInt (fv P9 289 5).toInt (fv P9 289 6).toInt (fv P9 289 7).toInt) ∨ ((0 : Int) = 0 ∧ ¬ CMO (chC Po) (fv Po 289 2).toInt)) := ⟨by omega, by omega, Or.inr ⟨rfl, fun ⟨i1, l1, a1, b1, n1, s1, q1, q2⟩ => by rcases q2 with ⟨q2, _⟩ | ⟨q2, _⟩ | ⟨q2, _⟩ <;> omega⟩⟩
    have u459 : fv P9 289 1 = fv Po 289 1 := by rw [f12 289 1 (by omega)]
    have u460 : KI 289 290 Po P9 := by
      intro x j hx
      rw [f12 x j (by omega)]
    exact mp_iret ⟨⟨_, rfl, u457⟩, hT10, k14, ⟨u459, u460⟩⟩ dX4_takeCommand_226 (Or.inr ⟨rfl, by decide⟩)
  · refine mp_t (s_tabIn (t := 225) (off := 213) dX4_takeCommand_12 (by omega) (by rw [c18]; rfl) (by decide)) ?_
    refine mp_a (a_iconst (v := 0) dX4_takeCommand_225 rfl) (mpp 226 rfl ?_)
    have e461 : (fv P9 289 2).toInt = (fv Po 289 2).toInt := congrArg Int32.toInt (f12 289 2 (ne_k rfl))
    have g462 := ti_full (fv P9 289 4)
    have g463 := ti_full (fv P9 289 5)
    have g464 := ti_full (fv P9 289 6)
    have g465 := ti_full (fv P9 289 7)
    have u466 : 0 ≤ (0 : Int) ∧ (0 : Int) ≤ 1 ∧ (((0 : Int) = 1 ∧ CMD (chC Po) (fv Po 289 2).toInt (fv P9 289 2).toInt (fv P9 289 3).toInt (fv P9 289 4).toInt (fv P9 289 5).toInt (fv P9 289 6).toInt (fv P9 289 7).toInt) ∨ ((0 : Int) = 0 ∧ ¬ CMO (chC Po) (fv Po 289 2).toInt)) := ⟨by omega, by omega, Or.inr ⟨rfl, fun ⟨i1, l1, a1, b1, n1, s1, q1, q2⟩ => by rcases q2 with ⟨q2, _⟩ | ⟨q2, _⟩ | ⟨q2, _⟩ <;> omega⟩⟩
    have u468 : fv P9 289 1 = fv Po 289 1 := by rw [f12 289 1 (by omega)]
    have u469 : KI 289 290 Po P9 := by
      intro x j hx
      rw [f12 x j (by omega)]
    exact mp_iret ⟨⟨_, rfl, u466⟩, hT10, k14, ⟨u468, u469⟩⟩ dX4_takeCommand_226 (Or.inr ⟨rfl, by decide⟩)
  · refine mp_t (s_tabIn (t := 225) (off := 213) dX4_takeCommand_12 (by omega) (by rw [c18]; rfl) (by decide)) ?_
    refine mp_a (a_iconst (v := 0) dX4_takeCommand_225 rfl) (mpp 226 rfl ?_)
    have e470 : (fv P9 289 2).toInt = (fv Po 289 2).toInt := congrArg Int32.toInt (f12 289 2 (ne_k rfl))
    have g471 := ti_full (fv P9 289 4)
    have g472 := ti_full (fv P9 289 5)
    have g473 := ti_full (fv P9 289 6)
    have g474 := ti_full (fv P9 289 7)
    have u475 : 0 ≤ (0 : Int) ∧ (0 : Int) ≤ 1 ∧ (((0 : Int) = 1 ∧ CMD (chC Po) (fv Po 289 2).toInt (fv P9 289 2).toInt (fv P9 289 3).toInt (fv P9 289 4).toInt (fv P9 289 5).toInt (fv P9 289 6).toInt (fv P9 289 7).toInt) ∨ ((0 : Int) = 0 ∧ ¬ CMO (chC Po) (fv Po 289 2).toInt)) := ⟨by omega, by omega, Or.inr ⟨rfl, fun ⟨i1, l1, a1, b1, n1, s1, q1, q2⟩ => by rcases q2 with ⟨q2, _⟩ | ⟨q2, _⟩ | ⟨q2, _⟩ <;> omega⟩⟩
    have u477 : fv P9 289 1 = fv Po 289 1 := by rw [f12 289 1 (by omega)]
    have u478 : KI 289 290 Po P9 := by
      intro x j hx
      rw [f12 x j (by omega)]
    exact mp_iret ⟨⟨_, rfl, u475⟩, hT10, k14, ⟨u477, u478⟩⟩ dX4_takeCommand_226 (Or.inr ⟨rfl, by decide⟩)
  · refine mp_t (s_tabIn (t := 225) (off := 213) dX4_takeCommand_12 (by omega) (by rw [c18]; rfl) (by decide)) ?_
    refine mp_a (a_iconst (v := 0) dX4_takeCommand_225 rfl) (mpp 226 rfl ?_)
    have e479 : (fv P9 289 2).toInt = (fv Po 289 2).toInt := congrArg Int32.toInt (f12 289 2 (ne_k rfl))
    have g480 := ti_full (fv P9 289 4)
    have g481 := ti_full (fv P9 289 5)
    have g482 := ti_full (fv P9 289 6)
    have g483 := ti_full (fv P9 289 7)
    have u484 : 0 ≤ (0 : Int) ∧ (0 : Int) ≤ 1 ∧ (((0 : Int) = 1 ∧ CMD (chC Po) (fv Po 289 2).toInt (fv P9 289 2).toInt (fv P9 289 3).toInt (fv P9 289 4).toInt (fv P9 289 5).toInt (fv P9 289 6).toInt (fv P9 289 7).toInt) ∨ ((0 : Int) = 0 ∧ ¬ CMO (chC Po) (fv Po 289 2).toInt)) := ⟨by omega, by omega, Or.inr ⟨rfl, fun ⟨i1, l1, a1, b1, n1, s1, q1, q2⟩ => by rcases q2 with ⟨q2, _⟩ | ⟨q2, _⟩ | ⟨q2, _⟩ <;> omega⟩⟩
    have u486 : fv P9 289 1 = fv Po 289 1 := by rw [f12 289 1 (by omega)]
    have u487 : KI 289 290 Po P9 := by
      intro x j hx
      rw [f12 x j (by omega)]
    exact mp_iret ⟨⟨_, rfl, u484⟩, hT10, k14, ⟨u486, u487⟩⟩ dX4_takeCommand_226 (Or.inr ⟨rfl, by decide⟩)
  · refine mp_t (s_tabIn (t := 116) (off := 104) dX4_takeCommand_12 (by omega) (by rw [c18]; rfl) (by decide)) ?_
    have q488 : (0 : Int) ≤ (fv Po 289 1).toInt ∧ (fv Po 289 1).toInt ≤ 80 := Typ.rng hT rl_289 (by decide) (by decide) rfl
    have e489 : (fv P9 289 2).toInt = (fv Po 289 2).toInt := congrArg Int32.toInt (f12 289 2 (by omega))
    have q490 := ch_lt (t := fun j => fv Po 290 j) (L := (fv Po 289 1).toInt) (i := (fv Po 289 2).toInt) (show ¬ (chC Po (fv Po 289 2).toInt).toInt = -1 from by omega)
    refine mp_a (a_aload_n dX4_takeCommand_116 rfl) (mpp 117 rfl ?_)
    refine mp_t (s_dup dX4_takeCommand_117 rfl) (mpp 118 rfl ?_)
    have e491 : (fv P9 289 2).toInt = (fv Po 289 2).toInt := congrArg Int32.toInt (f12 289 2 (ne_k rfl))
    refine mt_getI (i := 23) (k := 2) hT10 dX4_takeCommand_118 rfl rl_289 (by decide) rfl (by decide) rfl (fun g492 g493 => mpp 121 rfl ?_)
    refine mp_a (a_iconst (v := 1) dX4_takeCommand_121 rfl) (mpp 122 rfl ?_)
    obtain ⟨z494, h495⟩ := ti_ex ((fv P9 289 2) + 1 : Int32)
    have wz494 := ti_full z494
    refine mp_t (s_iadd (v := z494) dX4_takeCommand_122 h495) (mpp 123 rfl ?_)
    try have e496 : z494.toInt = (fv P9 289 2).toInt + 1 := ti_addz h495 rfl rfl (by omega) (by omega)
    refine mt_putI (i := 23) (k := 2) (x := z494) hT10 dX4_takeCommand_123 rfl rl_289 (by decide) rfl (by decide) rfl (ti_full z494) rfl rfl (fun P497 hT498 f499 f500 f501 => mpp 126 rfl ?_)
    have k502 : KW [514, 515, 516, 517, 518, 519] Po P497 := KW.step k14 rl_289 rfl f500 f501
    have e503 : (fv P497 289 2).toInt = z494.toInt := congrArg Int32.toInt f499
    refine mp_a (a_aload_n dX4_takeCommand_126 rfl) (mpp 127 rfl ?_)
    have p504 : 0 ≤ (fv P497 289 2).toInt := by omega
    refine mt_callv (i := 44) (q' := q_99) (As := []) (rest := []) hT498 dX4_takeCommand_127 rfl qm_99 (by decide) rfl rl_289 (by decide) rfl (Nat.le_of_ble_eq_true rfl) rfl ⟨rfl, rfl⟩ ⟨Nat.le_of_ble_eq_true rfl, Nat.le_of_ble_eq_true rfl⟩ (EvP.mono (by decide) (c_CS_takeSizes_Script hT498 (KW.xr k502 hX) p504 )) (fun r505 P506 g507 => mpp 130 rfl ?_)
    obtain ⟨⟨x508, rfl, g509⟩, hT510, k511, R512⟩ := g507
    have k513 : KW [514, 515, 516, 517, 518, 519] Po P506 := KW.trans k502 k511 rfl
    have wx508 := ti_full x508
    replace g509 : 0 ≤ x508.toInt ∧ x508.toInt ≤ 1 ∧ (∃ k : Nat, RUN D1 (chC P497) (fv P497 289 2).toInt k ∧ (fv P506 289 2).toInt = (fv P497 289 2).toInt + (k : Int) ∧ fv P506 289 4 = szI (chC P497) (fv P497 289 2).toInt k ∧ ((x508.toInt = 1 ∧ 1 ≤ k) ∨ (x508.toInt = 0 ∧ k = 0))) := g509
    have g515 := ti_full (fv P506 289 2)
    show MEvP _ none q_97 130 [(0, .ref 289)] [.int x508] _ _ _ _
    refine mp_Tb (t := 153) (j_if_eq dX4_takeCommand_130) (by decide) (fun c516 => ?_) (fun c516 => mpp 133 rfl ?_)
    · have c516 : x508.toInt = 0 := ti_eq c516
      refine mp_a (a_iconst (v := 0) dX4_takeCommand_153 rfl) (mpp 154 rfl ?_)
      have e517 : (fv P506 289 3).toInt = (fv P9 289 3).toInt := congrArg Int32.toInt ((KW.at k511 3 rl_289 rfl).trans (f500 289 3 (ne_k rfl)))
      have g518 := ti_full (fv P506 289 4)
      have g519 := ti_full (fv P506 289 5)
      have g520 := ti_full (fv P506 289 6)
      have g521 := ti_full (fv P506 289 7)
      have t524_ : chC P497 = chC Po := chC_eq (fun j => by rw [f500 290 j (by omega), f12 290 j (by omega)]) (by rw [f500 289 1 (by omega), f12 289 1 (by omega)])
      have y525_ := g509
      rw [t524_] at y525_
      have e526 : (fv P9 289 2).toInt = (fv Po 289 2).toInt := congrArg Int32.toInt (f12 289 2 (by omega))
      obtain ⟨kw523_, rw523_, pw523_, vw523_, ow523_⟩ := y525_.2.2
      rw [show (fv P497 289 2).toInt = (fv Po 289 2).toInt + 1 from by omega] at rw523_ pw523_ vw523_
      have u522 : 0 ≤ (0 : Int) ∧ (0 : Int) ≤ 1 ∧ (((0 : Int) = 1 ∧ CMD (chC Po) (fv Po 289 2).toInt (fv P506 289 2).toInt (fv P506 289 3).toInt (fv P506 289 4).toInt (fv P506 289 5).toInt (fv P506 289 6).toInt (fv P506 289 7).toInt) ∨ ((0 : Int) = 0 ∧ ¬ CMO (chC Po) (fv Po 289 2).toInt)) := ⟨by omega, by omega, Or.inr ⟨rfl, fun ⟨i1, l1, a1, b1, n1, s1, q1, q2⟩ => by
          rcases q2 with ⟨q2, k2, m2, q3, q4, q5, q6, q7, q8⟩ | ⟨q2, _⟩ | ⟨q2, _⟩
          · have e := rw523_.uniq q5; omega
          · omega
          · omega⟩⟩
      have u527 : fv P506 289 1 = fv Po 289 1 := by rw [R512.1, f500 289 1 (by omega), f12 289 1 (by omega)]
      have u528 : KI 289 290 Po P506 := by
        intro x j hx
        rw [R512.2.2 x j (by omega), f500 x j (by omega), f12 x j (by omega)]
      exact mp_iret ⟨⟨_, rfl, u522⟩, hT510, k513, ⟨u527, u528⟩⟩ dX4_takeCommand_154 (Or.inr ⟨rfl, by decide⟩)
    · have c516 : x508.toInt ≠ 0 := ti_eq_n c516
      refine mp_a (a_aload_n dX4_takeCommand_133 rfl) (mpp 134 rfl ?_)
      refine mp_a (a_bipush (v := 58) dX4_takeCommand_134 rfl) (mpp 136 rfl ?_)
      have p529 : 0 ≤ (fv P506 289 2).toInt := by omega
      have p530 : 1 ≤ (58 : Int) := by omega
      refine mt_callv (i := 33) (q' := q_100) (As := [.int 58]) (rest := []) hT510 dX4_takeCommand_136 rfl qm_100 (by decide) rfl rl_289 (by decide) rfl (Nat.le_of_ble_eq_true rfl) rfl ⟨rfl, rfl⟩ ⟨Nat.le_of_ble_eq_true rfl, Nat.le_of_ble_eq_true rfl⟩ (EvP.mono (by decide) (c_CS_takeSign_Script hT510 (KW.xr k513 hX) p529 p530 )) (fun r531 P532 g533 => mpp 139 rfl ?_)
      obtain ⟨⟨x534, rfl, g535⟩, hT536, k537, R538⟩ := g533
      have k539 : KW [514, 515, 516, 517, 518, 519] Po P532 := KW.trans k513 k537 rfl
      have wx534 := ti_full x534
      replace g535 : 0 ≤ x534.toInt ∧ x534.toInt ≤ 1 ∧ ((x534.toInt = 1 ∧ (chC P506 (fv P506 289 2).toInt).toInt = (58 : Int) ∧ (fv P532 289 2).toInt = (fv P506 289 2).toInt + 1) ∨ (x534.toInt = 0 ∧ ¬ (chC P506 (fv P506 289 2).toInt).toInt = (58 : Int) ∧ (fv P532 289 2).toInt = (fv P506 289 2).toInt)) := g535
      have g541 := ti_full (fv P532 289 2)
      have g542 := ti_full (fv P532 289 2)
      show MEvP _ none q_97 139 [(0, .ref 289)] [.int x534] _ _ _ _
      refine mp_Tb (t := 153) (j_if_eq dX4_takeCommand_139) (by decide) (fun c543 => ?_) (fun c543 => mpp 142 rfl ?_)
      · have c543 : x534.toInt = 0 := ti_eq c543
        refine mp_a (a_iconst (v := 0) dX4_takeCommand_153 rfl) (mpp 154 rfl ?_)
        have e544 : (fv P532 289 3).toInt = (fv P9 289 3).toInt := congrArg Int32.toInt ((KW.at k537 3 rl_289 rfl).trans ((KW.at k511 3 rl_289 rfl).trans (f500 289 3 (ne_k rfl))))
        have g545 := ti_full (fv P532 289 4)
        have g546 := ti_full (fv P532 289 5)
        have g547 := ti_full (fv P532 289 6)
        have g548 := ti_full (fv P532 289 7)
        have t551_ : chC P497 = chC Po := chC_eq (fun j => by rw [f500 290 j (by omega), f12 290 j (by omega)]) (by rw [f500 289 1 (by omega), f12 289 1 (by omega)])
        have y552_ := g509
        rw [t551_] at y552_
        have t553_ : chC P506 = chC Po := chC_eq (fun j => by rw [R512.2.2 290 j (by omega), f500 290 j (by omega), f12 290 j (by omega)]) (by rw [R512.1, f500 289 1 (by omega), f12 289 1 (by omega)])
        have y554_ := g535
        rw [t553_] at y554_
        have e555 : (fv P9 289 2).toInt = (fv Po 289 2).toInt := congrArg Int32.toInt (f12 289 2 (by omega))
        obtain ⟨kw550_, rw550_, pw550_, vw550_, ow550_⟩ := y552_.2.2
        rw [show (fv P497 289 2).toInt = (fv Po 289 2).toInt + 1 from by omega] at rw550_ pw550_ vw550_
        rw [show (fv P506 289 2).toInt = (fv Po 289 2).toInt + 1 + (kw550_ : Int) from by omega] at y554_
        have u549 : 0 ≤ (0 : Int) ∧ (0 : Int) ≤ 1 ∧ (((0 : Int) = 1 ∧ CMD (chC Po) (fv Po 289 2).toInt (fv P532 289 2).toInt (fv P532 289 3).toInt (fv P532 289 4).toInt (fv P532 289 5).toInt (fv P532 289 6).toInt (fv P532 289 7).toInt) ∨ ((0 : Int) = 0 ∧ ¬ CMO (chC Po) (fv Po 289 2).toInt)) := ⟨by omega, by omega, Or.inr ⟨rfl, fun ⟨i1, l1, a1, b1, n1, s1, q1, q2⟩ => by
            rcases q2 with ⟨q2, k2, m2, q3, q4, q5, q6, q7, q8⟩ | ⟨q2, _⟩ | ⟨q2, _⟩
            · have e := rw550_.uniq q5; subst e; omega
            · omega
            · omega⟩⟩
        have u556 : fv P532 289 1 = fv Po 289 1 := by rw [R538.1, R512.1, f500 289 1 (by omega), f12 289 1 (by omega)]
        have u557 : KI 289 290 Po P532 := by
          intro x j hx
          rw [R538.2.2.2.2.2.2 x j (by omega), R512.2.2 x j (by omega), f500 x j (by omega), f12 x j (by omega)]
        exact mp_iret ⟨⟨_, rfl, u549⟩, hT536, k539, ⟨u556, u557⟩⟩ dX4_takeCommand_154 (Or.inr ⟨rfl, by decide⟩)
      · have c543 : x534.toInt ≠ 0 := ti_eq_n c543
        refine mp_a (a_aload_n dX4_takeCommand_142 rfl) (mpp 143 rfl ?_)
        have p558 : 0 ≤ (fv P532 289 2).toInt := by omega
        refine mt_callv (i := 47) (q' := q_101) (As := []) (rest := []) hT536 dX4_takeCommand_143 rfl qm_101 (by decide) rfl rl_289 (by decide) rfl (Nat.le_of_ble_eq_true rfl) rfl ⟨rfl, rfl⟩ ⟨Nat.le_of_ble_eq_true rfl, Nat.le_of_ble_eq_true rfl⟩ (EvP.mono (by decide) (c_CS_takeCreases_Script hT536 (KW.xr k539 hX) p558 )) (fun r559 P560 g561 => mpp 146 rfl ?_)
        obtain ⟨⟨x562, rfl, g563⟩, hT564, k565, R566⟩ := g561
        have k567 : KW [514, 515, 516, 517, 518, 519] Po P560 := KW.trans k539 k565 rfl
        have wx562 := ti_full x562
        replace g563 : 0 ≤ x562.toInt ∧ x562.toInt ≤ 1 ∧ (∃ k : Nat, RUN KK (chC P532) (fv P532 289 2).toInt k ∧ (fv P560 289 2).toInt = (fv P532 289 2).toInt + (k : Int) ∧ fv P560 289 5 = knV (chC P532) (fv P532 289 2).toInt k ∧ (fv P560 289 6).toInt = (k : Int) ∧ ((x562.toInt = 1 ∧ 1 ≤ k) ∨ (x562.toInt = 0 ∧ k = 0))) := g563
        have g569 := ti_full (fv P560 289 2)
        show MEvP _ none q_97 146 [(0, .ref 289)] [.int x562] _ _ _ _
        refine mp_Tb (t := 153) (j_if_eq dX4_takeCommand_146) (by decide) (fun c570 => ?_) (fun c570 => mpp 149 rfl ?_)
        · have c570 : x562.toInt = 0 := ti_eq c570
          refine mp_a (a_iconst (v := 0) dX4_takeCommand_153 rfl) (mpp 154 rfl ?_)
          have e571 : (fv P560 289 3).toInt = (fv P9 289 3).toInt := congrArg Int32.toInt ((KW.at k565 3 rl_289 rfl).trans ((KW.at k537 3 rl_289 rfl).trans ((KW.at k511 3 rl_289 rfl).trans (f500 289 3 (ne_k rfl)))))
          have g572 := ti_full (fv P560 289 4)
          have g573 := ti_full (fv P560 289 5)
          have g574 := ti_full (fv P560 289 6)
          have g575 := ti_full (fv P560 289 7)
          have t578_ : chC P497 = chC Po := chC_eq (fun j => by rw [f500 290 j (by omega), f12 290 j (by omega)]) (by rw [f500 289 1 (by omega), f12 289 1 (by omega)])
          have y579_ := g509
          rw [t578_] at y579_
          have t580_ : chC P506 = chC Po := chC_eq (fun j => by rw [R512.2.2 290 j (by omega), f500 290 j (by omega), f12 290 j (by omega)]) (by rw [R512.1, f500 289 1 (by omega), f12 289 1 (by omega)])
          have y581_ := g535
          rw [t580_] at y581_
          have t582_ : chC P532 = chC Po := chC_eq (fun j => by rw [R538.2.2.2.2.2.2 290 j (by omega), R512.2.2 290 j (by omega), f500 290 j (by omega), f12 290 j (by omega)]) (by rw [R538.1, R512.1, f500 289 1 (by omega), f12 289 1 (by omega)])
          have y583_ := g563
          rw [t582_] at y583_
          have e584 : (fv P9 289 2).toInt = (fv Po 289 2).toInt := congrArg Int32.toInt (f12 289 2 (by omega))
          obtain ⟨kw577_, rw577_, pw577_, vw577_, ow577_⟩ := y579_.2.2
          rw [show (fv P497 289 2).toInt = (fv Po 289 2).toInt + 1 from by omega] at rw577_ pw577_ vw577_
          rw [show (fv P506 289 2).toInt = (fv Po 289 2).toInt + 1 + (kw577_ : Int) from by omega] at y581_
          obtain ⟨mw577_, uw577_, tw577_, ww577_, zw577_, yw577_⟩ := y583_.2.2
          rw [show (fv P532 289 2).toInt = (fv Po 289 2).toInt + 2 + (kw577_ : Int) from by omega] at uw577_ tw577_ ww577_
          have u576 : 0 ≤ (0 : Int) ∧ (0 : Int) ≤ 1 ∧ (((0 : Int) = 1 ∧ CMD (chC Po) (fv Po 289 2).toInt (fv P560 289 2).toInt (fv P560 289 3).toInt (fv P560 289 4).toInt (fv P560 289 5).toInt (fv P560 289 6).toInt (fv P560 289 7).toInt) ∨ ((0 : Int) = 0 ∧ ¬ CMO (chC Po) (fv Po 289 2).toInt)) := ⟨by omega, by omega, Or.inr ⟨rfl, fun ⟨i1, l1, a1, b1, n1, s1, q1, q2⟩ => by
              rcases q2 with ⟨q2, k2, m2, q3, q4, q5, q6, q7, q8⟩ | ⟨q2, _⟩ | ⟨q2, _⟩
              · have e := rw577_.uniq q5; subst e; have e2 := uw577_.uniq q7; omega
              · omega
              · omega⟩⟩
          have u585 : fv P560 289 1 = fv Po 289 1 := by rw [R566.1, R538.1, R512.1, f500 289 1 (by omega), f12 289 1 (by omega)]
          have u586 : KI 289 290 Po P560 := by
            intro x j hx
            rw [R566.2.2.2 x j (by omega), R538.2.2.2.2.2.2 x j (by omega), R512.2.2 x j (by omega), f500 x j (by omega), f12 x j (by omega)]
          exact mp_iret ⟨⟨_, rfl, u576⟩, hT564, k567, ⟨u585, u586⟩⟩ dX4_takeCommand_154 (Or.inr ⟨rfl, by decide⟩)
        · have c570 : x562.toInt ≠ 0 := ti_eq_n c570
          refine mp_a (a_iconst (v := 1) dX4_takeCommand_149 rfl) (mpp 150 rfl ?_)
          refine mp_a (a_goto (t := 154) dX4_takeCommand_150 (by decide)) ?_
          have e587 : (fv P560 289 3).toInt = (fv P9 289 3).toInt := congrArg Int32.toInt ((KW.at k565 3 rl_289 rfl).trans ((KW.at k537 3 rl_289 rfl).trans ((KW.at k511 3 rl_289 rfl).trans (f500 289 3 (ne_k rfl)))))
          have g588 := ti_full (fv P560 289 4)
          have g589 := ti_full (fv P560 289 5)
          have g590 := ti_full (fv P560 289 6)
          have g591 := ti_full (fv P560 289 7)
          have t594_ : chC P497 = chC Po := chC_eq (fun j => by rw [f500 290 j (by omega), f12 290 j (by omega)]) (by rw [f500 289 1 (by omega), f12 289 1 (by omega)])
          have y595_ := g509
          rw [t594_] at y595_
          have t596_ : chC P506 = chC Po := chC_eq (fun j => by rw [R512.2.2 290 j (by omega), f500 290 j (by omega), f12 290 j (by omega)]) (by rw [R512.1, f500 289 1 (by omega), f12 289 1 (by omega)])
          have y597_ := g535
          rw [t596_] at y597_
          have t598_ : chC P532 = chC Po := chC_eq (fun j => by rw [R538.2.2.2.2.2.2 290 j (by omega), R512.2.2 290 j (by omega), f500 290 j (by omega), f12 290 j (by omega)]) (by rw [R538.1, R512.1, f500 289 1 (by omega), f12 289 1 (by omega)])
          have y599_ := g563
          rw [t598_] at y599_
          have e600 : (fv P9 289 2).toInt = (fv Po 289 2).toInt := congrArg Int32.toInt (f12 289 2 (by omega))
          obtain ⟨kw593_, rw593_, pw593_, vw593_, ow593_⟩ := y595_.2.2
          rw [show (fv P497 289 2).toInt = (fv Po 289 2).toInt + 1 from by omega] at rw593_ pw593_ vw593_
          rw [show (fv P506 289 2).toInt = (fv Po 289 2).toInt + 1 + (kw593_ : Int) from by omega] at y597_
          obtain ⟨mw593_, uw593_, tw593_, ww593_, zw593_, yw593_⟩ := y599_.2.2
          rw [show (fv P532 289 2).toInt = (fv Po 289 2).toInt + 2 + (kw593_ : Int) from by omega] at uw593_ tw593_ ww593_
          have u592 : 0 ≤ (1 : Int) ∧ (1 : Int) ≤ 1 ∧ (((1 : Int) = 1 ∧ CMD (chC Po) (fv Po 289 2).toInt (fv P560 289 2).toInt (fv P560 289 3).toInt (fv P560 289 4).toInt (fv P560 289 5).toInt (fv P560 289 6).toInt (fv P560 289 7).toInt) ∨ ((1 : Int) = 0 ∧ ¬ CMO (chC Po) (fv Po 289 2).toInt)) := ⟨by omega, by omega, Or.inl ⟨rfl, (show (fv P560 289 3).toInt = (chC Po (fv Po 289 2).toInt).toInt from by rw [R566.2.1, R538.2.1, R512.2.1, f500 289 3 (by omega), f11]; omega), Or.inl ⟨by have e := (show (fv P560 289 3).toInt = (chC Po (fv Po 289 2).toInt).toInt from by rw [R566.2.1, R538.2.1, R512.2.1, f500 289 3 (by omega), f11]; omega); omega, kw593_, mw593_, by omega, by omega, rw593_, by rw [show (fv Po 289 2).toInt + 1 + (kw593_ : Int) = (fv Po 289 2).toInt + 1 + kw593_ from rfl]; omega, uw593_, by omega, (congrArg Int32.toInt (show fv P560 289 4 = szI (chC Po) ((fv Po 289 2).toInt + 1) kw593_ from by rw [R566.2.2.1, R538.2.2.1]; exact vw593_)), congrArg Int32.toInt ww593_, by omega⟩⟩⟩
          have u601 : fv P560 289 1 = fv Po 289 1 := by rw [R566.1, R538.1, R512.1, f500 289 1 (by omega), f12 289 1 (by omega)]
          have u602 : KI 289 290 Po P560 := by
            intro x j hx
            rw [R566.2.2.2 x j (by omega), R538.2.2.2.2.2.2 x j (by omega), R512.2.2 x j (by omega), f500 x j (by omega), f12 x j (by omega)]
          exact mp_iret ⟨⟨_, rfl, u592⟩, hT564, k567, ⟨u601, u602⟩⟩ dX4_takeCommand_154 (Or.inr ⟨rfl, by decide⟩)
  · refine mp_t (s_tabIn (t := 210) (off := 198) dX4_takeCommand_12 (by omega) (by rw [c18]; rfl) (by decide)) ?_
    have q603 : (0 : Int) ≤ (fv Po 289 1).toInt ∧ (fv Po 289 1).toInt ≤ 80 := Typ.rng hT rl_289 (by decide) (by decide) rfl
    have e604 : (fv P9 289 2).toInt = (fv Po 289 2).toInt := congrArg Int32.toInt (f12 289 2 (by omega))
    have q605 := ch_lt (t := fun j => fv Po 290 j) (L := (fv Po 289 1).toInt) (i := (fv Po 289 2).toInt) (show ¬ (chC Po (fv Po 289 2).toInt).toInt = -1 from by omega)
    refine mp_a (a_aload_n dX4_takeCommand_210 rfl) (mpp 211 rfl ?_)
    refine mp_t (s_dup dX4_takeCommand_211 rfl) (mpp 212 rfl ?_)
    have e606 : (fv P9 289 2).toInt = (fv Po 289 2).toInt := congrArg Int32.toInt (f12 289 2 (ne_k rfl))
    refine mt_getI (i := 23) (k := 2) hT10 dX4_takeCommand_212 rfl rl_289 (by decide) rfl (by decide) rfl (fun g607 g608 => mpp 215 rfl ?_)
    refine mp_a (a_iconst (v := 1) dX4_takeCommand_215 rfl) (mpp 216 rfl ?_)
    obtain ⟨z609, h610⟩ := ti_ex ((fv P9 289 2) + 1 : Int32)
    have wz609 := ti_full z609
    refine mp_t (s_iadd (v := z609) dX4_takeCommand_216 h610) (mpp 217 rfl ?_)
    try have e611 : z609.toInt = (fv P9 289 2).toInt + 1 := ti_addz h610 rfl rfl (by omega) (by omega)
    refine mt_putI (i := 23) (k := 2) (x := z609) hT10 dX4_takeCommand_217 rfl rl_289 (by decide) rfl (by decide) rfl (ti_full z609) rfl rfl (fun P612 hT613 f614 f615 f616 => mpp 220 rfl ?_)
    have k617 : KW [514, 515, 516, 517, 518, 519] Po P612 := KW.step k14 rl_289 rfl f615 f616
    have e618 : (fv P612 289 2).toInt = z609.toInt := congrArg Int32.toInt f614
    refine mp_a (a_aload_n dX4_takeCommand_220 rfl) (mpp 221 rfl ?_)
    have p619 : 0 ≤ (fv P612 289 2).toInt := by omega
    refine mt_callv (i := 50) (q' := q_103) (As := []) (rest := []) hT613 dX4_takeCommand_221 rfl qm_103 (by decide) rfl rl_289 (by decide) rfl (Nat.le_of_ble_eq_true rfl) rfl ⟨rfl, rfl⟩ ⟨Nat.le_of_ble_eq_true rfl, Nat.le_of_ble_eq_true rfl⟩ (EvP.mono (by decide) (c_CS_takePiece_Script hT613 (KW.xr k617 hX) p619 )) (fun r620 P621 g622 => mpp 224 rfl ?_)
    obtain ⟨⟨x623, rfl, g624⟩, hT625, k626, R627⟩ := g622
    have k628 : KW [514, 515, 516, 517, 518, 519] Po P621 := KW.trans k617 k626 rfl
    have wx623 := ti_full x623
    replace g624 : 0 ≤ x623.toInt ∧ x623.toInt ≤ 1 ∧ ((x623.toInt = 1 ∧ (48 ≤ (chC P612 (fv P612 289 2).toInt).toInt ∧ (chC P612 (fv P612 289 2).toInt).toInt ≤ 57) ∧ (fv P621 289 2).toInt = (fv P612 289 2).toInt + 1 ∧ (fv P621 289 4).toInt = (chC P612 (fv P612 289 2).toInt).toInt - 48) ∨ (x623.toInt = 0 ∧ ¬ (48 ≤ (chC P612 (fv P612 289 2).toInt).toInt ∧ (chC P612 (fv P612 289 2).toInt).toInt ≤ 57))) := g624
    have g630 := ti_full (fv P621 289 2)
    show MEvP _ none q_97 224 [(0, .ref 289)] [.int x623] _ _ _ _
    have e631 : (fv P621 289 3).toInt = (fv P9 289 3).toInt := congrArg Int32.toInt ((KW.at k626 3 rl_289 rfl).trans (f615 289 3 (ne_k rfl)))
    have g632 := ti_full (fv P621 289 4)
    have g633 := ti_full (fv P621 289 5)
    have g634 := ti_full (fv P621 289 6)
    have g635 := ti_full (fv P621 289 7)
    have t638_ : chC P612 = chC Po := chC_eq (fun j => by rw [f615 290 j (by omega), f12 290 j (by omega)]) (by rw [f615 289 1 (by omega), f12 289 1 (by omega)])
    have y639_ := g624
    rw [t638_] at y639_
    have e640 : (fv P9 289 2).toInt = (fv Po 289 2).toInt := congrArg Int32.toInt (f12 289 2 (by omega))
    rw [show (fv P612 289 2).toInt = (fv Po 289 2).toInt + 1 from by omega] at y639_
    have u636 : 0 ≤ x623.toInt ∧ x623.toInt ≤ 1 ∧ ((x623.toInt = 1 ∧ CMD (chC Po) (fv Po 289 2).toInt (fv P621 289 2).toInt (fv P621 289 3).toInt (fv P621 289 4).toInt (fv P621 289 5).toInt (fv P621 289 6).toInt (fv P621 289 7).toInt) ∨ (x623.toInt = 0 ∧ ¬ CMO (chC Po) (fv Po 289 2).toInt)) := ⟨by omega, by omega, if hx : x623.toInt = 1 then (Or.inl ⟨by omega, (show (fv P621 289 3).toInt = (chC Po (fv Po 289 2).toInt).toInt from by rw [R627.2.1, f615 289 3 (by omega), f11]; omega), Or.inr (Or.inr ⟨by have e := (show (fv P621 289 3).toInt = (chC Po (fv Po 289 2).toInt).toInt from by rw [R627.2.1, f615 289 3 (by omega), f11]; omega); omega, ⟨by omega, by omega⟩, by omega, by omega⟩)⟩) else Or.inr ⟨by omega, fun ⟨i1, l1, a1, b1, n1, s1, q1, q2⟩ => by rcases q2 with ⟨q2, _⟩ | ⟨q2, q3, _⟩ | ⟨q2, q3, _⟩ <;> omega⟩⟩
    have u641 : fv P621 289 1 = fv Po 289 1 := by rw [R627.1, f615 289 1 (by omega), f12 289 1 (by omega)]
    have u642 : KI 289 290 Po P621 := by
      intro x j hx
      rw [R627.2.2.2.2.2 x j (by omega), f615 x j (by omega), f12 x j (by omega)]
    exact mp_iret ⟨⟨_, rfl, u636⟩, hT625, k628, ⟨u641, u642⟩⟩ dX4_takeCommand_224 (Or.inr ⟨rfl, ti_01 (by omega)⟩)
  · refine mp_t (s_tabIn (t := 210) (off := 198) dX4_takeCommand_12 (by omega) (by rw [c18]; rfl) (by decide)) ?_
    have q643 : (0 : Int) ≤ (fv Po 289 1).toInt ∧ (fv Po 289 1).toInt ≤ 80 := Typ.rng hT rl_289 (by decide) (by decide) rfl
    have e644 : (fv P9 289 2).toInt = (fv Po 289 2).toInt := congrArg Int32.toInt (f12 289 2 (by omega))
    have q645 := ch_lt (t := fun j => fv Po 290 j) (L := (fv Po 289 1).toInt) (i := (fv Po 289 2).toInt) (show ¬ (chC Po (fv Po 289 2).toInt).toInt = -1 from by omega)
    refine mp_a (a_aload_n dX4_takeCommand_210 rfl) (mpp 211 rfl ?_)
    refine mp_t (s_dup dX4_takeCommand_211 rfl) (mpp 212 rfl ?_)
    have e646 : (fv P9 289 2).toInt = (fv Po 289 2).toInt := congrArg Int32.toInt (f12 289 2 (ne_k rfl))
    refine mt_getI (i := 23) (k := 2) hT10 dX4_takeCommand_212 rfl rl_289 (by decide) rfl (by decide) rfl (fun g647 g648 => mpp 215 rfl ?_)
    refine mp_a (a_iconst (v := 1) dX4_takeCommand_215 rfl) (mpp 216 rfl ?_)
    obtain ⟨z649, h650⟩ := ti_ex ((fv P9 289 2) + 1 : Int32)
    have wz649 := ti_full z649
    refine mp_t (s_iadd (v := z649) dX4_takeCommand_216 h650) (mpp 217 rfl ?_)
    try have e651 : z649.toInt = (fv P9 289 2).toInt + 1 := ti_addz h650 rfl rfl (by omega) (by omega)
    refine mt_putI (i := 23) (k := 2) (x := z649) hT10 dX4_takeCommand_217 rfl rl_289 (by decide) rfl (by decide) rfl (ti_full z649) rfl rfl (fun P652 hT653 f654 f655 f656 => mpp 220 rfl ?_)
    have k657 : KW [514, 515, 516, 517, 518, 519] Po P652 := KW.step k14 rl_289 rfl f655 f656
    have e658 : (fv P652 289 2).toInt = z649.toInt := congrArg Int32.toInt f654
    refine mp_a (a_aload_n dX4_takeCommand_220 rfl) (mpp 221 rfl ?_)
    have p659 : 0 ≤ (fv P652 289 2).toInt := by omega
    refine mt_callv (i := 50) (q' := q_103) (As := []) (rest := []) hT653 dX4_takeCommand_221 rfl qm_103 (by decide) rfl rl_289 (by decide) rfl (Nat.le_of_ble_eq_true rfl) rfl ⟨rfl, rfl⟩ ⟨Nat.le_of_ble_eq_true rfl, Nat.le_of_ble_eq_true rfl⟩ (EvP.mono (by decide) (c_CS_takePiece_Script hT653 (KW.xr k657 hX) p659 )) (fun r660 P661 g662 => mpp 224 rfl ?_)
    obtain ⟨⟨x663, rfl, g664⟩, hT665, k666, R667⟩ := g662
    have k668 : KW [514, 515, 516, 517, 518, 519] Po P661 := KW.trans k657 k666 rfl
    have wx663 := ti_full x663
    replace g664 : 0 ≤ x663.toInt ∧ x663.toInt ≤ 1 ∧ ((x663.toInt = 1 ∧ (48 ≤ (chC P652 (fv P652 289 2).toInt).toInt ∧ (chC P652 (fv P652 289 2).toInt).toInt ≤ 57) ∧ (fv P661 289 2).toInt = (fv P652 289 2).toInt + 1 ∧ (fv P661 289 4).toInt = (chC P652 (fv P652 289 2).toInt).toInt - 48) ∨ (x663.toInt = 0 ∧ ¬ (48 ≤ (chC P652 (fv P652 289 2).toInt).toInt ∧ (chC P652 (fv P652 289 2).toInt).toInt ≤ 57))) := g664
    have g670 := ti_full (fv P661 289 2)
    show MEvP _ none q_97 224 [(0, .ref 289)] [.int x663] _ _ _ _
    have e671 : (fv P661 289 3).toInt = (fv P9 289 3).toInt := congrArg Int32.toInt ((KW.at k666 3 rl_289 rfl).trans (f655 289 3 (ne_k rfl)))
    have g672 := ti_full (fv P661 289 4)
    have g673 := ti_full (fv P661 289 5)
    have g674 := ti_full (fv P661 289 6)
    have g675 := ti_full (fv P661 289 7)
    have t678_ : chC P652 = chC Po := chC_eq (fun j => by rw [f655 290 j (by omega), f12 290 j (by omega)]) (by rw [f655 289 1 (by omega), f12 289 1 (by omega)])
    have y679_ := g664
    rw [t678_] at y679_
    have e680 : (fv P9 289 2).toInt = (fv Po 289 2).toInt := congrArg Int32.toInt (f12 289 2 (by omega))
    rw [show (fv P652 289 2).toInt = (fv Po 289 2).toInt + 1 from by omega] at y679_
    have u676 : 0 ≤ x663.toInt ∧ x663.toInt ≤ 1 ∧ ((x663.toInt = 1 ∧ CMD (chC Po) (fv Po 289 2).toInt (fv P661 289 2).toInt (fv P661 289 3).toInt (fv P661 289 4).toInt (fv P661 289 5).toInt (fv P661 289 6).toInt (fv P661 289 7).toInt) ∨ (x663.toInt = 0 ∧ ¬ CMO (chC Po) (fv Po 289 2).toInt)) := ⟨by omega, by omega, if hx : x663.toInt = 1 then (Or.inl ⟨by omega, (show (fv P661 289 3).toInt = (chC Po (fv Po 289 2).toInt).toInt from by rw [R667.2.1, f655 289 3 (by omega), f11]; omega), Or.inr (Or.inr ⟨by have e := (show (fv P661 289 3).toInt = (chC Po (fv Po 289 2).toInt).toInt from by rw [R667.2.1, f655 289 3 (by omega), f11]; omega); omega, ⟨by omega, by omega⟩, by omega, by omega⟩)⟩) else Or.inr ⟨by omega, fun ⟨i1, l1, a1, b1, n1, s1, q1, q2⟩ => by rcases q2 with ⟨q2, _⟩ | ⟨q2, q3, _⟩ | ⟨q2, q3, _⟩ <;> omega⟩⟩
    have u681 : fv P661 289 1 = fv Po 289 1 := by rw [R667.1, f655 289 1 (by omega), f12 289 1 (by omega)]
    have u682 : KI 289 290 Po P661 := by
      intro x j hx
      rw [R667.2.2.2.2.2 x j (by omega), f655 x j (by omega), f12 x j (by omega)]
    exact mp_iret ⟨⟨_, rfl, u676⟩, hT665, k668, ⟨u681, u682⟩⟩ dX4_takeCommand_224 (Or.inr ⟨rfl, ti_01 (by omega)⟩)
  · refine mp_t (s_tabIn (t := 225) (off := 213) dX4_takeCommand_12 (by omega) (by rw [c18]; rfl) (by decide)) ?_
    refine mp_a (a_iconst (v := 0) dX4_takeCommand_225 rfl) (mpp 226 rfl ?_)
    have e683 : (fv P9 289 2).toInt = (fv Po 289 2).toInt := congrArg Int32.toInt (f12 289 2 (ne_k rfl))
    have g684 := ti_full (fv P9 289 4)
    have g685 := ti_full (fv P9 289 5)
    have g686 := ti_full (fv P9 289 6)
    have g687 := ti_full (fv P9 289 7)
    have u688 : 0 ≤ (0 : Int) ∧ (0 : Int) ≤ 1 ∧ (((0 : Int) = 1 ∧ CMD (chC Po) (fv Po 289 2).toInt (fv P9 289 2).toInt (fv P9 289 3).toInt (fv P9 289 4).toInt (fv P9 289 5).toInt (fv P9 289 6).toInt (fv P9 289 7).toInt) ∨ ((0 : Int) = 0 ∧ ¬ CMO (chC Po) (fv Po 289 2).toInt)) := ⟨by omega, by omega, Or.inr ⟨rfl, fun ⟨i1, l1, a1, b1, n1, s1, q1, q2⟩ => by rcases q2 with ⟨q2, _⟩ | ⟨q2, _⟩ | ⟨q2, _⟩ <;> omega⟩⟩
    have u690 : fv P9 289 1 = fv Po 289 1 := by rw [f12 289 1 (by omega)]
    have u691 : KI 289 290 Po P9 := by
      intro x j hx
      rw [f12 x j (by omega)]
    exact mp_iret ⟨⟨_, rfl, u688⟩, hT10, k14, ⟨u690, u691⟩⟩ dX4_takeCommand_226 (Or.inr ⟨rfl, by decide⟩)
  · refine mp_t (s_tabIn (t := 225) (off := 213) dX4_takeCommand_12 (by omega) (by rw [c18]; rfl) (by decide)) ?_
    refine mp_a (a_iconst (v := 0) dX4_takeCommand_225 rfl) (mpp 226 rfl ?_)
    have e692 : (fv P9 289 2).toInt = (fv Po 289 2).toInt := congrArg Int32.toInt (f12 289 2 (ne_k rfl))
    have g693 := ti_full (fv P9 289 4)
    have g694 := ti_full (fv P9 289 5)
    have g695 := ti_full (fv P9 289 6)
    have g696 := ti_full (fv P9 289 7)
    have u697 : 0 ≤ (0 : Int) ∧ (0 : Int) ≤ 1 ∧ (((0 : Int) = 1 ∧ CMD (chC Po) (fv Po 289 2).toInt (fv P9 289 2).toInt (fv P9 289 3).toInt (fv P9 289 4).toInt (fv P9 289 5).toInt (fv P9 289 6).toInt (fv P9 289 7).toInt) ∨ ((0 : Int) = 0 ∧ ¬ CMO (chC Po) (fv Po 289 2).toInt)) := ⟨by omega, by omega, Or.inr ⟨rfl, fun ⟨i1, l1, a1, b1, n1, s1, q1, q2⟩ => by rcases q2 with ⟨q2, _⟩ | ⟨q2, _⟩ | ⟨q2, _⟩ <;> omega⟩⟩
    have u699 : fv P9 289 1 = fv Po 289 1 := by rw [f12 289 1 (by omega)]
    have u700 : KI 289 290 Po P9 := by
      intro x j hx
      rw [f12 x j (by omega)]
    exact mp_iret ⟨⟨_, rfl, u697⟩, hT10, k14, ⟨u699, u700⟩⟩ dX4_takeCommand_226 (Or.inr ⟨rfl, by decide⟩)
  · refine mp_t (s_tabIn (t := 210) (off := 198) dX4_takeCommand_12 (by omega) (by rw [c18]; rfl) (by decide)) ?_
    have q701 : (0 : Int) ≤ (fv Po 289 1).toInt ∧ (fv Po 289 1).toInt ≤ 80 := Typ.rng hT rl_289 (by decide) (by decide) rfl
    have e702 : (fv P9 289 2).toInt = (fv Po 289 2).toInt := congrArg Int32.toInt (f12 289 2 (by omega))
    have q703 := ch_lt (t := fun j => fv Po 290 j) (L := (fv Po 289 1).toInt) (i := (fv Po 289 2).toInt) (show ¬ (chC Po (fv Po 289 2).toInt).toInt = -1 from by omega)
    refine mp_a (a_aload_n dX4_takeCommand_210 rfl) (mpp 211 rfl ?_)
    refine mp_t (s_dup dX4_takeCommand_211 rfl) (mpp 212 rfl ?_)
    have e704 : (fv P9 289 2).toInt = (fv Po 289 2).toInt := congrArg Int32.toInt (f12 289 2 (ne_k rfl))
    refine mt_getI (i := 23) (k := 2) hT10 dX4_takeCommand_212 rfl rl_289 (by decide) rfl (by decide) rfl (fun g705 g706 => mpp 215 rfl ?_)
    refine mp_a (a_iconst (v := 1) dX4_takeCommand_215 rfl) (mpp 216 rfl ?_)
    obtain ⟨z707, h708⟩ := ti_ex ((fv P9 289 2) + 1 : Int32)
    have wz707 := ti_full z707
    refine mp_t (s_iadd (v := z707) dX4_takeCommand_216 h708) (mpp 217 rfl ?_)
    try have e709 : z707.toInt = (fv P9 289 2).toInt + 1 := ti_addz h708 rfl rfl (by omega) (by omega)
    refine mt_putI (i := 23) (k := 2) (x := z707) hT10 dX4_takeCommand_217 rfl rl_289 (by decide) rfl (by decide) rfl (ti_full z707) rfl rfl (fun P710 hT711 f712 f713 f714 => mpp 220 rfl ?_)
    have k715 : KW [514, 515, 516, 517, 518, 519] Po P710 := KW.step k14 rl_289 rfl f713 f714
    have e716 : (fv P710 289 2).toInt = z707.toInt := congrArg Int32.toInt f712
    refine mp_a (a_aload_n dX4_takeCommand_220 rfl) (mpp 221 rfl ?_)
    have p717 : 0 ≤ (fv P710 289 2).toInt := by omega
    refine mt_callv (i := 50) (q' := q_103) (As := []) (rest := []) hT711 dX4_takeCommand_221 rfl qm_103 (by decide) rfl rl_289 (by decide) rfl (Nat.le_of_ble_eq_true rfl) rfl ⟨rfl, rfl⟩ ⟨Nat.le_of_ble_eq_true rfl, Nat.le_of_ble_eq_true rfl⟩ (EvP.mono (by decide) (c_CS_takePiece_Script hT711 (KW.xr k715 hX) p717 )) (fun r718 P719 g720 => mpp 224 rfl ?_)
    obtain ⟨⟨x721, rfl, g722⟩, hT723, k724, R725⟩ := g720
    have k726 : KW [514, 515, 516, 517, 518, 519] Po P719 := KW.trans k715 k724 rfl
    have wx721 := ti_full x721
    replace g722 : 0 ≤ x721.toInt ∧ x721.toInt ≤ 1 ∧ ((x721.toInt = 1 ∧ (48 ≤ (chC P710 (fv P710 289 2).toInt).toInt ∧ (chC P710 (fv P710 289 2).toInt).toInt ≤ 57) ∧ (fv P719 289 2).toInt = (fv P710 289 2).toInt + 1 ∧ (fv P719 289 4).toInt = (chC P710 (fv P710 289 2).toInt).toInt - 48) ∨ (x721.toInt = 0 ∧ ¬ (48 ≤ (chC P710 (fv P710 289 2).toInt).toInt ∧ (chC P710 (fv P710 289 2).toInt).toInt ≤ 57))) := g722
    have g728 := ti_full (fv P719 289 2)
    show MEvP _ none q_97 224 [(0, .ref 289)] [.int x721] _ _ _ _
    have e729 : (fv P719 289 3).toInt = (fv P9 289 3).toInt := congrArg Int32.toInt ((KW.at k724 3 rl_289 rfl).trans (f713 289 3 (ne_k rfl)))
    have g730 := ti_full (fv P719 289 4)
    have g731 := ti_full (fv P719 289 5)
    have g732 := ti_full (fv P719 289 6)
    have g733 := ti_full (fv P719 289 7)
    have t736_ : chC P710 = chC Po := chC_eq (fun j => by rw [f713 290 j (by omega), f12 290 j (by omega)]) (by rw [f713 289 1 (by omega), f12 289 1 (by omega)])
    have y737_ := g722
    rw [t736_] at y737_
    have e738 : (fv P9 289 2).toInt = (fv Po 289 2).toInt := congrArg Int32.toInt (f12 289 2 (by omega))
    rw [show (fv P710 289 2).toInt = (fv Po 289 2).toInt + 1 from by omega] at y737_
    have u734 : 0 ≤ x721.toInt ∧ x721.toInt ≤ 1 ∧ ((x721.toInt = 1 ∧ CMD (chC Po) (fv Po 289 2).toInt (fv P719 289 2).toInt (fv P719 289 3).toInt (fv P719 289 4).toInt (fv P719 289 5).toInt (fv P719 289 6).toInt (fv P719 289 7).toInt) ∨ (x721.toInt = 0 ∧ ¬ CMO (chC Po) (fv Po 289 2).toInt)) := ⟨by omega, by omega, if hx : x721.toInt = 1 then (Or.inl ⟨by omega, (show (fv P719 289 3).toInt = (chC Po (fv Po 289 2).toInt).toInt from by rw [R725.2.1, f713 289 3 (by omega), f11]; omega), Or.inr (Or.inr ⟨by have e := (show (fv P719 289 3).toInt = (chC Po (fv Po 289 2).toInt).toInt from by rw [R725.2.1, f713 289 3 (by omega), f11]; omega); omega, ⟨by omega, by omega⟩, by omega, by omega⟩)⟩) else Or.inr ⟨by omega, fun ⟨i1, l1, a1, b1, n1, s1, q1, q2⟩ => by rcases q2 with ⟨q2, _⟩ | ⟨q2, q3, _⟩ | ⟨q2, q3, _⟩ <;> omega⟩⟩
    have u739 : fv P719 289 1 = fv Po 289 1 := by rw [R725.1, f713 289 1 (by omega), f12 289 1 (by omega)]
    have u740 : KI 289 290 Po P719 := by
      intro x j hx
      rw [R725.2.2.2.2.2 x j (by omega), f713 x j (by omega), f12 x j (by omega)]
    exact mp_iret ⟨⟨_, rfl, u734⟩, hT723, k726, ⟨u739, u740⟩⟩ dX4_takeCommand_224 (Or.inr ⟨rfl, ti_01 (by omega)⟩)

