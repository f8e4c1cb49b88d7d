/-! methods on typed pools, 17 (written by a program) -/
set_option maxHeartbeats 4000000 in
theorem c_CS_takeCommand_Script {Po : mP}  (hT : Typ Po) (hX : XR Po)  (hp0 : 0 ≤ (fv Po 289 2).toInt)  : EvP 5 97 [.ref 289] Po (fun r P' => (∃ x : Int32, r = some (.int x) ∧ (0 ≤ x.toInt ∧ x.toInt ≤ 1 ∧ (0 ≤ (fv P' 289 2).toInt ∧ ((x.toInt = 1 ∧ CMD (chC Po) (fv Po 289 2).toInt (fv P' 289 2).toInt (fv P' 289 3).toInt (fv P' 289 4).toInt (fv P' 289 5).toInt (fv P' 289 6).toInt (fv P' 289 7).toInt) ∨ (x.toInt = 0 ∧ ¬ CMO (chC Po) (fv Po 289 2).toInt))))) ∧ Typ P' ∧ KW [514, 515, 516, 517, 518, 519] Po P' ∧ fv P' 289 1 = fv Po 289 1 ∧ KI 289 290 Po P') := by
  refine EvP.of qm_97 (Nat.le_of_ble_eq_true rfl) rfl ?_
  show MEvP _ none q_97 0 [(0, .ref 289)] [] _ 0 0 _
  have g1 := ti_full (fv Po 289 2)
  refine mp_a (a_aload_n dX4_takeCommand_0 rfl) (mpp 1 rfl ?_)
  refine mp_a (a_aload_n dX4_takeCommand_1 rfl) (mpp 2 rfl ?_)
  have p2 : 0 ≤ (fv Po 289 2).toInt := by omega
  refine mt_callv (i := 37) (q' := q_98) (As := []) (rest := [.ref 289]) hT dX4_takeCommand_2 rfl qm_98 (by decide) rfl rl_289 (by decide) rfl (Nat.le_of_ble_eq_true rfl) rfl ⟨rfl, rfl⟩ ⟨Nat.le_of_ble_eq_true rfl, Nat.le_of_ble_eq_true rfl⟩ (EvP.mono (by decide) (c_CS_codeHere_Script hT hX p2 )) (fun r3 P4 g5 => mpp 5 rfl ?_)
  obtain ⟨⟨x6, rfl, g7⟩, e8⟩ := g5
  have e8 := e8.symm
  subst e8
  have wx6 := ti_full x6
  replace g7 : x6.toInt = (chC Po (fv Po 289 2).toInt).toInt ∨ (x6.toInt = 0 ∧ (chC Po (fv Po 289 2).toInt).toInt = -1) := g7
  show MEvP _ none q_97 5 [(0, .ref 289)] [.int x6, .ref 289] _ _ _ _
  refine mt_putI (i := 41) (k := 3) (x := x6) hT dX4_takeCommand_5 rfl rl_289 (by decide) rfl (by decide) rfl (ti_full x6) rfl rfl (fun P9 hT10 f11 f12 f13 => mpp 8 rfl ?_)
  have k14 : KW [514, 515, 516, 517, 518, 519] Po P9 := KW.step KW.refl rl_289 rfl f12 f13
  have e15 : (fv P9 289 3).toInt = x6.toInt := congrArg Int32.toInt f11
  refine mp_a (a_aload_n dX4_takeCommand_8 rfl) (mpp 9 rfl ?_)
  refine mt_getI (i := 41) (k := 3) hT10 dX4_takeCommand_9 rfl rl_289 (by decide) rfl (by decide) rfl (fun g16 g17 => mpp 12 rfl ?_)
  have c18 : ((fv P9 289 3).toInt < 99 ∨ 120 < (fv P9 289 3).toInt) ∨ (fv P9 289 3).toInt = 99 ∨ (fv P9 289 3).toInt = 100 ∨ (fv P9 289 3).toInt = 101 ∨ (fv P9 289 3).toInt = 102 ∨ (fv P9 289 3).toInt = 103 ∨ (fv P9 289 3).toInt = 104 ∨ (fv P9 289 3).toInt = 105 ∨ (fv P9 289 3).toInt = 106 ∨ (fv P9 289 3).toInt = 107 ∨ (fv P9 289 3).toInt = 108 ∨ (fv P9 289 3).toInt = 109 ∨ (fv P9 289 3).toInt = 110 ∨ (fv P9 289 3).toInt = 111 ∨ (fv P9 289 3).toInt = 112 ∨ (fv P9 289 3).toInt = 113 ∨ (fv P9 289 3).toInt = 114 ∨ (fv P9 289 3).toInt = 115 ∨ (fv P9 289 3).toInt = 116 ∨ (fv P9 289 3).toInt = 117 ∨ (fv P9 289 3).toInt = 118 ∨ (fv P9 289 3).toInt = 119 ∨ (fv P9 289 3).toInt = 120 := by omega
  rcases c18 with c18 | c18 | c18 | c18 | c18 | c18 | c18 | c18 | c18 | c18 | c18 | c18 | c18 | c18 | c18 | c18 | c18 | c18 | c18 | c18 | c18 | c18 | c18
  · refine mp_t (s_tabOut (t := 225) dX4_takeCommand_12 c18 (by decide)) ?_
    refine mp_a (a_iconst (v := 0) dX4_takeCommand_225 rfl) (mpp 226 rfl ?_)
    have e19 : (fv P9 289 2).toInt = (fv Po 289 2).toInt := congrArg Int32.toInt (f12 289 2 (ne_k rfl))
    have g20 := ti_full (fv P9 289 4)
    have g21 := ti_full (fv P9 289 5)
    have g22 := ti_full (fv P9 289 6)
    have g23 := ti_full (fv P9 289 7)
    have u24 : 0 ≤ (0 : Int) ∧ (0 : Int) ≤ 1 ∧ (0 ≤ (fv P9 289 2).toInt ∧ (((0 : Int) = 1 ∧ CMD (chC Po) (fv Po 289 2).toInt (fv P9 289 2).toInt (fv P9 289 3).toInt (fv P9 289 4).toInt (fv P9 289 5).toInt (fv P9 289 6).toInt (fv P9 289 7).toInt) ∨ ((0 : Int) = 0 ∧ ¬ CMO (chC Po) (fv Po 289 2).toInt))) := ⟨by omega, by omega, by omega, Or.inr ⟨rfl, fun ⟨i1, l1, a1, b1, n1, s1, q1, q2⟩ => by rcases q2 with ⟨q2, _⟩ | ⟨q2, _⟩ | ⟨q2, _⟩ <;> omega⟩⟩
    have u26 : fv P9 289 1 = fv Po 289 1 := by rw [f12 289 1 (by omega)]
    have u27 : KI 289 290 Po P9 := by
      intro x j hx
      rw [f12 x j (by omega)]
    exact mp_iret ⟨⟨_, rfl, u24⟩, hT10, k14, ⟨u26, u27⟩⟩ dX4_takeCommand_226 (Or.inr ⟨rfl, by decide⟩)
  · refine mp_t (s_tabIn (t := 116) (off := 104) dX4_takeCommand_12 (by omega) (by rw [c18]; rfl) (by decide)) ?_
    have q28 : (0 : Int) ≤ (fv Po 289 1).toInt ∧ (fv Po 289 1).toInt ≤ 80 := Typ.rng hT rl_289 (by decide) (by decide) rfl
    have e29 : (fv P9 289 2).toInt = (fv Po 289 2).toInt := congrArg Int32.toInt (f12 289 2 (by omega))
    have q30 := ch_lt (t := fun j => fv Po 290 j) (L := (fv Po 289 1).toInt) (i := (fv Po 289 2).toInt) (show ¬ (chC Po (fv Po 289 2).toInt).toInt = -1 from by omega)
    refine mp_a (a_aload_n dX4_takeCommand_116 rfl) (mpp 117 rfl ?_)
    refine mp_t (s_dup dX4_takeCommand_117 rfl) (mpp 118 rfl ?_)
    have e31 : (fv P9 289 2).toInt = (fv Po 289 2).toInt := congrArg Int32.toInt (f12 289 2 (ne_k rfl))
    refine mt_getI (i := 23) (k := 2) hT10 dX4_takeCommand_118 rfl rl_289 (by decide) rfl (by decide) rfl (fun g32 g33 => mpp 121 rfl ?_)
    refine mp_a (a_iconst (v := 1) dX4_takeCommand_121 rfl) (mpp 122 rfl ?_)
    obtain ⟨z34, h35⟩ := ti_ex ((fv P9 289 2) + 1 : Int32)
    have wz34 := ti_full z34
    refine mp_t (s_iadd (v := z34) dX4_takeCommand_122 h35) (mpp 123 rfl ?_)
    try have e36 : z34.toInt = (fv P9 289 2).toInt + 1 := ti_addz h35 rfl rfl (by omega) (by omega)
    refine mt_putI (i := 23) (k := 2) (x := z34) hT10 dX4_takeCommand_123 rfl rl_289 (by decide) rfl (by decide) rfl (ti_full z34) rfl rfl (fun P37 hT38 f39 f40 f41 => mpp 126 rfl ?_)
    have k42 : KW [514, 515, 516, 517, 518, 519] Po P37 := KW.step k14 rl_289 rfl f40 f41
    have e43 : (fv P37 289 2).toInt = z34.toInt := congrArg Int32.toInt f39
    refine mp_a (a_aload_n dX4_takeCommand_126 rfl) (mpp 127 rfl ?_)
    have p44 : 0 ≤ (fv P37 289 2).toInt := by omega
    refine mt_callv (i := 44) (q' := q_99) (As := []) (rest := []) hT38 dX4_takeCommand_127 rfl qm_99 (by decide) rfl rl_289 (by decide) rfl (Nat.le_of_ble_eq_true rfl) rfl ⟨rfl, rfl⟩ ⟨Nat.le_of_ble_eq_true rfl, Nat.le_of_ble_eq_true rfl⟩ (EvP.mono (by decide) (c_CS_takeSizes_Script hT38 (KW.xr k42 hX) p44 )) (fun r45 P46 g47 => mpp 130 rfl ?_)
    obtain ⟨⟨x48, rfl, g49⟩, hT50, k51, R52⟩ := g47
    have k53 : KW [514, 515, 516, 517, 518, 519] Po P46 := KW.trans k42 k51 rfl
    have wx48 := ti_full x48
    replace g49 : 0 ≤ x48.toInt ∧ x48.toInt ≤ 1 ∧ (∃ k : Nat, RUN D1 (chC P37) (fv P37 289 2).toInt k ∧ (fv P46 289 2).toInt = (fv P37 289 2).toInt + (k : Int) ∧ fv P46 289 4 = szI (chC P37) (fv P37 289 2).toInt k ∧ ((x48.toInt = 1 ∧ 1 ≤ k) ∨ (x48.toInt = 0 ∧ k = 0))) := g49
    have g55 := ti_full (fv P46 289 2)
    show MEvP _ none q_97 130 [(0, .ref 289)] [.int x48] _ _ _ _
    refine mp_Tb (t := 153) (j_if_eq dX4_takeCommand_130) (by decide) (fun c56 => ?_) (fun c56 => mpp 133 rfl ?_)
    · have c56 : x48.toInt = 0 := ti_eq c56
      refine mp_a (a_iconst (v := 0) dX4_takeCommand_153 rfl) (mpp 154 rfl ?_)
      have e57 : (fv P46 289 3).toInt = (fv P9 289 3).toInt := congrArg Int32.toInt ((KW.at k51 3 rl_289 rfl).trans (f40 289 3 (ne_k rfl)))
      have g58 := ti_full (fv P46 289 4)
      have g59 := ti_full (fv P46 289 5)
      have g60 := ti_full (fv P46 289 6)
      have g61 := ti_full (fv P46 289 7)
      have t64_ : chC P37 = chC Po := chC_eq (fun j => by rw [f40 290 j (by omega), f12 290 j (by omega)]) (by rw [f40 289 1 (by omega), f12 289 1 (by omega)])
      have y65_ := g49
      rw [t64_] at y65_
      have e66 : (fv P9 289 2).toInt = (fv Po 289 2).toInt := congrArg Int32.toInt (f12 289 2 (by omega))
      obtain ⟨kw63_, rw63_, pw63_, vw63_, ow63_⟩ := y65_.2.2
      rw [show (fv P37 289 2).toInt = (fv Po 289 2).toInt + 1 from by omega] at rw63_ pw63_ vw63_
      have u62 : 0 ≤ (0 : Int) ∧ (0 : Int) ≤ 1 ∧ (0 ≤ (fv P46 289 2).toInt ∧ (((0 : Int) = 1 ∧ CMD (chC Po) (fv Po 289 2).toInt (fv P46 289 2).toInt (fv P46 289 3).toInt (fv P46 289 4).toInt (fv P46 289 5).toInt (fv P46 289 6).toInt (fv P46 289 7).toInt) ∨ ((0 : Int) = 0 ∧ ¬ CMO (chC Po) (fv Po 289 2).toInt))) := ⟨by omega, by omega, by omega, Or.inr ⟨rfl, fun ⟨i1, l1, a1, b1, n1, s1, q1, q2⟩ => by
          rcases q2 with ⟨q2, k2, m2, q3, q4, q5, q6, q7, q8⟩ | ⟨q2, _⟩ | ⟨q2, _⟩
          · have e := rw63_.uniq q5; omega
          · omega
          · omega⟩⟩
      have u67 : fv P46 289 1 = fv Po 289 1 := by rw [R52.1, f40 289 1 (by omega), f12 289 1 (by omega)]
      have u68 : KI 289 290 Po P46 := by
        intro x j hx
        rw [R52.2.2 x j (by omega), f40 x j (by omega), f12 x j (by omega)]
      exact mp_iret ⟨⟨_, rfl, u62⟩, hT50, k53, ⟨u67, u68⟩⟩ dX4_takeCommand_154 (Or.inr ⟨rfl, by decide⟩)
    · have c56 : x48.toInt ≠ 0 := ti_eq_n c56
      refine mp_a (a_aload_n dX4_takeCommand_133 rfl) (mpp 134 rfl ?_)
      refine mp_a (a_bipush (v := 58) dX4_takeCommand_134 rfl) (mpp 136 rfl ?_)
      have p69 : 0 ≤ (fv P46 289 2).toInt := by omega
      have p70 : 1 ≤ (58 : Int) := by omega
      refine mt_callv (i := 33) (q' := q_100) (As := [.int 58]) (rest := []) hT50 dX4_takeCommand_136 rfl qm_100 (by decide) rfl rl_289 (by decide) rfl (Nat.le_of_ble_eq_true rfl) rfl ⟨rfl, rfl⟩ ⟨Nat.le_of_ble_eq_true rfl, Nat.le_of_ble_eq_true rfl⟩ (EvP.mono (by decide) (c_CS_takeSign_Script hT50 (KW.xr k53 hX) p69 p70 )) (fun r71 P72 g73 => mpp 139 rfl ?_)
      obtain ⟨⟨x74, rfl, g75⟩, hT76, k77, R78⟩ := g73
      have k79 : KW [514, 515, 516, 517, 518, 519] Po P72 := KW.trans k53 k77 rfl
      have wx74 := ti_full x74
      replace g75 : 0 ≤ x74.toInt ∧ x74.toInt ≤ 1 ∧ ((x74.toInt = 1 ∧ (chC P46 (fv P46 289 2).toInt).toInt = (58 : Int) ∧ (fv P72 289 2).toInt = (fv P46 289 2).toInt + 1) ∨ (x74.toInt = 0 ∧ ¬ (chC P46 (fv P46 289 2).toInt).toInt = (58 : Int) ∧ (fv P72 289 2).toInt = (fv P46 289 2).toInt)) := g75
      have g81 := ti_full (fv P72 289 2)
      have g82 := ti_full (fv P72 289 2)
      show MEvP _ none q_97 139 [(0, .ref 289)] [.int x74] _ _ _ _
      refine mp_Tb (t := 153) (j_if_eq dX4_takeCommand_139) (by decide) (fun c83 => ?_) (fun c83 => mpp 142 rfl ?_)
      · have c83 : x74.toInt = 0 := ti_eq c83
        refine mp_a (a_iconst (v := 0) dX4_takeCommand_153 rfl) (mpp 154 rfl ?_)
        have e84 : (fv P72 289 3).toInt = (fv P9 289 3).toInt := congrArg Int32.toInt ((KW.at k77 3 rl_289 rfl).trans ((KW.at k51 3 rl_289 rfl).trans (f40 289 3 (ne_k rfl))))
        have g85 := ti_full (fv P72 289 4)
        have g86 := ti_full (fv P72 289 5)
        have g87 := ti_full (fv P72 289 6)
        have g88 := ti_full (fv P72 289 7)
        have t91_ : chC P37 = chC Po := chC_eq (fun j => by rw [f40 290 j (by omega), f12 290 j (by omega)]) (by rw [f40 289 1 (by omega), f12 289 1 (by omega)])
        have y92_ := g49
        rw [t91_] at y92_
        have t93_ : chC P46 = chC Po := chC_eq (fun j => by rw [R52.2.2 290 j (by omega), f40 290 j (by omega), f12 290 j (by omega)]) (by rw [R52.1, f40 289 1 (by omega), f12 289 1 (by omega)])
        have y94_ := g75
        rw [t93_] at y94_
        have e95 : (fv P9 289 2).toInt = (fv Po 289 2).toInt := congrArg Int32.toInt (f12 289 2 (by omega))
        obtain ⟨kw90_, rw90_, pw90_, vw90_, ow90_⟩ := y92_.2.2
        rw [show (fv P37 289 2).toInt = (fv Po 289 2).toInt + 1 from by omega] at rw90_ pw90_ vw90_
        rw [show (fv P46 289 2).toInt = (fv Po 289 2).toInt + 1 + (kw90_ : Int) from by omega] at y94_
        have u89 : 0 ≤ (0 : Int) ∧ (0 : Int) ≤ 1 ∧ (0 ≤ (fv P72 289 2).toInt ∧ (((0 : Int) = 1 ∧ CMD (chC Po) (fv Po 289 2).toInt (fv P72 289 2).toInt (fv P72 289 3).toInt (fv P72 289 4).toInt (fv P72 289 5).toInt (fv P72 289 6).toInt (fv P72 289 7).toInt) ∨ ((0 : Int) = 0 ∧ ¬ CMO (chC Po) (fv Po 289 2).toInt))) := ⟨by omega, by omega, by omega, Or.inr ⟨rfl, fun ⟨i1, l1, a1, b1, n1, s1, q1, q2⟩ => by
            rcases q2 with ⟨q2, k2, m2, q3, q4, q5, q6, q7, q8⟩ | ⟨q2, _⟩ | ⟨q2, _⟩
            · have e := rw90_.uniq q5; subst e; omega
            · omega
            · omega⟩⟩
        have u96 : fv P72 289 1 = fv Po 289 1 := by rw [R78.1, R52.1, f40 289 1 (by omega), f12 289 1 (by omega)]
        have u97 : KI 289 290 Po P72 := by
          intro x j hx
          rw [R78.2.2.2.2.2.2 x j (by omega), R52.2.2 x j (by omega), f40 x j (by omega), f12 x j (by omega)]
        exact mp_iret ⟨⟨_, rfl, u89⟩, hT76, k79, ⟨u96, u97⟩⟩ dX4_takeCommand_154 (Or.inr ⟨rfl, by decide⟩)
      · have c83 : x74.toInt ≠ 0 := ti_eq_n c83
        refine mp_a (a_aload_n dX4_takeCommand_142 rfl) (mpp 143 rfl ?_)
        have p98 : 0 ≤ (fv P72 289 2).toInt := by omega
        refine mt_callv (i := 47) (q' := q_101) (As := []) (rest := []) hT76 dX4_takeCommand_143 rfl qm_101 (by decide) rfl rl_289 (by decide) rfl (Nat.le_of_ble_eq_true rfl) rfl ⟨rfl, rfl⟩ ⟨Nat.le_of_ble_eq_true rfl, Nat.le_of_ble_eq_true rfl⟩ (EvP.mono (by decide) (c_CS_takeCreases_Script hT76 (KW.xr k79 hX) p98 )) (fun r99 P100 g101 => mpp 146 rfl ?_)
        obtain ⟨⟨x102, rfl, g103⟩, hT104, k105, R106⟩ := g101
        have k107 : KW [514, 515, 516, 517, 518, 519] Po P100 := KW.trans k79 k105 rfl
        have wx102 := ti_full x102
        replace g103 : 0 ≤ x102.toInt ∧ x102.toInt ≤ 1 ∧ (∃ k : Nat, RUN KK (chC P72) (fv P72 289 2).toInt k ∧ (fv P100 289 2).toInt = (fv P72 289 2).toInt + (k : Int) ∧ fv P100 289 5 = knV (chC P72) (fv P72 289 2).toInt k ∧ (fv P100 289 6).toInt = (k : Int) ∧ ((x102.toInt = 1 ∧ 1 ≤ k) ∨ (x102.toInt = 0 ∧ k = 0))) := g103
        have g109 := ti_full (fv P100 289 2)
        show MEvP _ none q_97 146 [(0, .ref 289)] [.int x102] _ _ _ _
        refine mp_Tb (t := 153) (j_if_eq dX4_takeCommand_146) (by decide) (fun c110 => ?_) (fun c110 => mpp 149 rfl ?_)
        · have c110 : x102.toInt = 0 := ti_eq c110
          refine mp_a (a_iconst (v := 0) dX4_takeCommand_153 rfl) (mpp 154 rfl ?_)
          have e111 : (fv P100 289 3).toInt = (fv P9 289 3).toInt := congrArg Int32.toInt ((KW.at k105 3 rl_289 rfl).trans ((KW.at k77 3 rl_289 rfl).trans ((KW.at k51 3 rl_289 rfl).trans (f40 289 3 (ne_k rfl)))))
          have g112 := ti_full (fv P100 289 4)
          have g113 := ti_full (fv P100 289 5)
          have g114 := ti_full (fv P100 289 6)
          have g115 := ti_full (fv P100 289 7)
          have t118_ : chC P37 = chC Po := chC_eq (fun j => by rw [f40 290 j (by omega), f12 290 j (by omega)]) (by rw [f40 289 1 (by omega), f12 289 1 (by omega)])
          have y119_ := g49
          rw [t118_] at y119_
          have t120_ : chC P46 = chC Po := chC_eq (fun j => by rw [R52.2.2 290 j (by omega), f40 290 j (by omega), f12 290 j (by omega)]) (by rw [R52.1, f40 289 1 (by omega), f12 289 1 (by omega)])
          have y121_ := g75
          rw [t120_] at y121_
          have t122_ : chC P72 = chC Po := chC_eq (fun j => by rw [R78.2.2.2.2.2.2 290 j (by omega), R52.2.2 290 j (by omega), f40 290 j (by omega), f12 290 j (by omega)]) (by rw [R78.1, R52.1, f40 289 1 (by omega), f12 289 1 (by omega)])
          have y123_ := g103
          rw [t122_] at y123_
          have e124 : (fv P9 289 2).toInt = (fv Po 289 2).toInt := congrArg Int32.toInt (f12 289 2 (by omega))
          obtain ⟨kw117_, rw117_, pw117_, vw117_, ow117_⟩ := y119_.2.2
          rw [show (fv P37 289 2).toInt = (fv Po 289 2).toInt + 1 from by omega] at rw117_ pw117_ vw117_
          rw [show (fv P46 289 2).toInt = (fv Po 289 2).toInt + 1 + (kw117_ : Int) from by omega] at y121_
          obtain ⟨mw117_, uw117_, tw117_, ww117_, zw117_, yw117_⟩ := y123_.2.2
          rw [show (fv P72 289 2).toInt = (fv Po 289 2).toInt + 2 + (kw117_ : Int) from by omega] at uw117_ tw117_ ww117_
          have u116 : 0 ≤ (0 : Int) ∧ (0 : Int) ≤ 1 ∧ (0 ≤ (fv P100 289 2).toInt ∧ (((0 : Int) = 1 ∧ CMD (chC Po) (fv Po 289 2).toInt (fv P100 289 2).toInt (fv P100 289 3).toInt (fv P100 289 4).toInt (fv P100 289 5).toInt (fv P100 289 6).toInt (fv P100 289 7).toInt) ∨ ((0 : Int) = 0 ∧ ¬ CMO (chC Po) (fv Po 289 2).toInt))) := ⟨by omega, by omega, by omega, Or.inr ⟨rfl, fun ⟨i1, l1, a1, b1, n1, s1, q1, q2⟩ => by
              rcases q2 with ⟨q2, k2, m2, q3, q4, q5, q6, q7, q8⟩ | ⟨q2, _⟩ | ⟨q2, _⟩
              · have e := rw117_.uniq q5; subst e; have e2 := uw117_.uniq q7; omega
              · omega
              · omega⟩⟩
          have u125 : fv P100 289 1 = fv Po 289 1 := by rw [R106.1, R78.1, R52.1, f40 289 1 (by omega), f12 289 1 (by omega)]
          have u126 : KI 289 290 Po P100 := by
            intro x j hx
            rw [R106.2.2.2 x j (by omega), R78.2.2.2.2.2.2 x j (by omega), R52.2.2 x j (by omega), f40 x j (by omega), f12 x j (by omega)]
          exact mp_iret ⟨⟨_, rfl, u116⟩, hT104, k107, ⟨u125, u126⟩⟩ dX4_takeCommand_154 (Or.inr ⟨rfl, by decide⟩)
        · have c110 : x102.toInt ≠ 0 := ti_eq_n c110
          refine mp_a (a_iconst (v := 1) dX4_takeCommand_149 rfl) (mpp 150 rfl ?_)
          refine mp_a (a_goto (t := 154) dX4_takeCommand_150 (by decide)) ?_
          have e127 : (fv P100 289 3).toInt = (fv P9 289 3).toInt := congrArg Int32.toInt ((KW.at k105 3 rl_289 rfl).trans ((KW.at k77 3 rl_289 rfl).trans ((KW.at k51 3 rl_289 rfl).trans (f40 289 3 (ne_k rfl)))))
          have g128 := ti_full (fv P100 289 4)
          have g129 := ti_full (fv P100 289 5)
          have g130 := ti_full (fv P100 289 6)
          have g131 := ti_full (fv P100 289 7)
          have t134_ : chC P37 = chC Po := chC_eq (fun j => by rw [f40 290 j (by omega), f12 290 j (by omega)]) (by rw [f40 289 1 (by omega), f12 289 1 (by omega)])
          have y135_ := g49
          rw [t134_] at y135_
          have t136_ : chC P46 = chC Po := chC_eq (fun j => by rw [R52.2.2 290 j (by omega), f40 290 j (by omega), f12 290 j (by omega)]) (by rw [R52.1, f40 289 1 (by omega), f12 289 1 (by omega)])
          have y137_ := g75
          rw [t136_] at y137_
          have t138_ : chC P72 = chC Po := chC_eq (fun j => by rw [R78.2.2.2.2.2.2 290 j (by omega), R52.2.2 290 j (by omega), f40 290 j (by omega), f12 290 j (by omega)]) (by rw [R78.1, R52.1, f40 289 1 (by omega), f12 289 1 (by omega)])
          have y139_ := g103
          rw [t138_] at y139_
          have e140 : (fv P9 289 2).toInt = (fv Po 289 2).toInt := congrArg Int32.toInt (f12 289 2 (by omega))
          obtain ⟨kw133_, rw133_, pw133_, vw133_, ow133_⟩ := y135_.2.2
          rw [show (fv P37 289 2).toInt = (fv Po 289 2).toInt + 1 from by omega] at rw133_ pw133_ vw133_
          rw [show (fv P46 289 2).toInt = (fv Po 289 2).toInt + 1 + (kw133_ : Int) from by omega] at y137_
          obtain ⟨mw133_, uw133_, tw133_, ww133_, zw133_, yw133_⟩ := y139_.2.2
          rw [show (fv P72 289 2).toInt = (fv Po 289 2).toInt + 2 + (kw133_ : Int) from by omega] at uw133_ tw133_ ww133_
          have u132 : 0 ≤ (1 : Int) ∧ (1 : Int) ≤ 1 ∧ (0 ≤ (fv P100 289 2).toInt ∧ (((1 : Int) = 1 ∧ CMD (chC Po) (fv Po 289 2).toInt (fv P100 289 2).toInt (fv P100 289 3).toInt (fv P100 289 4).toInt (fv P100 289 5).toInt (fv P100 289 6).toInt (fv P100 289 7).toInt) ∨ ((1 : Int) = 0 ∧ ¬ CMO (chC Po) (fv Po 289 2).toInt))) := ⟨by omega, by omega, by omega, Or.inl ⟨rfl, (show (fv P100 289 3).toInt = (chC Po (fv Po 289 2).toInt).toInt from by rw [R106.2.1, R78.2.1, R52.2.1, f40 289 3 (by omega), f11]; omega), Or.inl ⟨by have e := (show (fv P100 289 3).toInt = (chC Po (fv Po 289 2).toInt).toInt from by rw [R106.2.1, R78.2.1, R52.2.1, f40 289 3 (by omega), f11]; omega); omega, kw133_, mw133_, by omega, by omega, rw133_, by rw [show (fv Po 289 2).toInt + 1 + (kw133_ : Int) = (fv Po 289 2).toInt + 1 + kw133_ from rfl]; omega, uw133_, by omega, (congrArg Int32.toInt (show fv P100 289 4 = szI (chC Po) ((fv Po 289 2).toInt + 1) kw133_ from by rw [R106.2.2.1, R78.2.2.1]; exact vw133_)), congrArg Int32.toInt ww133_, by omega⟩⟩⟩
          have u141 : fv P100 289 1 = fv Po 289 1 := by rw [R106.1, R78.1, R52.1, f40 289 1 (by omega), f12 289 1 (by omega)]
          have u142 : KI 289 290 Po P100 := by
            intro x j hx
            rw [R106.2.2.2 x j (by omega), R78.2.2.2.2.2.2 x j (by omega), R52.2.2 x j (by omega), f40 x j (by omega), f12 x j (by omega)]
          exact mp_iret ⟨⟨_, rfl, u132⟩, hT104, k107, ⟨u141, u142⟩⟩ dX4_takeCommand_154 (Or.inr ⟨rfl, by decide⟩)
  · refine mp_t (s_tabIn (t := 225) (off := 213) dX4_takeCommand_12 (by omega) (by rw [c18]; rfl) (by decide)) ?_
    refine mp_a (a_iconst (v := 0) dX4_takeCommand_225 rfl) (mpp 226 rfl ?_)
    have e143 : (fv P9 289 2).toInt = (fv Po 289 2).toInt := congrArg Int32.toInt (f12 289 2 (ne_k rfl))
    have g144 := ti_full (fv P9 289 4)
    have g145 := ti_full (fv P9 289 5)
    have g146 := ti_full (fv P9 289 6)
    have g147 := ti_full (fv P9 289 7)
    have u148 : 0 ≤ (0 : Int) ∧ (0 : Int) ≤ 1 ∧ (0 ≤ (fv P9 289 2).toInt ∧ (((0 : Int) = 1 ∧ CMD (chC Po) (fv Po 289 2).toInt (fv P9 289 2).toInt (fv P9 289 3).toInt (fv P9 289 4).toInt (fv P9 289 5).toInt (fv P9 289 6).toInt (fv P9 289 7).toInt) ∨ ((0 : Int) = 0 ∧ ¬ CMO (chC Po) (fv Po 289 2).toInt))) := ⟨by omega, by omega, by omega, Or.inr ⟨rfl, fun ⟨i1, l1, a1, b1, n1, s1, q1, q2⟩ => by rcases q2 with ⟨q2, _⟩ | ⟨q2, _⟩ | ⟨q2, _⟩ <;> omega⟩⟩
    have u150 : fv P9 289 1 = fv Po 289 1 := by rw [f12 289 1 (by omega)]
    have u151 : KI 289 290 Po P9 := by
      intro x j hx
      rw [f12 x j (by omega)]
    exact mp_iret ⟨⟨_, rfl, u148⟩, hT10, k14, ⟨u150, u151⟩⟩ dX4_takeCommand_226 (Or.inr ⟨rfl, by decide⟩)
  · refine mp_t (s_tabIn (t := 225) (off := 213) dX4_takeCommand_12 (by omega) (by rw [c18]; rfl) (by decide)) ?_
    refine mp_a (a_iconst (v := 0) dX4_takeCommand_225 rfl) (mpp 226 rfl ?_)
    have e152 : (fv P9 289 2).toInt = (fv Po 289 2).toInt := congrArg Int32.toInt (f12 289 2 (ne_k rfl))
    have g153 := ti_full (fv P9 289 4)
    have g154 := ti_full (fv P9 289 5)
    have g155 := ti_full (fv P9 289 6)
    have g156 := ti_full (fv P9 289 7)
    have u157 : 0 ≤ (0 : Int) ∧ (0 : Int) ≤ 1 ∧ (0 ≤ (fv P9 289 2).toInt ∧ (((0 : Int) = 1 ∧ CMD (chC Po) (fv Po 289 2).toInt (fv P9 289 2).toInt (fv P9 289 3).toInt (fv P9 289 4).toInt (fv P9 289 5).toInt (fv P9 289 6).toInt (fv P9 289 7).toInt) ∨ ((0 : Int) = 0 ∧ ¬ CMO (chC Po) (fv Po 289 2).toInt))) := ⟨by omega, by omega, by omega, Or.inr ⟨rfl, fun ⟨i1, l1, a1, b1, n1, s1, q1, q2⟩ => by rcases q2 with ⟨q2, _⟩ | ⟨q2, _⟩ | ⟨q2, _⟩ <;> omega⟩⟩
    have u159 : fv P9 289 1 = fv Po 289 1 := by rw [f12 289 1 (by omega)]
    have u160 : KI 289 290 Po P9 := by
      intro x j hx
      rw [f12 x j (by omega)]
    exact mp_iret ⟨⟨_, rfl, u157⟩, hT10, k14, ⟨u159, u160⟩⟩ dX4_takeCommand_226 (Or.inr ⟨rfl, by decide⟩)
  · refine mp_t (s_tabIn (t := 210) (off := 198) dX4_takeCommand_12 (by omega) (by rw [c18]; rfl) (by decide)) ?_
    have q161 : (0 : Int) ≤ (fv Po 289 1).toInt ∧ (fv Po 289 1).toInt ≤ 80 := Typ.rng hT rl_289 (by decide) (by decide) rfl
    have e162 : (fv P9 289 2).toInt = (fv Po 289 2).toInt := congrArg Int32.toInt (f12 289 2 (by omega))
    have q163 := ch_lt (t := fun j => fv Po 290 j) (L := (fv Po 289 1).toInt) (i := (fv Po 289 2).toInt) (show ¬ (chC Po (fv Po 289 2).toInt).toInt = -1 from by omega)
    refine mp_a (a_aload_n dX4_takeCommand_210 rfl) (mpp 211 rfl ?_)
    refine mp_t (s_dup dX4_takeCommand_211 rfl) (mpp 212 rfl ?_)
    have e164 : (fv P9 289 2).toInt = (fv Po 289 2).toInt := congrArg Int32.toInt (f12 289 2 (ne_k rfl))
    refine mt_getI (i := 23) (k := 2) hT10 dX4_takeCommand_212 rfl rl_289 (by decide) rfl (by decide) rfl (fun g165 g166 => mpp 215 rfl ?_)
    refine mp_a (a_iconst (v := 1) dX4_takeCommand_215 rfl) (mpp 216 rfl ?_)
    obtain ⟨z167, h168⟩ := ti_ex ((fv P9 289 2) + 1 : Int32)
    have wz167 := ti_full z167
    refine mp_t (s_iadd (v := z167) dX4_takeCommand_216 h168) (mpp 217 rfl ?_)
    try have e169 : z167.toInt = (fv P9 289 2).toInt + 1 := ti_addz h168 rfl rfl (by omega) (by omega)
    refine mt_putI (i := 23) (k := 2) (x := z167) hT10 dX4_takeCommand_217 rfl rl_289 (by decide) rfl (by decide) rfl (ti_full z167) rfl rfl (fun P170 hT171 f172 f173 f174 => mpp 220 rfl ?_)
    have k175 : KW [514, 515, 516, 517, 518, 519] Po P170 := KW.step k14 rl_289 rfl f173 f174
    have e176 : (fv P170 289 2).toInt = z167.toInt := congrArg Int32.toInt f172
    refine mp_a (a_aload_n dX4_takeCommand_220 rfl) (mpp 221 rfl ?_)
    have p177 : 0 ≤ (fv P170 289 2).toInt := by omega
    refine mt_callv (i := 50) (q' := q_103) (As := []) (rest := []) hT171 dX4_takeCommand_221 rfl qm_103 (by decide) rfl rl_289 (by decide) rfl (Nat.le_of_ble_eq_true rfl) rfl ⟨rfl, rfl⟩ ⟨Nat.le_of_ble_eq_true rfl, Nat.le_of_ble_eq_true rfl⟩ (EvP.mono (by decide) (c_CS_takePiece_Script hT171 (KW.xr k175 hX) p177 )) (fun r178 P179 g180 => mpp 224 rfl ?_)
    obtain ⟨⟨x181, rfl, g182⟩, hT183, k184, R185⟩ := g180
    have k186 : KW [514, 515, 516, 517, 518, 519] Po P179 := KW.trans k175 k184 rfl
    have wx181 := ti_full x181
    replace g182 : 0 ≤ x181.toInt ∧ x181.toInt ≤ 1 ∧ ((x181.toInt = 1 ∧ (48 ≤ (chC P170 (fv P170 289 2).toInt).toInt ∧ (chC P170 (fv P170 289 2).toInt).toInt ≤ 57) ∧ (fv P179 289 2).toInt = (fv P170 289 2).toInt + 1 ∧ (fv P179 289 4).toInt = (chC P170 (fv P170 289 2).toInt).toInt - 48) ∨ (x181.toInt = 0 ∧ ¬ (48 ≤ (chC P170 (fv P170 289 2).toInt).toInt ∧ (chC P170 (fv P170 289 2).toInt).toInt ≤ 57) ∧ (fv P179 289 2).toInt = (fv P170 289 2).toInt)) := g182
    have g188 := ti_full (fv P179 289 2)
    have g189 := ti_full (fv P179 289 2)
    show MEvP _ none q_97 224 [(0, .ref 289)] [.int x181] _ _ _ _
    have e190 : (fv P179 289 3).toInt = (fv P9 289 3).toInt := congrArg Int32.toInt ((KW.at k184 3 rl_289 rfl).trans (f173 289 3 (ne_k rfl)))
    have g191 := ti_full (fv P179 289 4)
    have g192 := ti_full (fv P179 289 5)
    have g193 := ti_full (fv P179 289 6)
    have g194 := ti_full (fv P179 289 7)
    have t197_ : chC P170 = chC Po := chC_eq (fun j => by rw [f173 290 j (by omega), f12 290 j (by omega)]) (by rw [f173 289 1 (by omega), f12 289 1 (by omega)])
    have y198_ := g182
    rw [t197_] at y198_
    have e199 : (fv P9 289 2).toInt = (fv Po 289 2).toInt := congrArg Int32.toInt (f12 289 2 (by omega))
    rw [show (fv P170 289 2).toInt = (fv Po 289 2).toInt + 1 from by omega] at y198_
    have u195 : 0 ≤ x181.toInt ∧ x181.toInt ≤ 1 ∧ (0 ≤ (fv P179 289 2).toInt ∧ ((x181.toInt = 1 ∧ CMD (chC Po) (fv Po 289 2).toInt (fv P179 289 2).toInt (fv P179 289 3).toInt (fv P179 289 4).toInt (fv P179 289 5).toInt (fv P179 289 6).toInt (fv P179 289 7).toInt) ∨ (x181.toInt = 0 ∧ ¬ CMO (chC Po) (fv Po 289 2).toInt))) := ⟨by omega, by omega, by omega, if hx : x181.toInt = 1 then (Or.inl ⟨by omega, (show (fv P179 289 3).toInt = (chC Po (fv Po 289 2).toInt).toInt from by rw [R185.2.1, f173 289 3 (by omega), f11]; omega), Or.inr (Or.inr ⟨by have e := (show (fv P179 289 3).toInt = (chC Po (fv Po 289 2).toInt).toInt from by rw [R185.2.1, f173 289 3 (by omega), f11]; omega); omega, ⟨by omega, by omega⟩, by omega, by omega⟩)⟩) else Or.inr ⟨by omega, fun ⟨i1, l1, a1, b1, n1, s1, q1, q2⟩ => by rcases q2 with ⟨q2, _⟩ | ⟨q2, q3, _⟩ | ⟨q2, q3, _⟩ <;> omega⟩⟩
    have u200 : fv P179 289 1 = fv Po 289 1 := by rw [R185.1, f173 289 1 (by omega), f12 289 1 (by omega)]
    have u201 : KI 289 290 Po P179 := by
      intro x j hx
      rw [R185.2.2.2.2.2 x j (by omega), f173 x j (by omega), f12 x j (by omega)]
    exact mp_iret ⟨⟨_, rfl, u195⟩, hT183, k186, ⟨u200, u201⟩⟩ dX4_takeCommand_224 (Or.inr ⟨rfl, ti_01 (by omega)⟩)
  · refine mp_t (s_tabIn (t := 225) (off := 213) dX4_takeCommand_12 (by omega) (by rw [c18]; rfl) (by decide)) ?_
    refine mp_a (a_iconst (v := 0) dX4_takeCommand_225 rfl) (mpp 226 rfl ?_)
    have e202 : (fv P9 289 2).toInt = (fv Po 289 2).toInt := congrArg Int32.toInt (f12 289 2 (ne_k rfl))
    have g203 := ti_full (fv P9 289 4)
    have g204 := ti_full (fv P9 289 5)
    have g205 := ti_full (fv P9 289 6)
    have g206 := ti_full (fv P9 289 7)
    have u207 : 0 ≤ (0 : Int) ∧ (0 : Int) ≤ 1 ∧ (0 ≤ (fv P9 289 2).toInt ∧ (((0 : Int) = 1 ∧ CMD (chC Po) (fv Po 289 2).toInt (fv P9 289 2).toInt (fv P9 289 3).toInt (fv P9 289 4).toInt (fv P9 289 5).toInt (fv P9 289 6).toInt (fv P9 289 7).toInt) ∨ ((0 : Int) = 0 ∧ ¬ CMO (chC Po) (fv Po 289 2).toInt))) := ⟨by omega, by omega, by omega, Or.inr ⟨rfl, fun ⟨i1, l1, a1, b1, n1, s1, q1, q2⟩ => by rcases q2 with ⟨q2, _⟩ | ⟨q2, _⟩ | ⟨q2, _⟩ <;> omega⟩⟩
    have u209 : fv P9 289 1 = fv Po 289 1 := by rw [f12 289 1 (by omega)]
    have u210 : KI 289 290 Po P9 := by
      intro x j hx
      rw [f12 x j (by omega)]
    exact mp_iret ⟨⟨_, rfl, u207⟩, hT10, k14, ⟨u209, u210⟩⟩ dX4_takeCommand_226 (Or.inr ⟨rfl, by decide⟩)
  · refine mp_t (s_tabIn (t := 225) (off := 213) dX4_takeCommand_12 (by omega) (by rw [c18]; rfl) (by decide)) ?_
    refine mp_a (a_iconst (v := 0) dX4_takeCommand_225 rfl) (mpp 226 rfl ?_)
    have e211 : (fv P9 289 2).toInt = (fv Po 289 2).toInt := congrArg Int32.toInt (f12 289 2 (ne_k rfl))
    have g212 := ti_full (fv P9 289 4)
    have g213 := ti_full (fv P9 289 5)
    have g214 := ti_full (fv P9 289 6)
    have g215 := ti_full (fv P9 289 7)
    have u216 : 0 ≤ (0 : Int) ∧ (0 : Int) ≤ 1 ∧ (0 ≤ (fv P9 289 2).toInt ∧ (((0 : Int) = 1 ∧ CMD (chC Po) (fv Po 289 2).toInt (fv P9 289 2).toInt (fv P9 289 3).toInt (fv P9 289 4).toInt (fv P9 289 5).toInt (fv P9 289 6).toInt (fv P9 289 7).toInt) ∨ ((0 : Int) = 0 ∧ ¬ CMO (chC Po) (fv Po 289 2).toInt))) := ⟨by omega, by omega, by omega, Or.inr ⟨rfl, fun ⟨i1, l1, a1, b1, n1, s1, q1, q2⟩ => by rcases q2 with ⟨q2, _⟩ | ⟨q2, _⟩ | ⟨q2, _⟩ <;> omega⟩⟩
    have u218 : fv P9 289 1 = fv Po 289 1 := by rw [f12 289 1 (by omega)]
    have u219 : KI 289 290 Po P9 := by
      intro x j hx
      rw [f12 x j (by omega)]
    exact mp_iret ⟨⟨_, rfl, u216⟩, hT10, k14, ⟨u218, u219⟩⟩ dX4_takeCommand_226 (Or.inr ⟨rfl, by decide⟩)
  · refine mp_t (s_tabIn (t := 225) (off := 213) dX4_takeCommand_12 (by omega) (by rw [c18]; rfl) (by decide)) ?_
    refine mp_a (a_iconst (v := 0) dX4_takeCommand_225 rfl) (mpp 226 rfl ?_)
    have e220 : (fv P9 289 2).toInt = (fv Po 289 2).toInt := congrArg Int32.toInt (f12 289 2 (ne_k rfl))
    have g221 := ti_full (fv P9 289 4)
    have g222 := ti_full (fv P9 289 5)
    have g223 := ti_full (fv P9 289 6)
    have g224 := ti_full (fv P9 289 7)
    have u225 : 0 ≤ (0 : Int) ∧ (0 : Int) ≤ 1 ∧ (0 ≤ (fv P9 289 2).toInt ∧ (((0 : Int) = 1 ∧ CMD (chC Po) (fv Po 289 2).toInt (fv P9 289 2).toInt (fv P9 289 3).toInt (fv P9 289 4).toInt (fv P9 289 5).toInt (fv P9 289 6).toInt (fv P9 289 7).toInt) ∨ ((0 : Int) = 0 ∧ ¬ CMO (chC Po) (fv Po 289 2).toInt))) := ⟨by omega, by omega, by omega, Or.inr ⟨rfl, fun ⟨i1, l1, a1, b1, n1, s1, q1, q2⟩ => by rcases q2 with ⟨q2, _⟩ | ⟨q2, _⟩ | ⟨q2, _⟩ <;> omega⟩⟩
    have u227 : fv P9 289 1 = fv Po 289 1 := by rw [f12 289 1 (by omega)]
    have u228 : KI 289 290 Po P9 := by
      intro x j hx
      rw [f12 x j (by omega)]
    exact mp_iret ⟨⟨_, rfl, u225⟩, hT10, k14, ⟨u227, u228⟩⟩ dX4_takeCommand_226 (Or.inr ⟨rfl, by decide⟩)
  · refine mp_t (s_tabIn (t := 225) (off := 213) dX4_takeCommand_12 (by omega) (by rw [c18]; rfl) (by decide)) ?_
    refine mp_a (a_iconst (v := 0) dX4_takeCommand_225 rfl) (mpp 226 rfl ?_)
    have e229 : (fv P9 289 2).toInt = (fv Po 289 2).toInt := congrArg Int32.toInt (f12 289 2 (ne_k rfl))
    have g230 := ti_full (fv P9 289 4)
    have g231 := ti_full (fv P9 289 5)
    have g232 := ti_full (fv P9 289 6)
    have g233 := ti_full (fv P9 289 7)
    have u234 : 0 ≤ (0 : Int) ∧ (0 : Int) ≤ 1 ∧ (0 ≤ (fv P9 289 2).toInt ∧ (((0 : Int) = 1 ∧ CMD (chC Po) (fv Po 289 2).toInt (fv P9 289 2).toInt (fv P9 289 3).toInt (fv P9 289 4).toInt (fv P9 289 5).toInt (fv P9 289 6).toInt (fv P9 289 7).toInt) ∨ ((0 : Int) = 0 ∧ ¬ CMO (chC Po) (fv Po 289 2).toInt))) := ⟨by omega, by omega, by omega, Or.inr ⟨rfl, fun ⟨i1, l1, a1, b1, n1, s1, q1, q2⟩ => by rcases q2 with ⟨q2, _⟩ | ⟨q2, _⟩ | ⟨q2, _⟩ <;> omega⟩⟩
    have u236 : fv P9 289 1 = fv Po 289 1 := by rw [f12 289 1 (by omega)]
    have u237 : KI 289 290 Po P9 := by
      intro x j hx
      rw [f12 x j (by omega)]
    exact mp_iret ⟨⟨_, rfl, u234⟩, hT10, k14, ⟨u236, u237⟩⟩ dX4_takeCommand_226 (Or.inr ⟨rfl, by decide⟩)
  · refine mp_t (s_tabIn (t := 225) (off := 213) dX4_takeCommand_12 (by omega) (by rw [c18]; rfl) (by decide)) ?_
    refine mp_a (a_iconst (v := 0) dX4_takeCommand_225 rfl) (mpp 226 rfl ?_)
    have e238 : (fv P9 289 2).toInt = (fv Po 289 2).toInt := congrArg Int32.toInt (f12 289 2 (ne_k rfl))
    have g239 := ti_full (fv P9 289 4)
    have g240 := ti_full (fv P9 289 5)
    have g241 := ti_full (fv P9 289 6)
    have g242 := ti_full (fv P9 289 7)
    have u243 : 0 ≤ (0 : Int) ∧ (0 : Int) ≤ 1 ∧ (0 ≤ (fv P9 289 2).toInt ∧ (((0 : Int) = 1 ∧ CMD (chC Po) (fv Po 289 2).toInt (fv P9 289 2).toInt (fv P9 289 3).toInt (fv P9 289 4).toInt (fv P9 289 5).toInt (fv P9 289 6).toInt (fv P9 289 7).toInt) ∨ ((0 : Int) = 0 ∧ ¬ CMO (chC Po) (fv Po 289 2).toInt))) := ⟨by omega, by omega, by omega, Or.inr ⟨rfl, fun ⟨i1, l1, a1, b1, n1, s1, q1, q2⟩ => by rcases q2 with ⟨q2, _⟩ | ⟨q2, _⟩ | ⟨q2, _⟩ <;> omega⟩⟩
    have u245 : fv P9 289 1 = fv Po 289 1 := by rw [f12 289 1 (by omega)]
    have u246 : KI 289 290 Po P9 := by
      intro x j hx
      rw [f12 x j (by omega)]
    exact mp_iret ⟨⟨_, rfl, u243⟩, hT10, k14, ⟨u245, u246⟩⟩ dX4_takeCommand_226 (Or.inr ⟨rfl, by decide⟩)
  · refine mp_t (s_tabIn (t := 225) (off := 213) dX4_takeCommand_12 (by omega) (by rw [c18]; rfl) (by decide)) ?_
    refine mp_a (a_iconst (v := 0) dX4_takeCommand_225 rfl) (mpp 226 rfl ?_)
    have e247 : (fv P9 289 2).toInt = (fv Po 289 2).toInt := congrArg Int32.toInt (f12 289 2 (ne_k rfl))
    have g248 := ti_full (fv P9 289 4)
    have g249 := ti_full (fv P9 289 5)
    have g250 := ti_full (fv P9 289 6)
    have g251 := ti_full (fv P9 289 7)
    have u252 : 0 ≤ (0 : Int) ∧ (0 : Int) ≤ 1 ∧ (0 ≤ (fv P9 289 2).toInt ∧ (((0 : Int) = 1 ∧ CMD (chC Po) (fv Po 289 2).toInt (fv P9 289 2).toInt (fv P9 289 3).toInt (fv P9 289 4).toInt (fv P9 289 5).toInt (fv P9 289 6).toInt (fv P9 289 7).toInt) ∨ ((0 : Int) = 0 ∧ ¬ CMO (chC Po) (fv Po 289 2).toInt))) := ⟨by omega, by omega, by omega, Or.inr ⟨rfl, fun ⟨i1, l1, a1, b1, n1, s1, q1, q2⟩ => by rcases q2 with ⟨q2, _⟩ | ⟨q2, _⟩ | ⟨q2, _⟩ <;> omega⟩⟩
    have u254 : fv P9 289 1 = fv Po 289 1 := by rw [f12 289 1 (by omega)]
    have u255 : KI 289 290 Po P9 := by
      intro x j hx
      rw [f12 x j (by omega)]
    exact mp_iret ⟨⟨_, rfl, u252⟩, hT10, k14, ⟨u254, u255⟩⟩ dX4_takeCommand_226 (Or.inr ⟨rfl, by decide⟩)
  · refine mp_t (s_tabIn (t := 155) (off := 143) dX4_takeCommand_12 (by omega) (by rw [c18]; rfl) (by decide)) ?_
    have q256 : (0 : Int) ≤ (fv Po 289 1).toInt ∧ (fv Po 289 1).toInt ≤ 80 := Typ.rng hT rl_289 (by decide) (by decide) rfl
    have e257 : (fv P9 289 2).toInt = (fv Po 289 2).toInt := congrArg Int32.toInt (f12 289 2 (by omega))
    have q258 := ch_lt (t := fun j => fv Po 290 j) (L := (fv Po 289 1).toInt) (i := (fv Po 289 2).toInt) (show ¬ (chC Po (fv Po 289 2).toInt).toInt = -1 from by omega)
    refine mp_a (a_aload_n dX4_takeCommand_155 rfl) (mpp 156 rfl ?_)
    refine mp_t (s_dup dX4_takeCommand_156 rfl) (mpp 157 rfl ?_)
    have e259 : (fv P9 289 2).toInt = (fv Po 289 2).toInt := congrArg Int32.toInt (f12 289 2 (ne_k rfl))
    refine mt_getI (i := 23) (k := 2) hT10 dX4_takeCommand_157 rfl rl_289 (by decide) rfl (by decide) rfl (fun g260 g261 => mpp 160 rfl ?_)
    refine mp_a (a_iconst (v := 1) dX4_takeCommand_160 rfl) (mpp 161 rfl ?_)
    obtain ⟨z262, h263⟩ := ti_ex ((fv P9 289 2) + 1 : Int32)
    have wz262 := ti_full z262
    refine mp_t (s_iadd (v := z262) dX4_takeCommand_161 h263) (mpp 162 rfl ?_)
    try have e264 : z262.toInt = (fv P9 289 2).toInt + 1 := ti_addz h263 rfl rfl (by omega) (by omega)
    refine mt_putI (i := 23) (k := 2) (x := z262) hT10 dX4_takeCommand_162 rfl rl_289 (by decide) rfl (by decide) rfl (ti_full z262) rfl rfl (fun P265 hT266 f267 f268 f269 => mpp 165 rfl ?_)
    have k270 : KW [514, 515, 516, 517, 518, 519] Po P265 := KW.step k14 rl_289 rfl f268 f269
    have e271 : (fv P265 289 2).toInt = z262.toInt := congrArg Int32.toInt f267
    refine mp_a (a_aload_n dX4_takeCommand_165 rfl) (mpp 166 rfl ?_)
    have p272 : 0 ≤ (fv P265 289 2).toInt := by omega
    refine mt_callv (i := 50) (q' := q_103) (As := []) (rest := []) hT266 dX4_takeCommand_166 rfl qm_103 (by decide) rfl rl_289 (by decide) rfl (Nat.le_of_ble_eq_true rfl) rfl ⟨rfl, rfl⟩ ⟨Nat.le_of_ble_eq_true rfl, Nat.le_of_ble_eq_true rfl⟩ (EvP.mono (by decide) (c_CS_takePiece_Script hT266 (KW.xr k270 hX) p272 )) (fun r273 P274 g275 => mpp 169 rfl ?_)
    obtain ⟨⟨x276, rfl, g277⟩, hT278, k279, R280⟩ := g275
    have k281 : KW [514, 515, 516, 517, 518, 519] Po P274 := KW.trans k270 k279 rfl
    have wx276 := ti_full x276
    replace g277 : 0 ≤ x276.toInt ∧ x276.toInt ≤ 1 ∧ ((x276.toInt = 1 ∧ (48 ≤ (chC P265 (fv P265 289 2).toInt).toInt ∧ (chC P265 (fv P265 289 2).toInt).toInt ≤ 57) ∧ (fv P274 289 2).toInt = (fv P265 289 2).toInt + 1 ∧ (fv P274 289 4).toInt = (chC P265 (fv P265 289 2).toInt).toInt - 48) ∨ (x276.toInt = 0 ∧ ¬ (48 ≤ (chC P265 (fv P265 289 2).toInt).toInt ∧ (chC P265 (fv P265 289 2).toInt).toInt ≤ 57) ∧ (fv P274 289 2).toInt = (fv P265 289 2).toInt)) := g277
    have g283 := ti_full (fv P274 289 2)
    have g284 := ti_full (fv P274 289 2)
    show MEvP _ none q_97 169 [(0, .ref 289)] [.int x276] _ _ _ _
    refine mp_Tb (t := 208) (j_if_eq dX4_takeCommand_169) (by decide) (fun c285 => ?_) (fun c285 => mpp 172 rfl ?_)
    · have c285 : x276.toInt = 0 := ti_eq c285
      refine mp_a (a_iconst (v := 0) dX4_takeCommand_208 rfl) (mpp 209 rfl ?_)
      have e286 : (fv P274 289 3).toInt = (fv P9 289 3).toInt := congrArg Int32.toInt ((KW.at k279 3 rl_289 rfl).trans (f268 289 3 (ne_k rfl)))
      have g287 := ti_full (fv P274 289 4)
      have g288 := ti_full (fv P274 289 5)
      have g289 := ti_full (fv P274 289 6)
      have g290 := ti_full (fv P274 289 7)
      have t293_ : chC P265 = chC Po := chC_eq (fun j => by rw [f268 290 j (by omega), f12 290 j (by omega)]) (by rw [f268 289 1 (by omega), f12 289 1 (by omega)])
      have y294_ := g277
      rw [t293_] at y294_
      have e295 : (fv P9 289 2).toInt = (fv Po 289 2).toInt := congrArg Int32.toInt (f12 289 2 (by omega))
      rw [show (fv P265 289 2).toInt = (fv Po 289 2).toInt + 1 from by omega] at y294_
      have u291 : 0 ≤ (0 : Int) ∧ (0 : Int) ≤ 1 ∧ (0 ≤ (fv P274 289 2).toInt ∧ (((0 : Int) = 1 ∧ CMD (chC Po) (fv Po 289 2).toInt (fv P274 289 2).toInt (fv P274 289 3).toInt (fv P274 289 4).toInt (fv P274 289 5).toInt (fv P274 289 6).toInt (fv P274 289 7).toInt) ∨ ((0 : Int) = 0 ∧ ¬ CMO (chC Po) (fv Po 289 2).toInt))) := ⟨by omega, by omega, by omega, Or.inr ⟨rfl, fun ⟨i1, l1, a1, b1, n1, s1, q1, q2⟩ => by
          rcases q2 with ⟨q2, _⟩ | ⟨q2, q3, q4, q5, q6, q7, q8⟩ | ⟨q2, q3, q8⟩
          · omega
          · omega
          · omega⟩⟩
      have u296 : fv P274 289 1 = fv Po 289 1 := by rw [R280.1, f268 289 1 (by omega), f12 289 1 (by omega)]
      have u297 : KI 289 290 Po P274 := by
        intro x j hx
        rw [R280.2.2.2.2.2 x j (by omega), f268 x j (by omega), f12 x j (by omega)]
      exact mp_iret ⟨⟨_, rfl, u291⟩, hT278, k281, ⟨u296, u297⟩⟩ dX4_takeCommand_209 (Or.inr ⟨rfl, by decide⟩)
    · have c285 : x276.toInt ≠ 0 := ti_eq_n c285
      refine mp_a (a_aload_n dX4_takeCommand_172 rfl) (mpp 173 rfl ?_)
      refine mp_a (a_bipush (v := 46) dX4_takeCommand_173 rfl) (mpp 175 rfl ?_)
      have p298 : 0 ≤ (fv P274 289 2).toInt := by omega
      have p299 : 1 ≤ (46 : Int) := by omega
      refine mt_callv (i := 33) (q' := q_100) (As := [.int 46]) (rest := []) hT278 dX4_takeCommand_175 rfl qm_100 (by decide) rfl rl_289 (by decide) rfl (Nat.le_of_ble_eq_true rfl) rfl ⟨rfl, rfl⟩ ⟨Nat.le_of_ble_eq_true rfl, Nat.le_of_ble_eq_true rfl⟩ (EvP.mono (by decide) (c_CS_takeSign_Script hT278 (KW.xr k281 hX) p298 p299 )) (fun r300 P301 g302 => mpp 178 rfl ?_)
      obtain ⟨⟨x303, rfl, g304⟩, hT305, k306, R307⟩ := g302
      have k308 : KW [514, 515, 516, 517, 518, 519] Po P301 := KW.trans k281 k306 rfl
      have wx303 := ti_full x303
      replace g304 : 0 ≤ x303.toInt ∧ x303.toInt ≤ 1 ∧ ((x303.toInt = 1 ∧ (chC P274 (fv P274 289 2).toInt).toInt = (46 : Int) ∧ (fv P301 289 2).toInt = (fv P274 289 2).toInt + 1) ∨ (x303.toInt = 0 ∧ ¬ (chC P274 (fv P274 289 2).toInt).toInt = (46 : Int) ∧ (fv P301 289 2).toInt = (fv P274 289 2).toInt)) := g304
      have g310 := ti_full (fv P301 289 2)
      have g311 := ti_full (fv P301 289 2)
      show MEvP _ none q_97 178 [(0, .ref 289)] [.int x303] _ _ _ _
      refine mp_Tb (t := 208) (j_if_eq dX4_takeCommand_178) (by decide) (fun c312 => ?_) (fun c312 => mpp 181 rfl ?_)
      · have c312 : x303.toInt = 0 := ti_eq c312
        refine mp_a (a_iconst (v := 0) dX4_takeCommand_208 rfl) (mpp 209 rfl ?_)
        have e313 : (fv P301 289 3).toInt = (fv P9 289 3).toInt := congrArg Int32.toInt ((KW.at k306 3 rl_289 rfl).trans ((KW.at k279 3 rl_289 rfl).trans (f268 289 3 (ne_k rfl))))
        have g314 := ti_full (fv P301 289 4)
        have g315 := ti_full (fv P301 289 5)
        have g316 := ti_full (fv P301 289 6)
        have g317 := ti_full (fv P301 289 7)
        have t320_ : chC P265 = chC Po := chC_eq (fun j => by rw [f268 290 j (by omega), f12 290 j (by omega)]) (by rw [f268 289 1 (by omega), f12 289 1 (by omega)])
        have y321_ := g277
        rw [t320_] at y321_
        have t322_ : chC P274 = chC Po := chC_eq (fun j => by rw [R280.2.2.2.2.2 290 j (by omega), f268 290 j (by omega), f12 290 j (by omega)]) (by rw [R280.1, f268 289 1 (by omega), f12 289 1 (by omega)])
        have y323_ := g304
        rw [t322_] at y323_
        have e324 : (fv P9 289 2).toInt = (fv Po 289 2).toInt := congrArg Int32.toInt (f12 289 2 (by omega))
        rw [show (fv P265 289 2).toInt = (fv Po 289 2).toInt + 1 from by omega] at y321_
        rw [show (fv P274 289 2).toInt = (fv Po 289 2).toInt + 2 from by omega] at y323_
        have u318 : 0 ≤ (0 : Int) ∧ (0 : Int) ≤ 1 ∧ (0 ≤ (fv P301 289 2).toInt ∧ (((0 : Int) = 1 ∧ CMD (chC Po) (fv Po 289 2).toInt (fv P301 289 2).toInt (fv P301 289 3).toInt (fv P301 289 4).toInt (fv P301 289 5).toInt (fv P301 289 6).toInt (fv P301 289 7).toInt) ∨ ((0 : Int) = 0 ∧ ¬ CMO (chC Po) (fv Po 289 2).toInt))) := ⟨by omega, by omega, by omega, Or.inr ⟨rfl, fun ⟨i1, l1, a1, b1, n1, s1, q1, q2⟩ => by
            rcases q2 with ⟨q2, _⟩ | ⟨q2, q3, q4, q5, q6, q7, q8⟩ | ⟨q2, q3, q8⟩
            · omega
            · omega
            · omega⟩⟩
        have u325 : fv P301 289 1 = fv Po 289 1 := by rw [R307.1, R280.1, f268 289 1 (by omega), f12 289 1 (by omega)]
        have u326 : KI 289 290 Po P301 := by
          intro x j hx
          rw [R307.2.2.2.2.2.2 x j (by omega), R280.2.2.2.2.2 x j (by omega), f268 x j (by omega), f12 x j (by omega)]
        exact mp_iret ⟨⟨_, rfl, u318⟩, hT305, k308, ⟨u325, u326⟩⟩ dX4_takeCommand_209 (Or.inr ⟨rfl, by decide⟩)
      · have c312 : x303.toInt ≠ 0 := ti_eq_n c312
        refine mp_a (a_aload_n dX4_takeCommand_181 rfl) (mpp 182 rfl ?_)
        have p327 : 0 ≤ (fv P301 289 2).toInt := by omega
        refine mt_callv (i := 53) (q' := q_105) (As := []) (rest := []) hT305 dX4_takeCommand_182 rfl qm_105 (by decide) rfl rl_289 (by decide) rfl (Nat.le_of_ble_eq_true rfl) rfl ⟨rfl, rfl⟩ ⟨Nat.le_of_ble_eq_true rfl, Nat.le_of_ble_eq_true rfl⟩ (EvP.mono (by decide) (c_CS_takeCrease_Script hT305 (KW.xr k308 hX) p327 )) (fun r328 P329 g330 => mpp 185 rfl ?_)
        obtain ⟨⟨x331, rfl, g332⟩, hT333, k334, R335⟩ := g330
        have k336 : KW [514, 515, 516, 517, 518, 519] Po P329 := KW.trans k308 k334 rfl
        have wx331 := ti_full x331
        replace g332 : 0 ≤ x331.toInt ∧ x331.toInt ≤ 1 ∧ ((x331.toInt = 1 ∧ (48 ≤ (chC P301 (fv P301 289 2).toInt).toInt ∧ (chC P301 (fv P301 289 2).toInt).toInt ≤ 57) ∧ (fv P329 289 2).toInt = (fv P301 289 2).toInt + 1 ∧ (fv P329 289 5).toInt = (chC P301 (fv P301 289 2).toInt).toInt - 48) ∨ (x331.toInt = 0 ∧ ¬ (48 ≤ (chC P301 (fv P301 289 2).toInt).toInt ∧ (chC P301 (fv P301 289 2).toInt).toInt ≤ 57) ∧ (fv P329 289 2).toInt = (fv P301 289 2).toInt)) := g332
        have g338 := ti_full (fv P329 289 2)
        have g339 := ti_full (fv P329 289 2)
        show MEvP _ none q_97 185 [(0, .ref 289)] [.int x331] _ _ _ _
        refine mp_Tb (t := 208) (j_if_eq dX4_takeCommand_185) (by decide) (fun c340 => ?_) (fun c340 => mpp 188 rfl ?_)
        · have c340 : x331.toInt = 0 := ti_eq c340
          refine mp_a (a_iconst (v := 0) dX4_takeCommand_208 rfl) (mpp 209 rfl ?_)
          have e341 : (fv P329 289 3).toInt = (fv P9 289 3).toInt := congrArg Int32.toInt ((KW.at k334 3 rl_289 rfl).trans ((KW.at k306 3 rl_289 rfl).trans ((KW.at k279 3 rl_289 rfl).trans (f268 289 3 (ne_k rfl)))))
          have g342 := ti_full (fv P329 289 4)
          have g343 := ti_full (fv P329 289 5)
          have g344 := ti_full (fv P329 289 6)
          have g345 := ti_full (fv P329 289 7)
          have t348_ : chC P265 = chC Po := chC_eq (fun j => by rw [f268 290 j (by omega), f12 290 j (by omega)]) (by rw [f268 289 1 (by omega), f12 289 1 (by omega)])
          have y349_ := g277
          rw [t348_] at y349_
          have t350_ : chC P274 = chC Po := chC_eq (fun j => by rw [R280.2.2.2.2.2 290 j (by omega), f268 290 j (by omega), f12 290 j (by omega)]) (by rw [R280.1, f268 289 1 (by omega), f12 289 1 (by omega)])
          have y351_ := g304
          rw [t350_] at y351_
          have t352_ : chC P301 = chC Po := chC_eq (fun j => by rw [R307.2.2.2.2.2.2 290 j (by omega), R280.2.2.2.2.2 290 j (by omega), f268 290 j (by omega), f12 290 j (by omega)]) (by rw [R307.1, R280.1, f268 289 1 (by omega), f12 289 1 (by omega)])
          have y353_ := g332
          rw [t352_] at y353_
          have e354 : (fv P9 289 2).toInt = (fv Po 289 2).toInt := congrArg Int32.toInt (f12 289 2 (by omega))
          rw [show (fv P265 289 2).toInt = (fv Po 289 2).toInt + 1 from by omega] at y349_
          rw [show (fv P274 289 2).toInt = (fv Po 289 2).toInt + 2 from by omega] at y351_
          rw [show (fv P301 289 2).toInt = (fv Po 289 2).toInt + 3 from by omega] at y353_
          have u346 : 0 ≤ (0 : Int) ∧ (0 : Int) ≤ 1 ∧ (0 ≤ (fv P329 289 2).toInt ∧ (((0 : Int) = 1 ∧ CMD (chC Po) (fv Po 289 2).toInt (fv P329 289 2).toInt (fv P329 289 3).toInt (fv P329 289 4).toInt (fv P329 289 5).toInt (fv P329 289 6).toInt (fv P329 289 7).toInt) ∨ ((0 : Int) = 0 ∧ ¬ CMO (chC Po) (fv Po 289 2).toInt))) := ⟨by omega, by omega, by omega, Or.inr ⟨rfl, fun ⟨i1, l1, a1, b1, n1, s1, q1, q2⟩ => by
              rcases q2 with ⟨q2, _⟩ | ⟨q2, q3, q4, q5, q6, q7, q8⟩ | ⟨q2, q3, q8⟩
              · omega
              · omega
              · omega⟩⟩
          have u355 : fv P329 289 1 = fv Po 289 1 := by rw [R335.1, R307.1, R280.1, f268 289 1 (by omega), f12 289 1 (by omega)]
          have u356 : KI 289 290 Po P329 := by
            intro x j hx
            rw [R335.2.2.2.2.2 x j (by omega), R307.2.2.2.2.2.2 x j (by omega), R280.2.2.2.2.2 x j (by omega), f268 x j (by omega), f12 x j (by omega)]
          exact mp_iret ⟨⟨_, rfl, u346⟩, hT333, k336, ⟨u355, u356⟩⟩ dX4_takeCommand_209 (Or.inr ⟨rfl, by decide⟩)
        · have c340 : x331.toInt ≠ 0 := ti_eq_n c340
          refine mp_a (a_aload_n dX4_takeCommand_188 rfl) (mpp 189 rfl ?_)
          refine mp_a (a_bipush (v := 61) dX4_takeCommand_189 rfl) (mpp 191 rfl ?_)
          have p357 : 0 ≤ (fv P329 289 2).toInt := by omega
          have p358 : 1 ≤ (61 : Int) := by omega
          refine mt_callv (i := 33) (q' := q_100) (As := [.int 61]) (rest := []) hT333 dX4_takeCommand_191 rfl qm_100 (by decide) rfl rl_289 (by decide) rfl (Nat.le_of_ble_eq_true rfl) rfl ⟨rfl, rfl⟩ ⟨Nat.le_of_ble_eq_true rfl, Nat.le_of_ble_eq_true rfl⟩ (EvP.mono (by decide) (c_CS_takeSign_Script hT333 (KW.xr k336 hX) p357 p358 )) (fun r359 P360 g361 => mpp 194 rfl ?_)
          obtain ⟨⟨x362, rfl, g363⟩, hT364, k365, R366⟩ := g361
          have k367 : KW [514, 515, 516, 517, 518, 519] Po P360 := KW.trans k336 k365 rfl
          have wx362 := ti_full x362
          replace g363 : 0 ≤ x362.toInt ∧ x362.toInt ≤ 1 ∧ ((x362.toInt = 1 ∧ (chC P329 (fv P329 289 2).toInt).toInt = (61 : Int) ∧ (fv P360 289 2).toInt = (fv P329 289 2).toInt + 1) ∨ (x362.toInt = 0 ∧ ¬ (chC P329 (fv P329 289 2).toInt).toInt = (61 : Int) ∧ (fv P360 289 2).toInt = (fv P329 289 2).toInt)) := g363
          have g369 := ti_full (fv P360 289 2)
          have g370 := ti_full (fv P360 289 2)
          show MEvP _ none q_97 194 [(0, .ref 289)] [.int x362] _ _ _ _
          refine mp_Tb (t := 208) (j_if_eq dX4_takeCommand_194) (by decide) (fun c371 => ?_) (fun c371 => mpp 197 rfl ?_)
          · have c371 : x362.toInt = 0 := ti_eq c371
            refine mp_a (a_iconst (v := 0) dX4_takeCommand_208 rfl) (mpp 209 rfl ?_)
            have e372 : (fv P360 289 3).toInt = (fv P9 289 3).toInt := congrArg Int32.toInt ((KW.at k365 3 rl_289 rfl).trans ((KW.at k334 3 rl_289 rfl).trans ((KW.at k306 3 rl_289 rfl).trans ((KW.at k279 3 rl_289 rfl).trans (f268 289 3 (ne_k rfl))))))
            have g373 := ti_full (fv P360 289 4)
            have g374 := ti_full (fv P360 289 5)
            have g375 := ti_full (fv P360 289 6)
            have g376 := ti_full (fv P360 289 7)
            have t379_ : chC P265 = chC Po := chC_eq (fun j => by rw [f268 290 j (by omega), f12 290 j (by omega)]) (by rw [f268 289 1 (by omega), f12 289 1 (by omega)])
            have y380_ := g277
            rw [t379_] at y380_
            have t381_ : chC P274 = chC Po := chC_eq (fun j => by rw [R280.2.2.2.2.2 290 j (by omega), f268 290 j (by omega), f12 290 j (by omega)]) (by rw [R280.1, f268 289 1 (by omega), f12 289 1 (by omega)])
            have y382_ := g304
            rw [t381_] at y382_
            have t383_ : chC P301 = chC Po := chC_eq (fun j => by rw [R307.2.2.2.2.2.2 290 j (by omega), R280.2.2.2.2.2 290 j (by omega), f268 290 j (by omega), f12 290 j (by omega)]) (by rw [R307.1, R280.1, f268 289 1 (by omega), f12 289 1 (by omega)])
            have y384_ := g332
            rw [t383_] at y384_
            have t385_ : chC P329 = chC Po := chC_eq (fun j => by rw [R335.2.2.2.2.2 290 j (by omega), R307.2.2.2.2.2.2 290 j (by omega), R280.2.2.2.2.2 290 j (by omega), f268 290 j (by omega), f12 290 j (by omega)]) (by rw [R335.1, R307.1, R280.1, f268 289 1 (by omega), f12 289 1 (by omega)])
            have y386_ := g363
            rw [t385_] at y386_
            have e387 : (fv P9 289 2).toInt = (fv Po 289 2).toInt := congrArg Int32.toInt (f12 289 2 (by omega))
            rw [show (fv P265 289 2).toInt = (fv Po 289 2).toInt + 1 from by omega] at y380_
            rw [show (fv P274 289 2).toInt = (fv Po 289 2).toInt + 2 from by omega] at y382_
            rw [show (fv P301 289 2).toInt = (fv Po 289 2).toInt + 3 from by omega] at y384_
            rw [show (fv P329 289 2).toInt = (fv Po 289 2).toInt + 4 from by omega] at y386_
            have u377 : 0 ≤ (0 : Int) ∧ (0 : Int) ≤ 1 ∧ (0 ≤ (fv P360 289 2).toInt ∧ (((0 : Int) = 1 ∧ CMD (chC Po) (fv Po 289 2).toInt (fv P360 289 2).toInt (fv P360 289 3).toInt (fv P360 289 4).toInt (fv P360 289 5).toInt (fv P360 289 6).toInt (fv P360 289 7).toInt) ∨ ((0 : Int) = 0 ∧ ¬ CMO (chC Po) (fv Po 289 2).toInt))) := ⟨by omega, by omega, by omega, Or.inr ⟨rfl, fun ⟨i1, l1, a1, b1, n1, s1, q1, q2⟩ => by
                rcases q2 with ⟨q2, _⟩ | ⟨q2, q3, q4, q5, q6, q7, q8⟩ | ⟨q2, q3, q8⟩
                · omega
                · omega
                · omega⟩⟩
            have u388 : fv P360 289 1 = fv Po 289 1 := by rw [R366.1, R335.1, R307.1, R280.1, f268 289 1 (by omega), f12 289 1 (by omega)]
            have u389 : KI 289 290 Po P360 := by
              intro x j hx
              rw [R366.2.2.2.2.2.2 x j (by omega), R335.2.2.2.2.2 x j (by omega), R307.2.2.2.2.2.2 x j (by omega), R280.2.2.2.2.2 x j (by omega), f268 x j (by omega), f12 x j (by omega)]
            exact mp_iret ⟨⟨_, rfl, u377⟩, hT364, k367, ⟨u388, u389⟩⟩ dX4_takeCommand_209 (Or.inr ⟨rfl, by decide⟩)
          · have c371 : x362.toInt ≠ 0 := ti_eq_n c371
            refine mp_a (a_aload_n dX4_takeCommand_197 rfl) (mpp 198 rfl ?_)
            have p390 : 0 ≤ (fv P360 289 2).toInt := by omega
            refine mt_callv (i := 56) (q' := q_102) (As := []) (rest := []) hT364 dX4_takeCommand_198 rfl qm_102 (by decide) rfl rl_289 (by decide) rfl (Nat.le_of_ble_eq_true rfl) rfl ⟨rfl, rfl⟩ ⟨Nat.le_of_ble_eq_true rfl, Nat.le_of_ble_eq_true rfl⟩ (EvP.mono (by decide) (c_CS_takeKind_Script hT364 (KW.xr k367 hX) p390 )) (fun r391 P392 g393 => mpp 201 rfl ?_)
            obtain ⟨⟨x394, rfl, g395⟩, hT396, k397, R398⟩ := g393
            have k399 : KW [514, 515, 516, 517, 518, 519] Po P392 := KW.trans k367 k397 rfl
            have wx394 := ti_full x394
            replace g395 : 0 ≤ x394.toInt ∧ x394.toInt ≤ 1 ∧ ((x394.toInt = 1 ∧ ((chC P360 (fv P360 289 2).toInt).toInt = 111 ∨ (chC P360 (fv P360 289 2).toInt).toInt = 109 ∨ (chC P360 (fv P360 289 2).toInt).toInt = 118) ∧ (fv P392 289 2).toInt = (fv P360 289 2).toInt + 1 ∧ (fv P392 289 7).toInt = (kn (chC P360 (fv P360 289 2).toInt).toInt).toInt) ∨ (x394.toInt = 0 ∧ ¬ ((chC P360 (fv P360 289 2).toInt).toInt = 111 ∨ (chC P360 (fv P360 289 2).toInt).toInt = 109 ∨ (chC P360 (fv P360 289 2).toInt).toInt = 118) ∧ (fv P392 289 2).toInt = (fv P360 289 2).toInt ∧ fv P392 289 7 = fv P360 289 7)) := g395
            have g401 := ti_full (fv P392 289 2)
            have g402 := ti_full (fv P392 289 2)
            show MEvP _ none q_97 201 [(0, .ref 289)] [.int x394] _ _ _ _
            refine mp_Tb (t := 208) (j_if_eq dX4_takeCommand_201) (by decide) (fun c403 => ?_) (fun c403 => mpp 204 rfl ?_)
            · have c403 : x394.toInt = 0 := ti_eq c403
              refine mp_a (a_iconst (v := 0) dX4_takeCommand_208 rfl) (mpp 209 rfl ?_)
              have e404 : (fv P392 289 3).toInt = (fv P9 289 3).toInt := congrArg Int32.toInt ((KW.at k397 3 rl_289 rfl).trans ((KW.at k365 3 rl_289 rfl).trans ((KW.at k334 3 rl_289 rfl).trans ((KW.at k306 3 rl_289 rfl).trans ((KW.at k279 3 rl_289 rfl).trans (f268 289 3 (ne_k rfl)))))))
              have g405 := ti_full (fv P392 289 4)
              have g406 := ti_full (fv P392 289 5)
              have g407 := ti_full (fv P392 289 6)
              have g408 := ti_full (fv P392 289 7)
              have t411_ : chC P265 = chC Po := chC_eq (fun j => by rw [f268 290 j (by omega), f12 290 j (by omega)]) (by rw [f268 289 1 (by omega), f12 289 1 (by omega)])
              have y412_ := g277
              rw [t411_] at y412_
              have t413_ : chC P274 = chC Po := chC_eq (fun j => by rw [R280.2.2.2.2.2 290 j (by omega), f268 290 j (by omega), f12 290 j (by omega)]) (by rw [R280.1, f268 289 1 (by omega), f12 289 1 (by omega)])
              have y414_ := g304
              rw [t413_] at y414_
              have t415_ : chC P301 = chC Po := chC_eq (fun j => by rw [R307.2.2.2.2.2.2 290 j (by omega), R280.2.2.2.2.2 290 j (by omega), f268 290 j (by omega), f12 290 j (by omega)]) (by rw [R307.1, R280.1, f268 289 1 (by omega), f12 289 1 (by omega)])
              have y416_ := g332
              rw [t415_] at y416_
              have t417_ : chC P329 = chC Po := chC_eq (fun j => by rw [R335.2.2.2.2.2 290 j (by omega), R307.2.2.2.2.2.2 290 j (by omega), R280.2.2.2.2.2 290 j (by omega), f268 290 j (by omega), f12 290 j (by omega)]) (by rw [R335.1, R307.1, R280.1, f268 289 1 (by omega), f12 289 1 (by omega)])
              have y418_ := g363
              rw [t417_] at y418_
              have t419_ : chC P360 = chC Po := chC_eq (fun j => by rw [R366.2.2.2.2.2.2 290 j (by omega), R335.2.2.2.2.2 290 j (by omega), R307.2.2.2.2.2.2 290 j (by omega), R280.2.2.2.2.2 290 j (by omega), f268 290 j (by omega), f12 290 j (by omega)]) (by rw [R366.1, R335.1, R307.1, R280.1, f268 289 1 (by omega), f12 289 1 (by omega)])
              have y420_ := g395
              rw [t419_] at y420_
              have e421 : (fv P9 289 2).toInt = (fv Po 289 2).toInt := congrArg Int32.toInt (f12 289 2 (by omega))
              rw [show (fv P265 289 2).toInt = (fv Po 289 2).toInt + 1 from by omega] at y412_
              rw [show (fv P274 289 2).toInt = (fv Po 289 2).toInt + 2 from by omega] at y414_
              rw [show (fv P301 289 2).toInt = (fv Po 289 2).toInt + 3 from by omega] at y416_
              rw [show (fv P329 289 2).toInt = (fv Po 289 2).toInt + 4 from by omega] at y418_
              rw [show (fv P360 289 2).toInt = (fv Po 289 2).toInt + 5 from by omega] at y420_
              have u409 : 0 ≤ (0 : Int) ∧ (0 : Int) ≤ 1 ∧ (0 ≤ (fv P392 289 2).toInt ∧ (((0 : Int) = 1 ∧ CMD (chC Po) (fv Po 289 2).toInt (fv P392 289 2).toInt (fv P392 289 3).toInt (fv P392 289 4).toInt (fv P392 289 5).toInt (fv P392 289 6).toInt (fv P392 289 7).toInt) ∨ ((0 : Int) = 0 ∧ ¬ CMO (chC Po) (fv Po 289 2).toInt))) := ⟨by omega, by omega, by omega, Or.inr ⟨rfl, fun ⟨i1, l1, a1, b1, n1, s1, q1, q2⟩ => by
                  rcases q2 with ⟨q2, _⟩ | ⟨q2, q3, q4, q5, q6, q7, q8⟩ | ⟨q2, q3, q8⟩
                  · omega
                  · omega
                  · omega⟩⟩
              have u422 : fv P392 289 1 = fv Po 289 1 := by rw [R398.1, R366.1, R335.1, R307.1, R280.1, f268 289 1 (by omega), f12 289 1 (by omega)]
              have u423 : KI 289 290 Po P392 := by
                intro x j hx
                rw [R398.2.2.2.2.2 x j (by omega), R366.2.2.2.2.2.2 x j (by omega), R335.2.2.2.2.2 x j (by omega), R307.2.2.2.2.2.2 x j (by omega), R280.2.2.2.2.2 x j (by omega), f268 x j (by omega), f12 x j (by omega)]
              exact mp_iret ⟨⟨_, rfl, u409⟩, hT396, k399, ⟨u422, u423⟩⟩ dX4_takeCommand_209 (Or.inr ⟨rfl, by decide⟩)
            · have c403 : x394.toInt ≠ 0 := ti_eq_n c403
              refine mp_a (a_iconst (v := 1) dX4_takeCommand_204 rfl) (mpp 205 rfl ?_)
              refine mp_a (a_goto (t := 209) dX4_takeCommand_205 (by decide)) ?_
              have e424 : (fv P392 289 3).toInt = (fv P9 289 3).toInt := congrArg Int32.toInt ((KW.at k397 3 rl_289 rfl).trans ((KW.at k365 3 rl_289 rfl).trans ((KW.at k334 3 rl_289 rfl).trans ((KW.at k306 3 rl_289 rfl).trans ((KW.at k279 3 rl_289 rfl).trans (f268 289 3 (ne_k rfl)))))))
              have g425 := ti_full (fv P392 289 4)
              have g426 := ti_full (fv P392 289 5)
              have g427 := ti_full (fv P392 289 6)
              have g428 := ti_full (fv P392 289 7)
              have t431_ : chC P265 = chC Po := chC_eq (fun j => by rw [f268 290 j (by omega), f12 290 j (by omega)]) (by rw [f268 289 1 (by omega), f12 289 1 (by omega)])
              have y432_ := g277
              rw [t431_] at y432_
              have t433_ : chC P274 = chC Po := chC_eq (fun j => by rw [R280.2.2.2.2.2 290 j (by omega), f268 290 j (by omega), f12 290 j (by omega)]) (by rw [R280.1, f268 289 1 (by omega), f12 289 1 (by omega)])
              have y434_ := g304
              rw [t433_] at y434_
              have t435_ : chC P301 = chC Po := chC_eq (fun j => by rw [R307.2.2.2.2.2.2 290 j (by omega), R280.2.2.2.2.2 290 j (by omega), f268 290 j (by omega), f12 290 j (by omega)]) (by rw [R307.1, R280.1, f268 289 1 (by omega), f12 289 1 (by omega)])
              have y436_ := g332
              rw [t435_] at y436_
              have t437_ : chC P329 = chC Po := chC_eq (fun j => by rw [R335.2.2.2.2.2 290 j (by omega), R307.2.2.2.2.2.2 290 j (by omega), R280.2.2.2.2.2 290 j (by omega), f268 290 j (by omega), f12 290 j (by omega)]) (by rw [R335.1, R307.1, R280.1, f268 289 1 (by omega), f12 289 1 (by omega)])
              have y438_ := g363
              rw [t437_] at y438_
              have t439_ : chC P360 = chC Po := chC_eq (fun j => by rw [R366.2.2.2.2.2.2 290 j (by omega), R335.2.2.2.2.2 290 j (by omega), R307.2.2.2.2.2.2 290 j (by omega), R280.2.2.2.2.2 290 j (by omega), f268 290 j (by omega), f12 290 j (by omega)]) (by rw [R366.1, R335.1, R307.1, R280.1, f268 289 1 (by omega), f12 289 1 (by omega)])
              have y440_ := g395
              rw [t439_] at y440_
              have e441 : (fv P9 289 2).toInt = (fv Po 289 2).toInt := congrArg Int32.toInt (f12 289 2 (by omega))
              rw [show (fv P265 289 2).toInt = (fv Po 289 2).toInt + 1 from by omega] at y432_
              rw [show (fv P274 289 2).toInt = (fv Po 289 2).toInt + 2 from by omega] at y434_
              rw [show (fv P301 289 2).toInt = (fv Po 289 2).toInt + 3 from by omega] at y436_
              rw [show (fv P329 289 2).toInt = (fv Po 289 2).toInt + 4 from by omega] at y438_
              rw [show (fv P360 289 2).toInt = (fv Po 289 2).toInt + 5 from by omega] at y440_
              have e442 : (fv P392 289 4).toInt = (fv P274 289 4).toInt := by rw [R398.2.2.1, R366.2.2.1, R335.2.2.1, R307.2.2.1]
              have e443 : (fv P392 289 5).toInt = (fv P329 289 5).toInt := by rw [R398.2.2.2.1, R366.2.2.2.1]
              have u429 : 0 ≤ (1 : Int) ∧ (1 : Int) ≤ 1 ∧ (0 ≤ (fv P392 289 2).toInt ∧ (((1 : Int) = 1 ∧ CMD (chC Po) (fv Po 289 2).toInt (fv P392 289 2).toInt (fv P392 289 3).toInt (fv P392 289 4).toInt (fv P392 289 5).toInt (fv P392 289 6).toInt (fv P392 289 7).toInt) ∨ ((1 : Int) = 0 ∧ ¬ CMO (chC Po) (fv Po 289 2).toInt))) := ⟨by omega, by omega, by omega, Or.inl ⟨rfl, (show (fv P392 289 3).toInt = (chC Po (fv Po 289 2).toInt).toInt from by rw [R398.2.1, R366.2.1, R335.2.1, R307.2.1, R280.2.1, f268 289 3 (by omega), f11]; omega), Or.inr (Or.inl ⟨by have e := (show (fv P392 289 3).toInt = (chC Po (fv Po 289 2).toInt).toInt from by rw [R398.2.1, R366.2.1, R335.2.1, R307.2.1, R280.2.1, f268 289 3 (by omega), f11]; omega); omega, ⟨by omega, by omega⟩, by omega, ⟨by omega, by omega⟩, by omega, by have q : ((chC Po ((fv Po 289 2).toInt + 5)).toInt = 111 ∨ (chC Po ((fv Po 289 2).toInt + 5)).toInt = 109 ∨ (chC Po ((fv Po 289 2).toInt + 5)).toInt = 118) := (by omega); exact q, by omega, by omega, by omega, by omega⟩)⟩⟩
              have u444 : fv P392 289 1 = fv Po 289 1 := by rw [R398.1, R366.1, R335.1, R307.1, R280.1, f268 289 1 (by omega), f12 289 1 (by omega)]
              have u445 : KI 289 290 Po P392 := by
                intro x j hx
                rw [R398.2.2.2.2.2 x j (by omega), R366.2.2.2.2.2.2 x j (by omega), R335.2.2.2.2.2 x j (by omega), R307.2.2.2.2.2.2 x j (by omega), R280.2.2.2.2.2 x j (by omega), f268 x j (by omega), f12 x j (by omega)]
              exact mp_iret ⟨⟨_, rfl, u429⟩, hT396, k399, ⟨u444, u445⟩⟩ dX4_takeCommand_209 (Or.inr ⟨rfl, by decide⟩)
  · refine mp_t (s_tabIn (t := 225) (off := 213) dX4_takeCommand_12 (by omega) (by rw [c18]; rfl) (by decide)) ?_
    refine mp_a (a_iconst (v := 0) dX4_takeCommand_225 rfl) (mpp 226 rfl ?_)
    have e446 : (fv P9 289 2).toInt = (fv Po 289 2).toInt := congrArg Int32.toInt (f12 289 2 (ne_k rfl))
    have g447 := ti_full (fv P9 289 4)
    have g448 := ti_full (fv P9 289 5)
    have g449 := ti_full (fv P9 289 6)
    have g450 := ti_full (fv P9 289 7)
    have u451 : 0 ≤ (0 : Int) ∧ (0 : Int) ≤ 1 ∧ (0 ≤ (fv P9 289 2).toInt ∧ (((0 : Int) = 1 ∧ CMD (chC Po) (fv Po 289 2).toInt (fv P9 289 2).toInt (fv P9 289 3).toInt (fv P9 289 4).toInt (fv P9 289 5).toInt (fv P9 289 6).toInt (fv P9 289 7).toInt) ∨ ((0 : Int) = 0 ∧ ¬ CMO (chC Po) (fv Po 289 2).toInt))) := ⟨by omega, by omega, by omega, Or.inr ⟨rfl, fun ⟨i1, l1, a1, b1, n1, s1, q1, q2⟩ => by rcases q2 with ⟨q2, _⟩ | ⟨q2, _⟩ | ⟨q2, _⟩ <;> omega⟩⟩
    have u453 : fv P9 289 1 = fv Po 289 1 := by rw [f12 289 1 (by omega)]
    have u454 : KI 289 290 Po P9 := by
      intro x j hx
      rw [f12 x j (by omega)]
    exact mp_iret ⟨⟨_, rfl, u451⟩, hT10, k14, ⟨u453, u454⟩⟩ dX4_takeCommand_226 (Or.inr ⟨rfl, by decide⟩)
  · refine mp_t (s_tabIn (t := 225) (off := 213) dX4_takeCommand_12 (by omega) (by rw [c18]; rfl) (by decide)) ?_
    refine mp_a (a_iconst (v := 0) dX4_takeCommand_225 rfl) (mpp 226 rfl ?_)
    have e455 : (fv P9 289 2).toInt = (fv Po 289 2).toInt := congrArg Int32.toInt (f12 289 2 (ne_k rfl))
    have g456 := ti_full (fv P9 289 4)
    have g457 := ti_full (fv P9 289 5)
    have g458 := ti_full (fv P9 289 6)
    have g459 := ti_full (fv P9 289 7)
    have u460 : 0 ≤ (0 : Int) ∧ (0 : Int) ≤ 1 ∧ (0 ≤ (fv P9 289 2).toInt ∧ (((0 : Int) = 1 ∧ CMD (chC Po) (fv Po 289 2).toInt (fv P9 289 2).toInt (fv P9 289 3).toInt (fv P9 289 4).toInt (fv P9 289 5).toInt (fv P9 289 6).toInt (fv P9 289 7).toInt) ∨ ((0 : Int) = 0 ∧ ¬ CMO (chC Po) (fv Po 289 2).toInt))) := ⟨by omega, by omega, by omega, Or.inr ⟨rfl, fun ⟨i1, l1, a1, b1, n1, s1, q1, q2⟩ => by rcases q2 with ⟨q2, _⟩ | ⟨q2, _⟩ | ⟨q2, _⟩ <;> omega⟩⟩
    have u462 : fv P9 289 1 = fv Po 289 1 := by rw [f12 289 1 (by omega)]
    have u463 : KI 289 290 Po P9 := by
      intro x j hx
      rw [f12 x j (by omega)]
    exact mp_iret ⟨⟨_, rfl, u460⟩, hT10, k14, ⟨u462, u463⟩⟩ dX4_takeCommand_226 (Or.inr ⟨rfl, by decide⟩)
  · refine mp_t (s_tabIn (t := 225) (off := 213) dX4_takeCommand_12 (by omega) (by rw [c18]; rfl) (by decide)) ?_
    refine mp_a (a_iconst (v := 0) dX4_takeCommand_225 rfl) (mpp 226 rfl ?_)
    have e464 : (fv P9 289 2).toInt = (fv Po 289 2).toInt := congrArg Int32.toInt (f12 289 2 (ne_k rfl))
    have g465 := ti_full (fv P9 289 4)
    have g466 := ti_full (fv P9 289 5)
    have g467 := ti_full (fv P9 289 6)
    have g468 := ti_full (fv P9 289 7)
    have u469 : 0 ≤ (0 : Int) ∧ (0 : Int) ≤ 1 ∧ (0 ≤ (fv P9 289 2).toInt ∧ (((0 : Int) = 1 ∧ CMD (chC Po) (fv Po 289 2).toInt (fv P9 289 2).toInt (fv P9 289 3).toInt (fv P9 289 4).toInt (fv P9 289 5).toInt (fv P9 289 6).toInt (fv P9 289 7).toInt) ∨ ((0 : Int) = 0 ∧ ¬ CMO (chC Po) (fv Po 289 2).toInt))) := ⟨by omega, by omega, by omega, Or.inr ⟨rfl, fun ⟨i1, l1, a1, b1, n1, s1, q1, q2⟩ => by rcases q2 with ⟨q2, _⟩ | ⟨q2, _⟩ | ⟨q2, _⟩ <;> omega⟩⟩
    have u471 : fv P9 289 1 = fv Po 289 1 := by rw [f12 289 1 (by omega)]
    have u472 : KI 289 290 Po P9 := by
      intro x j hx
      rw [f12 x j (by omega)]
    exact mp_iret ⟨⟨_, rfl, u469⟩, hT10, k14, ⟨u471, u472⟩⟩ dX4_takeCommand_226 (Or.inr ⟨rfl, by decide⟩)
  · refine mp_t (s_tabIn (t := 225) (off := 213) dX4_takeCommand_12 (by omega) (by rw [c18]; rfl) (by decide)) ?_
    refine mp_a (a_iconst (v := 0) dX4_takeCommand_225 rfl) (mpp 226 rfl ?_)
    have e473 : (fv P9 289 2).toInt = (fv Po 289 2).toInt := congrArg Int32.toInt (f12 289 2 (ne_k rfl))
    have g474 := ti_full (fv P9 289 4)
    have g475 := ti_full (fv P9 289 5)
    have g476 := ti_full (fv P9 289 6)
    have g477 := ti_full (fv P9 289 7)
    have u478 : 0 ≤ (0 : Int) ∧ (0 : Int) ≤ 1 ∧ (0 ≤ (fv P9 289 2).toInt ∧ (((0 : Int) = 1 ∧ CMD (chC Po) (fv Po 289 2).toInt (fv P9 289 2).toInt (fv P9 289 3).toInt (fv P9 289 4).toInt (fv P9 289 5).toInt (fv P9 289 6).toInt (fv P9 289 7).toInt) ∨ ((0 : Int) = 0 ∧ ¬ CMO (chC Po) (fv Po 289 2).toInt))) := ⟨by omega, by omega, by omega, Or.inr ⟨rfl, fun ⟨i1, l1, a1, b1, n1, s1, q1, q2⟩ => by rcases q2 with ⟨q2, _⟩ | ⟨q2, _⟩ | ⟨q2, _⟩ <;> omega⟩⟩
    have u480 : fv P9 289 1 = fv Po 289 1 := by rw [f12 289 1 (by omega)]
    have u481 : KI 289 290 Po P9 := by
      intro x j hx
      rw [f12 x j (by omega)]
    exact mp_iret ⟨⟨_, rfl, u478⟩, hT10, k14, ⟨u480, u481⟩⟩ dX4_takeCommand_226 (Or.inr ⟨rfl, by decide⟩)
  · refine mp_t (s_tabIn (t := 225) (off := 213) dX4_takeCommand_12 (by omega) (by rw [c18]; rfl) (by decide)) ?_
    refine mp_a (a_iconst (v := 0) dX4_takeCommand_225 rfl) (mpp 226 rfl ?_)
    have e482 : (fv P9 289 2).toInt = (fv Po 289 2).toInt := congrArg Int32.toInt (f12 289 2 (ne_k rfl))
    have g483 := ti_full (fv P9 289 4)
    have g484 := ti_full (fv P9 289 5)
    have g485 := ti_full (fv P9 289 6)
    have g486 := ti_full (fv P9 289 7)
    have u487 : 0 ≤ (0 : Int) ∧ (0 : Int) ≤ 1 ∧ (0 ≤ (fv P9 289 2).toInt ∧ (((0 : Int) = 1 ∧ CMD (chC Po) (fv Po 289 2).toInt (fv P9 289 2).toInt (fv P9 289 3).toInt (fv P9 289 4).toInt (fv P9 289 5).toInt (fv P9 289 6).toInt (fv P9 289 7).toInt) ∨ ((0 : Int) = 0 ∧ ¬ CMO (chC Po) (fv Po 289 2).toInt))) := ⟨by omega, by omega, by omega, Or.inr ⟨rfl, fun ⟨i1, l1, a1, b1, n1, s1, q1, q2⟩ => by rcases q2 with ⟨q2, _⟩ | ⟨q2, _⟩ | ⟨q2, _⟩ <;> omega⟩⟩
    have u489 : fv P9 289 1 = fv Po 289 1 := by rw [f12 289 1 (by omega)]
    have u490 : KI 289 290 Po P9 := by
      intro x j hx
      rw [f12 x j (by omega)]
    exact mp_iret ⟨⟨_, rfl, u487⟩, hT10, k14, ⟨u489, u490⟩⟩ dX4_takeCommand_226 (Or.inr ⟨rfl, by decide⟩)
  · refine mp_t (s_tabIn (t := 116) (off := 104) dX4_takeCommand_12 (by omega) (by rw [c18]; rfl) (by decide)) ?_
    have q491 : (0 : Int) ≤ (fv Po 289 1).toInt ∧ (fv Po 289 1).toInt ≤ 80 := Typ.rng hT rl_289 (by decide) (by decide) rfl
    have e492 : (fv P9 289 2).toInt = (fv Po 289 2).toInt := congrArg Int32.toInt (f12 289 2 (by omega))
    have q493 := ch_lt (t := fun j => fv Po 290 j) (L := (fv Po 289 1).toInt) (i := (fv Po 289 2).toInt) (show ¬ (chC Po (fv Po 289 2).toInt).toInt = -1 from by omega)
    refine mp_a (a_aload_n dX4_takeCommand_116 rfl) (mpp 117 rfl ?_)
    refine mp_t (s_dup dX4_takeCommand_117 rfl) (mpp 118 rfl ?_)
    have e494 : (fv P9 289 2).toInt = (fv Po 289 2).toInt := congrArg Int32.toInt (f12 289 2 (ne_k rfl))
    refine mt_getI (i := 23) (k := 2) hT10 dX4_takeCommand_118 rfl rl_289 (by decide) rfl (by decide) rfl (fun g495 g496 => mpp 121 rfl ?_)
    refine mp_a (a_iconst (v := 1) dX4_takeCommand_121 rfl) (mpp 122 rfl ?_)
    obtain ⟨z497, h498⟩ := ti_ex ((fv P9 289 2) + 1 : Int32)
    have wz497 := ti_full z497
    refine mp_t (s_iadd (v := z497) dX4_takeCommand_122 h498) (mpp 123 rfl ?_)
    try have e499 : z497.toInt = (fv P9 289 2).toInt + 1 := ti_addz h498 rfl rfl (by omega) (by omega)
    refine mt_putI (i := 23) (k := 2) (x := z497) hT10 dX4_takeCommand_123 rfl rl_289 (by decide) rfl (by decide) rfl (ti_full z497) rfl rfl (fun P500 hT501 f502 f503 f504 => mpp 126 rfl ?_)
    have k505 : KW [514, 515, 516, 517, 518, 519] Po P500 := KW.step k14 rl_289 rfl f503 f504
    have e506 : (fv P500 289 2).toInt = z497.toInt := congrArg Int32.toInt f502
    refine mp_a (a_aload_n dX4_takeCommand_126 rfl) (mpp 127 rfl ?_)
    have p507 : 0 ≤ (fv P500 289 2).toInt := by omega
    refine mt_callv (i := 44) (q' := q_99) (As := []) (rest := []) hT501 dX4_takeCommand_127 rfl qm_99 (by decide) rfl rl_289 (by decide) rfl (Nat.le_of_ble_eq_true rfl) rfl ⟨rfl, rfl⟩ ⟨Nat.le_of_ble_eq_true rfl, Nat.le_of_ble_eq_true rfl⟩ (EvP.mono (by decide) (c_CS_takeSizes_Script hT501 (KW.xr k505 hX) p507 )) (fun r508 P509 g510 => mpp 130 rfl ?_)
    obtain ⟨⟨x511, rfl, g512⟩, hT513, k514, R515⟩ := g510
    have k516 : KW [514, 515, 516, 517, 518, 519] Po P509 := KW.trans k505 k514 rfl
    have wx511 := ti_full x511
    replace g512 : 0 ≤ x511.toInt ∧ x511.toInt ≤ 1 ∧ (∃ k : Nat, RUN D1 (chC P500) (fv P500 289 2).toInt k ∧ (fv P509 289 2).toInt = (fv P500 289 2).toInt + (k : Int) ∧ fv P509 289 4 = szI (chC P500) (fv P500 289 2).toInt k ∧ ((x511.toInt = 1 ∧ 1 ≤ k) ∨ (x511.toInt = 0 ∧ k = 0))) := g512
    have g518 := ti_full (fv P509 289 2)
    show MEvP _ none q_97 130 [(0, .ref 289)] [.int x511] _ _ _ _
    refine mp_Tb (t := 153) (j_if_eq dX4_takeCommand_130) (by decide) (fun c519 => ?_) (fun c519 => mpp 133 rfl ?_)
    · have c519 : x511.toInt = 0 := ti_eq c519
      refine mp_a (a_iconst (v := 0) dX4_takeCommand_153 rfl) (mpp 154 rfl ?_)
      have e520 : (fv P509 289 3).toInt = (fv P9 289 3).toInt := congrArg Int32.toInt ((KW.at k514 3 rl_289 rfl).trans (f503 289 3 (ne_k rfl)))
      have g521 := ti_full (fv P509 289 4)
      have g522 := ti_full (fv P509 289 5)
      have g523 := ti_full (fv P509 289 6)
      have g524 := ti_full (fv P509 289 7)
      have t527_ : chC P500 = chC Po := chC_eq (fun j => by rw [f503 290 j (by omega), f12 290 j (by omega)]) (by rw [f503 289 1 (by omega), f12 289 1 (by omega)])
      have y528_ := g512
      rw [t527_] at y528_
      have e529 : (fv P9 289 2).toInt = (fv Po 289 2).toInt := congrArg Int32.toInt (f12 289 2 (by omega))
      obtain ⟨kw526_, rw526_, pw526_, vw526_, ow526_⟩ := y528_.2.2
      rw [show (fv P500 289 2).toInt = (fv Po 289 2).toInt + 1 from by omega] at rw526_ pw526_ vw526_
      have u525 : 0 ≤ (0 : Int) ∧ (0 : Int) ≤ 1 ∧ (0 ≤ (fv P509 289 2).toInt ∧ (((0 : Int) = 1 ∧ CMD (chC Po) (fv Po 289 2).toInt (fv P509 289 2).toInt (fv P509 289 3).toInt (fv P509 289 4).toInt (fv P509 289 5).toInt (fv P509 289 6).toInt (fv P509 289 7).toInt) ∨ ((0 : Int) = 0 ∧ ¬ CMO (chC Po) (fv Po 289 2).toInt))) := ⟨by omega, by omega, by omega, Or.inr ⟨rfl, fun ⟨i1, l1, a1, b1, n1, s1, q1, q2⟩ => by
          rcases q2 with ⟨q2, k2, m2, q3, q4, q5, q6, q7, q8⟩ | ⟨q2, _⟩ | ⟨q2, _⟩
          · have e := rw526_.uniq q5; omega
          · omega
          · omega⟩⟩
      have u530 : fv P509 289 1 = fv Po 289 1 := by rw [R515.1, f503 289 1 (by omega), f12 289 1 (by omega)]
      have u531 : KI 289 290 Po P509 := by
        intro x j hx
        rw [R515.2.2 x j (by omega), f503 x j (by omega), f12 x j (by omega)]
      exact mp_iret ⟨⟨_, rfl, u525⟩, hT513, k516, ⟨u530, u531⟩⟩ dX4_takeCommand_154 (Or.inr ⟨rfl, by decide⟩)
    · have c519 : x511.toInt ≠ 0 := ti_eq_n c519
      refine mp_a (a_aload_n dX4_takeCommand_133 rfl) (mpp 134 rfl ?_)
      refine mp_a (a_bipush (v := 58) dX4_takeCommand_134 rfl) (mpp 136 rfl ?_)
      have p532 : 0 ≤ (fv P509 289 2).toInt := by omega
      have p533 : 1 ≤ (58 : Int) := by omega
      refine mt_callv (i := 33) (q' := q_100) (As := [.int 58]) (rest := []) hT513 dX4_takeCommand_136 rfl qm_100 (by decide) rfl rl_289 (by decide) rfl (Nat.le_of_ble_eq_true rfl) rfl ⟨rfl, rfl⟩ ⟨Nat.le_of_ble_eq_true rfl, Nat.le_of_ble_eq_true rfl⟩ (EvP.mono (by decide) (c_CS_takeSign_Script hT513 (KW.xr k516 hX) p532 p533 )) (fun r534 P535 g536 => mpp 139 rfl ?_)
      obtain ⟨⟨x537, rfl, g538⟩, hT539, k540, R541⟩ := g536
      have k542 : KW [514, 515, 516, 517, 518, 519] Po P535 := KW.trans k516 k540 rfl
      have wx537 := ti_full x537
      replace g538 : 0 ≤ x537.toInt ∧ x537.toInt ≤ 1 ∧ ((x537.toInt = 1 ∧ (chC P509 (fv P509 289 2).toInt).toInt = (58 : Int) ∧ (fv P535 289 2).toInt = (fv P509 289 2).toInt + 1) ∨ (x537.toInt = 0 ∧ ¬ (chC P509 (fv P509 289 2).toInt).toInt = (58 : Int) ∧ (fv P535 289 2).toInt = (fv P509 289 2).toInt)) := g538
      have g544 := ti_full (fv P535 289 2)
      have g545 := ti_full (fv P535 289 2)
      show MEvP _ none q_97 139 [(0, .ref 289)] [.int x537] _ _ _ _
      refine mp_Tb (t := 153) (j_if_eq dX4_takeCommand_139) (by decide) (fun c546 => ?_) (fun c546 => mpp 142 rfl ?_)
      · have c546 : x537.toInt = 0 := ti_eq c546
        refine mp_a (a_iconst (v := 0) dX4_takeCommand_153 rfl) (mpp 154 rfl ?_)
        have e547 : (fv P535 289 3).toInt = (fv P9 289 3).toInt := congrArg Int32.toInt ((KW.at k540 3 rl_289 rfl).trans ((KW.at k514 3 rl_289 rfl).trans (f503 289 3 (ne_k rfl))))
        have g548 := ti_full (fv P535 289 4)
        have g549 := ti_full (fv P535 289 5)
        have g550 := ti_full (fv P535 289 6)
        have g551 := ti_full (fv P535 289 7)
        have t554_ : chC P500 = chC Po := chC_eq (fun j => by rw [f503 290 j (by omega), f12 290 j (by omega)]) (by rw [f503 289 1 (by omega), f12 289 1 (by omega)])
        have y555_ := g512
        rw [t554_] at y555_
        have t556_ : chC P509 = chC Po := chC_eq (fun j => by rw [R515.2.2 290 j (by omega), f503 290 j (by omega), f12 290 j (by omega)]) (by rw [R515.1, f503 289 1 (by omega), f12 289 1 (by omega)])
        have y557_ := g538
        rw [t556_] at y557_
        have e558 : (fv P9 289 2).toInt = (fv Po 289 2).toInt := congrArg Int32.toInt (f12 289 2 (by omega))
        obtain ⟨kw553_, rw553_, pw553_, vw553_, ow553_⟩ := y555_.2.2
        rw [show (fv P500 289 2).toInt = (fv Po 289 2).toInt + 1 from by omega] at rw553_ pw553_ vw553_
        rw [show (fv P509 289 2).toInt = (fv Po 289 2).toInt + 1 + (kw553_ : Int) from by omega] at y557_
        have u552 : 0 ≤ (0 : Int) ∧ (0 : Int) ≤ 1 ∧ (0 ≤ (fv P535 289 2).toInt ∧ (((0 : Int) = 1 ∧ CMD (chC Po) (fv Po 289 2).toInt (fv P535 289 2).toInt (fv P535 289 3).toInt (fv P535 289 4).toInt (fv P535 289 5).toInt (fv P535 289 6).toInt (fv P535 289 7).toInt) ∨ ((0 : Int) = 0 ∧ ¬ CMO (chC Po) (fv Po 289 2).toInt))) := ⟨by omega, by omega, by omega, Or.inr ⟨rfl, fun ⟨i1, l1, a1, b1, n1, s1, q1, q2⟩ => by
            rcases q2 with ⟨q2, k2, m2, q3, q4, q5, q6, q7, q8⟩ | ⟨q2, _⟩ | ⟨q2, _⟩
            · have e := rw553_.uniq q5; subst e; omega
            · omega
            · omega⟩⟩
        have u559 : fv P535 289 1 = fv Po 289 1 := by rw [R541.1, R515.1, f503 289 1 (by omega), f12 289 1 (by omega)]
        have u560 : KI 289 290 Po P535 := by
          intro x j hx
          rw [R541.2.2.2.2.2.2 x j (by omega), R515.2.2 x j (by omega), f503 x j (by omega), f12 x j (by omega)]
        exact mp_iret ⟨⟨_, rfl, u552⟩, hT539, k542, ⟨u559, u560⟩⟩ dX4_takeCommand_154 (Or.inr ⟨rfl, by decide⟩)
      · have c546 : x537.toInt ≠ 0 := ti_eq_n c546
        refine mp_a (a_aload_n dX4_takeCommand_142 rfl) (mpp 143 rfl ?_)
        have p561 : 0 ≤ (fv P535 289 2).toInt := by omega
        refine mt_callv (i := 47) (q' := q_101) (As := []) (rest := []) hT539 dX4_takeCommand_143 rfl qm_101 (by decide) rfl rl_289 (by decide) rfl (Nat.le_of_ble_eq_true rfl) rfl ⟨rfl, rfl⟩ ⟨Nat.le_of_ble_eq_true rfl, Nat.le_of_ble_eq_true rfl⟩ (EvP.mono (by decide) (c_CS_takeCreases_Script hT539 (KW.xr k542 hX) p561 )) (fun r562 P563 g564 => mpp 146 rfl ?_)
        obtain ⟨⟨x565, rfl, g566⟩, hT567, k568, R569⟩ := g564
        have k570 : KW [514, 515, 516, 517, 518, 519] Po P563 := KW.trans k542 k568 rfl
        have wx565 := ti_full x565
        replace g566 : 0 ≤ x565.toInt ∧ x565.toInt ≤ 1 ∧ (∃ k : Nat, RUN KK (chC P535) (fv P535 289 2).toInt k ∧ (fv P563 289 2).toInt = (fv P535 289 2).toInt + (k : Int) ∧ fv P563 289 5 = knV (chC P535) (fv P535 289 2).toInt k ∧ (fv P563 289 6).toInt = (k : Int) ∧ ((x565.toInt = 1 ∧ 1 ≤ k) ∨ (x565.toInt = 0 ∧ k = 0))) := g566
        have g572 := ti_full (fv P563 289 2)
        show MEvP _ none q_97 146 [(0, .ref 289)] [.int x565] _ _ _ _
        refine mp_Tb (t := 153) (j_if_eq dX4_takeCommand_146) (by decide) (fun c573 => ?_) (fun c573 => mpp 149 rfl ?_)
        · have c573 : x565.toInt = 0 := ti_eq c573
          refine mp_a (a_iconst (v := 0) dX4_takeCommand_153 rfl) (mpp 154 rfl ?_)
          have e574 : (fv P563 289 3).toInt = (fv P9 289 3).toInt := congrArg Int32.toInt ((KW.at k568 3 rl_289 rfl).trans ((KW.at k540 3 rl_289 rfl).trans ((KW.at k514 3 rl_289 rfl).trans (f503 289 3 (ne_k rfl)))))
          have g575 := ti_full (fv P563 289 4)
          have g576 := ti_full (fv P563 289 5)
          have g577 := ti_full (fv P563 289 6)
          have g578 := ti_full (fv P563 289 7)
          have t581_ : chC P500 = chC Po := chC_eq (fun j => by rw [f503 290 j (by omega), f12 290 j (by omega)]) (by rw [f503 289 1 (by omega), f12 289 1 (by omega)])
          have y582_ := g512
          rw [t581_] at y582_
          have t583_ : chC P509 = chC Po := chC_eq (fun j => by rw [R515.2.2 290 j (by omega), f503 290 j (by omega), f12 290 j (by omega)]) (by rw [R515.1, f503 289 1 (by omega), f12 289 1 (by omega)])
          have y584_ := g538
          rw [t583_] at y584_
          have t585_ : chC P535 = chC Po := chC_eq (fun j => by rw [R541.2.2.2.2.2.2 290 j (by omega), R515.2.2 290 j (by omega), f503 290 j (by omega), f12 290 j (by omega)]) (by rw [R541.1, R515.1, f503 289 1 (by omega), f12 289 1 (by omega)])
          have y586_ := g566
          rw [t585_] at y586_
          have e587 : (fv P9 289 2).toInt = (fv Po 289 2).toInt := congrArg Int32.toInt (f12 289 2 (by omega))
          obtain ⟨kw580_, rw580_, pw580_, vw580_, ow580_⟩ := y582_.2.2
          rw [show (fv P500 289 2).toInt = (fv Po 289 2).toInt + 1 from by omega] at rw580_ pw580_ vw580_
          rw [show (fv P509 289 2).toInt = (fv Po 289 2).toInt + 1 + (kw580_ : Int) from by omega] at y584_
          obtain ⟨mw580_, uw580_, tw580_, ww580_, zw580_, yw580_⟩ := y586_.2.2
          rw [show (fv P535 289 2).toInt = (fv Po 289 2).toInt + 2 + (kw580_ : Int) from by omega] at uw580_ tw580_ ww580_
          have u579 : 0 ≤ (0 : Int) ∧ (0 : Int) ≤ 1 ∧ (0 ≤ (fv P563 289 2).toInt ∧ (((0 : Int) = 1 ∧ CMD (chC Po) (fv Po 289 2).toInt (fv P563 289 2).toInt (fv P563 289 3).toInt (fv P563 289 4).toInt (fv P563 289 5).toInt (fv P563 289 6).toInt (fv P563 289 7).toInt) ∨ ((0 : Int) = 0 ∧ ¬ CMO (chC Po) (fv Po 289 2).toInt))) := ⟨by omega, by omega, by omega, Or.inr ⟨rfl, fun ⟨i1, l1, a1, b1, n1, s1, q1, q2⟩ => by
              rcases q2 with ⟨q2, k2, m2, q3, q4, q5, q6, q7, q8⟩ | ⟨q2, _⟩ | ⟨q2, _⟩
              · have e := rw580_.uniq q5; subst e; have e2 := uw580_.uniq q7; omega
              · omega
              · omega⟩⟩
          have u588 : fv P563 289 1 = fv Po 289 1 := by rw [R569.1, R541.1, R515.1, f503 289 1 (by omega), f12 289 1 (by omega)]
          have u589 : KI 289 290 Po P563 := by
            intro x j hx
            rw [R569.2.2.2 x j (by omega), R541.2.2.2.2.2.2 x j (by omega), R515.2.2 x j (by omega), f503 x j (by omega), f12 x j (by omega)]
          exact mp_iret ⟨⟨_, rfl, u579⟩, hT567, k570, ⟨u588, u589⟩⟩ dX4_takeCommand_154 (Or.inr ⟨rfl, by decide⟩)
        · have c573 : x565.toInt ≠ 0 := ti_eq_n c573
          refine mp_a (a_iconst (v := 1) dX4_takeCommand_149 rfl) (mpp 150 rfl ?_)
          refine mp_a (a_goto (t := 154) dX4_takeCommand_150 (by decide)) ?_
          have e590 : (fv P563 289 3).toInt = (fv P9 289 3).toInt := congrArg Int32.toInt ((KW.at k568 3 rl_289 rfl).trans ((KW.at k540 3 rl_289 rfl).trans ((KW.at k514 3 rl_289 rfl).trans (f503 289 3 (ne_k rfl)))))
          have g591 := ti_full (fv P563 289 4)
          have g592 := ti_full (fv P563 289 5)
          have g593 := ti_full (fv P563 289 6)
          have g594 := ti_full (fv P563 289 7)
          have t597_ : chC P500 = chC Po := chC_eq (fun j => by rw [f503 290 j (by omega), f12 290 j (by omega)]) (by rw [f503 289 1 (by omega), f12 289 1 (by omega)])
          have y598_ := g512
          rw [t597_] at y598_
          have t599_ : chC P509 = chC Po := chC_eq (fun j => by rw [R515.2.2 290 j (by omega), f503 290 j (by omega), f12 290 j (by omega)]) (by rw [R515.1, f503 289 1 (by omega), f12 289 1 (by omega)])
          have y600_ := g538
          rw [t599_] at y600_
          have t601_ : chC P535 = chC Po := chC_eq (fun j => by rw [R541.2.2.2.2.2.2 290 j (by omega), R515.2.2 290 j (by omega), f503 290 j (by omega), f12 290 j (by omega)]) (by rw [R541.1, R515.1, f503 289 1 (by omega), f12 289 1 (by omega)])
          have y602_ := g566
          rw [t601_] at y602_
          have e603 : (fv P9 289 2).toInt = (fv Po 289 2).toInt := congrArg Int32.toInt (f12 289 2 (by omega))
          obtain ⟨kw596_, rw596_, pw596_, vw596_, ow596_⟩ := y598_.2.2
          rw [show (fv P500 289 2).toInt = (fv Po 289 2).toInt + 1 from by omega] at rw596_ pw596_ vw596_
          rw [show (fv P509 289 2).toInt = (fv Po 289 2).toInt + 1 + (kw596_ : Int) from by omega] at y600_
          obtain ⟨mw596_, uw596_, tw596_, ww596_, zw596_, yw596_⟩ := y602_.2.2
          rw [show (fv P535 289 2).toInt = (fv Po 289 2).toInt + 2 + (kw596_ : Int) from by omega] at uw596_ tw596_ ww596_
          have u595 : 0 ≤ (1 : Int) ∧ (1 : Int) ≤ 1 ∧ (0 ≤ (fv P563 289 2).toInt ∧ (((1 : Int) = 1 ∧ CMD (chC Po) (fv Po 289 2).toInt (fv P563 289 2).toInt (fv P563 289 3).toInt (fv P563 289 4).toInt (fv P563 289 5).toInt (fv P563 289 6).toInt (fv P563 289 7).toInt) ∨ ((1 : Int) = 0 ∧ ¬ CMO (chC Po) (fv Po 289 2).toInt))) := ⟨by omega, by omega, by omega, Or.inl ⟨rfl, (show (fv P563 289 3).toInt = (chC Po (fv Po 289 2).toInt).toInt from by rw [R569.2.1, R541.2.1, R515.2.1, f503 289 3 (by omega), f11]; omega), Or.inl ⟨by have e := (show (fv P563 289 3).toInt = (chC Po (fv Po 289 2).toInt).toInt from by rw [R569.2.1, R541.2.1, R515.2.1, f503 289 3 (by omega), f11]; omega); omega, kw596_, mw596_, by omega, by omega, rw596_, by rw [show (fv Po 289 2).toInt + 1 + (kw596_ : Int) = (fv Po 289 2).toInt + 1 + kw596_ from rfl]; omega, uw596_, by omega, (congrArg Int32.toInt (show fv P563 289 4 = szI (chC Po) ((fv Po 289 2).toInt + 1) kw596_ from by rw [R569.2.2.1, R541.2.2.1]; exact vw596_)), congrArg Int32.toInt ww596_, by omega⟩⟩⟩
          have u604 : fv P563 289 1 = fv Po 289 1 := by rw [R569.1, R541.1, R515.1, f503 289 1 (by omega), f12 289 1 (by omega)]
          have u605 : KI 289 290 Po P563 := by
            intro x j hx
            rw [R569.2.2.2 x j (by omega), R541.2.2.2.2.2.2 x j (by omega), R515.2.2 x j (by omega), f503 x j (by omega), f12 x j (by omega)]
          exact mp_iret ⟨⟨_, rfl, u595⟩, hT567, k570, ⟨u604, u605⟩⟩ dX4_takeCommand_154 (Or.inr ⟨rfl, by decide⟩)
  · refine mp_t (s_tabIn (t := 210) (off := 198) dX4_takeCommand_12 (by omega) (by rw [c18]; rfl) (by decide)) ?_
    have q606 : (0 : Int) ≤ (fv Po 289 1).toInt ∧ (fv Po 289 1).toInt ≤ 80 := Typ.rng hT rl_289 (by decide) (by decide) rfl
    have e607 : (fv P9 289 2).toInt = (fv Po 289 2).toInt := congrArg Int32.toInt (f12 289 2 (by omega))
    have q608 := ch_lt (t := fun j => fv Po 290 j) (L := (fv Po 289 1).toInt) (i := (fv Po 289 2).toInt) (show ¬ (chC Po (fv Po 289 2).toInt).toInt = -1 from by omega)
    refine mp_a (a_aload_n dX4_takeCommand_210 rfl) (mpp 211 rfl ?_)
    refine mp_t (s_dup dX4_takeCommand_211 rfl) (mpp 212 rfl ?_)
    have e609 : (fv P9 289 2).toInt = (fv Po 289 2).toInt := congrArg Int32.toInt (f12 289 2 (ne_k rfl))
    refine mt_getI (i := 23) (k := 2) hT10 dX4_takeCommand_212 rfl rl_289 (by decide) rfl (by decide) rfl (fun g610 g611 => mpp 215 rfl ?_)
    refine mp_a (a_iconst (v := 1) dX4_takeCommand_215 rfl) (mpp 216 rfl ?_)
    obtain ⟨z612, h613⟩ := ti_ex ((fv P9 289 2) + 1 : Int32)
    have wz612 := ti_full z612
    refine mp_t (s_iadd (v := z612) dX4_takeCommand_216 h613) (mpp 217 rfl ?_)
    try have e614 : z612.toInt = (fv P9 289 2).toInt + 1 := ti_addz h613 rfl rfl (by omega) (by omega)
    refine mt_putI (i := 23) (k := 2) (x := z612) hT10 dX4_takeCommand_217 rfl rl_289 (by decide) rfl (by decide) rfl (ti_full z612) rfl rfl (fun P615 hT616 f617 f618 f619 => mpp 220 rfl ?_)
    have k620 : KW [514, 515, 516, 517, 518, 519] Po P615 := KW.step k14 rl_289 rfl f618 f619
    have e621 : (fv P615 289 2).toInt = z612.toInt := congrArg Int32.toInt f617
    refine mp_a (a_aload_n dX4_takeCommand_220 rfl) (mpp 221 rfl ?_)
    have p622 : 0 ≤ (fv P615 289 2).toInt := by omega
    refine mt_callv (i := 50) (q' := q_103) (As := []) (rest := []) hT616 dX4_takeCommand_221 rfl qm_103 (by decide) rfl rl_289 (by decide) rfl (Nat.le_of_ble_eq_true rfl) rfl ⟨rfl, rfl⟩ ⟨Nat.le_of_ble_eq_true rfl, Nat.le_of_ble_eq_true rfl⟩ (EvP.mono (by decide) (c_CS_takePiece_Script hT616 (KW.xr k620 hX) p622 )) (fun r623 P624 g625 => mpp 224 rfl ?_)
    obtain ⟨⟨x626, rfl, g627⟩, hT628, k629, R630⟩ := g625
    have k631 : KW [514, 515, 516, 517, 518, 519] Po P624 := KW.trans k620 k629 rfl
    have wx626 := ti_full x626
    replace g627 : 0 ≤ x626.toInt ∧ x626.toInt ≤ 1 ∧ ((x626.toInt = 1 ∧ (48 ≤ (chC P615 (fv P615 289 2).toInt).toInt ∧ (chC P615 (fv P615 289 2).toInt).toInt ≤ 57) ∧ (fv P624 289 2).toInt = (fv P615 289 2).toInt + 1 ∧ (fv P624 289 4).toInt = (chC P615 (fv P615 289 2).toInt).toInt - 48) ∨ (x626.toInt = 0 ∧ ¬ (48 ≤ (chC P615 (fv P615 289 2).toInt).toInt ∧ (chC P615 (fv P615 289 2).toInt).toInt ≤ 57) ∧ (fv P624 289 2).toInt = (fv P615 289 2).toInt)) := g627
    have g633 := ti_full (fv P624 289 2)
    have g634 := ti_full (fv P624 289 2)
    show MEvP _ none q_97 224 [(0, .ref 289)] [.int x626] _ _ _ _
    have e635 : (fv P624 289 3).toInt = (fv P9 289 3).toInt := congrArg Int32.toInt ((KW.at k629 3 rl_289 rfl).trans (f618 289 3 (ne_k rfl)))
    have g636 := ti_full (fv P624 289 4)
    have g637 := ti_full (fv P624 289 5)
    have g638 := ti_full (fv P624 289 6)
    have g639 := ti_full (fv P624 289 7)
    have t642_ : chC P615 = chC Po := chC_eq (fun j => by rw [f618 290 j (by omega), f12 290 j (by omega)]) (by rw [f618 289 1 (by omega), f12 289 1 (by omega)])
    have y643_ := g627
    rw [t642_] at y643_
    have e644 : (fv P9 289 2).toInt = (fv Po 289 2).toInt := congrArg Int32.toInt (f12 289 2 (by omega))
    rw [show (fv P615 289 2).toInt = (fv Po 289 2).toInt + 1 from by omega] at y643_
    have u640 : 0 ≤ x626.toInt ∧ x626.toInt ≤ 1 ∧ (0 ≤ (fv P624 289 2).toInt ∧ ((x626.toInt = 1 ∧ CMD (chC Po) (fv Po 289 2).toInt (fv P624 289 2).toInt (fv P624 289 3).toInt (fv P624 289 4).toInt (fv P624 289 5).toInt (fv P624 289 6).toInt (fv P624 289 7).toInt) ∨ (x626.toInt = 0 ∧ ¬ CMO (chC Po) (fv Po 289 2).toInt))) := ⟨by omega, by omega, by omega, if hx : x626.toInt = 1 then (Or.inl ⟨by omega, (show (fv P624 289 3).toInt = (chC Po (fv Po 289 2).toInt).toInt from by rw [R630.2.1, f618 289 3 (by omega), f11]; omega), Or.inr (Or.inr ⟨by have e := (show (fv P624 289 3).toInt = (chC Po (fv Po 289 2).toInt).toInt from by rw [R630.2.1, f618 289 3 (by omega), f11]; omega); omega, ⟨by omega, by omega⟩, by omega, by omega⟩)⟩) else Or.inr ⟨by omega, fun ⟨i1, l1, a1, b1, n1, s1, q1, q2⟩ => by rcases q2 with ⟨q2, _⟩ | ⟨q2, q3, _⟩ | ⟨q2, q3, _⟩ <;> omega⟩⟩
    have u645 : fv P624 289 1 = fv Po 289 1 := by rw [R630.1, f618 289 1 (by omega), f12 289 1 (by omega)]
    have u646 : KI 289 290 Po P624 := by
      intro x j hx
      rw [R630.2.2.2.2.2 x j (by omega), f618 x j (by omega), f12 x j (by omega)]
    exact mp_iret ⟨⟨_, rfl, u640⟩, hT628, k631, ⟨u645, u646⟩⟩ dX4_takeCommand_224 (Or.inr ⟨rfl, ti_01 (by omega)⟩)
  · refine mp_t (s_tabIn (t := 210) (off := 198) dX4_takeCommand_12 (by omega) (by rw [c18]; rfl) (by decide)) ?_
    have q647 : (0 : Int) ≤ (fv Po 289 1).toInt ∧ (fv Po 289 1).toInt ≤ 80 := Typ.rng hT rl_289 (by decide) (by decide) rfl
    have e648 : (fv P9 289 2).toInt = (fv Po 289 2).toInt := congrArg Int32.toInt (f12 289 2 (by omega))
    have q649 := ch_lt (t := fun j => fv Po 290 j) (L := (fv Po 289 1).toInt) (i := (fv Po 289 2).toInt) (show ¬ (chC Po (fv Po 289 2).toInt).toInt = -1 from by omega)
    refine mp_a (a_aload_n dX4_takeCommand_210 rfl) (mpp 211 rfl ?_)
    refine mp_t (s_dup dX4_takeCommand_211 rfl) (mpp 212 rfl ?_)
    have e650 : (fv P9 289 2).toInt = (fv Po 289 2).toInt := congrArg Int32.toInt (f12 289 2 (ne_k rfl))
    refine mt_getI (i := 23) (k := 2) hT10 dX4_takeCommand_212 rfl rl_289 (by decide) rfl (by decide) rfl (fun g651 g652 => mpp 215 rfl ?_)
    refine mp_a (a_iconst (v := 1) dX4_takeCommand_215 rfl) (mpp 216 rfl ?_)
    obtain ⟨z653, h654⟩ := ti_ex ((fv P9 289 2) + 1 : Int32)
    have wz653 := ti_full z653
    refine mp_t (s_iadd (v := z653) dX4_takeCommand_216 h654) (mpp 217 rfl ?_)
    try have e655 : z653.toInt = (fv P9 289 2).toInt + 1 := ti_addz h654 rfl rfl (by omega) (by omega)
    refine mt_putI (i := 23) (k := 2) (x := z653) hT10 dX4_takeCommand_217 rfl rl_289 (by decide) rfl (by decide) rfl (ti_full z653) rfl rfl (fun P656 hT657 f658 f659 f660 => mpp 220 rfl ?_)
    have k661 : KW [514, 515, 516, 517, 518, 519] Po P656 := KW.step k14 rl_289 rfl f659 f660
    have e662 : (fv P656 289 2).toInt = z653.toInt := congrArg Int32.toInt f658
    refine mp_a (a_aload_n dX4_takeCommand_220 rfl) (mpp 221 rfl ?_)
    have p663 : 0 ≤ (fv P656 289 2).toInt := by omega
    refine mt_callv (i := 50) (q' := q_103) (As := []) (rest := []) hT657 dX4_takeCommand_221 rfl qm_103 (by decide) rfl rl_289 (by decide) rfl (Nat.le_of_ble_eq_true rfl) rfl ⟨rfl, rfl⟩ ⟨Nat.le_of_ble_eq_true rfl, Nat.le_of_ble_eq_true rfl⟩ (EvP.mono (by decide) (c_CS_takePiece_Script hT657 (KW.xr k661 hX) p663 )) (fun r664 P665 g666 => mpp 224 rfl ?_)
    obtain ⟨⟨x667, rfl, g668⟩, hT669, k670, R671⟩ := g666
    have k672 : KW [514, 515, 516, 517, 518, 519] Po P665 := KW.trans k661 k670 rfl
    have wx667 := ti_full x667
    replace g668 : 0 ≤ x667.toInt ∧ x667.toInt ≤ 1 ∧ ((x667.toInt = 1 ∧ (48 ≤ (chC P656 (fv P656 289 2).toInt).toInt ∧ (chC P656 (fv P656 289 2).toInt).toInt ≤ 57) ∧ (fv P665 289 2).toInt = (fv P656 289 2).toInt + 1 ∧ (fv P665 289 4).toInt = (chC P656 (fv P656 289 2).toInt).toInt - 48) ∨ (x667.toInt = 0 ∧ ¬ (48 ≤ (chC P656 (fv P656 289 2).toInt).toInt ∧ (chC P656 (fv P656 289 2).toInt).toInt ≤ 57) ∧ (fv P665 289 2).toInt = (fv P656 289 2).toInt)) := g668
    have g674 := ti_full (fv P665 289 2)
    have g675 := ti_full (fv P665 289 2)
    show MEvP _ none q_97 224 [(0, .ref 289)] [.int x667] _ _ _ _
    have e676 : (fv P665 289 3).toInt = (fv P9 289 3).toInt := congrArg Int32.toInt ((KW.at k670 3 rl_289 rfl).trans (f659 289 3 (ne_k rfl)))
    have g677 := ti_full (fv P665 289 4)
    have g678 := ti_full (fv P665 289 5)
    have g679 := ti_full (fv P665 289 6)
    have g680 := ti_full (fv P665 289 7)
    have t683_ : chC P656 = chC Po := chC_eq (fun j => by rw [f659 290 j (by omega), f12 290 j (by omega)]) (by rw [f659 289 1 (by omega), f12 289 1 (by omega)])
    have y684_ := g668
    rw [t683_] at y684_
    have e685 : (fv P9 289 2).toInt = (fv Po 289 2).toInt := congrArg Int32.toInt (f12 289 2 (by omega))
    rw [show (fv P656 289 2).toInt = (fv Po 289 2).toInt + 1 from by omega] at y684_
    have u681 : 0 ≤ x667.toInt ∧ x667.toInt ≤ 1 ∧ (0 ≤ (fv P665 289 2).toInt ∧ ((x667.toInt = 1 ∧ CMD (chC Po) (fv Po 289 2).toInt (fv P665 289 2).toInt (fv P665 289 3).toInt (fv P665 289 4).toInt (fv P665 289 5).toInt (fv P665 289 6).toInt (fv P665 289 7).toInt) ∨ (x667.toInt = 0 ∧ ¬ CMO (chC Po) (fv Po 289 2).toInt))) := ⟨by omega, by omega, by omega, if hx : x667.toInt = 1 then (Or.inl ⟨by omega, (show (fv P665 289 3).toInt = (chC Po (fv Po 289 2).toInt).toInt from by rw [R671.2.1, f659 289 3 (by omega), f11]; omega), Or.inr (Or.inr ⟨by have e := (show (fv P665 289 3).toInt = (chC Po (fv Po 289 2).toInt).toInt from by rw [R671.2.1, f659 289 3 (by omega), f11]; omega); omega, ⟨by omega, by omega⟩, by omega, by omega⟩)⟩) else Or.inr ⟨by omega, fun ⟨i1, l1, a1, b1, n1, s1, q1, q2⟩ => by rcases q2 with ⟨q2, _⟩ | ⟨q2, q3, _⟩ | ⟨q2, q3, _⟩ <;> omega⟩⟩
    have u686 : fv P665 289 1 = fv Po 289 1 := by rw [R671.1, f659 289 1 (by omega), f12 289 1 (by omega)]
    have u687 : KI 289 290 Po P665 := by
      intro x j hx
      rw [R671.2.2.2.2.2 x j (by omega), f659 x j (by omega), f12 x j (by omega)]
    exact mp_iret ⟨⟨_, rfl, u681⟩, hT669, k672, ⟨u686, u687⟩⟩ dX4_takeCommand_224 (Or.inr ⟨rfl, ti_01 (by omega)⟩)
  · refine mp_t (s_tabIn (t := 225) (off := 213) dX4_takeCommand_12 (by omega) (by rw [c18]; rfl) (by decide)) ?_
    refine mp_a (a_iconst (v := 0) dX4_takeCommand_225 rfl) (mpp 226 rfl ?_)
    have e688 : (fv P9 289 2).toInt = (fv Po 289 2).toInt := congrArg Int32.toInt (f12 289 2 (ne_k rfl))
    have g689 := ti_full (fv P9 289 4)
    have g690 := ti_full (fv P9 289 5)
    have g691 := ti_full (fv P9 289 6)
    have g692 := ti_full (fv P9 289 7)
    have u693 : 0 ≤ (0 : Int) ∧ (0 : Int) ≤ 1 ∧ (0 ≤ (fv P9 289 2).toInt ∧ (((0 : Int) = 1 ∧ CMD (chC Po) (fv Po 289 2).toInt (fv P9 289 2).toInt (fv P9 289 3).toInt (fv P9 289 4).toInt (fv P9 289 5).toInt (fv P9 289 6).toInt (fv P9 289 7).toInt) ∨ ((0 : Int) = 0 ∧ ¬ CMO (chC Po) (fv Po 289 2).toInt))) := ⟨by omega, by omega, by omega, Or.inr ⟨rfl, fun ⟨i1, l1, a1, b1, n1, s1, q1, q2⟩ => by rcases q2 with ⟨q2, _⟩ | ⟨q2, _⟩ | ⟨q2, _⟩ <;> omega⟩⟩
    have u695 : fv P9 289 1 = fv Po 289 1 := by rw [f12 289 1 (by omega)]
    have u696 : KI 289 290 Po P9 := by
      intro x j hx
      rw [f12 x j (by omega)]
    exact mp_iret ⟨⟨_, rfl, u693⟩, hT10, k14, ⟨u695, u696⟩⟩ dX4_takeCommand_226 (Or.inr ⟨rfl, by decide⟩)
  · refine mp_t (s_tabIn (t := 225) (off := 213) dX4_takeCommand_12 (by omega) (by rw [c18]; rfl) (by decide)) ?_
    refine mp_a (a_iconst (v := 0) dX4_takeCommand_225 rfl) (mpp 226 rfl ?_)
    have e697 : (fv P9 289 2).toInt = (fv Po 289 2).toInt := congrArg Int32.toInt (f12 289 2 (ne_k rfl))
    have g698 := ti_full (fv P9 289 4)
    have g699 := ti_full (fv P9 289 5)
    have g700 := ti_full (fv P9 289 6)
    have g701 := ti_full (fv P9 289 7)
    have u702 : 0 ≤ (0 : Int) ∧ (0 : Int) ≤ 1 ∧ (0 ≤ (fv P9 289 2).toInt ∧ (((0 : Int) = 1 ∧ CMD (chC Po) (fv Po 289 2).toInt (fv P9 289 2).toInt (fv P9 289 3).toInt (fv P9 289 4).toInt (fv P9 289 5).toInt (fv P9 289 6).toInt (fv P9 289 7).toInt) ∨ ((0 : Int) = 0 ∧ ¬ CMO (chC Po) (fv Po 289 2).toInt))) := ⟨by omega, by omega, by omega, Or.inr ⟨rfl, fun ⟨i1, l1, a1, b1, n1, s1, q1, q2⟩ => by rcases q2 with ⟨q2, _⟩ | ⟨q2, _⟩ | ⟨q2, _⟩ <;> omega⟩⟩
    have u704 : fv P9 289 1 = fv Po 289 1 := by rw [f12 289 1 (by omega)]
    have u705 : KI 289 290 Po P9 := by
      intro x j hx
      rw [f12 x j (by omega)]
    exact mp_iret ⟨⟨_, rfl, u702⟩, hT10, k14, ⟨u704, u705⟩⟩ dX4_takeCommand_226 (Or.inr ⟨rfl, by decide⟩)
  · refine mp_t (s_tabIn (t := 210) (off := 198) dX4_takeCommand_12 (by omega) (by rw [c18]; rfl) (by decide)) ?_
    have q706 : (0 : Int) ≤ (fv Po 289 1).toInt ∧ (fv Po 289 1).toInt ≤ 80 := Typ.rng hT rl_289 (by decide) (by decide) rfl
    have e707 : (fv P9 289 2).toInt = (fv Po 289 2).toInt := congrArg Int32.toInt (f12 289 2 (by omega))
    have q708 := ch_lt (t := fun j => fv Po 290 j) (L := (fv Po 289 1).toInt) (i := (fv Po 289 2).toInt) (show ¬ (chC Po (fv Po 289 2).toInt).toInt = -1 from by omega)
    refine mp_a (a_aload_n dX4_takeCommand_210 rfl) (mpp 211 rfl ?_)
    refine mp_t (s_dup dX4_takeCommand_211 rfl) (mpp 212 rfl ?_)
    have e709 : (fv P9 289 2).toInt = (fv Po 289 2).toInt := congrArg Int32.toInt (f12 289 2 (ne_k rfl))
    refine mt_getI (i := 23) (k := 2) hT10 dX4_takeCommand_212 rfl rl_289 (by decide) rfl (by decide) rfl (fun g710 g711 => mpp 215 rfl ?_)
    refine mp_a (a_iconst (v := 1) dX4_takeCommand_215 rfl) (mpp 216 rfl ?_)
    obtain ⟨z712, h713⟩ := ti_ex ((fv P9 289 2) + 1 : Int32)
    have wz712 := ti_full z712
    refine mp_t (s_iadd (v := z712) dX4_takeCommand_216 h713) (mpp 217 rfl ?_)
    try have e714 : z712.toInt = (fv P9 289 2).toInt + 1 := ti_addz h713 rfl rfl (by omega) (by omega)
    refine mt_putI (i := 23) (k := 2) (x := z712) hT10 dX4_takeCommand_217 rfl rl_289 (by decide) rfl (by decide) rfl (ti_full z712) rfl rfl (fun P715 hT716 f717 f718 f719 => mpp 220 rfl ?_)
    have k720 : KW [514, 515, 516, 517, 518, 519] Po P715 := KW.step k14 rl_289 rfl f718 f719
    have e721 : (fv P715 289 2).toInt = z712.toInt := congrArg Int32.toInt f717
    refine mp_a (a_aload_n dX4_takeCommand_220 rfl) (mpp 221 rfl ?_)
    have p722 : 0 ≤ (fv P715 289 2).toInt := by omega
    refine mt_callv (i := 50) (q' := q_103) (As := []) (rest := []) hT716 dX4_takeCommand_221 rfl qm_103 (by decide) rfl rl_289 (by decide) rfl (Nat.le_of_ble_eq_true rfl) rfl ⟨rfl, rfl⟩ ⟨Nat.le_of_ble_eq_true rfl, Nat.le_of_ble_eq_true rfl⟩ (EvP.mono (by decide) (c_CS_takePiece_Script hT716 (KW.xr k720 hX) p722 )) (fun r723 P724 g725 => mpp 224 rfl ?_)
    obtain ⟨⟨x726, rfl, g727⟩, hT728, k729, R730⟩ := g725
    have k731 : KW [514, 515, 516, 517, 518, 519] Po P724 := KW.trans k720 k729 rfl
    have wx726 := ti_full x726
    replace g727 : 0 ≤ x726.toInt ∧ x726.toInt ≤ 1 ∧ ((x726.toInt = 1 ∧ (48 ≤ (chC P715 (fv P715 289 2).toInt).toInt ∧ (chC P715 (fv P715 289 2).toInt).toInt ≤ 57) ∧ (fv P724 289 2).toInt = (fv P715 289 2).toInt + 1 ∧ (fv P724 289 4).toInt = (chC P715 (fv P715 289 2).toInt).toInt - 48) ∨ (x726.toInt = 0 ∧ ¬ (48 ≤ (chC P715 (fv P715 289 2).toInt).toInt ∧ (chC P715 (fv P715 289 2).toInt).toInt ≤ 57) ∧ (fv P724 289 2).toInt = (fv P715 289 2).toInt)) := g727
    have g733 := ti_full (fv P724 289 2)
    have g734 := ti_full (fv P724 289 2)
    show MEvP _ none q_97 224 [(0, .ref 289)] [.int x726] _ _ _ _
    have e735 : (fv P724 289 3).toInt = (fv P9 289 3).toInt := congrArg Int32.toInt ((KW.at k729 3 rl_289 rfl).trans (f718 289 3 (ne_k rfl)))
    have g736 := ti_full (fv P724 289 4)
    have g737 := ti_full (fv P724 289 5)
    have g738 := ti_full (fv P724 289 6)
    have g739 := ti_full (fv P724 289 7)
    have t742_ : chC P715 = chC Po := chC_eq (fun j => by rw [f718 290 j (by omega), f12 290 j (by omega)]) (by rw [f718 289 1 (by omega), f12 289 1 (by omega)])
    have y743_ := g727
    rw [t742_] at y743_
    have e744 : (fv P9 289 2).toInt = (fv Po 289 2).toInt := congrArg Int32.toInt (f12 289 2 (by omega))
    rw [show (fv P715 289 2).toInt = (fv Po 289 2).toInt + 1 from by omega] at y743_
    have u740 : 0 ≤ x726.toInt ∧ x726.toInt ≤ 1 ∧ (0 ≤ (fv P724 289 2).toInt ∧ ((x726.toInt = 1 ∧ CMD (chC Po) (fv Po 289 2).toInt (fv P724 289 2).toInt (fv P724 289 3).toInt (fv P724 289 4).toInt (fv P724 289 5).toInt (fv P724 289 6).toInt (fv P724 289 7).toInt) ∨ (x726.toInt = 0 ∧ ¬ CMO (chC Po) (fv Po 289 2).toInt))) := ⟨by omega, by omega, by omega, if hx : x726.toInt = 1 then (Or.inl ⟨by omega, (show (fv P724 289 3).toInt = (chC Po (fv Po 289 2).toInt).toInt from by rw [R730.2.1, f718 289 3 (by omega), f11]; omega), Or.inr (Or.inr ⟨by have e := (show (fv P724 289 3).toInt = (chC Po (fv Po 289 2).toInt).toInt from by rw [R730.2.1, f718 289 3 (by omega), f11]; omega); omega, ⟨by omega, by omega⟩, by omega, by omega⟩)⟩) else Or.inr ⟨by omega, fun ⟨i1, l1, a1, b1, n1, s1, q1, q2⟩ => by rcases q2 with ⟨q2, _⟩ | ⟨q2, q3, _⟩ | ⟨q2, q3, _⟩ <;> omega⟩⟩
    have u745 : fv P724 289 1 = fv Po 289 1 := by rw [R730.1, f718 289 1 (by omega), f12 289 1 (by omega)]
    have u746 : KI 289 290 Po P724 := by
      intro x j hx
      rw [R730.2.2.2.2.2 x j (by omega), f718 x j (by omega), f12 x j (by omega)]
    exact mp_iret ⟨⟨_, rfl, u740⟩, hT728, k731, ⟨u745, u746⟩⟩ dX4_takeCommand_224 (Or.inr ⟨rfl, ti_01 (by omega)⟩)

