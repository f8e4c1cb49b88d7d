/-! methods on typed pools, 20 (written by a program) -/
set_option maxHeartbeats 4000000 in
theorem c_CS_takeCommand_Script_b210 {Po P9 : mP} {x6 : Int32} (hT : Typ Po) (hX : XR Po) (hp0 : 0 ≤ (fv Po 289 2).toInt) (g7 : x6.toInt = (chC Po (fv Po 289 2).toInt).toInt ∨ (x6.toInt = 0 ∧ (chC Po (fv Po 289 2).toInt).toInt = -1)) (hT10 : Typ P9) (f11 : fv P9 289 3 = x6) (f12 : ∀ b j : Nat, ¬ (b = 289 ∧ j = 3) → fv P9 b j = fv Po b j) (f13 : ∀ b k : Nat, rv P9 b k = rv Po b k) (c18 : (fv P9 289 3).toInt = 102 ∨ (fv P9 289 3).toInt = 116 ∨ (fv P9 289 3).toInt = 117 ∨ (fv P9 289 3).toInt = 120) : MEvP 4 none q_97 210 [(0, .ref 289)] [] P9 0 0 (fun r P' => (∃ x : Int32, r = some (.int x) ∧ (0 ≤ x.toInt ∧ x.toInt ≤ 1 ∧ (0 ≤ (fv P' 289 2).toInt ∧ ((x.toInt = 1 ∧ CMD (chC Po) (fv Po 289 2).toInt (fv P' 289 2).toInt (fv P' 289 3).toInt (fv P' 289 4).toInt (fv P' 289 5).toInt (fv P' 289 6).toInt (fv P' 289 7).toInt) ∨ (x.toInt = 0 ∧ ¬ CMO (chC Po) (fv Po 289 2).toInt))))) ∧ Typ P' ∧ KW [514, 515, 516, 517, 518, 519] Po P' ∧ fv P' 289 1 = fv Po 289 1 ∧ KI 289 290 Po P') := by
  have g1 := ti_full (fv Po 289 2)
  have p2 : 0 ≤ (fv Po 289 2).toInt := by omega
  have wx6 := ti_full x6
  have k14 : KW [514, 515, 516, 517, 518, 519] Po P9 := KW.step KW.refl rl_289 rfl f12 f13
  have e15 : (fv P9 289 3).toInt = x6.toInt := congrArg Int32.toInt f11
  replace g7 := g7.resolve_right (by omega)
  have q295 : (0 : Int) ≤ (fv Po 289 1).toInt ∧ (fv Po 289 1).toInt ≤ 80 := Typ.rng hT rl_289 (by decide) (by decide) rfl
  have e296 : (fv P9 289 2).toInt = (fv Po 289 2).toInt := congrArg Int32.toInt (f12 289 2 (by omega))
  have q297 := ch_lt (t := fun j => fv Po 290 j) (L := (fv Po 289 1).toInt) (i := (fv Po 289 2).toInt) (show ¬ (chC Po (fv Po 289 2).toInt).toInt = -1 from by omega)
  refine mp_a (a_aload_n dX4_takeCommand_210 rfl) (mpp 211 rfl ?_)
  refine mp_t (s_dup dX4_takeCommand_211 rfl) (mpp 212 rfl ?_)
  have e298 : (fv P9 289 2).toInt = (fv Po 289 2).toInt := congrArg Int32.toInt (f12 289 2 (ne_k rfl))
  refine mt_getI (i := 23) (k := 2) hT10 dX4_takeCommand_212 rfl rl_289 (by decide) rfl (by decide) rfl (fun g299 g300 => mpp 215 rfl ?_)
  refine mp_a (a_iconst (v := 1) dX4_takeCommand_215 rfl) (mpp 216 rfl ?_)
  obtain ⟨z301, h302⟩ := ti_ex ((fv P9 289 2) + 1 : Int32)
  have wz301 := ti_full z301
  refine mp_t (s_iadd (v := z301) dX4_takeCommand_216 h302) (mpp 217 rfl ?_)
  try have e303 : z301.toInt = (fv P9 289 2).toInt + 1 := ti_addz h302 rfl rfl (by omega) (by omega)
  refine mt_putI (i := 23) (k := 2) (x := z301) hT10 dX4_takeCommand_217 rfl rl_289 (by decide) rfl (by decide) rfl (ti_full z301) rfl rfl (fun P304 hT305 f306 f307 f308 => mpp 220 rfl ?_)
  have k309 : KW [514, 515, 516, 517, 518, 519] Po P304 := KW.step k14 rl_289 rfl f307 f308
  have e310 : (fv P304 289 2).toInt = z301.toInt := congrArg Int32.toInt f306
  refine mp_a (a_aload_n dX4_takeCommand_220 rfl) (mpp 221 rfl ?_)
  have p311 : 0 ≤ (fv P304 289 2).toInt := by omega
  refine mt_callv (i := 50) (q' := q_103) (As := []) (rest := []) hT305 dX4_takeCommand_221 rfl qm_103 (by decide) rfl rl_289 (by decide) rfl (Nat.le_of_ble_eq_true rfl) rfl ⟨rfl, rfl⟩ ⟨Nat.le_of_ble_eq_true rfl, Nat.le_of_ble_eq_true rfl⟩ (EvP.mono (by decide) (c_CS_takePiece_Script hT305 (KW.xr k309 hX) p311 )) (fun r312 P313 g314 => mpp 224 rfl ?_)
  obtain ⟨⟨x315, rfl, g316⟩, hT317, k318, R319⟩ := g314
  have k320 : KW [514, 515, 516, 517, 518, 519] Po P313 := KW.trans k309 k318 rfl
  have wx315 := ti_full x315
  replace g316 : 0 ≤ x315.toInt ∧ x315.toInt ≤ 1 ∧ ((x315.toInt = 1 ∧ (48 ≤ (chC P304 (fv P304 289 2).toInt).toInt ∧ (chC P304 (fv P304 289 2).toInt).toInt ≤ 57) ∧ (fv P313 289 2).toInt = (fv P304 289 2).toInt + 1 ∧ (fv P313 289 4).toInt = (chC P304 (fv P304 289 2).toInt).toInt - 48) ∨ (x315.toInt = 0 ∧ ¬ (48 ≤ (chC P304 (fv P304 289 2).toInt).toInt ∧ (chC P304 (fv P304 289 2).toInt).toInt ≤ 57) ∧ (fv P313 289 2).toInt = (fv P304 289 2).toInt)) := g316
  have g322 := ti_full (fv P313 289 2)
  have g323 := ti_full (fv P313 289 2)
  show MEvP _ none q_97 224 [(0, .ref 289)] [.int x315] _ _ _ _
  have e324 : (fv P313 289 3).toInt = (fv P9 289 3).toInt := congrArg Int32.toInt ((KW.at k318 3 rl_289 rfl).trans (f307 289 3 (ne_k rfl)))
  have g325 := ti_full (fv P313 289 4)
  have g326 := ti_full (fv P313 289 5)
  have g327 := ti_full (fv P313 289 6)
  have g328 := ti_full (fv P313 289 7)
  have t331_ : chC P304 = chC Po := chC_eq (fun j => by rw [f307 290 j (by omega), f12 290 j (by omega)]) (by rw [f307 289 1 (by omega), f12 289 1 (by omega)])
  rw [t331_] at g316
  have e332 : (fv P9 289 2).toInt = (fv Po 289 2).toInt := congrArg Int32.toInt (f12 289 2 (by omega))
  rw [show (fv P304 289 2).toInt = (fv Po 289 2).toInt + 1 from by omega] at g316
  have u329 : 0 ≤ x315.toInt ∧ x315.toInt ≤ 1 ∧ (0 ≤ (fv P313 289 2).toInt ∧ ((x315.toInt = 1 ∧ CMD (chC Po) (fv Po 289 2).toInt (fv P313 289 2).toInt (fv P313 289 3).toInt (fv P313 289 4).toInt (fv P313 289 5).toInt (fv P313 289 6).toInt (fv P313 289 7).toInt) ∨ (x315.toInt = 0 ∧ ¬ CMO (chC Po) (fv Po 289 2).toInt))) := ⟨by omega, by omega, by omega, if hx : x315.toInt = 1 then (Or.inl ⟨by omega, (show (fv P313 289 3).toInt = (chC Po (fv Po 289 2).toInt).toInt from by rw [R319.2.1, f307 289 3 (by omega), f11]; omega), Or.inr (Or.inr ⟨by have e := (show (fv P313 289 3).toInt = (chC Po (fv Po 289 2).toInt).toInt from by rw [R319.2.1, f307 289 3 (by omega), f11]; omega); omega, ⟨by omega, by omega⟩, by omega, by omega⟩)⟩) else Or.inr ⟨by omega, fun ⟨i1, l1, a1, b1, n1, s1, q1, q2⟩ => by rcases q2 with ⟨q2, _⟩ | ⟨q2, q3, _⟩ | ⟨q2, q3, _⟩ <;> omega⟩⟩
  have u333 : fv P313 289 1 = fv Po 289 1 := by rw [R319.1, f307 289 1 (by omega), f12 289 1 (by omega)]
  have u334 : KI 289 290 Po P313 := by
    intro x j hx
    rw [R319.2.2.2.2.2 x j (by omega), f307 x j (by omega), f12 x j (by omega)]
  exact mp_iret ⟨⟨_, rfl, u329⟩, hT317, k320, ⟨u333, u334⟩⟩ dX4_takeCommand_224 (Or.inr ⟨rfl, ti_01 (by omega)⟩)

set_option maxHeartbeats 4000000 in
theorem c_CS_takeCommand_Script_b225 {Po P9 : mP} {x6 : Int32} (hT : Typ Po) (hX : XR Po) (hp0 : 0 ≤ (fv Po 289 2).toInt) (g7 : x6.toInt = (chC Po (fv Po 289 2).toInt).toInt ∨ (x6.toInt = 0 ∧ (chC Po (fv Po 289 2).toInt).toInt = -1)) (hT10 : Typ P9) (f11 : fv P9 289 3 = x6) (f12 : ∀ b j : Nat, ¬ (b = 289 ∧ j = 3) → fv P9 b j = fv Po b j) (f13 : ∀ b k : Nat, rv P9 b k = rv Po b k) (c18 : ¬ (fv P9 289 3).toInt = 99 ∧ ¬ (fv P9 289 3).toInt = 115 ∧ ¬ (fv P9 289 3).toInt = 109 ∧ ¬ (fv P9 289 3).toInt = 102 ∧ ¬ (fv P9 289 3).toInt = 116 ∧ ¬ (fv P9 289 3).toInt = 117 ∧ ¬ (fv P9 289 3).toInt = 120) : MEvP 4 none q_97 225 [(0, .ref 289)] [] P9 0 0 (fun r P' => (∃ x : Int32, r = some (.int x) ∧ (0 ≤ x.toInt ∧ x.toInt ≤ 1 ∧ (0 ≤ (fv P' 289 2).toInt ∧ ((x.toInt = 1 ∧ CMD (chC Po) (fv Po 289 2).toInt (fv P' 289 2).toInt (fv P' 289 3).toInt (fv P' 289 4).toInt (fv P' 289 5).toInt (fv P' 289 6).toInt (fv P' 289 7).toInt) ∨ (x.toInt = 0 ∧ ¬ CMO (chC Po) (fv Po 289 2).toInt))))) ∧ Typ P' ∧ KW [514, 515, 516, 517, 518, 519] Po P' ∧ fv P' 289 1 = fv Po 289 1 ∧ KI 289 290 Po P') := by
  have g1 := ti_full (fv Po 289 2)
  have p2 : 0 ≤ (fv Po 289 2).toInt := by omega
  have wx6 := ti_full x6
  have k14 : KW [514, 515, 516, 517, 518, 519] Po P9 := KW.step KW.refl rl_289 rfl f12 f13
  have e15 : (fv P9 289 3).toInt = x6.toInt := congrArg Int32.toInt f11
  refine mp_a (a_iconst (v := 0) dX4_takeCommand_225 rfl) (mpp 226 rfl ?_)
  have e335 : (fv P9 289 2).toInt = (fv Po 289 2).toInt := congrArg Int32.toInt (f12 289 2 (ne_k rfl))
  have g336 := ti_full (fv P9 289 4)
  have g337 := ti_full (fv P9 289 5)
  have g338 := ti_full (fv P9 289 6)
  have g339 := ti_full (fv P9 289 7)
  have u340 : 0 ≤ (0 : Int) ∧ (0 : Int) ≤ 1 ∧ (0 ≤ (fv P9 289 2).toInt ∧ (((0 : Int) = 1 ∧ CMD (chC Po) (fv Po 289 2).toInt (fv P9 289 2).toInt (fv P9 289 3).toInt (fv P9 289 4).toInt (fv P9 289 5).toInt (fv P9 289 6).toInt (fv P9 289 7).toInt) ∨ ((0 : Int) = 0 ∧ ¬ CMO (chC Po) (fv Po 289 2).toInt))) := ⟨by omega, by omega, by omega, Or.inr ⟨rfl, fun ⟨i1, l1, a1, b1, n1, s1, q1, q2⟩ => by rcases q2 with ⟨q2, _⟩ | ⟨q2, _⟩ | ⟨q2, _⟩ <;> omega⟩⟩
  have u342 : fv P9 289 1 = fv Po 289 1 := by rw [f12 289 1 (by omega)]
  have u343 : KI 289 290 Po P9 := by
    intro x j hx
    rw [f12 x j (by omega)]
  exact mp_iret ⟨⟨_, rfl, u340⟩, hT10, k14, ⟨u342, u343⟩⟩ dX4_takeCommand_226 (Or.inr ⟨rfl, by decide⟩)

set_option maxHeartbeats 4000000 in
theorem c_CS_takeCommand_Script {Po : mP}  (hT : Typ Po) (hX : XR Po)  (hp0 : 0 ≤ (fv Po 289 2).toInt)  : EvP 5 97 [.ref 289] Po (fun r P' => (∃ x : Int32, r = some (.int x) ∧ (0 ≤ x.toInt ∧ x.toInt ≤ 1 ∧ (0 ≤ (fv P' 289 2).toInt ∧ ((x.toInt = 1 ∧ CMD (chC Po) (fv Po 289 2).toInt (fv P' 289 2).toInt (fv P' 289 3).toInt (fv P' 289 4).toInt (fv P' 289 5).toInt (fv P' 289 6).toInt (fv P' 289 7).toInt) ∨ (x.toInt = 0 ∧ ¬ CMO (chC Po) (fv Po 289 2).toInt))))) ∧ Typ P' ∧ KW [514, 515, 516, 517, 518, 519] Po P' ∧ fv P' 289 1 = fv Po 289 1 ∧ KI 289 290 Po P') := by
  refine EvP.of qm_97 (Nat.le_of_ble_eq_true rfl) rfl ?_
  show MEvP _ none q_97 0 [(0, .ref 289)] [] _ 0 0 _
  have g1 := ti_full (fv Po 289 2)
  refine mp_a (a_aload_n dX4_takeCommand_0 rfl) (mpp 1 rfl ?_)
  refine mp_a (a_aload_n dX4_takeCommand_1 rfl) (mpp 2 rfl ?_)
  have p2 : 0 ≤ (fv Po 289 2).toInt := by omega
  refine mt_callv (i := 37) (q' := q_98) (As := []) (rest := [.ref 289]) hT dX4_takeCommand_2 rfl qm_98 (by decide) rfl rl_289 (by decide) rfl (Nat.le_of_ble_eq_true rfl) rfl ⟨rfl, rfl⟩ ⟨Nat.le_of_ble_eq_true rfl, Nat.le_of_ble_eq_true rfl⟩ (EvP.mono (by decide) (c_CS_codeHere_Script hT hX p2 )) (fun r3 P4 g5 => mpp 5 rfl ?_)
  obtain ⟨⟨x6, rfl, g7⟩, e8⟩ := g5
  have e8 := e8.symm
  subst e8
  have wx6 := ti_full x6
  replace g7 : x6.toInt = (chC Po (fv Po 289 2).toInt).toInt ∨ (x6.toInt = 0 ∧ (chC Po (fv Po 289 2).toInt).toInt = -1) := g7
  show MEvP _ none q_97 5 [(0, .ref 289)] [.int x6, .ref 289] _ _ _ _
  refine mt_putI (i := 41) (k := 3) (x := x6) hT dX4_takeCommand_5 rfl rl_289 (by decide) rfl (by decide) rfl (ti_full x6) rfl rfl (fun P9 hT10 f11 f12 f13 => mpp 8 rfl ?_)
  have k14 : KW [514, 515, 516, 517, 518, 519] Po P9 := KW.step KW.refl rl_289 rfl f12 f13
  have e15 : (fv P9 289 3).toInt = x6.toInt := congrArg Int32.toInt f11
  refine mp_a (a_aload_n dX4_takeCommand_8 rfl) (mpp 9 rfl ?_)
  refine mt_getI (i := 41) (k := 3) hT10 dX4_takeCommand_9 rfl rl_289 (by decide) rfl (by decide) rfl (fun g16 g17 => mpp 12 rfl ?_)
  have c18 : ((fv P9 289 3).toInt < 99 ∨ 120 < (fv P9 289 3).toInt) ∨ (fv P9 289 3).toInt = 99 ∨ (fv P9 289 3).toInt = 100 ∨ (fv P9 289 3).toInt = 101 ∨ (fv P9 289 3).toInt = 102 ∨ (fv P9 289 3).toInt = 103 ∨ (fv P9 289 3).toInt = 104 ∨ (fv P9 289 3).toInt = 105 ∨ (fv P9 289 3).toInt = 106 ∨ (fv P9 289 3).toInt = 107 ∨ (fv P9 289 3).toInt = 108 ∨ (fv P9 289 3).toInt = 109 ∨ (fv P9 289 3).toInt = 110 ∨ (fv P9 289 3).toInt = 111 ∨ (fv P9 289 3).toInt = 112 ∨ (fv P9 289 3).toInt = 113 ∨ (fv P9 289 3).toInt = 114 ∨ (fv P9 289 3).toInt = 115 ∨ (fv P9 289 3).toInt = 116 ∨ (fv P9 289 3).toInt = 117 ∨ (fv P9 289 3).toInt = 118 ∨ (fv P9 289 3).toInt = 119 ∨ (fv P9 289 3).toInt = 120 := by omega
  rcases c18 with c18 | c18 | c18 | c18 | c18 | c18 | c18 | c18 | c18 | c18 | c18 | c18 | c18 | c18 | c18 | c18 | c18 | c18 | c18 | c18 | c18 | c18 | c18
  · refine mp_t (s_tabOut (t := 225) dX4_takeCommand_12 c18 (by decide)) ?_
    exact c_CS_takeCommand_Script_b225 hT hX hp0 g7 hT10 f11 f12 f13 (by omega)
  · refine mp_t (s_tabIn (t := 116) (off := 104) dX4_takeCommand_12 (by omega) (by rw [c18]; rfl) (by decide)) ?_
    exact c_CS_takeCommand_Script_b116 hT hX hp0 g7 hT10 f11 f12 f13 (by omega)
  · refine mp_t (s_tabIn (t := 225) (off := 213) dX4_takeCommand_12 (by omega) (by rw [c18]; rfl) (by decide)) ?_
    exact c_CS_takeCommand_Script_b225 hT hX hp0 g7 hT10 f11 f12 f13 (by omega)
  · refine mp_t (s_tabIn (t := 225) (off := 213) dX4_takeCommand_12 (by omega) (by rw [c18]; rfl) (by decide)) ?_
    exact c_CS_takeCommand_Script_b225 hT hX hp0 g7 hT10 f11 f12 f13 (by omega)
  · refine mp_t (s_tabIn (t := 210) (off := 198) dX4_takeCommand_12 (by omega) (by rw [c18]; rfl) (by decide)) ?_
    exact c_CS_takeCommand_Script_b210 hT hX hp0 g7 hT10 f11 f12 f13 (by omega)
  · refine mp_t (s_tabIn (t := 225) (off := 213) dX4_takeCommand_12 (by omega) (by rw [c18]; rfl) (by decide)) ?_
    exact c_CS_takeCommand_Script_b225 hT hX hp0 g7 hT10 f11 f12 f13 (by omega)
  · refine mp_t (s_tabIn (t := 225) (off := 213) dX4_takeCommand_12 (by omega) (by rw [c18]; rfl) (by decide)) ?_
    exact c_CS_takeCommand_Script_b225 hT hX hp0 g7 hT10 f11 f12 f13 (by omega)
  · refine mp_t (s_tabIn (t := 225) (off := 213) dX4_takeCommand_12 (by omega) (by rw [c18]; rfl) (by decide)) ?_
    exact c_CS_takeCommand_Script_b225 hT hX hp0 g7 hT10 f11 f12 f13 (by omega)
  · refine mp_t (s_tabIn (t := 225) (off := 213) dX4_takeCommand_12 (by omega) (by rw [c18]; rfl) (by decide)) ?_
    exact c_CS_takeCommand_Script_b225 hT hX hp0 g7 hT10 f11 f12 f13 (by omega)
  · refine mp_t (s_tabIn (t := 225) (off := 213) dX4_takeCommand_12 (by omega) (by rw [c18]; rfl) (by decide)) ?_
    exact c_CS_takeCommand_Script_b225 hT hX hp0 g7 hT10 f11 f12 f13 (by omega)
  · refine mp_t (s_tabIn (t := 225) (off := 213) dX4_takeCommand_12 (by omega) (by rw [c18]; rfl) (by decide)) ?_
    exact c_CS_takeCommand_Script_b225 hT hX hp0 g7 hT10 f11 f12 f13 (by omega)
  · refine mp_t (s_tabIn (t := 155) (off := 143) dX4_takeCommand_12 (by omega) (by rw [c18]; rfl) (by decide)) ?_
    exact c_CS_takeCommand_Script_b155 hT hX hp0 g7 hT10 f11 f12 f13 (by omega)
  · refine mp_t (s_tabIn (t := 225) (off := 213) dX4_takeCommand_12 (by omega) (by rw [c18]; rfl) (by decide)) ?_
    exact c_CS_takeCommand_Script_b225 hT hX hp0 g7 hT10 f11 f12 f13 (by omega)
  · refine mp_t (s_tabIn (t := 225) (off := 213) dX4_takeCommand_12 (by omega) (by rw [c18]; rfl) (by decide)) ?_
    exact c_CS_takeCommand_Script_b225 hT hX hp0 g7 hT10 f11 f12 f13 (by omega)
  · refine mp_t (s_tabIn (t := 225) (off := 213) dX4_takeCommand_12 (by omega) (by rw [c18]; rfl) (by decide)) ?_
    exact c_CS_takeCommand_Script_b225 hT hX hp0 g7 hT10 f11 f12 f13 (by omega)
  · refine mp_t (s_tabIn (t := 225) (off := 213) dX4_takeCommand_12 (by omega) (by rw [c18]; rfl) (by decide)) ?_
    exact c_CS_takeCommand_Script_b225 hT hX hp0 g7 hT10 f11 f12 f13 (by omega)
  · refine mp_t (s_tabIn (t := 225) (off := 213) dX4_takeCommand_12 (by omega) (by rw [c18]; rfl) (by decide)) ?_
    exact c_CS_takeCommand_Script_b225 hT hX hp0 g7 hT10 f11 f12 f13 (by omega)
  · refine mp_t (s_tabIn (t := 116) (off := 104) dX4_takeCommand_12 (by omega) (by rw [c18]; rfl) (by decide)) ?_
    exact c_CS_takeCommand_Script_b116 hT hX hp0 g7 hT10 f11 f12 f13 (by omega)
  · refine mp_t (s_tabIn (t := 210) (off := 198) dX4_takeCommand_12 (by omega) (by rw [c18]; rfl) (by decide)) ?_
    exact c_CS_takeCommand_Script_b210 hT hX hp0 g7 hT10 f11 f12 f13 (by omega)
  · refine mp_t (s_tabIn (t := 210) (off := 198) dX4_takeCommand_12 (by omega) (by rw [c18]; rfl) (by decide)) ?_
    exact c_CS_takeCommand_Script_b210 hT hX hp0 g7 hT10 f11 f12 f13 (by omega)
  · refine mp_t (s_tabIn (t := 225) (off := 213) dX4_takeCommand_12 (by omega) (by rw [c18]; rfl) (by decide)) ?_
    exact c_CS_takeCommand_Script_b225 hT hX hp0 g7 hT10 f11 f12 f13 (by omega)
  · refine mp_t (s_tabIn (t := 225) (off := 213) dX4_takeCommand_12 (by omega) (by rw [c18]; rfl) (by decide)) ?_
    exact c_CS_takeCommand_Script_b225 hT hX hp0 g7 hT10 f11 f12 f13 (by omega)
  · refine mp_t (s_tabIn (t := 210) (off := 198) dX4_takeCommand_12 (by omega) (by rw [c18]; rfl) (by decide)) ?_
    exact c_CS_takeCommand_Script_b210 hT hX hp0 g7 hT10 f11 f12 f13 (by omega)

set_option maxHeartbeats 4000000 in
theorem c_CS_faultPosition_Script_l6 {Po : mP}  (hTo : Typ Po) (hX : XR Po)  : ∀ (n : Nat) (v1 : Int32), ∀ (P : mP), Typ P → KW [514, 515, 516, 517, 518, 519] Po P → (KI 289 290 Po P ∧ fv P 289 1 = fv Po 289 1) → (0 ≤ (fv P 289 2).toInt ∧ 2 * v1.toInt ≤ (fv P 289 2).toInt ∧ (fv P 289 2).toInt ≤ (fv Po 289 1).toInt) → (TKT (chC Po) (fv Po 289 1).toInt 0 ↔ TKT (chC Po) (fv Po 289 1).toInt (fv P 289 2).toInt) → ((fv Po 289 1).toInt ≤ 80) → (0 ≤ v1.toInt) → (2147483647 - v1.toInt).toNat = n → MEvP 5 none q_95 6 [(0, .ref 289), (1, .int v1)] [] P 0 0 (fun r P' => (∃ x : Int32, r = some (.int x) ∧ ((x.toInt = -1004 ∧ TKT (chC Po) (fv Po 289 1).toInt 0) ∨ (0 ≤ x.toInt ∧ ¬ TKT (chC Po) (fv Po 289 1).toInt 0))) ∧ Typ P' ∧ KW [514, 515, 516, 517, 518, 519] Po P' ∧ fv P' 289 1 = fv Po 289 1 ∧ KI 289 290 Po P') := by
  intro n
  induction n using Nat.strongRecOn with | _ n ih => ?_
  intro v1 P hT hK i_0 i_1 i_2 i_3 i_4 hm
  have w_v1 := ti_full v1
  have g1 := ti_full (fv P 289 2)
  have g2 := ti_full (fv P 289 2)
  refine mp_a (a_iload_n dX4_faultPosition_6 rfl) (mpp 7 rfl ?_)
  refine mp_a (a_bipush (v := 80) dX4_faultPosition_7 rfl) (mpp 9 rfl ?_)
  refine mp_Tb (t := 54) (j_icmp_ge dX4_faultPosition_9) (by decide) (fun c3 => ?_) (fun c3 => mpp 12 rfl ?_)
  · have c3 : v1.toInt ≥ 80 := ti_ge c3
    refine mp_a (a_aload_n dX4_faultPosition_54 rfl) (mpp 55 rfl ?_)
    refine mt_getI (i := 23) (k := 2) hT dX4_faultPosition_55 rfl rl_289 (by decide) rfl (by decide) rfl (fun g4 g5 => mpp 58 rfl ?_)
    have w7_c : chC P = chC Po := chC_eq (fun j => i_0.1 290 j (by omega)) i_0.2
    have w7_l : (fv P 289 1).toInt = (fv Po 289 1).toInt := congrArg Int32.toInt i_0.2
    have u6 : ((fv P 289 2).toInt = -1004 ∧ TKT (chC Po) (fv Po 289 1).toInt 0) ∨ (0 ≤ (fv P 289 2).toInt ∧ ¬ TKT (chC Po) (fv Po 289 1).toInt 0) := by exfalso; omega
    have u8 : fv P 289 1 = fv Po 289 1 ∧ KI 289 290 Po P := ⟨i_0.2, i_0.1⟩
    exact mp_iret ⟨⟨_, rfl, u6⟩, hT, hK, u8⟩ dX4_faultPosition_58 (Or.inl rfl)
  · have c3 : v1.toInt < 80 := ti_ge_n c3
    refine mp_a (a_aload_n dX4_faultPosition_12 rfl) (mpp 13 rfl ?_)
    have p9 : 0 ≤ (fv P 289 2).toInt := by omega
    refine mt_callv (i := 29) (q' := q_97) (As := []) (rest := []) hT dX4_faultPosition_13 rfl qm_97 (by decide) rfl rl_289 (by decide) rfl (Nat.le_of_ble_eq_true rfl) rfl ⟨rfl, rfl⟩ ⟨Nat.le_of_ble_eq_true rfl, Nat.le_of_ble_eq_true rfl⟩ (EvP.mono (by decide) (c_CS_takeCommand_Script hT (KW.xr hK hX) p9 )) (fun r10 P11 g12 => mpp 16 rfl ?_)
    obtain ⟨⟨x13, rfl, g14⟩, hT15, k16, R17⟩ := g12
    have k18 : KW [514, 515, 516, 517, 518, 519] Po P11 := KW.trans hK k16 rfl
    have wx13 := ti_full x13
    replace g14 : 0 ≤ x13.toInt ∧ x13.toInt ≤ 1 ∧ (0 ≤ (fv P11 289 2).toInt ∧ ((x13.toInt = 1 ∧ CMD (chC P) (fv P 289 2).toInt (fv P11 289 2).toInt (fv P11 289 3).toInt (fv P11 289 4).toInt (fv P11 289 5).toInt (fv P11 289 6).toInt (fv P11 289 7).toInt) ∨ (x13.toInt = 0 ∧ ¬ CMO (chC P) (fv P 289 2).toInt))) := g14
    have g20 := ti_full (fv P11 289 2)
    have g21 := ti_full (fv P11 289 2)
    have g22 := ti_full (fv P11 289 3)
    have g23 := ti_full (fv P11 289 4)
    have g24 := ti_full (fv P11 289 5)
    have g25 := ti_full (fv P11 289 6)
    have g26 := ti_full (fv P11 289 7)
    show MEvP _ none q_95 16 [(0, .ref 289), (1, .int v1)] [.int x13] _ _ _ _
    refine mp_Tb (t := 54) (j_if_eq dX4_faultPosition_16) (by decide) (fun c27 => ?_) (fun c27 => mpp 19 rfl ?_)
    · have c27 : x13.toInt = 0 := ti_eq c27
      refine mp_a (a_aload_n dX4_faultPosition_54 rfl) (mpp 55 rfl ?_)
      refine mt_getI (i := 23) (k := 2) hT15 dX4_faultPosition_55 rfl rl_289 (by decide) rfl (by decide) rfl (fun g28 g29 => mpp 58 rfl ?_)
      have w31_c : chC P = chC Po := chC_eq (fun j => i_0.1 290 j (by omega)) i_0.2
      have w31_l : (fv P 289 1).toInt = (fv Po 289 1).toInt := congrArg Int32.toInt i_0.2
      have w31_g := g14.2.2.2
      rw [w31_c] at w31_g
      have w31_k : (fv P11 289 1).toInt = (fv P 289 1).toInt := congrArg Int32.toInt (R17.1)
      have u30 : ((fv P11 289 2).toInt = -1004 ∧ TKT (chC Po) (fv Po 289 1).toInt 0) ∨ (0 ≤ (fv P11 289 2).toInt ∧ ¬ TKT (chC Po) (fv Po 289 1).toInt 0) := Or.inr ⟨by omega, fun q => TKT.no (w31_g.resolve_left (by omega)).2 (i_2.mp q)⟩
      have u32 : fv P11 289 1 = fv Po 289 1 ∧ KI 289 290 Po P11 := ⟨by rw [R17.1]; exact i_0.2, fun x j hx => by rw [R17.2 x j (by omega)]; exact i_0.1 x j hx⟩
      exact mp_iret ⟨⟨_, rfl, u30⟩, hT15, k18, u32⟩ dX4_faultPosition_58 (Or.inl rfl)
    · have c27 : x13.toInt ≠ 0 := ti_eq_n c27
      have w33_c : chC P = chC Po := chC_eq (fun j => i_0.1 290 j (by omega)) i_0.2
      have w33_l : (fv P 289 1).toInt = (fv Po 289 1).toInt := congrArg Int32.toInt i_0.2
      have w33_g := g14.2.2.2
      rw [w33_c] at w33_g
      have w33_k : (fv P11 289 1).toInt = (fv P 289 1).toInt := congrArg Int32.toInt (R17.1)
      have w33_m := (w33_g.resolve_right (by omega)).2
      have w33_n := CMD.len (t := fun j => fv Po 290 j) (L := (fv Po 289 1).toInt) w33_m
      have w33_a := CMD.adv w33_m
      refine mp_a (a_aload_n dX4_faultPosition_19 rfl) (mpp 20 rfl ?_)
      refine mt_getI (i := 23) (k := 2) hT15 dX4_faultPosition_20 rfl rl_289 (by decide) rfl (by decide) rfl (fun g34 g35 => mpp 23 rfl ?_)
      refine mp_a (a_aload_n dX4_faultPosition_23 rfl) (mpp 24 rfl ?_)
      have e36 : (fv P11 289 1).toInt = (fv Po 289 1).toInt := congrArg Int32.toInt ((KW.at k16 1 rl_289 rfl).trans (KW.at hK 1 rl_289 rfl))
      refine mt_getI (i := 15) (k := 1) hT15 dX4_faultPosition_24 rfl rl_289 (by decide) rfl (by decide) rfl (fun g37 g38 => mpp 27 rfl ?_)
      refine mp_Tb (t := 34) (j_icmp_ne dX4_faultPosition_27) (by decide) (fun c39 => ?_) (fun c39 => mpp 30 rfl ?_)
      · have c39 : (fv P11 289 2).toInt ≠ (fv P11 289 1).toInt := ti_ne c39
        refine mp_a (a_aload_n dX4_faultPosition_34 rfl) (mpp 35 rfl ?_)
        refine mp_a (a_bipush (v := 59) dX4_faultPosition_35 rfl) (mpp 37 rfl ?_)
        have p40 : 0 ≤ (fv P11 289 2).toInt := by omega
        have p41 : 1 ≤ (59 : Int) := by omega
        refine mt_callv (i := 33) (q' := q_100) (As := [.int 59]) (rest := []) hT15 dX4_faultPosition_37 rfl qm_100 (by decide) rfl rl_289 (by decide) rfl (Nat.le_of_ble_eq_true rfl) rfl ⟨rfl, rfl⟩ ⟨Nat.le_of_ble_eq_true rfl, Nat.le_of_ble_eq_true rfl⟩ (EvP.mono (by decide) (c_CS_takeSign_Script hT15 (KW.xr k18 hX) p40 p41 )) (fun r42 P43 g44 => mpp 40 rfl ?_)
        obtain ⟨⟨x45, rfl, g46⟩, hT47, k48, R49⟩ := g44
        have k50 : KW [514, 515, 516, 517, 518, 519] Po P43 := KW.trans k18 k48 rfl
        have wx45 := ti_full x45
        replace g46 : 0 ≤ x45.toInt ∧ x45.toInt ≤ 1 ∧ ((x45.toInt = 1 ∧ (chC P11 (fv P11 289 2).toInt).toInt = (59 : Int) ∧ (fv P43 289 2).toInt = (fv P11 289 2).toInt + 1) ∨ (x45.toInt = 0 ∧ ¬ (chC P11 (fv P11 289 2).toInt).toInt = (59 : Int) ∧ (fv P43 289 2).toInt = (fv P11 289 2).toInt)) := g46
        have g52 := ti_full (fv P43 289 2)
        have g53 := ti_full (fv P43 289 2)
        show MEvP _ none q_95 40 [(0, .ref 289), (1, .int v1)] [.int x45] _ _ _ _
        refine mp_Tb (t := 48) (j_if_ne dX4_faultPosition_40) (by decide) (fun c54 => ?_) (fun c54 => mpp 43 rfl ?_)
        · have c54 : x45.toInt ≠ 0 := ti_ne c54
          obtain ⟨z55, h56⟩ := ti_ex (v1 + 1 : Int32)
          have wz55 := ti_full z55
          refine mp_a (a_iinc (v := z55) (L' := [(1, .int z55), (0, .ref 289)]) dX4_faultPosition_48 (by decide) rfl h56 rfl) (mpp 51 rfl ?_)
          try have e57 : z55.toInt = v1.toInt + 1 := ti_addz h56 rfl rfl (by omega) (by omega)
          refine mp_a (a_goto (t := 6) dX4_faultPosition_51 (by decide)) ?_
          refine MEvP.less (L := [(0, .ref 289), (1, .int z55)]) rfl rfl ⟨rfl, rfl, trivial⟩ ?_
          have i58 : KI 289 290 Po P43 ∧ fv P43 289 1 = fv Po 289 1 := ⟨fun x j hx => by rw [R49.2.2.2.2.2.2 x j (by omega), R17.2 x j (by omega)]; exact i_0.1 x j hx, by rw [R49.1, R17.1]; exact i_0.2⟩
          have w60_c : chC P = chC Po := chC_eq (fun j => i_0.1 290 j (by omega)) i_0.2
          have w60_l : (fv P 289 1).toInt = (fv Po 289 1).toInt := congrArg Int32.toInt i_0.2
          have w60_g := g14.2.2.2
          rw [w60_c] at w60_g
          have w60_k : (fv P11 289 1).toInt = (fv P 289 1).toInt := congrArg Int32.toInt (R17.1)
          have t61_ : chC P11 = chC P := chC_eq (fun j => by rw [R17.2 290 j (by omega)]) (by rw [R17.1])
          have w60_s := g46
          rw [t61_, w60_c] at w60_s
          have w60_q := ch_lt (t := fun j => fv Po 290 j) (L := (fv Po 289 1).toInt) (i := (fv P11 289 2).toInt) (show ¬ (chC Po (fv P11 289 2).toInt).toInt = -1 from by omega)
          have i59 : 0 ≤ (fv P43 289 2).toInt ∧ 2 * z55.toInt ≤ (fv P43 289 2).toInt ∧ (fv P43 289 2).toInt ≤ (fv Po 289 1).toInt := by omega
          have i62 : TKT (chC Po) (fv Po 289 1).toInt 0 ↔ TKT (chC Po) (fv Po 289 1).toInt (fv P43 289 2).toInt := i_2.trans ((TKT.at (w60_g.resolve_right (by omega)).2).trans ⟨fun q => q.elim (fun q => absurd q (by omega)) (fun q => (show (fv P43 289 2).toInt = (fv P11 289 2).toInt + 1 from by omega) ▸ q.2), fun q => Or.inr ⟨(show (chC Po (fv P11 289 2).toInt).toInt = 59 from by omega), (show (fv P43 289 2).toInt = (fv P11 289 2).toInt + 1 from by omega) ▸ q⟩⟩)
          have i63 : (fv Po 289 1).toInt ≤ 80 := by omega
          have i64 : 0 ≤ z55.toInt := by omega
          exact ih _ (by omega) _ P43 hT47 k50 i58 i59 i62 i63 i64 rfl
        · have c54 : x45.toInt = 0 := ti_ne_n c54
          refine mp_a (a_aload_n dX4_faultPosition_43 rfl) (mpp 44 rfl ?_)
          refine mt_getI (i := 23) (k := 2) hT47 dX4_faultPosition_44 rfl rl_289 (by decide) rfl (by decide) rfl (fun g65 g66 => mpp 47 rfl ?_)
          have w68_c : chC P = chC Po := chC_eq (fun j => i_0.1 290 j (by omega)) i_0.2
          have w68_l : (fv P 289 1).toInt = (fv Po 289 1).toInt := congrArg Int32.toInt i_0.2
          have w68_g := g14.2.2.2
          rw [w68_c] at w68_g
          have w68_k : (fv P11 289 1).toInt = (fv P 289 1).toInt := congrArg Int32.toInt (R17.1)
          have t69_ : chC P11 = chC P := chC_eq (fun j => by rw [R17.2 290 j (by omega)]) (by rw [R17.1])
          have w68_s := g46
          rw [t69_, w68_c] at w68_s
          have u67 : ((fv P43 289 2).toInt = -1004 ∧ TKT (chC Po) (fv Po 289 1).toInt 0) ∨ (0 ≤ (fv P43 289 2).toInt ∧ ¬ TKT (chC Po) (fv Po 289 1).toInt 0) := Or.inr ⟨by omega, fun q => by rcases (show (fv P11 289 2).toInt = (fv Po 289 1).toInt ∨ ((chC Po (fv P11 289 2).toInt).toInt = 59 ∧ TKT (chC Po) (fv Po 289 1).toInt ((fv P11 289 2).toInt + 1)) from (TKT.at (w68_g.resolve_right (by omega)).2).mp (i_2.mp q)) with q | q <;> omega⟩
          have u70 : fv P43 289 1 = fv Po 289 1 ∧ KI 289 290 Po P43 := ⟨by rw [R49.1, R17.1]; exact i_0.2, fun x j hx => by rw [R49.2.2.2.2.2.2 x j (by omega), R17.2 x j (by omega)]; exact i_0.1 x j hx⟩
          exact mp_iret ⟨⟨_, rfl, u67⟩, hT47, k50, u70⟩ dX4_faultPosition_47 (Or.inl rfl)
      · have c39 : (fv P11 289 2).toInt = (fv P11 289 1).toInt := ti_ne_n c39
        refine mp_a (a_sipush (v := -1004) dX4_faultPosition_30 rfl) (mpp 33 rfl ?_)
        have w72_c : chC P = chC Po := chC_eq (fun j => i_0.1 290 j (by omega)) i_0.2
        have w72_l : (fv P 289 1).toInt = (fv Po 289 1).toInt := congrArg Int32.toInt i_0.2
        have w72_g := g14.2.2.2
        rw [w72_c] at w72_g
        have w72_k : (fv P11 289 1).toInt = (fv P 289 1).toInt := congrArg Int32.toInt (R17.1)
        have u71 : ((-1004 : Int) = -1004 ∧ TKT (chC Po) (fv Po 289 1).toInt 0) ∨ (0 ≤ (-1004 : Int) ∧ ¬ TKT (chC Po) (fv Po 289 1).toInt 0) := Or.inl ⟨rfl, i_2.mpr ((TKT.at (w72_g.resolve_right (by omega)).2).mpr (Or.inl (by omega)))⟩
        have u73 : fv P11 289 1 = fv Po 289 1 ∧ KI 289 290 Po P11 := ⟨by rw [R17.1]; exact i_0.2, fun x j hx => by rw [R17.2 x j (by omega)]; exact i_0.1 x j hx⟩
        exact mp_iret ⟨⟨_, rfl, u71⟩, hT15, k18, u73⟩ dX4_faultPosition_33 (Or.inl rfl)

set_option maxHeartbeats 4000000 in
theorem c_CS_faultPosition_Script {Po : mP}  (hT : Typ Po) (hX : XR Po)   : EvP 6 95 [.ref 289] Po (fun r P' => (∃ x : Int32, r = some (.int x) ∧ ((x.toInt = -1004 ∧ TKT (chC Po) (fv Po 289 1).toInt 0) ∨ (0 ≤ x.toInt ∧ ¬ TKT (chC Po) (fv Po 289 1).toInt 0))) ∧ Typ P' ∧ KW [514, 515, 516, 517, 518, 519] Po P' ∧ fv P' 289 1 = fv Po 289 1 ∧ KI 289 290 Po P') := by
  refine EvP.of qm_95 (Nat.le_of_ble_eq_true rfl) rfl ?_
  show MEvP _ none q_95 0 [(0, .ref 289)] [] _ 0 0 _
  have g1 : (0 : Int) ≤ (fv Po 289 1).toInt ∧ (fv Po 289 1).toInt ≤ 80 := Typ.rng hT rl_289 (by decide) (by decide) rfl
  refine mp_a (a_aload_n dX4_faultPosition_0 rfl) (mpp 1 rfl ?_)
  refine mt_callv (i := 26) (q' := q_96) (As := []) (rest := []) hT dX4_faultPosition_1 rfl qm_96 (by decide) rfl rl_289 (by decide) rfl (Nat.le_of_ble_eq_true rfl) rfl ⟨rfl, rfl⟩ ⟨Nat.le_of_ble_eq_true rfl, Nat.le_of_ble_eq_true rfl⟩ (EvP.mono (by decide) (c_CS_rewind_Script hT hX )) (fun r2 P3 g4 => mpp 4 rfl ?_)
  obtain ⟨⟨rfl, g6⟩, hT7, k8, R9⟩ := g4
  have k10 : KW [514, 515, 516, 517, 518, 519] Po P3 := KW.trans KW.refl k8 rfl
  replace g6 : (fv P3 289 2).toInt = 0 := g6
  have g12 := ti_full (fv P3 289 2)
  show MEvP _ none q_95 4 [(0, .ref 289)] [] _ _ _ _
  refine mp_a (a_iconst (v := 0) dX4_faultPosition_4 rfl) (mpp 5 rfl ?_)
  refine mp_a (a_istore_n (L' := [(1, .int 0), (0, .ref 289)]) dX4_faultPosition_5 (by decide) rfl) (mpp 6 rfl ?_)
  refine MEvP.less (L := [(0, .ref 289), (1, .int 0)]) rfl rfl ⟨rfl, rfl, trivial⟩ ?_
  have i13 : KI 289 290 Po P3 ∧ fv P3 289 1 = fv Po 289 1 := ⟨fun x j hx => by rw [R9.2 x j (by omega)], by rw [R9.1]⟩
  have i14 : 0 ≤ (fv P3 289 2).toInt ∧ 2 * (0 : Int) ≤ (fv P3 289 2).toInt ∧ (fv P3 289 2).toInt ≤ (fv Po 289 1).toInt := by omega
  have i15 : TKT (chC Po) (fv Po 289 1).toInt 0 ↔ TKT (chC Po) (fv Po 289 1).toInt (fv P3 289 2).toInt := by rw [show (fv P3 289 2).toInt = 0 from by omega]
  have i16 : (fv Po 289 1).toInt ≤ 80 := by omega
  have i17 : 0 ≤ (0 : Int) := by omega
  exact c_CS_faultPosition_Script_l6 hT hX   _ _ P3 hT7 k10 i13 i14 i15 i16 i17 rfl

set_option maxHeartbeats 4000000 in
theorem c_CS_clear_Script {Po : mP}  (hT : Typ Po) (hX : XR Po)   : EvP 1 106 [.ref 289] Po (fun r P' => (r = none ∧ ((fv P' 289 1).toInt = 0)) ∧ Typ P' ∧ KW [513] Po P' ∧ fv P' 289 2 = fv Po 289 2 ∧ fv P' 289 3 = fv Po 289 3 ∧ fv P' 289 4 = fv Po 289 4 ∧ fv P' 289 5 = fv Po 289 5 ∧ fv P' 289 6 = fv Po 289 6 ∧ fv P' 289 7 = fv Po 289 7 ∧ KI 289 290 Po P') := by
  refine EvP.of qm_106 (Nat.le_of_ble_eq_true rfl) rfl ?_
  show MEvP _ none q_106 0 [(0, .ref 289)] [] _ 0 0 _
  refine mp_a (a_aload_n dX4_clear_0 rfl) (mpp 1 rfl ?_)
  refine mp_a (a_iconst (v := 0) dX4_clear_1 rfl) (mpp 2 rfl ?_)
  refine mt_putI (i := 15) (k := 1) (x := 0) hT dX4_clear_2 rfl rl_289 (by decide) rfl (by decide) rfl (by decide) rfl rfl (fun P1 hT2 f3 f4 f5 => mpp 5 rfl ?_)
  have k6 : KW [513] Po P1 := KW.step KW.refl rl_289 rfl f4 f5
  have e7 : (fv P1 289 1).toInt = 0 := congrArg Int32.toInt f3
  have u8 : (fv P1 289 1).toInt = 0 := by omega
  have u9 : fv P1 289 2 = fv Po 289 2 := by rw [f4 289 2 (by omega)]
  have u10 : fv P1 289 3 = fv Po 289 3 := by rw [f4 289 3 (by omega)]
  have u11 : fv P1 289 4 = fv Po 289 4 := by rw [f4 289 4 (by omega)]
  have u12 : fv P1 289 5 = fv Po 289 5 := by rw [f4 289 5 (by omega)]
  have u13 : fv P1 289 6 = fv Po 289 6 := by rw [f4 289 6 (by omega)]
  have u14 : fv P1 289 7 = fv Po 289 7 := by rw [f4 289 7 (by omega)]
  have u15 : KI 289 290 Po P1 := by
    intro x j hx
    rw [f4 x j (by omega)]
  exact mp_ret ⟨⟨rfl, u8⟩, hT2, k6, ⟨u9, u10, u11, u12, u13, u14, u15⟩⟩ dX4_clear_5 rfl

set_option maxHeartbeats 4000000 in
theorem c_CP_copyFrom_Piece_Piece {Po : mP} {a0_ : Nat} {a1_ : Nat} (hT : Typ Po) (hX : XR Po)  (hp0 : a0_ + 3 ≤ a1_ ∨ a1_ + 3 ≤ a0_) (ha0 : rl a0_ = 3) (ha1 : rl a1_ = 3) : EvP 2 18 [.ref a0_, .ref a1_] Po (fun r P' => (r = none ∧ (True)) ∧ Typ P' ∧ KW [192, 193, 194, 256, 320] Po P' ∧ fv P' a0_ 0 = fv Po a1_ 0 ∧ fv P' a0_ 1 = fv Po a1_ 1 ∧ fv P' a0_ 2 = fv Po a1_ 2 ∧ (∀ j : Nat, j < 8 → fv P' (a0_ + 1) j = fv Po (a1_ + 1) j) ∧ (∀ j : Nat, j < 8 → fv P' (a0_ + 2) j = fv Po (a1_ + 2) j) ∧ KI a0_ (a0_ + 3) Po P') := by
  refine EvP.of qm_18 (Nat.le_of_ble_eq_true rfl) rfl ?_
  show MEvP _ none q_18 0 [(0, .ref a0_), (1, .ref a1_)] [] _ 0 0 _
  have w1 := pc_ar ha0
  have w2 := pc_ar ha1
  refine mp_a (a_aload_n dX2_copyFrom_0 rfl) (mpp 1 rfl ?_)
  refine mp_a (a_aload_n dX2_copyFrom_1 rfl) (mpp 2 rfl ?_)
  have g3 := ti_full (fv Po a1_ 0)
  refine mt_getI (i := 18) (k := 0) hT dX2_copyFrom_2 rfl ha1 (by decide) rfl (by decide) rfl (fun g4 g5 => mpp 5 rfl ?_)
  refine mt_putI (i := 18) (k := 0) (x := (fv Po a1_ 0)) hT dX2_copyFrom_5 rfl ha0 (by decide) rfl (by decide) rfl (ti_full (fv Po a1_ 0)) rfl rfl (fun P6 hT7 f8 f9 f10 => mpp 8 rfl ?_)
  have k11 : KW [192, 193, 194, 256, 320] Po P6 := KW.step KW.refl ha0 rfl f9 f10
  have e12 : (fv P6 a0_ 0).toInt = (fv Po a1_ 0).toInt := congrArg Int32.toInt f8
  refine mp_a (a_aload_n dX2_copyFrom_8 rfl) (mpp 9 rfl ?_)
  refine mp_a (a_aload_n dX2_copyFrom_9 rfl) (mpp 10 rfl ?_)
  have g13 : (0 : Int) ≤ (fv P6 a1_ 1).toInt ∧ (fv P6 a1_ 1).toInt ≤ 8 := Typ.rng hT7 ha1 (by decide) (by decide) rfl
  refine mt_getI (i := 26) (k := 1) hT7 dX2_copyFrom_10 rfl ha1 (by decide) rfl (by decide) rfl (fun g14 g15 => mpp 13 rfl ?_)
  refine mt_putI (i := 26) (k := 1) (x := (fv P6 a1_ 1)) hT7 dX2_copyFrom_13 rfl ha0 (by decide) rfl (by decide) rfl ⟨by omega, by omega⟩ rfl rfl (fun P16 hT17 f18 f19 f20 => mpp 16 rfl ?_)
  have k21 : KW [192, 193, 194, 256, 320] Po P16 := KW.step k11 ha0 rfl f19 f20
  have e22 : (fv P16 a0_ 1).toInt = (fv P6 a1_ 1).toInt := congrArg Int32.toInt f18
  refine mp_a (a_aload_n dX2_copyFrom_16 rfl) (mpp 17 rfl ?_)
  refine mp_a (a_aload_n dX2_copyFrom_17 rfl) (mpp 18 rfl ?_)
  have g23 : (0 : Int) ≤ (fv P16 a1_ 2).toInt ∧ (fv P16 a1_ 2).toInt ≤ 1 := Typ.rng hT17 ha1 (by decide) (by decide) rfl
  refine mt_getI (i := 22) (k := 2) hT17 dX2_copyFrom_18 rfl ha1 (by decide) rfl (by decide) rfl (fun g24 g25 => mpp 21 rfl ?_)
  refine mt_putI (i := 22) (k := 2) (x := (fv P16 a1_ 2)) hT17 dX2_copyFrom_21 rfl ha0 (by decide) rfl (by decide) rfl ⟨by omega, by omega⟩ (ti_fit (by omega)) rfl (fun P26 hT27 f28 f29 f30 => mpp 24 rfl ?_)
  have k31 : KW [192, 193, 194, 256, 320] Po P26 := KW.step k21 ha0 rfl f29 f30
  have e32 : (fv P26 a0_ 2).toInt = (fv P16 a1_ 2).toInt := congrArg Int32.toInt f28
  refine mp_a (a_aload_n dX2_copyFrom_24 rfl) (mpp 25 rfl ?_)
  refine mt_getE (i := 9) (k := 3) hT27 dX2_copyFrom_25 rfl ha1 (by decide) rfl (by decide) rfl ((KW.xr k31 hX).1 a1_ (Or.inl ha1)).1 (fun q33 => mpp 28 rfl ?_)
  refine mp_a (a_aload_n dX2_copyFrom_28 rfl) (mpp 29 rfl ?_)
  refine mt_getE (i := 9) (k := 3) hT27 dX2_copyFrom_29 rfl ha0 (by decide) rfl (by decide) rfl ((KW.xr k31 hX).1 a0_ (Or.inl ha0)).1 (fun q34 => mpp 32 rfl ?_)
  have p35 : ¬ (a1_ + 1) = (a0_ + 1) := by omega
  refine mp_calls (i := 44) (q' := q_19) (As := [.ref (a1_ + 1), .ref (a0_ + 1)]) (rest := []) dX2_copyFrom_32 rfl qm_19 (by decide) rfl (Nat.le_of_ble_eq_true rfl) rfl ⟨rfl, rfl⟩ ⟨Nat.le_of_ble_eq_true rfl, Nat.le_of_ble_eq_true rfl⟩ (EvP.mono (by decide) (c_F_copyRow_sizes_sizes hT27 (KW.xr k31 hX) p35 q33 q34)) (fun r36 P37 g38 => mpp 35 rfl ?_)
  obtain ⟨⟨rfl, g40⟩, hT41, k42, R43⟩ := g38
  have k44 : KW [192, 193, 194, 256, 320] Po P37 := KW.trans k31 k42 rfl
  show MEvP _ none q_18 35 [(0, .ref a0_), (1, .ref a1_)] [] _ _ _ _
  refine mp_a (a_aload_n dX2_copyFrom_35 rfl) (mpp 36 rfl ?_)
  refine mt_getE (i := 15) (k := 4) hT41 dX2_copyFrom_36 rfl ha1 (by decide) rfl (by decide) rfl ((KW.xr k44 hX).1 a1_ (Or.inl ha1)).2 (fun q46 => mpp 39 rfl ?_)
  refine mp_a (a_aload_n dX2_copyFrom_39 rfl) (mpp 40 rfl ?_)
  refine mt_getE (i := 15) (k := 4) hT41 dX2_copyFrom_40 rfl ha0 (by decide) rfl (by decide) rfl ((KW.xr k44 hX).1 a0_ (Or.inl ha0)).2 (fun q47 => mpp 43 rfl ?_)
  have p48 : ¬ (a1_ + 2) = (a0_ + 2) := by omega
  refine mp_calls (i := 44) (q' := q_19) (As := [.ref (a1_ + 2), .ref (a0_ + 2)]) (rest := []) dX2_copyFrom_43 rfl qm_19 (by decide) rfl (Nat.le_of_ble_eq_true rfl) rfl ⟨rfl, rfl⟩ ⟨Nat.le_of_ble_eq_true rfl, Nat.le_of_ble_eq_true rfl⟩ (EvP.mono (by decide) (c_F_copyRow_creases_creases hT41 (KW.xr k44 hX) p48 q46 q47)) (fun r49 P50 g51 => mpp 46 rfl ?_)
  obtain ⟨⟨rfl, g53⟩, hT54, k55, R56⟩ := g51
  have k57 : KW [192, 193, 194, 256, 320] Po P50 := KW.trans k44 k55 rfl
  show MEvP _ none q_18 46 [(0, .ref a0_), (1, .ref a1_)] [] _ _ _ _
  have u59 : fv P50 a0_ 0 = fv Po a1_ 0 := by rw [R56.2 a0_ 0 (by omega), R43.2 a0_ 0 (by omega), f29 a0_ 0 (by omega), f19 a0_ 0 (by omega), f8]
  have u60 : fv P50 a0_ 1 = fv Po a1_ 1 := by rw [R56.2 a0_ 1 (by omega), R43.2 a0_ 1 (by omega), f29 a0_ 1 (by omega), f18, f9 a1_ 1 (by omega)]
  have u61 : fv P50 a0_ 2 = fv Po a1_ 2 := by rw [R56.2 a0_ 2 (by omega), R43.2 a0_ 2 (by omega), f28, f19 a1_ 2 (by omega), f9 a1_ 2 (by omega)]
  have u62 : (∀ j : Nat, j < 8 → fv P50 (a0_ + 1) j = fv Po (a1_ + 1) j) := by
    intro j hj
    rw [R56.2 (a0_ + 1) j (by omega), R43.1 j (by omega), f29 (a1_ + 1) j (by omega), f19 (a1_ + 1) j (by omega), f9 (a1_ + 1) j (by omega)]
  have u63 : (∀ j : Nat, j < 8 → fv P50 (a0_ + 2) j = fv Po (a1_ + 2) j) := by
    intro j hj
    rw [R56.1 j (by omega), R43.2 (a1_ + 2) j (by omega), f29 (a1_ + 2) j (by omega), f19 (a1_ + 2) j (by omega), f9 (a1_ + 2) j (by omega)]
  have u64 : KI a0_ (a0_ + 3) Po P50 := by
    intro x j hx
    rw [R56.2 x j (by omega), R43.2 x j (by omega), f29 x j (by omega), f19 x j (by omega), f9 x j (by omega)]
  exact mp_ret ⟨⟨rfl, trivial⟩, hT54, k57, ⟨u59, u60, u61, u62, u63, u64⟩⟩ dX2_copyFrom_46 rfl

set_option maxHeartbeats 4000000 in
theorem c_CS_copyFrom_State_State_l26 {Po : mP} {a0_ : Nat} {a1_ : Nat} (hTo : Typ Po) (hX : XR Po) (hJo : Inj Po) (hp0 : a0_ + 26 ≤ a1_ ∨ a1_ + 26 ≤ a0_) (ha0 : rl a0_ = 1) (ha1 : rl a1_ = 1) : ∀ (n : Nat) (v2 : Int32), ∀ (P : mP), Typ P → KW [65, 66, 67, 192, 193, 194, 256, 320] Po P → Inj P → ((fv P a0_ 1 = fv Po a1_ 1 ∧ fv P a0_ 2 = fv Po a1_ 2 ∧ fv P a0_ 3 = fv Po a1_ 3)) → (∀ k : Nat, k < 8 → (k : Int) < v2.toInt → PE P (a0_ + 2 + 3 * k) Po (a1_ + 2 + 3 * k)) → (KI a0_ (a0_ + 26) Po P) → ((fv P a0_ 1).toInt = (fv Po a1_ 1).toInt) → (0 ≤ v2.toInt) → (0 ≤ v2.toInt) → (2147483647 - v2.toInt).toNat = n → MEvP 2 none q_17 26 [(0, .ref a0_), (1, .ref a1_), (2, .int v2)] [] P 0 0 (fun r P' => (r = none ∧ (True)) ∧ Typ P' ∧ KW [65, 66, 67, 192, 193, 194, 256, 320] Po P' ∧ Inj P' ∧ fv P' a0_ 1 = fv Po a1_ 1 ∧ fv P' a0_ 2 = fv Po a1_ 2 ∧ fv P' a0_ 3 = fv Po a1_ 3 ∧ (∀ k : Nat, k < 8 → (k : Int) < (fv Po a1_ 1).toInt → PE P' (a0_ + 2 + 3 * k) Po (a1_ + 2 + 3 * k)) ∧ KI a0_ (a0_ + 26) Po P') := by
  intro n
  induction n using Nat.strongRecOn with | _ n ih => ?_
  intro v2 P hT hK hJ i_0 i_1 i_2 i_3 i_4 i_5 hm
  have w1 := st_ar ha0
  have w2 := st_ar ha1
  have w_v2 := ti_full v2
  have g3 : (0 : Int) ≤ (fv P a0_ 1).toInt ∧ (fv P a0_ 1).toInt ≤ 8 := Typ.rng hT ha0 (by decide) (by decide) rfl
  have g4 : (0 : Int) ≤ (fv P a0_ 1).toInt ∧ (fv P a0_ 1).toInt ≤ 8 := Typ.rng hT ha0 (by decide) (by decide) rfl
  have eB : (fv P a1_ 1).toInt = (fv Po a1_ 1).toInt := congrArg Int32.toInt (i_2 _ _ (by omega))
  refine mp_a (a_iload_n dX5_copyFrom_26 rfl) (mpp 27 rfl ?_)
  refine mp_a (a_aload_n dX5_copyFrom_27 rfl) (mpp 28 rfl ?_)
  refine mt_getI (i := 22) (k := 1) hT dX5_copyFrom_28 rfl ha0 (by decide) rfl (by decide) rfl (fun g5 g6 => mpp 31 rfl ?_)
  refine mp_Tb (t := 68) (j_icmp_ge dX5_copyFrom_31) (by decide) (fun c7 => ?_) (fun c7 => mpp 34 rfl ?_)
  · have c7 : v2.toInt ≥ (fv P a0_ 1).toInt := ti_ge c7
    have u8 : fv P a0_ 1 = fv Po a1_ 1 ∧ fv P a0_ 2 = fv Po a1_ 2 ∧ fv P a0_ 3 = fv Po a1_ 3 ∧ (∀ k : Nat, k < 8 → (k : Int) < (fv Po a1_ 1).toInt → PE P (a0_ + 2 + 3 * k) Po (a1_ + 2 + 3 * k)) ∧ KI a0_ (a0_ + 26) Po P := ⟨i_0.1, i_0.2.1, i_0.2.2, fun k hk h => i_1 k hk (by omega), i_2⟩
    exact mp_ret ⟨⟨rfl, trivial⟩, hT, hK, hJ, u8⟩ dX5_copyFrom_68 rfl
  · have c7 : v2.toInt < (fv P a0_ 1).toInt := ti_ge_n c7
    refine mp_a (a_aload_n dX5_copyFrom_34 rfl) (mpp 35 rfl ?_)
    refine mp_a (a_iload_n dX5_copyFrom_35 rfl) (mpp 36 rfl ?_)
    refine mt_callv (i := 28) (q' := q_9) (As := [.int v2]) (rest := []) hT dX5_copyFrom_36 rfl qm_9 (by decide) rfl ha0 (by decide) rfl (Nat.le_of_ble_eq_true rfl) rfl ⟨rfl, rfl⟩ ⟨Nat.le_of_ble_eq_true rfl, Nat.le_of_ble_eq_true rfl⟩ (EvP.mono (by decide) (c_CS_pieceAt_State hT (KW.xr hK hX) ha0)) (fun r9 P10 g11 => mpp 39 rfl ?_)
    obtain ⟨g11, e12⟩ := g11
    have e12 := e12.symm
    subst e12
    rcases g11 with ⟨rfl, q14n⟩ | ⟨b13, rfl, q14, q14r⟩
    · show MEvP _ none q_17 39 [(0, .ref a0_), (1, .ref a1_), (2, .int v2)] [.null] _ _ _ _
      replace q14n : v2.toInt < 0 ∨ (fv P a0_ 1).toInt ≤ v2.toInt ∨ 8 ≤ v2.toInt := q14n
      refine mp_a (a_astore_nN (L' := [(3, .null), (0, .ref a0_), (1, .ref a1_), (2, .int v2)]) dX5_copyFrom_39 (by decide) rfl) (mpp 40 rfl ?_)
      refine mp_a (a_aload_n dX5_copyFrom_40 rfl) (mpp 41 rfl ?_)
      refine mp_a (a_iload_n dX5_copyFrom_41 rfl) (mpp 42 rfl ?_)
      refine mt_callv (i := 28) (q' := q_9) (As := [.int v2]) (rest := []) hT dX5_copyFrom_42 rfl qm_9 (by decide) rfl ha1 (by decide) rfl (Nat.le_of_ble_eq_true rfl) rfl ⟨rfl, rfl⟩ ⟨Nat.le_of_ble_eq_true rfl, Nat.le_of_ble_eq_true rfl⟩ (EvP.mono (by decide) (c_CS_pieceAt_State hT (KW.xr hK hX) ha1)) (fun r15 P16 g17 => mpp 45 rfl ?_)
      obtain ⟨g17, e18⟩ := g17
      have e18 := e18.symm
      subst e18
      rcases g17 with ⟨rfl, q20n⟩ | ⟨b19, rfl, q20, q20r⟩
      · show MEvP _ none q_17 45 [(3, .null), (0, .ref a0_), (1, .ref a1_), (2, .int v2)] [.null] _ _ _ _
        replace q20n : v2.toInt < 0 ∨ (fv P a1_ 1).toInt ≤ v2.toInt ∨ 8 ≤ v2.toInt := q20n
        have g21 : (0 : Int) ≤ (fv P a1_ 1).toInt ∧ (fv P a1_ 1).toInt ≤ 8 := Typ.rng hT ha1 (by decide) (by decide) rfl
        refine mp_a (a_astoreN (L' := [(4, .null), (3, .null), (0, .ref a0_), (1, .ref a1_), (2, .int v2)]) dX5_copyFrom_45 (by decide) rfl) (mpp 47 rfl ?_)
        refine mp_a (a_aload_nN dX5_copyFrom_47 rfl) (mpp 48 rfl ?_)
        refine mp_t (s_ifnullN (t := 62) dX5_copyFrom_48 (by decide)) ?_
        obtain ⟨z22, h23⟩ := ti_ex (v2 + 1 : Int32)
        have wz22 := ti_full z22
        refine mp_a (a_iinc (v := z22) (L' := [(2, .int z22), (4, .null), (3, .null), (0, .ref a0_), (1, .ref a1_)]) dX5_copyFrom_62 (by decide) rfl h23 rfl) (mpp 65 rfl ?_)
        try have e24 : z22.toInt = v2.toInt + 1 := ti_addz h23 rfl rfl (by omega) (by omega)
        refine mp_a (a_goto (t := 26) dX5_copyFrom_65 (by decide)) ?_
        refine MEvP.less (L := [(0, .ref a0_), (1, .ref a1_), (2, .int z22)]) rfl rfl ⟨rfl, rfl, rfl, trivial⟩ ?_
        have i25 : (fv P a0_ 1 = fv Po a1_ 1 ∧ fv P a0_ 2 = fv Po a1_ 2 ∧ fv P a0_ 3 = fv Po a1_ 3) := ⟨i_0.1, i_0.2.1, i_0.2.2⟩
        have i26 : ∀ k : Nat, k < 8 → (k : Int) < z22.toInt → PE P (a0_ + 2 + 3 * k) Po (a1_ + 2 + 3 * k) := fun k hk h => i_1 k hk (by omega)
        have i27 : KI a0_ (a0_ + 26) Po P := i_2
        have i28 : (fv P a0_ 1).toInt = (fv Po a1_ 1).toInt := by omega
        have i29 : 0 ≤ z22.toInt := by omega
        have i30 : 0 ≤ z22.toInt := by omega
        exact ih _ (by omega) _ P hT hK hJ i25 i26 i27 i28 i29 i30 rfl
      · show MEvP _ none q_17 45 [(3, .null), (0, .ref a0_), (1, .ref a1_), (2, .int v2)] [.ref b19] _ _ _ _
        replace q20r : 0 ≤ v2.toInt ∧ v2.toInt ≤ 7 ∧ v2.toInt + 1 ≤ (fv P a1_ 1).toInt ∧ b19 = a1_ + 2 + 3 * v2.toInt.toNat := q20r
        have g31 : (0 : Int) ≤ (fv P a1_ 1).toInt ∧ (fv P a1_ 1).toInt ≤ 8 := Typ.rng hT ha1 (by decide) (by decide) rfl
        have w32 := pc_ar q20
        refine mp_a (a_astore (L' := [(4, .ref b19), (3, .null), (0, .ref a0_), (1, .ref a1_), (2, .int v2)]) dX5_copyFrom_45 (by decide) rfl) (mpp 47 rfl ?_)
        refine mp_a (a_aload_nN dX5_copyFrom_47 rfl) (mpp 48 rfl ?_)
        refine mp_t (s_ifnullN (t := 62) dX5_copyFrom_48 (by decide)) ?_
        obtain ⟨z33, h34⟩ := ti_ex (v2 + 1 : Int32)
        have wz33 := ti_full z33
        refine mp_a (a_iinc (v := z33) (L' := [(2, .int z33), (4, .ref b19), (3, .null), (0, .ref a0_), (1, .ref a1_)]) dX5_copyFrom_62 (by decide) rfl h34 rfl) (mpp 65 rfl ?_)
        try have e35 : z33.toInt = v2.toInt + 1 := ti_addz h34 rfl rfl (by omega) (by omega)
        refine mp_a (a_goto (t := 26) dX5_copyFrom_65 (by decide)) ?_
        refine MEvP.less (L := [(0, .ref a0_), (1, .ref a1_), (2, .int z33)]) rfl rfl ⟨rfl, rfl, rfl, trivial⟩ ?_
        have i36 : (fv P a0_ 1 = fv Po a1_ 1 ∧ fv P a0_ 2 = fv Po a1_ 2 ∧ fv P a0_ 3 = fv Po a1_ 3) := ⟨i_0.1, i_0.2.1, i_0.2.2⟩
        have i37 : ∀ k : Nat, k < 8 → (k : Int) < z33.toInt → PE P (a0_ + 2 + 3 * k) Po (a1_ + 2 + 3 * k) := fun k hk h => i_1 k hk (by omega)
        have i38 : KI a0_ (a0_ + 26) Po P := i_2
        have i39 : (fv P a0_ 1).toInt = (fv Po a1_ 1).toInt := by omega
        have i40 : 0 ≤ z33.toInt := by omega
        have i41 : 0 ≤ z33.toInt := by omega
        exact ih _ (by omega) _ P hT hK hJ i36 i37 i38 i39 i40 i41 rfl
    · show MEvP _ none q_17 39 [(0, .ref a0_), (1, .ref a1_), (2, .int v2)] [.ref b13] _ _ _ _
      replace q14r : 0 ≤ v2.toInt ∧ v2.toInt ≤ 7 ∧ v2.toInt + 1 ≤ (fv P a0_ 1).toInt ∧ b13 = a0_ + 2 + 3 * v2.toInt.toNat := q14r
      have w42 := pc_ar q14
      refine mp_a (a_astore_n (L' := [(3, .ref b13), (0, .ref a0_), (1, .ref a1_), (2, .int v2)]) dX5_copyFrom_39 (by decide) rfl) (mpp 40 rfl ?_)
      refine mp_a (a_aload_n dX5_copyFrom_40 rfl) (mpp 41 rfl ?_)
      refine mp_a (a_iload_n dX5_copyFrom_41 rfl) (mpp 42 rfl ?_)
      refine mt_callv (i := 28) (q' := q_9) (As := [.int v2]) (rest := []) hT dX5_copyFrom_42 rfl qm_9 (by decide) rfl ha1 (by decide) rfl (Nat.le_of_ble_eq_true rfl) rfl ⟨rfl, rfl⟩ ⟨Nat.le_of_ble_eq_true rfl, Nat.le_of_ble_eq_true rfl⟩ (EvP.mono (by decide) (c_CS_pieceAt_State hT (KW.xr hK hX) ha1)) (fun r43 P44 g45 => mpp 45 rfl ?_)
      obtain ⟨g45, e46⟩ := g45
      have e46 := e46.symm
      subst e46
      rcases g45 with ⟨rfl, q48n⟩ | ⟨b47, rfl, q48, q48r⟩
      · show MEvP _ none q_17 45 [(3, .ref b13), (0, .ref a0_), (1, .ref a1_), (2, .int v2)] [.null] _ _ _ _
        replace q48n : v2.toInt < 0 ∨ (fv P a1_ 1).toInt ≤ v2.toInt ∨ 8 ≤ v2.toInt := q48n
        have g49 : (0 : Int) ≤ (fv P a1_ 1).toInt ∧ (fv P a1_ 1).toInt ≤ 8 := Typ.rng hT ha1 (by decide) (by decide) rfl
        refine mp_a (a_astoreN (L' := [(4, .null), (3, .ref b13), (0, .ref a0_), (1, .ref a1_), (2, .int v2)]) dX5_copyFrom_45 (by decide) rfl) (mpp 47 rfl ?_)
        refine mp_a (a_aload_n dX5_copyFrom_47 rfl) (mpp 48 rfl ?_)
        refine mp_t (s_ifnullR dX5_copyFrom_48) (mpp 51 rfl ?_)
        refine mp_a (a_aloadN dX5_copyFrom_51 rfl) (mpp 53 rfl ?_)
        refine mp_t (s_ifnullN (t := 62) dX5_copyFrom_53 (by decide)) ?_
        obtain ⟨z50, h51⟩ := ti_ex (v2 + 1 : Int32)
        have wz50 := ti_full z50
        refine mp_a (a_iinc (v := z50) (L' := [(2, .int z50), (4, .null), (3, .ref b13), (0, .ref a0_), (1, .ref a1_)]) dX5_copyFrom_62 (by decide) rfl h51 rfl) (mpp 65 rfl ?_)
        try have e52 : z50.toInt = v2.toInt + 1 := ti_addz h51 rfl rfl (by omega) (by omega)
        refine mp_a (a_goto (t := 26) dX5_copyFrom_65 (by decide)) ?_
        refine MEvP.less (L := [(0, .ref a0_), (1, .ref a1_), (2, .int z50)]) rfl rfl ⟨rfl, rfl, rfl, trivial⟩ ?_
        have i53 : (fv P a0_ 1 = fv Po a1_ 1 ∧ fv P a0_ 2 = fv Po a1_ 2 ∧ fv P a0_ 3 = fv Po a1_ 3) := ⟨i_0.1, i_0.2.1, i_0.2.2⟩
        have i54 : ∀ k : Nat, k < 8 → (k : Int) < z50.toInt → PE P (a0_ + 2 + 3 * k) Po (a1_ + 2 + 3 * k) := fun k hk h => i_1 k hk (by omega)
        have i55 : KI a0_ (a0_ + 26) Po P := i_2
        have i56 : (fv P a0_ 1).toInt = (fv Po a1_ 1).toInt := by omega
        have i57 : 0 ≤ z50.toInt := by omega
        have i58 : 0 ≤ z50.toInt := by omega
        exact ih _ (by omega) _ P hT hK hJ i53 i54 i55 i56 i57 i58 rfl
      · show MEvP _ none q_17 45 [(3, .ref b13), (0, .ref a0_), (1, .ref a1_), (2, .int v2)] [.ref b47] _ _ _ _
        replace q48r : 0 ≤ v2.toInt ∧ v2.toInt ≤ 7 ∧ v2.toInt + 1 ≤ (fv P a1_ 1).toInt ∧ b47 = a1_ + 2 + 3 * v2.toInt.toNat := q48r
        have g59 : (0 : Int) ≤ (fv P a1_ 1).toInt ∧ (fv P a1_ 1).toInt ≤ 8 := Typ.rng hT ha1 (by decide) (by decide) rfl
        have w60 := pc_ar q48
        refine mp_a (a_astore (L' := [(4, .ref b47), (3, .ref b13), (0, .ref a0_), (1, .ref a1_), (2, .int v2)]) dX5_copyFrom_45 (by decide) rfl) (mpp 47 rfl ?_)
        refine mp_a (a_aload_n dX5_copyFrom_47 rfl) (mpp 48 rfl ?_)
        refine mp_t (s_ifnullR dX5_copyFrom_48) (mpp 51 rfl ?_)
        refine mp_a (a_aload dX5_copyFrom_51 rfl) (mpp 53 rfl ?_)
        refine mp_t (s_ifnullR dX5_copyFrom_53) (mpp 56 rfl ?_)
        refine mp_a (a_aload_n dX5_copyFrom_56 rfl) (mpp 57 rfl ?_)
        refine mp_a (a_aload dX5_copyFrom_57 rfl) (mpp 59 rfl ?_)
        have p61 : b13 + 3 ≤ b47 ∨ b47 + 3 ≤ b13 := by omega
        refine mt_callv (i := 32) (q' := q_18) (As := [.ref b47]) (rest := []) hT dX5_copyFrom_59 rfl qm_18 (by decide) rfl q14 (by decide) rfl (Nat.le_of_ble_eq_true rfl) rfl ⟨rfl, rfl⟩ ⟨Nat.le_of_ble_eq_true rfl, Nat.le_of_ble_eq_true rfl⟩ (EvP.mono (by decide) (c_CP_copyFrom_Piece_Piece hT (KW.xr hK hX) p61 q14 q48)) (fun r62 P63 g64 => mpp 62 rfl ?_)
        obtain ⟨⟨rfl, g66⟩, hT67, k68, R69⟩ := g64
        have k70 : KW [65, 66, 67, 192, 193, 194, 256, 320] Po P63 := KW.trans hK k68 rfl
        have J72 := Inj.kw hJ k68 rfl
        show MEvP _ none q_17 62 [(4, .ref b47), (3, .ref b13), (0, .ref a0_), (1, .ref a1_), (2, .int v2)] [] _ _ _ _
        obtain ⟨z73, h74⟩ := ti_ex (v2 + 1 : Int32)
        have wz73 := ti_full z73
        refine mp_a (a_iinc (v := z73) (L' := [(2, .int z73), (4, .ref b47), (3, .ref b13), (0, .ref a0_), (1, .ref a1_)]) dX5_copyFrom_62 (by decide) rfl h74 rfl) (mpp 65 rfl ?_)
        try have e75 : z73.toInt = v2.toInt + 1 := ti_addz h74 rfl rfl (by omega) (by omega)
        refine mp_a (a_goto (t := 26) dX5_copyFrom_65 (by decide)) ?_
        refine MEvP.less (L := [(0, .ref a0_), (1, .ref a1_), (2, .int z73)]) rfl rfl ⟨rfl, rfl, rfl, trivial⟩ ?_
        have i76 : (fv P63 a0_ 1 = fv Po a1_ 1 ∧ fv P63 a0_ 2 = fv Po a1_ 2 ∧ fv P63 a0_ 3 = fv Po a1_ 3) := ⟨by rw [R69.2.2.2.2.2 a0_ 1 (by omega)]; exact i_0.1, by rw [R69.2.2.2.2.2 a0_ 2 (by omega)]; exact i_0.2.1, by rw [R69.2.2.2.2.2 a0_ 3 (by omega)]; exact i_0.2.2⟩
        have i77 : ∀ k : Nat, k < 8 → (k : Int) < z73.toInt → PE P63 (a0_ + 2 + 3 * k) Po (a1_ + 2 + 3 * k) := pe_back (fun k => a0_ + 2 + 3 * k) (fun k => a1_ + 2 + 3 * k) (v := v2.toInt) i_1 (by omega) (by omega) q14r.2.2.2.symm q48r.2.2.2.symm ⟨R69.1, R69.2.1, R69.2.2.1, R69.2.2.2.1, R69.2.2.2.2.1⟩ i_2 (by omega) R69.2.2.2.2.2 (fun k hk hn => by omega)
        have i78 : KI a0_ (a0_ + 26) Po P63 := i_2.trans R69.2.2.2.2.2 (by omega)
        have e79 : (fv P63 a0_ 1).toInt = (fv P a0_ 1).toInt := congrArg Int32.toInt (KW.at k68 1 ha0 rfl)
        have i80 : (fv P63 a0_ 1).toInt = (fv Po a1_ 1).toInt := by omega
        have i81 : 0 ≤ z73.toInt := by omega
        have i82 : 0 ≤ z73.toInt := by omega
        exact ih _ (by omega) _ P63 hT67 k70 J72 i76 i77 i78 i80 i81 i82 rfl

set_option maxHeartbeats 4000000 in
theorem c_CS_copyFrom_State_State {Po : mP} {a0_ : Nat} {a1_ : Nat} (hT : Typ Po) (hX : XR Po)  (hJ : Inj Po) (hp0 : a0_ + 26 ≤ a1_ ∨ a1_ + 26 ≤ a0_) (ha0 : rl a0_ = 1) (ha1 : rl a1_ = 1) : EvP 3 17 [.ref a0_, .ref a1_] Po (fun r P' => (r = none ∧ (True)) ∧ Typ P' ∧ KW [65, 66, 67, 192, 193, 194, 256, 320] Po P' ∧ Inj P' ∧ fv P' a0_ 1 = fv Po a1_ 1 ∧ fv P' a0_ 2 = fv Po a1_ 2 ∧ fv P' a0_ 3 = fv Po a1_ 3 ∧ (∀ k : Nat, k < 8 → (k : Int) < (fv Po a1_ 1).toInt → PE P' (a0_ + 2 + 3 * k) Po (a1_ + 2 + 3 * k)) ∧ KI a0_ (a0_ + 26) Po P') := by
  refine EvP.of qm_17 (Nat.le_of_ble_eq_true rfl) rfl ?_
  show MEvP _ none q_17 0 [(0, .ref a0_), (1, .ref a1_)] [] _ 0 0 _
  have w1 := st_ar ha0
  have w2 := st_ar ha1
  have g3 : (0 : Int) ≤ (fv Po a1_ 1).toInt ∧ (fv Po a1_ 1).toInt ≤ 8 := Typ.rng hT ha1 (by decide) (by decide) rfl
  refine mp_a (a_aload_n dX5_copyFrom_0 rfl) (mpp 1 rfl ?_)
  refine mp_a (a_aload_n dX5_copyFrom_1 rfl) (mpp 2 rfl ?_)
  refine mt_getI (i := 22) (k := 1) hT dX5_copyFrom_2 rfl ha1 (by decide) rfl (by decide) rfl (fun g4 g5 => mpp 5 rfl ?_)
  refine mt_putI (i := 22) (k := 1) (x := (fv Po a1_ 1)) hT dX5_copyFrom_5 rfl ha0 (by decide) rfl (by decide) rfl ⟨by omega, by omega⟩ rfl rfl (fun P6 hT7 f8 f9 f10 => mpp 8 rfl ?_)
  have k11 : KW [65, 66, 67, 192, 193, 194, 256, 320] Po P6 := KW.step KW.refl ha0 rfl f9 f10
  have J12 := Inj.st hJ f10
  have e13 : (fv P6 a0_ 1).toInt = (fv Po a1_ 1).toInt := congrArg Int32.toInt f8
  refine mp_a (a_aload_n dX5_copyFrom_8 rfl) (mpp 9 rfl ?_)
  refine mp_a (a_aload_n dX5_copyFrom_9 rfl) (mpp 10 rfl ?_)
  have g14 := ti_full (fv P6 a1_ 2)
  refine mt_getI (i := 17) (k := 2) hT7 dX5_copyFrom_10 rfl ha1 (by decide) rfl (by decide) rfl (fun g15 g16 => mpp 13 rfl ?_)
  refine mt_putI (i := 17) (k := 2) (x := (fv P6 a1_ 2)) hT7 dX5_copyFrom_13 rfl ha0 (by decide) rfl (by decide) rfl (ti_full (fv P6 a1_ 2)) rfl rfl (fun P17 hT18 f19 f20 f21 => mpp 16 rfl ?_)
  have k22 : KW [65, 66, 67, 192, 193, 194, 256, 320] Po P17 := KW.step k11 ha0 rfl f20 f21
  have J23 := Inj.st J12 f21
  have e24 : (fv P17 a0_ 2).toInt = (fv P6 a1_ 2).toInt := congrArg Int32.toInt f19
  refine mp_a (a_aload_n dX5_copyFrom_16 rfl) (mpp 17 rfl ?_)
  refine mp_a (a_aload_n dX5_copyFrom_17 rfl) (mpp 18 rfl ?_)
  have g25 := ti_full (fv P17 a1_ 3)
  refine mt_getI (i := 25) (k := 3) hT18 dX5_copyFrom_18 rfl ha1 (by decide) rfl (by decide) rfl (fun g26 g27 => mpp 21 rfl ?_)
  refine mt_putI (i := 25) (k := 3) (x := (fv P17 a1_ 3)) hT18 dX5_copyFrom_21 rfl ha0 (by decide) rfl (by decide) rfl (ti_full (fv P17 a1_ 3)) rfl rfl (fun P28 hT29 f30 f31 f32 => mpp 24 rfl ?_)
  have k33 : KW [65, 66, 67, 192, 193, 194, 256, 320] Po P28 := KW.step k22 ha0 rfl f31 f32
  have J34 := Inj.st J23 f32
  have e35 : (fv P28 a0_ 3).toInt = (fv P17 a1_ 3).toInt := congrArg Int32.toInt f30
  refine mp_a (a_iconst (v := 0) dX5_copyFrom_24 rfl) (mpp 25 rfl ?_)
  refine mp_a (a_istore_n (L' := [(2, .int 0), (0, .ref a0_), (1, .ref a1_)]) dX5_copyFrom_25 (by decide) rfl) (mpp 26 rfl ?_)
  refine MEvP.less (L := [(0, .ref a0_), (1, .ref a1_), (2, .int 0)]) rfl rfl ⟨rfl, rfl, rfl, trivial⟩ ?_
  have i36 : (fv P28 a0_ 1 = fv Po a1_ 1 ∧ fv P28 a0_ 2 = fv Po a1_ 2 ∧ fv P28 a0_ 3 = fv Po a1_ 3) := ⟨by rw [f31 a0_ 1 (by omega), f20 a0_ 1 (by omega), f8], by rw [f31 a0_ 2 (by omega), f19, f9 a1_ 2 (by omega)], by rw [f30, f20 a1_ 3 (by omega), f9 a1_ 3 (by omega)]⟩
  have i37 : ∀ k : Nat, k < 8 → (k : Int) < (0 : Int) → PE P28 (a0_ + 2 + 3 * k) Po (a1_ + 2 + 3 * k) := fun k hk h => absurd h (by omega)
  have i38 : KI a0_ (a0_ + 26) Po P28 := by intro x j hx; rw [f31 x j (by omega), f20 x j (by omega), f9 x j (by omega)]
  have e39 : (fv P28 a0_ 1).toInt = (fv P6 a0_ 1).toInt := congrArg Int32.toInt ((f31 a0_ 1 (ne_k rfl)).trans (f20 a0_ 1 (ne_k rfl)))
  have i40 : (fv P28 a0_ 1).toInt = (fv Po a1_ 1).toInt := by omega
  have i41 : 0 ≤ (0 : Int) := by omega
  have i42 : 0 ≤ (0 : Int) := by omega
  exact c_CS_copyFrom_State_State_l26 hT hX hJ hp0 ha0 ha1 _ _ P28 hT29 k33 J34 i36 i37 i38 i40 i41 i42 rfl

set_option maxHeartbeats 4000000 in
theorem c_CH_push_History_State {Po : mP} {a1_ : Nat} (hT : Typ Po) (hX : XR Po)  (hJ : Inj Po) (hp0 : a1_ + 26 ≤ 81) (ha1 : rl a1_ = 1) : EvP 4 15 [.ref 79, .ref a1_] Po (fun r P' => (r = none ∧ (True)) ∧ Typ P' ∧ KW [65, 66, 67, 192, 193, 194, 256, 320, 385, 386] Po P' ∧ Inj P' ∧ (((fv Po 79 3).toInt = 1 ∧ (fv P' 79 1).toInt = (fv Po 79 1).toInt ∧ (fv P' 79 2).toInt = (fv Po 79 2).toInt) ∨ ((fv Po 79 3).toInt = 0 ∧ (((fv Po 79 1).toInt < 7 ∧ (fv P' 79 1).toInt = (fv Po 79 1).toInt + 1) ∨ ((fv Po 79 1).toInt = 7 ∧ (fv P' 79 1).toInt = 0)) ∧ (((fv Po 79 2).toInt < 8 ∧ (fv P' 79 2).toInt = (fv Po 79 2).toInt + 1) ∨ ((fv Po 79 2).toInt = 8 ∧ (fv P' 79 2).toInt = 8)))) ∧ ((fv Po 79 3).toInt = 1 ∨ SCs P' (81 + 26 * (fv Po 79 1).toInt.toNat) Po a1_) ∧ (∀ x j : Nat, ¬ x = 79 → (x < (81 + 26 * (fv Po 79 1).toInt.toNat) ∨ (81 + 26 * (fv Po 79 1).toInt.toNat) + 26 ≤ x) → fv P' x j = fv Po x j) ∧ ((fv Po 79 3).toInt = 0 ∨ ∀ x j : Nat, fv P' x j = fv Po x j) ∧ fv P' 79 3 = fv Po 79 3 ∧ KI 79 289 Po P') := by
  refine EvP.of qm_15 (Nat.le_of_ble_eq_true rfl) rfl ?_
  show MEvP _ none q_15 0 [(0, .ref 79), (1, .ref a1_)] [] _ 0 0 _
  have w1 := st_ar ha1
  have g2 : (0 : Int) ≤ (fv Po 79 3).toInt ∧ (fv Po 79 3).toInt ≤ 1 := Typ.rng hT rl_79 (by decide) (by decide) rfl
  have g3 : (0 : Int) ≤ (fv Po 79 1).toInt ∧ (fv Po 79 1).toInt ≤ 7 := Typ.rng hT rl_79 (by decide) (by decide) rfl
  have g4 : (0 : Int) ≤ (fv Po 79 2).toInt ∧ (fv Po 79 2).toInt ≤ 8 := Typ.rng hT rl_79 (by decide) (by decide) rfl
  refine mp_a (a_aload_n dX0_push_0 rfl) (mpp 1 rfl ?_)
  refine mp_a (a_aload_n dX0_push_1 rfl) (mpp 2 rfl ?_)
  refine mt_getI (i := 18) (k := 1) hT dX0_push_2 rfl rl_79 (by decide) rfl (by decide) rfl (fun g5 g6 => mpp 5 rfl ?_)
  refine mt_callv (i := 22) (q' := q_16) (As := [.int (fv Po 79 1)]) (rest := []) hT dX0_push_5 rfl qm_16 (by decide) rfl rl_79 (by decide) rfl (Nat.le_of_ble_eq_true rfl) rfl ⟨rfl, rfl⟩ ⟨Nat.le_of_ble_eq_true rfl, Nat.le_of_ble_eq_true rfl⟩ (EvP.mono (by decide) (c_CH_stateAt_History hT hX )) (fun r7 P8 g9 => mpp 8 rfl ?_)
  obtain ⟨g9, e10⟩ := g9
  have e10 := e10.symm
  subst e10
  rcases g9 with ⟨rfl, q12n⟩ | ⟨b11, rfl, q12, q12r⟩
  · show MEvP _ none q_15 8 [(0, .ref 79), (1, .ref a1_)] [.null] _ _ _ _
    replace q12n : (fv Po 79 1).toInt < 0 ∨ 8 ≤ (fv Po 79 1).toInt := q12n
    refine mp_a (a_astore_nN (L' := [(2, .null), (0, .ref 79), (1, .ref a1_)]) dX0_push_8 (by decide) rfl) (mpp 9 rfl ?_)
    refine mp_a (a_aload_nN dX0_push_9 rfl) (mpp 10 rfl ?_)
    exfalso
    omega
  · show MEvP _ none q_15 8 [(0, .ref 79), (1, .ref a1_)] [.ref b11] _ _ _ _
    replace q12r : 0 ≤ (fv Po 79 1).toInt ∧ (fv Po 79 1).toInt ≤ 7 ∧ b11 = 81 + 26 * (fv Po 79 1).toInt.toNat := q12r
    have w13 := st_ar q12
    refine mp_a (a_astore_n (L' := [(2, .ref b11), (0, .ref 79), (1, .ref a1_)]) dX0_push_8 (by decide) rfl) (mpp 9 rfl ?_)
    refine mp_a (a_aload_n dX0_push_9 rfl) (mpp 10 rfl ?_)
    refine mp_t (s_ifnullR dX0_push_10) (mpp 13 rfl ?_)
    refine mp_a (a_aload_n dX0_push_13 rfl) (mpp 14 rfl ?_)
    refine mt_getI (i := 26) (k := 3) hT dX0_push_14 rfl rl_79 (by decide) rfl (by decide) rfl (fun g14 g15 => mpp 17 rfl ?_)
    refine mp_Tb (t := 63) (j_if_ne dX0_push_17) (by decide) (fun c16 => ?_) (fun c16 => mpp 20 rfl ?_)
    · have c16 : (fv Po 79 3).toInt ≠ 0 := ti_ne c16
      have u17 : (((fv Po 79 3).toInt = 1 ∧ (fv Po 79 1).toInt = (fv Po 79 1).toInt ∧ (fv Po 79 2).toInt = (fv Po 79 2).toInt) ∨ ((fv Po 79 3).toInt = 0 ∧ (((fv Po 79 1).toInt < 7 ∧ (fv Po 79 1).toInt = (fv Po 79 1).toInt + 1) ∨ ((fv Po 79 1).toInt = 7 ∧ (fv Po 79 1).toInt = 0)) ∧ (((fv Po 79 2).toInt < 8 ∧ (fv Po 79 2).toInt = (fv Po 79 2).toInt + 1) ∨ ((fv Po 79 2).toInt = 8 ∧ (fv Po 79 2).toInt = 8)))) := by omega
      have u18 : ((fv Po 79 3).toInt = 1 ∨ SCs Po (81 + 26 * (fv Po 79 1).toInt.toNat) Po a1_) := Or.inl (by omega)
      have u19 : (∀ x j : Nat, ¬ x = 79 → (x < (81 + 26 * (fv Po 79 1).toInt.toNat) ∨ (81 + 26 * (fv Po 79 1).toInt.toNat) + 26 ≤ x) → fv Po x j = fv Po x j) := fun _ _ _ _ => rfl
      have u20 : ((fv Po 79 3).toInt = 0 ∨ ∀ x j : Nat, fv Po x j = fv Po x j) := Or.inr (fun _ _ => rfl)
      have u21 : fv Po 79 3 = fv Po 79 3 := by rw []
      have u22 : KI 79 289 Po Po := fun _ _ _ => rfl
      exact mp_ret ⟨⟨rfl, trivial⟩, hT, KW.refl, hJ, ⟨u17, u18, u19, u20, u21, u22⟩⟩ dX0_push_63 rfl
    · have c16 : (fv Po 79 3).toInt = 0 := ti_ne_n c16
      refine mp_a (a_aload_n dX0_push_20 rfl) (mpp 21 rfl ?_)
      refine mp_a (a_aload_n dX0_push_21 rfl) (mpp 22 rfl ?_)
      have p23 : b11 + 26 ≤ a1_ ∨ a1_ + 26 ≤ b11 := by omega
      refine mt_callv (i := 30) (q' := q_17) (As := [.ref a1_]) (rest := []) hT dX0_push_22 rfl qm_17 (by decide) rfl q12 (by decide) rfl (Nat.le_of_ble_eq_true rfl) rfl ⟨rfl, rfl⟩ ⟨Nat.le_of_ble_eq_true rfl, Nat.le_of_ble_eq_true rfl⟩ (EvP.mono (by decide) (c_CS_copyFrom_State_State hT hX hJ p23 q12 ha1)) (fun r24 P25 g26 => mpp 25 rfl ?_)
      obtain ⟨⟨rfl, g28⟩, hT29, k30, J33, R31⟩ := g26
      have k32 : KW [65, 66, 67, 192, 193, 194, 256, 320, 385, 386] Po P25 := KW.trans KW.refl k30 rfl
      show MEvP _ none q_15 25 [(2, .ref b11), (0, .ref 79), (1, .ref a1_)] [] _ _ _ _
      refine mp_a (a_aload_n dX0_push_25 rfl) (mpp 26 rfl ?_)
      refine mp_a (a_aload_n dX0_push_26 rfl) (mpp 27 rfl ?_)
      have e34 : (fv P25 79 1).toInt = (fv Po 79 1).toInt := congrArg Int32.toInt (KW.at k30 1 rl_79 rfl)
      refine mt_getI (i := 18) (k := 1) hT29 dX0_push_27 rfl rl_79 (by decide) rfl (by decide) rfl (fun g35 g36 => mpp 30 rfl ?_)
      refine mp_a (a_bipush (v := 7) dX0_push_30 rfl) (mpp 32 rfl ?_)
      refine mp_Tb (t := 44) (j_icmp_ge dX0_push_32) (by decide) (fun c37 => ?_) (fun c37 => mpp 35 rfl ?_)
      · have c37 : (fv P25 79 1).toInt ≥ 7 := ti_ge c37
        refine mp_a (a_iconst (v := 0) dX0_push_44 rfl) (mpp 45 rfl ?_)
        refine mt_putI (i := 18) (k := 1) (x := 0) hT29 dX0_push_45 rfl rl_79 (by decide) rfl (by decide) rfl (by decide) rfl rfl (fun P38 hT39 f40 f41 f42 => mpp 48 rfl ?_)
        have k43 : KW [65, 66, 67, 192, 193, 194, 256, 320, 385, 386] Po P38 := KW.step k32 rl_79 rfl f41 f42
        have J44 := Inj.st J33 f42
        have e45 : (fv P38 79 1).toInt = 0 := congrArg Int32.toInt f40
        refine mp_a (a_aload_n dX0_push_48 rfl) (mpp 49 rfl ?_)
        refine mp_a (a_aload_n dX0_push_49 rfl) (mpp 50 rfl ?_)
        have e46 : (fv P38 79 2).toInt = (fv Po 79 2).toInt := congrArg Int32.toInt ((f41 79 2 (ne_k rfl)).trans (KW.at k30 2 rl_79 rfl))
        refine mt_getI (i := 34) (k := 2) hT39 dX0_push_50 rfl rl_79 (by decide) rfl (by decide) rfl (fun g47 g48 => mpp 53 rfl ?_)
        refine mp_a (a_iconst (v := 1) dX0_push_53 rfl) (mpp 54 rfl ?_)
        obtain ⟨z49, h50⟩ := ti_ex ((fv P38 79 2) + 1 : Int32)
        have wz49 := ti_full z49
        refine mp_t (s_iadd (v := z49) dX0_push_54 h50) (mpp 55 rfl ?_)
        try have e51 : z49.toInt = (fv P38 79 2).toInt + 1 := ti_addz h50 rfl rfl (by omega) (by omega)
        refine mp_a (a_bipush (v := 8) dX0_push_55 rfl) (mpp 57 rfl ?_)
        obtain ⟨z52, h53⟩ := ti_ex (if (8 : Nat) = 7 then (if z49 < 8 then 8 else z49) else (if 8 < z49 then 8 else z49) : Int32)
        have e54 : z52.toInt = min z49.toInt 8 := ti_mm8 h53
        refine mp_math (i := 37) (k := 0) (v := z52) dX0_push_57 rfl (by decide) (Nat.le_of_ble_eq_true rfl) h53 ⟨Nat.le_of_ble_eq_true rfl, Nat.le_of_ble_eq_true rfl⟩ (mpp 60 rfl ?_)
        refine mt_putI (i := 34) (k := 2) (x := z52) hT39 dX0_push_60 rfl rl_79 (by decide) rfl (by decide) rfl ⟨by omega, by omega⟩ rfl rfl (fun P55 hT56 f57 f58 f59 => mpp 63 rfl ?_)
        have k60 : KW [65, 66, 67, 192, 193, 194, 256, 320, 385, 386] Po P55 := KW.step k43 rl_79 rfl f58 f59
        have J61 := Inj.st J44 f59
        have e62 : (fv P55 79 2).toInt = z52.toInt := congrArg Int32.toInt f57
        have e64 : (fv P55 79 1).toInt = (fv P38 79 1).toInt := congrArg Int32.toInt (f58 79 1 (ne_k rfl))
        have u63 : (((fv Po 79 3).toInt = 1 ∧ (fv P55 79 1).toInt = (fv Po 79 1).toInt ∧ (fv P55 79 2).toInt = (fv Po 79 2).toInt) ∨ ((fv Po 79 3).toInt = 0 ∧ (((fv Po 79 1).toInt < 7 ∧ (fv P55 79 1).toInt = (fv Po 79 1).toInt + 1) ∨ ((fv Po 79 1).toInt = 7 ∧ (fv P55 79 1).toInt = 0)) ∧ (((fv Po 79 2).toInt < 8 ∧ (fv P55 79 2).toInt = (fv Po 79 2).toInt + 1) ∨ ((fv Po 79 2).toInt = 8 ∧ (fv P55 79 2).toInt = 8)))) := by omega
        have ka : KI 79 80 P25 P55 := fun x j hx => by rw [f58 x j (by omega), f41 x j (by omega)]
        have eb := q12r.2.2
        have u65 : ((fv Po 79 3).toInt = 1 ∨ SCs P55 (81 + 26 * (fv Po 79 1).toInt.toNat) Po a1_) := Or.inr (eb ▸ SCs.keep (show SCs P25 b11 Po a1_ from ⟨R31.1, R31.2.1, R31.2.2.1, R31.2.2.2.1⟩) ka (by omega))
        have u66 : (∀ x j : Nat, ¬ x = 79 → (x < (81 + 26 * (fv Po 79 1).toInt.toNat) ∨ (81 + 26 * (fv Po 79 1).toInt.toNat) + 26 ≤ x) → fv P55 x j = fv Po x j) := fun x j h1 h2 => by rw [f58 x j (by omega), f41 x j (by omega), R31.2.2.2.2 x j (by omega)]
        have u67 : ((fv Po 79 3).toInt = 0 ∨ ∀ x j : Nat, fv P55 x j = fv Po x j) := Or.inl (by omega)
        have u68 : fv P55 79 3 = fv Po 79 3 := by rw [f58 79 3 (by omega), f41 79 3 (by omega), R31.2.2.2.2 79 3 (by omega)]
        have u69 : KI 79 289 Po P55 := by
          intro x j hx
          rw [f58 x j (by omega), f41 x j (by omega), R31.2.2.2.2 x j (by omega)]
        exact mp_ret ⟨⟨rfl, trivial⟩, hT56, k60, J61, ⟨u63, u65, u66, u67, u68, u69⟩⟩ dX0_push_63 rfl
      · have c37 : (fv P25 79 1).toInt < 7 := ti_ge_n c37
        refine mp_a (a_aload_n dX0_push_35 rfl) (mpp 36 rfl ?_)
        refine mt_getI (i := 18) (k := 1) hT29 dX0_push_36 rfl rl_79 (by decide) rfl (by decide) rfl (fun g70 g71 => mpp 39 rfl ?_)
        refine mp_a (a_iconst (v := 1) dX0_push_39 rfl) (mpp 40 rfl ?_)
        obtain ⟨z72, h73⟩ := ti_ex ((fv P25 79 1) + 1 : Int32)
        have wz72 := ti_full z72
        refine mp_t (s_iadd (v := z72) dX0_push_40 h73) (mpp 41 rfl ?_)
        try have e74 : z72.toInt = (fv P25 79 1).toInt + 1 := ti_addz h73 rfl rfl (by omega) (by omega)
        refine mp_a (a_goto (t := 45) dX0_push_41 (by decide)) ?_
        refine mt_putI (i := 18) (k := 1) (x := z72) hT29 dX0_push_45 rfl rl_79 (by decide) rfl (by decide) rfl ⟨by omega, by omega⟩ rfl rfl (fun P75 hT76 f77 f78 f79 => mpp 48 rfl ?_)
        have k80 : KW [65, 66, 67, 192, 193, 194, 256, 320, 385, 386] Po P75 := KW.step k32 rl_79 rfl f78 f79
        have J81 := Inj.st J33 f79
        have e82 : (fv P75 79 1).toInt = z72.toInt := congrArg Int32.toInt f77
        refine mp_a (a_aload_n dX0_push_48 rfl) (mpp 49 rfl ?_)
        refine mp_a (a_aload_n dX0_push_49 rfl) (mpp 50 rfl ?_)
        have e83 : (fv P75 79 2).toInt = (fv Po 79 2).toInt := congrArg Int32.toInt ((f78 79 2 (ne_k rfl)).trans (KW.at k30 2 rl_79 rfl))
        refine mt_getI (i := 34) (k := 2) hT76 dX0_push_50 rfl rl_79 (by decide) rfl (by decide) rfl (fun g84 g85 => mpp 53 rfl ?_)
        refine mp_a (a_iconst (v := 1) dX0_push_53 rfl) (mpp 54 rfl ?_)
        obtain ⟨z86, h87⟩ := ti_ex ((fv P75 79 2) + 1 : Int32)
        have wz86 := ti_full z86
        refine mp_t (s_iadd (v := z86) dX0_push_54 h87) (mpp 55 rfl ?_)
        try have e88 : z86.toInt = (fv P75 79 2).toInt + 1 := ti_addz h87 rfl rfl (by omega) (by omega)
        refine mp_a (a_bipush (v := 8) dX0_push_55 rfl) (mpp 57 rfl ?_)
        obtain ⟨z89, h90⟩ := ti_ex (if (8 : Nat) = 7 then (if z86 < 8 then 8 else z86) else (if 8 < z86 then 8 else z86) : Int32)
        have e91 : z89.toInt = min z86.toInt 8 := ti_mm8 h90
        refine mp_math (i := 37) (k := 0) (v := z89) dX0_push_57 rfl (by decide) (Nat.le_of_ble_eq_true rfl) h90 ⟨Nat.le_of_ble_eq_true rfl, Nat.le_of_ble_eq_true rfl⟩ (mpp 60 rfl ?_)
        refine mt_putI (i := 34) (k := 2) (x := z89) hT76 dX0_push_60 rfl rl_79 (by decide) rfl (by decide) rfl ⟨by omega, by omega⟩ rfl rfl (fun P92 hT93 f94 f95 f96 => mpp 63 rfl ?_)
        have k97 : KW [65, 66, 67, 192, 193, 194, 256, 320, 385, 386] Po P92 := KW.step k80 rl_79 rfl f95 f96
        have J98 := Inj.st J81 f96
        have e99 : (fv P92 79 2).toInt = z89.toInt := congrArg Int32.toInt f94
        have e101 : (fv P92 79 1).toInt = (fv P75 79 1).toInt := congrArg Int32.toInt (f95 79 1 (ne_k rfl))
        have u100 : (((fv Po 79 3).toInt = 1 ∧ (fv P92 79 1).toInt = (fv Po 79 1).toInt ∧ (fv P92 79 2).toInt = (fv Po 79 2).toInt) ∨ ((fv Po 79 3).toInt = 0 ∧ (((fv Po 79 1).toInt < 7 ∧ (fv P92 79 1).toInt = (fv Po 79 1).toInt + 1) ∨ ((fv Po 79 1).toInt = 7 ∧ (fv P92 79 1).toInt = 0)) ∧ (((fv Po 79 2).toInt < 8 ∧ (fv P92 79 2).toInt = (fv Po 79 2).toInt + 1) ∨ ((fv Po 79 2).toInt = 8 ∧ (fv P92 79 2).toInt = 8)))) := by omega
        have ka : KI 79 80 P25 P92 := fun x j hx => by rw [f95 x j (by omega), f78 x j (by omega)]
        have eb := q12r.2.2
        have u102 : ((fv Po 79 3).toInt = 1 ∨ SCs P92 (81 + 26 * (fv Po 79 1).toInt.toNat) Po a1_) := Or.inr (eb ▸ SCs.keep (show SCs P25 b11 Po a1_ from ⟨R31.1, R31.2.1, R31.2.2.1, R31.2.2.2.1⟩) ka (by omega))
        have u103 : (∀ x j : Nat, ¬ x = 79 → (x < (81 + 26 * (fv Po 79 1).toInt.toNat) ∨ (81 + 26 * (fv Po 79 1).toInt.toNat) + 26 ≤ x) → fv P92 x j = fv Po x j) := fun x j h1 h2 => by rw [f95 x j (by omega), f78 x j (by omega), R31.2.2.2.2 x j (by omega)]
        have u104 : ((fv Po 79 3).toInt = 0 ∨ ∀ x j : Nat, fv P92 x j = fv Po x j) := Or.inl (by omega)
        have u105 : fv P92 79 3 = fv Po 79 3 := by rw [f95 79 3 (by omega), f78 79 3 (by omega), R31.2.2.2.2 79 3 (by omega)]
        have u106 : KI 79 289 Po P92 := by
          intro x j hx
          rw [f95 x j (by omega), f78 x j (by omega), R31.2.2.2.2 x j (by omega)]
        exact mp_ret ⟨⟨rfl, trivial⟩, hT93, k97, J98, ⟨u100, u102, u103, u104, u105, u106⟩⟩ dX0_push_63 rfl

