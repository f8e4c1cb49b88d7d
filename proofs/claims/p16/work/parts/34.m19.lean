/-! methods on typed pools, 19 (written by a program) -/
set_option maxHeartbeats 4000000 in
theorem c_CS_takeCommand_Script_b155 {Po P9 : mP} {x6 : Int32} (hT : Typ Po) (hX : XR Po) (hp0 : 0 ≤ (fv Po 289 2).toInt) (g7 : x6.toInt = (chC Po (fv Po 289 2).toInt).toInt ∨ (x6.toInt = 0 ∧ (chC Po (fv Po 289 2).toInt).toInt = -1)) (hT10 : Typ P9) (f11 : fv P9 289 3 = x6) (f12 : ∀ b j : Nat, ¬ (b = 289 ∧ j = 3) → fv P9 b j = fv Po b j) (f13 : ∀ b k : Nat, rv P9 b k = rv Po b k) (c18 : (fv P9 289 3).toInt = 109) : MEvP 4 none q_97 155 [(0, .ref 289)] [] P9 0 0 (fun r P' => (∃ x : Int32, r = some (.int x) ∧ (0 ≤ x.toInt ∧ x.toInt ≤ 1 ∧ (0 ≤ (fv P' 289 2).toInt ∧ ((x.toInt = 1 ∧ CMD (chC Po) (fv Po 289 2).toInt (fv P' 289 2).toInt (fv P' 289 3).toInt (fv P' 289 4).toInt (fv P' 289 5).toInt (fv P' 289 6).toInt (fv P' 289 7).toInt) ∨ (x.toInt = 0 ∧ ¬ CMO (chC Po) (fv Po 289 2).toInt))))) ∧ Typ P' ∧ KW [514, 515, 516, 517, 518, 519] Po P' ∧ fv P' 289 1 = fv Po 289 1 ∧ KI 289 290 Po P') := by
  have g1 := ti_full (fv Po 289 2)
  have p2 : 0 ≤ (fv Po 289 2).toInt := by omega
  have wx6 := ti_full x6
  have k14 : KW [514, 515, 516, 517, 518, 519] Po P9 := KW.step KW.refl rl_289 rfl f12 f13
  have e15 : (fv P9 289 3).toInt = x6.toInt := congrArg Int32.toInt f11
  replace g7 := g7.resolve_right (by omega)
  have q125 : (0 : Int) ≤ (fv Po 289 1).toInt ∧ (fv Po 289 1).toInt ≤ 80 := Typ.rng hT rl_289 (by decide) (by decide) rfl
  have e126 : (fv P9 289 2).toInt = (fv Po 289 2).toInt := congrArg Int32.toInt (f12 289 2 (by omega))
  have q127 := ch_lt (t := fun j => fv Po 290 j) (L := (fv Po 289 1).toInt) (i := (fv Po 289 2).toInt) (show ¬ (chC Po (fv Po 289 2).toInt).toInt = -1 from by omega)
  refine mp_a (a_aload_n dX4_takeCommand_155 rfl) (mpp 156 rfl ?_)
  refine mp_t (s_dup dX4_takeCommand_156 rfl) (mpp 157 rfl ?_)
  have e128 : (fv P9 289 2).toInt = (fv Po 289 2).toInt := congrArg Int32.toInt (f12 289 2 (ne_k rfl))
  refine mt_getI (i := 23) (k := 2) hT10 dX4_takeCommand_157 rfl rl_289 (by decide) rfl (by decide) rfl (fun g129 g130 => mpp 160 rfl ?_)
  refine mp_a (a_iconst (v := 1) dX4_takeCommand_160 rfl) (mpp 161 rfl ?_)
  obtain ⟨z131, h132⟩ := ti_ex ((fv P9 289 2) + 1 : Int32)
  have wz131 := ti_full z131
  refine mp_t (s_iadd (v := z131) dX4_takeCommand_161 h132) (mpp 162 rfl ?_)
  try have e133 : z131.toInt = (fv P9 289 2).toInt + 1 := ti_addz h132 rfl rfl (by omega) (by omega)
  refine mt_putI (i := 23) (k := 2) (x := z131) hT10 dX4_takeCommand_162 rfl rl_289 (by decide) rfl (by decide) rfl (ti_full z131) rfl rfl (fun P134 hT135 f136 f137 f138 => mpp 165 rfl ?_)
  have k139 : KW [514, 515, 516, 517, 518, 519] Po P134 := KW.step k14 rl_289 rfl f137 f138
  have e140 : (fv P134 289 2).toInt = z131.toInt := congrArg Int32.toInt f136
  refine mp_a (a_aload_n dX4_takeCommand_165 rfl) (mpp 166 rfl ?_)
  have p141 : 0 ≤ (fv P134 289 2).toInt := by omega
  refine mt_callv (i := 50) (q' := q_103) (As := []) (rest := []) hT135 dX4_takeCommand_166 rfl qm_103 (by decide) rfl rl_289 (by decide) rfl (Nat.le_of_ble_eq_true rfl) rfl ⟨rfl, rfl⟩ ⟨Nat.le_of_ble_eq_true rfl, Nat.le_of_ble_eq_true rfl⟩ (EvP.mono (by decide) (c_CS_takePiece_Script hT135 (KW.xr k139 hX) p141 )) (fun r142 P143 g144 => mpp 169 rfl ?_)
  obtain ⟨⟨x145, rfl, g146⟩, hT147, k148, R149⟩ := g144
  have k150 : KW [514, 515, 516, 517, 518, 519] Po P143 := KW.trans k139 k148 rfl
  have wx145 := ti_full x145
  replace g146 : 0 ≤ x145.toInt ∧ x145.toInt ≤ 1 ∧ ((x145.toInt = 1 ∧ (48 ≤ (chC P134 (fv P134 289 2).toInt).toInt ∧ (chC P134 (fv P134 289 2).toInt).toInt ≤ 57) ∧ (fv P143 289 2).toInt = (fv P134 289 2).toInt + 1 ∧ (fv P143 289 4).toInt = (chC P134 (fv P134 289 2).toInt).toInt - 48) ∨ (x145.toInt = 0 ∧ ¬ (48 ≤ (chC P134 (fv P134 289 2).toInt).toInt ∧ (chC P134 (fv P134 289 2).toInt).toInt ≤ 57) ∧ (fv P143 289 2).toInt = (fv P134 289 2).toInt)) := g146
  have g152 := ti_full (fv P143 289 2)
  have g153 := ti_full (fv P143 289 2)
  show MEvP _ none q_97 169 [(0, .ref 289)] [.int x145] _ _ _ _
  refine mp_Tb (t := 208) (j_if_eq dX4_takeCommand_169) (by decide) (fun c154 => ?_) (fun c154 => mpp 172 rfl ?_)
  · have c154 : x145.toInt = 0 := ti_eq c154
    replace g146 := g146.2.2.resolve_left (fun q => by have := q.1; omega)
    refine mp_a (a_iconst (v := 0) dX4_takeCommand_208 rfl) (mpp 209 rfl ?_)
    have e155 : (fv P143 289 3).toInt = (fv P9 289 3).toInt := congrArg Int32.toInt ((KW.at k148 3 rl_289 rfl).trans (f137 289 3 (ne_k rfl)))
    have g156 := ti_full (fv P143 289 4)
    have g157 := ti_full (fv P143 289 5)
    have g158 := ti_full (fv P143 289 6)
    have g159 := ti_full (fv P143 289 7)
    have t162_ : chC P134 = chC Po := chC_eq (fun j => by rw [f137 290 j (by omega), f12 290 j (by omega)]) (by rw [f137 289 1 (by omega), f12 289 1 (by omega)])
    rw [t162_] at g146
    have e163 : (fv P9 289 2).toInt = (fv Po 289 2).toInt := congrArg Int32.toInt (f12 289 2 (by omega))
    rw [show (fv P134 289 2).toInt = (fv Po 289 2).toInt + 1 from by omega] at g146
    have u160 : 0 ≤ (0 : Int) ∧ (0 : Int) ≤ 1 ∧ (0 ≤ (fv P143 289 2).toInt ∧ (((0 : Int) = 1 ∧ CMD (chC Po) (fv Po 289 2).toInt (fv P143 289 2).toInt (fv P143 289 3).toInt (fv P143 289 4).toInt (fv P143 289 5).toInt (fv P143 289 6).toInt (fv P143 289 7).toInt) ∨ ((0 : Int) = 0 ∧ ¬ CMO (chC Po) (fv Po 289 2).toInt))) := ⟨by omega, by omega, by omega, Or.inr ⟨rfl, fun ⟨i1, l1, a1, b1, n1, s1, q1, q2⟩ => by
        rcases q2 with ⟨q2, _⟩ | ⟨q2, q3, q4, q5, q6, q7, q8⟩ | ⟨q2, q3, q8⟩
        · omega
        · omega
        · omega⟩⟩
    have u164 : fv P143 289 1 = fv Po 289 1 := by rw [R149.1, f137 289 1 (by omega), f12 289 1 (by omega)]
    have u165 : KI 289 290 Po P143 := by
      intro x j hx
      rw [R149.2.2.2.2.2 x j (by omega), f137 x j (by omega), f12 x j (by omega)]
    exact mp_iret ⟨⟨_, rfl, u160⟩, hT147, k150, ⟨u164, u165⟩⟩ dX4_takeCommand_209 (Or.inr ⟨rfl, by decide⟩)
  · have c154 : x145.toInt ≠ 0 := ti_eq_n c154
    replace g146 := g146.2.2.resolve_right (fun q => by have := q.1; omega)
    refine mp_a (a_aload_n dX4_takeCommand_172 rfl) (mpp 173 rfl ?_)
    refine mp_a (a_bipush (v := 46) dX4_takeCommand_173 rfl) (mpp 175 rfl ?_)
    have p166 : 0 ≤ (fv P143 289 2).toInt := by omega
    have p167 : 1 ≤ (46 : Int) := by omega
    refine mt_callv (i := 33) (q' := q_100) (As := [.int 46]) (rest := []) hT147 dX4_takeCommand_175 rfl qm_100 (by decide) rfl rl_289 (by decide) rfl (Nat.le_of_ble_eq_true rfl) rfl ⟨rfl, rfl⟩ ⟨Nat.le_of_ble_eq_true rfl, Nat.le_of_ble_eq_true rfl⟩ (EvP.mono (by decide) (c_CS_takeSign_Script hT147 (KW.xr k150 hX) p166 p167 )) (fun r168 P169 g170 => mpp 178 rfl ?_)
    obtain ⟨⟨x171, rfl, g172⟩, hT173, k174, R175⟩ := g170
    have k176 : KW [514, 515, 516, 517, 518, 519] Po P169 := KW.trans k150 k174 rfl
    have wx171 := ti_full x171
    replace g172 : 0 ≤ x171.toInt ∧ x171.toInt ≤ 1 ∧ ((x171.toInt = 1 ∧ (chC P143 (fv P143 289 2).toInt).toInt = (46 : Int) ∧ (fv P169 289 2).toInt = (fv P143 289 2).toInt + 1) ∨ (x171.toInt = 0 ∧ ¬ (chC P143 (fv P143 289 2).toInt).toInt = (46 : Int) ∧ (fv P169 289 2).toInt = (fv P143 289 2).toInt)) := g172
    have g178 := ti_full (fv P169 289 2)
    have g179 := ti_full (fv P169 289 2)
    show MEvP _ none q_97 178 [(0, .ref 289)] [.int x171] _ _ _ _
    refine mp_Tb (t := 208) (j_if_eq dX4_takeCommand_178) (by decide) (fun c180 => ?_) (fun c180 => mpp 181 rfl ?_)
    · have c180 : x171.toInt = 0 := ti_eq c180
      replace g172 := g172.2.2.resolve_left (fun q => by have := q.1; omega)
      refine mp_a (a_iconst (v := 0) dX4_takeCommand_208 rfl) (mpp 209 rfl ?_)
      have e181 : (fv P169 289 3).toInt = (fv P9 289 3).toInt := congrArg Int32.toInt ((KW.at k174 3 rl_289 rfl).trans ((KW.at k148 3 rl_289 rfl).trans (f137 289 3 (ne_k rfl))))
      have g182 := ti_full (fv P169 289 4)
      have g183 := ti_full (fv P169 289 5)
      have g184 := ti_full (fv P169 289 6)
      have g185 := ti_full (fv P169 289 7)
      have t188_ : chC P134 = chC Po := chC_eq (fun j => by rw [f137 290 j (by omega), f12 290 j (by omega)]) (by rw [f137 289 1 (by omega), f12 289 1 (by omega)])
      rw [t188_] at g146
      have t189_ : chC P143 = chC Po := chC_eq (fun j => by rw [R149.2.2.2.2.2 290 j (by omega), f137 290 j (by omega), f12 290 j (by omega)]) (by rw [R149.1, f137 289 1 (by omega), f12 289 1 (by omega)])
      rw [t189_] at g172
      have e190 : (fv P9 289 2).toInt = (fv Po 289 2).toInt := congrArg Int32.toInt (f12 289 2 (by omega))
      rw [show (fv P134 289 2).toInt = (fv Po 289 2).toInt + 1 from by omega] at g146
      rw [show (fv P143 289 2).toInt = (fv Po 289 2).toInt + 2 from by omega] at g172
      have u186 : 0 ≤ (0 : Int) ∧ (0 : Int) ≤ 1 ∧ (0 ≤ (fv P169 289 2).toInt ∧ (((0 : Int) = 1 ∧ CMD (chC Po) (fv Po 289 2).toInt (fv P169 289 2).toInt (fv P169 289 3).toInt (fv P169 289 4).toInt (fv P169 289 5).toInt (fv P169 289 6).toInt (fv P169 289 7).toInt) ∨ ((0 : Int) = 0 ∧ ¬ CMO (chC Po) (fv Po 289 2).toInt))) := ⟨by omega, by omega, by omega, Or.inr ⟨rfl, fun ⟨i1, l1, a1, b1, n1, s1, q1, q2⟩ => by
          rcases q2 with ⟨q2, _⟩ | ⟨q2, q3, q4, q5, q6, q7, q8⟩ | ⟨q2, q3, q8⟩
          · omega
          · omega
          · omega⟩⟩
      have u191 : fv P169 289 1 = fv Po 289 1 := by rw [R175.1, R149.1, f137 289 1 (by omega), f12 289 1 (by omega)]
      have u192 : KI 289 290 Po P169 := by
        intro x j hx
        rw [R175.2.2.2.2.2.2 x j (by omega), R149.2.2.2.2.2 x j (by omega), f137 x j (by omega), f12 x j (by omega)]
      exact mp_iret ⟨⟨_, rfl, u186⟩, hT173, k176, ⟨u191, u192⟩⟩ dX4_takeCommand_209 (Or.inr ⟨rfl, by decide⟩)
    · have c180 : x171.toInt ≠ 0 := ti_eq_n c180
      replace g172 := g172.2.2.resolve_right (fun q => by have := q.1; omega)
      refine mp_a (a_aload_n dX4_takeCommand_181 rfl) (mpp 182 rfl ?_)
      have p193 : 0 ≤ (fv P169 289 2).toInt := by omega
      refine mt_callv (i := 53) (q' := q_105) (As := []) (rest := []) hT173 dX4_takeCommand_182 rfl qm_105 (by decide) rfl rl_289 (by decide) rfl (Nat.le_of_ble_eq_true rfl) rfl ⟨rfl, rfl⟩ ⟨Nat.le_of_ble_eq_true rfl, Nat.le_of_ble_eq_true rfl⟩ (EvP.mono (by decide) (c_CS_takeCrease_Script hT173 (KW.xr k176 hX) p193 )) (fun r194 P195 g196 => mpp 185 rfl ?_)
      obtain ⟨⟨x197, rfl, g198⟩, hT199, k200, R201⟩ := g196
      have k202 : KW [514, 515, 516, 517, 518, 519] Po P195 := KW.trans k176 k200 rfl
      have wx197 := ti_full x197
      replace g198 : 0 ≤ x197.toInt ∧ x197.toInt ≤ 1 ∧ ((x197.toInt = 1 ∧ (48 ≤ (chC P169 (fv P169 289 2).toInt).toInt ∧ (chC P169 (fv P169 289 2).toInt).toInt ≤ 57) ∧ (fv P195 289 2).toInt = (fv P169 289 2).toInt + 1 ∧ (fv P195 289 5).toInt = (chC P169 (fv P169 289 2).toInt).toInt - 48) ∨ (x197.toInt = 0 ∧ ¬ (48 ≤ (chC P169 (fv P169 289 2).toInt).toInt ∧ (chC P169 (fv P169 289 2).toInt).toInt ≤ 57) ∧ (fv P195 289 2).toInt = (fv P169 289 2).toInt)) := g198
      have g204 := ti_full (fv P195 289 2)
      have g205 := ti_full (fv P195 289 2)
      show MEvP _ none q_97 185 [(0, .ref 289)] [.int x197] _ _ _ _
      refine mp_Tb (t := 208) (j_if_eq dX4_takeCommand_185) (by decide) (fun c206 => ?_) (fun c206 => mpp 188 rfl ?_)
      · have c206 : x197.toInt = 0 := ti_eq c206
        replace g198 := g198.2.2.resolve_left (fun q => by have := q.1; omega)
        refine mp_a (a_iconst (v := 0) dX4_takeCommand_208 rfl) (mpp 209 rfl ?_)
        have e207 : (fv P195 289 3).toInt = (fv P9 289 3).toInt := congrArg Int32.toInt ((KW.at k200 3 rl_289 rfl).trans ((KW.at k174 3 rl_289 rfl).trans ((KW.at k148 3 rl_289 rfl).trans (f137 289 3 (ne_k rfl)))))
        have g208 := ti_full (fv P195 289 4)
        have g209 := ti_full (fv P195 289 5)
        have g210 := ti_full (fv P195 289 6)
        have g211 := ti_full (fv P195 289 7)
        have t214_ : chC P134 = chC Po := chC_eq (fun j => by rw [f137 290 j (by omega), f12 290 j (by omega)]) (by rw [f137 289 1 (by omega), f12 289 1 (by omega)])
        rw [t214_] at g146
        have t215_ : chC P143 = chC Po := chC_eq (fun j => by rw [R149.2.2.2.2.2 290 j (by omega), f137 290 j (by omega), f12 290 j (by omega)]) (by rw [R149.1, f137 289 1 (by omega), f12 289 1 (by omega)])
        rw [t215_] at g172
        have t216_ : chC P169 = chC Po := chC_eq (fun j => by rw [R175.2.2.2.2.2.2 290 j (by omega), R149.2.2.2.2.2 290 j (by omega), f137 290 j (by omega), f12 290 j (by omega)]) (by rw [R175.1, R149.1, f137 289 1 (by omega), f12 289 1 (by omega)])
        rw [t216_] at g198
        have e217 : (fv P9 289 2).toInt = (fv Po 289 2).toInt := congrArg Int32.toInt (f12 289 2 (by omega))
        rw [show (fv P134 289 2).toInt = (fv Po 289 2).toInt + 1 from by omega] at g146
        rw [show (fv P143 289 2).toInt = (fv Po 289 2).toInt + 2 from by omega] at g172
        rw [show (fv P169 289 2).toInt = (fv Po 289 2).toInt + 3 from by omega] at g198
        have u212 : 0 ≤ (0 : Int) ∧ (0 : Int) ≤ 1 ∧ (0 ≤ (fv P195 289 2).toInt ∧ (((0 : Int) = 1 ∧ CMD (chC Po) (fv Po 289 2).toInt (fv P195 289 2).toInt (fv P195 289 3).toInt (fv P195 289 4).toInt (fv P195 289 5).toInt (fv P195 289 6).toInt (fv P195 289 7).toInt) ∨ ((0 : Int) = 0 ∧ ¬ CMO (chC Po) (fv Po 289 2).toInt))) := ⟨by omega, by omega, by omega, Or.inr ⟨rfl, fun ⟨i1, l1, a1, b1, n1, s1, q1, q2⟩ => by
            rcases q2 with ⟨q2, _⟩ | ⟨q2, q3, q4, q5, q6, q7, q8⟩ | ⟨q2, q3, q8⟩
            · omega
            · omega
            · omega⟩⟩
        have u218 : fv P195 289 1 = fv Po 289 1 := by rw [R201.1, R175.1, R149.1, f137 289 1 (by omega), f12 289 1 (by omega)]
        have u219 : KI 289 290 Po P195 := by
          intro x j hx
          rw [R201.2.2.2.2.2 x j (by omega), R175.2.2.2.2.2.2 x j (by omega), R149.2.2.2.2.2 x j (by omega), f137 x j (by omega), f12 x j (by omega)]
        exact mp_iret ⟨⟨_, rfl, u212⟩, hT199, k202, ⟨u218, u219⟩⟩ dX4_takeCommand_209 (Or.inr ⟨rfl, by decide⟩)
      · have c206 : x197.toInt ≠ 0 := ti_eq_n c206
        replace g198 := g198.2.2.resolve_right (fun q => by have := q.1; omega)
        refine mp_a (a_aload_n dX4_takeCommand_188 rfl) (mpp 189 rfl ?_)
        refine mp_a (a_bipush (v := 61) dX4_takeCommand_189 rfl) (mpp 191 rfl ?_)
        have p220 : 0 ≤ (fv P195 289 2).toInt := by omega
        have p221 : 1 ≤ (61 : Int) := by omega
        refine mt_callv (i := 33) (q' := q_100) (As := [.int 61]) (rest := []) hT199 dX4_takeCommand_191 rfl qm_100 (by decide) rfl rl_289 (by decide) rfl (Nat.le_of_ble_eq_true rfl) rfl ⟨rfl, rfl⟩ ⟨Nat.le_of_ble_eq_true rfl, Nat.le_of_ble_eq_true rfl⟩ (EvP.mono (by decide) (c_CS_takeSign_Script hT199 (KW.xr k202 hX) p220 p221 )) (fun r222 P223 g224 => mpp 194 rfl ?_)
        obtain ⟨⟨x225, rfl, g226⟩, hT227, k228, R229⟩ := g224
        have k230 : KW [514, 515, 516, 517, 518, 519] Po P223 := KW.trans k202 k228 rfl
        have wx225 := ti_full x225
        replace g226 : 0 ≤ x225.toInt ∧ x225.toInt ≤ 1 ∧ ((x225.toInt = 1 ∧ (chC P195 (fv P195 289 2).toInt).toInt = (61 : Int) ∧ (fv P223 289 2).toInt = (fv P195 289 2).toInt + 1) ∨ (x225.toInt = 0 ∧ ¬ (chC P195 (fv P195 289 2).toInt).toInt = (61 : Int) ∧ (fv P223 289 2).toInt = (fv P195 289 2).toInt)) := g226
        have g232 := ti_full (fv P223 289 2)
        have g233 := ti_full (fv P223 289 2)
        show MEvP _ none q_97 194 [(0, .ref 289)] [.int x225] _ _ _ _
        refine mp_Tb (t := 208) (j_if_eq dX4_takeCommand_194) (by decide) (fun c234 => ?_) (fun c234 => mpp 197 rfl ?_)
        · have c234 : x225.toInt = 0 := ti_eq c234
          replace g226 := g226.2.2.resolve_left (fun q => by have := q.1; omega)
          refine mp_a (a_iconst (v := 0) dX4_takeCommand_208 rfl) (mpp 209 rfl ?_)
          have e235 : (fv P223 289 3).toInt = (fv P9 289 3).toInt := congrArg Int32.toInt ((KW.at k228 3 rl_289 rfl).trans ((KW.at k200 3 rl_289 rfl).trans ((KW.at k174 3 rl_289 rfl).trans ((KW.at k148 3 rl_289 rfl).trans (f137 289 3 (ne_k rfl))))))
          have g236 := ti_full (fv P223 289 4)
          have g237 := ti_full (fv P223 289 5)
          have g238 := ti_full (fv P223 289 6)
          have g239 := ti_full (fv P223 289 7)
          have t242_ : chC P134 = chC Po := chC_eq (fun j => by rw [f137 290 j (by omega), f12 290 j (by omega)]) (by rw [f137 289 1 (by omega), f12 289 1 (by omega)])
          rw [t242_] at g146
          have t243_ : chC P143 = chC Po := chC_eq (fun j => by rw [R149.2.2.2.2.2 290 j (by omega), f137 290 j (by omega), f12 290 j (by omega)]) (by rw [R149.1, f137 289 1 (by omega), f12 289 1 (by omega)])
          rw [t243_] at g172
          have t244_ : chC P169 = chC Po := chC_eq (fun j => by rw [R175.2.2.2.2.2.2 290 j (by omega), R149.2.2.2.2.2 290 j (by omega), f137 290 j (by omega), f12 290 j (by omega)]) (by rw [R175.1, R149.1, f137 289 1 (by omega), f12 289 1 (by omega)])
          rw [t244_] at g198
          have t245_ : chC P195 = chC Po := chC_eq (fun j => by rw [R201.2.2.2.2.2 290 j (by omega), R175.2.2.2.2.2.2 290 j (by omega), R149.2.2.2.2.2 290 j (by omega), f137 290 j (by omega), f12 290 j (by omega)]) (by rw [R201.1, R175.1, R149.1, f137 289 1 (by omega), f12 289 1 (by omega)])
          rw [t245_] at g226
          have e246 : (fv P9 289 2).toInt = (fv Po 289 2).toInt := congrArg Int32.toInt (f12 289 2 (by omega))
          rw [show (fv P134 289 2).toInt = (fv Po 289 2).toInt + 1 from by omega] at g146
          rw [show (fv P143 289 2).toInt = (fv Po 289 2).toInt + 2 from by omega] at g172
          rw [show (fv P169 289 2).toInt = (fv Po 289 2).toInt + 3 from by omega] at g198
          rw [show (fv P195 289 2).toInt = (fv Po 289 2).toInt + 4 from by omega] at g226
          have u240 : 0 ≤ (0 : Int) ∧ (0 : Int) ≤ 1 ∧ (0 ≤ (fv P223 289 2).toInt ∧ (((0 : Int) = 1 ∧ CMD (chC Po) (fv Po 289 2).toInt (fv P223 289 2).toInt (fv P223 289 3).toInt (fv P223 289 4).toInt (fv P223 289 5).toInt (fv P223 289 6).toInt (fv P223 289 7).toInt) ∨ ((0 : Int) = 0 ∧ ¬ CMO (chC Po) (fv Po 289 2).toInt))) := ⟨by omega, by omega, by omega, Or.inr ⟨rfl, fun ⟨i1, l1, a1, b1, n1, s1, q1, q2⟩ => by
              rcases q2 with ⟨q2, _⟩ | ⟨q2, q3, q4, q5, q6, q7, q8⟩ | ⟨q2, q3, q8⟩
              · omega
              · omega
              · omega⟩⟩
          have u247 : fv P223 289 1 = fv Po 289 1 := by rw [R229.1, R201.1, R175.1, R149.1, f137 289 1 (by omega), f12 289 1 (by omega)]
          have u248 : KI 289 290 Po P223 := by
            intro x j hx
            rw [R229.2.2.2.2.2.2 x j (by omega), R201.2.2.2.2.2 x j (by omega), R175.2.2.2.2.2.2 x j (by omega), R149.2.2.2.2.2 x j (by omega), f137 x j (by omega), f12 x j (by omega)]
          exact mp_iret ⟨⟨_, rfl, u240⟩, hT227, k230, ⟨u247, u248⟩⟩ dX4_takeCommand_209 (Or.inr ⟨rfl, by decide⟩)
        · have c234 : x225.toInt ≠ 0 := ti_eq_n c234
          replace g226 := g226.2.2.resolve_right (fun q => by have := q.1; omega)
          refine mp_a (a_aload_n dX4_takeCommand_197 rfl) (mpp 198 rfl ?_)
          have p249 : 0 ≤ (fv P223 289 2).toInt := by omega
          refine mt_callv (i := 56) (q' := q_102) (As := []) (rest := []) hT227 dX4_takeCommand_198 rfl qm_102 (by decide) rfl rl_289 (by decide) rfl (Nat.le_of_ble_eq_true rfl) rfl ⟨rfl, rfl⟩ ⟨Nat.le_of_ble_eq_true rfl, Nat.le_of_ble_eq_true rfl⟩ (EvP.mono (by decide) (c_CS_takeKind_Script hT227 (KW.xr k230 hX) p249 )) (fun r250 P251 g252 => mpp 201 rfl ?_)
          obtain ⟨⟨x253, rfl, g254⟩, hT255, k256, R257⟩ := g252
          have k258 : KW [514, 515, 516, 517, 518, 519] Po P251 := KW.trans k230 k256 rfl
          have wx253 := ti_full x253
          replace g254 : 0 ≤ x253.toInt ∧ x253.toInt ≤ 1 ∧ ((x253.toInt = 1 ∧ ((chC P223 (fv P223 289 2).toInt).toInt = 111 ∨ (chC P223 (fv P223 289 2).toInt).toInt = 109 ∨ (chC P223 (fv P223 289 2).toInt).toInt = 118) ∧ (fv P251 289 2).toInt = (fv P223 289 2).toInt + 1 ∧ (fv P251 289 7).toInt = (kn (chC P223 (fv P223 289 2).toInt).toInt).toInt) ∨ (x253.toInt = 0 ∧ ¬ ((chC P223 (fv P223 289 2).toInt).toInt = 111 ∨ (chC P223 (fv P223 289 2).toInt).toInt = 109 ∨ (chC P223 (fv P223 289 2).toInt).toInt = 118) ∧ (fv P251 289 2).toInt = (fv P223 289 2).toInt ∧ fv P251 289 7 = fv P223 289 7)) := g254
          have g260 := ti_full (fv P251 289 2)
          have g261 := ti_full (fv P251 289 2)
          show MEvP _ none q_97 201 [(0, .ref 289)] [.int x253] _ _ _ _
          refine mp_Tb (t := 208) (j_if_eq dX4_takeCommand_201) (by decide) (fun c262 => ?_) (fun c262 => mpp 204 rfl ?_)
          · have c262 : x253.toInt = 0 := ti_eq c262
            replace g254 := g254.2.2.resolve_left (fun q => by have := q.1; omega)
            refine mp_a (a_iconst (v := 0) dX4_takeCommand_208 rfl) (mpp 209 rfl ?_)
            have e263 : (fv P251 289 3).toInt = (fv P9 289 3).toInt := congrArg Int32.toInt ((KW.at k256 3 rl_289 rfl).trans ((KW.at k228 3 rl_289 rfl).trans ((KW.at k200 3 rl_289 rfl).trans ((KW.at k174 3 rl_289 rfl).trans ((KW.at k148 3 rl_289 rfl).trans (f137 289 3 (ne_k rfl)))))))
            have g264 := ti_full (fv P251 289 4)
            have g265 := ti_full (fv P251 289 5)
            have g266 := ti_full (fv P251 289 6)
            have g267 := ti_full (fv P251 289 7)
            have t270_ : chC P134 = chC Po := chC_eq (fun j => by rw [f137 290 j (by omega), f12 290 j (by omega)]) (by rw [f137 289 1 (by omega), f12 289 1 (by omega)])
            rw [t270_] at g146
            have t271_ : chC P143 = chC Po := chC_eq (fun j => by rw [R149.2.2.2.2.2 290 j (by omega), f137 290 j (by omega), f12 290 j (by omega)]) (by rw [R149.1, f137 289 1 (by omega), f12 289 1 (by omega)])
            rw [t271_] at g172
            have t272_ : chC P169 = chC Po := chC_eq (fun j => by rw [R175.2.2.2.2.2.2 290 j (by omega), R149.2.2.2.2.2 290 j (by omega), f137 290 j (by omega), f12 290 j (by omega)]) (by rw [R175.1, R149.1, f137 289 1 (by omega), f12 289 1 (by omega)])
            rw [t272_] at g198
            have t273_ : chC P195 = chC Po := chC_eq (fun j => by rw [R201.2.2.2.2.2 290 j (by omega), R175.2.2.2.2.2.2 290 j (by omega), R149.2.2.2.2.2 290 j (by omega), f137 290 j (by omega), f12 290 j (by omega)]) (by rw [R201.1, R175.1, R149.1, f137 289 1 (by omega), f12 289 1 (by omega)])
            rw [t273_] at g226
            have t274_ : chC P223 = chC Po := chC_eq (fun j => by rw [R229.2.2.2.2.2.2 290 j (by omega), R201.2.2.2.2.2 290 j (by omega), R175.2.2.2.2.2.2 290 j (by omega), R149.2.2.2.2.2 290 j (by omega), f137 290 j (by omega), f12 290 j (by omega)]) (by rw [R229.1, R201.1, R175.1, R149.1, f137 289 1 (by omega), f12 289 1 (by omega)])
            rw [t274_] at g254
            have e275 : (fv P9 289 2).toInt = (fv Po 289 2).toInt := congrArg Int32.toInt (f12 289 2 (by omega))
            rw [show (fv P134 289 2).toInt = (fv Po 289 2).toInt + 1 from by omega] at g146
            rw [show (fv P143 289 2).toInt = (fv Po 289 2).toInt + 2 from by omega] at g172
            rw [show (fv P169 289 2).toInt = (fv Po 289 2).toInt + 3 from by omega] at g198
            rw [show (fv P195 289 2).toInt = (fv Po 289 2).toInt + 4 from by omega] at g226
            rw [show (fv P223 289 2).toInt = (fv Po 289 2).toInt + 5 from by omega] at g254
            have u268 : 0 ≤ (0 : Int) ∧ (0 : Int) ≤ 1 ∧ (0 ≤ (fv P251 289 2).toInt ∧ (((0 : Int) = 1 ∧ CMD (chC Po) (fv Po 289 2).toInt (fv P251 289 2).toInt (fv P251 289 3).toInt (fv P251 289 4).toInt (fv P251 289 5).toInt (fv P251 289 6).toInt (fv P251 289 7).toInt) ∨ ((0 : Int) = 0 ∧ ¬ CMO (chC Po) (fv Po 289 2).toInt))) := ⟨by omega, by omega, by omega, Or.inr ⟨rfl, fun ⟨i1, l1, a1, b1, n1, s1, q1, q2⟩ => by
                rcases q2 with ⟨q2, _⟩ | ⟨q2, q3, q4, q5, q6, q7, q8⟩ | ⟨q2, q3, q8⟩
                · omega
                · omega
                · omega⟩⟩
            have u276 : fv P251 289 1 = fv Po 289 1 := by rw [R257.1, R229.1, R201.1, R175.1, R149.1, f137 289 1 (by omega), f12 289 1 (by omega)]
            have u277 : KI 289 290 Po P251 := by
              intro x j hx
              rw [R257.2.2.2.2.2 x j (by omega), R229.2.2.2.2.2.2 x j (by omega), R201.2.2.2.2.2 x j (by omega), R175.2.2.2.2.2.2 x j (by omega), R149.2.2.2.2.2 x j (by omega), f137 x j (by omega), f12 x j (by omega)]
            exact mp_iret ⟨⟨_, rfl, u268⟩, hT255, k258, ⟨u276, u277⟩⟩ dX4_takeCommand_209 (Or.inr ⟨rfl, by decide⟩)
          · have c262 : x253.toInt ≠ 0 := ti_eq_n c262
            replace g254 := g254.2.2.resolve_right (fun q => by have := q.1; omega)
            refine mp_a (a_iconst (v := 1) dX4_takeCommand_204 rfl) (mpp 205 rfl ?_)
            refine mp_a (a_goto (t := 209) dX4_takeCommand_205 (by decide)) ?_
            have e278 : (fv P251 289 3).toInt = (fv P9 289 3).toInt := congrArg Int32.toInt ((KW.at k256 3 rl_289 rfl).trans ((KW.at k228 3 rl_289 rfl).trans ((KW.at k200 3 rl_289 rfl).trans ((KW.at k174 3 rl_289 rfl).trans ((KW.at k148 3 rl_289 rfl).trans (f137 289 3 (ne_k rfl)))))))
            have g279 := ti_full (fv P251 289 4)
            have g280 := ti_full (fv P251 289 5)
            have g281 := ti_full (fv P251 289 6)
            have g282 := ti_full (fv P251 289 7)
            have t285_ : chC P134 = chC Po := chC_eq (fun j => by rw [f137 290 j (by omega), f12 290 j (by omega)]) (by rw [f137 289 1 (by omega), f12 289 1 (by omega)])
            rw [t285_] at g146
            have t286_ : chC P143 = chC Po := chC_eq (fun j => by rw [R149.2.2.2.2.2 290 j (by omega), f137 290 j (by omega), f12 290 j (by omega)]) (by rw [R149.1, f137 289 1 (by omega), f12 289 1 (by omega)])
            rw [t286_] at g172
            have t287_ : chC P169 = chC Po := chC_eq (fun j => by rw [R175.2.2.2.2.2.2 290 j (by omega), R149.2.2.2.2.2 290 j (by omega), f137 290 j (by omega), f12 290 j (by omega)]) (by rw [R175.1, R149.1, f137 289 1 (by omega), f12 289 1 (by omega)])
            rw [t287_] at g198
            have t288_ : chC P195 = chC Po := chC_eq (fun j => by rw [R201.2.2.2.2.2 290 j (by omega), R175.2.2.2.2.2.2 290 j (by omega), R149.2.2.2.2.2 290 j (by omega), f137 290 j (by omega), f12 290 j (by omega)]) (by rw [R201.1, R175.1, R149.1, f137 289 1 (by omega), f12 289 1 (by omega)])
            rw [t288_] at g226
            have t289_ : chC P223 = chC Po := chC_eq (fun j => by rw [R229.2.2.2.2.2.2 290 j (by omega), R201.2.2.2.2.2 290 j (by omega), R175.2.2.2.2.2.2 290 j (by omega), R149.2.2.2.2.2 290 j (by omega), f137 290 j (by omega), f12 290 j (by omega)]) (by rw [R229.1, R201.1, R175.1, R149.1, f137 289 1 (by omega), f12 289 1 (by omega)])
            rw [t289_] at g254
            have e290 : (fv P9 289 2).toInt = (fv Po 289 2).toInt := congrArg Int32.toInt (f12 289 2 (by omega))
            rw [show (fv P134 289 2).toInt = (fv Po 289 2).toInt + 1 from by omega] at g146
            rw [show (fv P143 289 2).toInt = (fv Po 289 2).toInt + 2 from by omega] at g172
            rw [show (fv P169 289 2).toInt = (fv Po 289 2).toInt + 3 from by omega] at g198
            rw [show (fv P195 289 2).toInt = (fv Po 289 2).toInt + 4 from by omega] at g226
            rw [show (fv P223 289 2).toInt = (fv Po 289 2).toInt + 5 from by omega] at g254
            have e291 : (fv P251 289 4).toInt = (fv P143 289 4).toInt := by rw [R257.2.2.1, R229.2.2.1, R201.2.2.1, R175.2.2.1]
            have e292 : (fv P251 289 5).toInt = (fv P195 289 5).toInt := by rw [R257.2.2.2.1, R229.2.2.2.1]
            have u283 : 0 ≤ (1 : Int) ∧ (1 : Int) ≤ 1 ∧ (0 ≤ (fv P251 289 2).toInt ∧ (((1 : Int) = 1 ∧ CMD (chC Po) (fv Po 289 2).toInt (fv P251 289 2).toInt (fv P251 289 3).toInt (fv P251 289 4).toInt (fv P251 289 5).toInt (fv P251 289 6).toInt (fv P251 289 7).toInt) ∨ ((1 : Int) = 0 ∧ ¬ CMO (chC Po) (fv Po 289 2).toInt))) := ⟨by omega, by omega, by omega, Or.inl ⟨rfl, (show (fv P251 289 3).toInt = (chC Po (fv Po 289 2).toInt).toInt from by rw [R257.2.1, R229.2.1, R201.2.1, R175.2.1, R149.2.1, f137 289 3 (by omega), f11]; omega), Or.inr (Or.inl ⟨by have e := (show (fv P251 289 3).toInt = (chC Po (fv Po 289 2).toInt).toInt from by rw [R257.2.1, R229.2.1, R201.2.1, R175.2.1, R149.2.1, f137 289 3 (by omega), f11]; omega); omega, ⟨by omega, by omega⟩, by omega, ⟨by omega, by omega⟩, by omega, by have q : ((chC Po ((fv Po 289 2).toInt + 5)).toInt = 111 ∨ (chC Po ((fv Po 289 2).toInt + 5)).toInt = 109 ∨ (chC Po ((fv Po 289 2).toInt + 5)).toInt = 118) := (by omega); exact q, by omega, by omega, by omega, by omega⟩)⟩⟩
            have u293 : fv P251 289 1 = fv Po 289 1 := by rw [R257.1, R229.1, R201.1, R175.1, R149.1, f137 289 1 (by omega), f12 289 1 (by omega)]
            have u294 : KI 289 290 Po P251 := by
              intro x j hx
              rw [R257.2.2.2.2.2 x j (by omega), R229.2.2.2.2.2.2 x j (by omega), R201.2.2.2.2.2 x j (by omega), R175.2.2.2.2.2.2 x j (by omega), R149.2.2.2.2.2 x j (by omega), f137 x j (by omega), f12 x j (by omega)]
            exact mp_iret ⟨⟨_, rfl, u283⟩, hT255, k258, ⟨u293, u294⟩⟩ dX4_takeCommand_209 (Or.inr ⟨rfl, by decide⟩)

