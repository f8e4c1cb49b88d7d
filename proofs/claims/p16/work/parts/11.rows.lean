/-! M's runs grow with fuel and depth; 'Ev': a call of M ends so; 'MEv': a run of M from a place of a method's body ends so -/
theorem mC_mono {call call' : mCall} (hc : ∀ k As P z, call k As P = some z → call' k As P = some z) {cc : ByteArray} {o pc : Nat} {st : List Value} {P : mP} {z : Nat × List Value × mP × Nat × Nat} (h : mC call cc o pc st P = some z) : mC call' cc o pc st P = some z := by
  unfold mC at h ⊢
  split at h
  · rename_i i heq
    try rw [heq]
    try dsimp only
    split at h
    · rename_i kd k h1
      try rw [h1]
      try dsimp only
      split at h
      · rename_i q h2
        try rw [h2]
        try dsimp only
        split at h
        · rename_i a rest h3
          try rw [h3]
          try dsimp only
          split at h
          · rename_i ci vs h4
            try rw [h4]
            try dsimp only
            split at h
            · rename_i h5
              try rw [if_pos h5]
              obtain ⟨w, hw, rfl⟩ := Option.map_eq_some_iff.mp h
              rw [hc _ _ _ _ hw]
              rfl
            · cases h
          · cases h
        · cases h
      · cases h
    · cases h
  · rename_i i heq
    try rw [heq]
    try dsimp only
    split at h
    · rename_i kd k h1
      try rw [h1]
      try dsimp only
      split at h
      · rename_i hk
        try rw [if_pos hk]
        split at h
        · rename_i q h2
          try rw [h2]
          try dsimp only
          split at h
          · rename_i h5
            try rw [if_pos h5]
            obtain ⟨w, hw, rfl⟩ := Option.map_eq_some_iff.mp h
            rw [hc _ _ _ _ hw]
            rfl
          · cases h
        · cases h
      · rename_i hk
        try rw [if_neg hk]
        exact h
    · cases h
  · rename_i i heq
    try rw [heq]
    try dsimp only
    split at h
    · rename_i kd k h1
      try rw [h1]
      try dsimp only
      split at h
      · rename_i hk
        try rw [if_pos hk]
        exact h
      · rename_i hk
        try rw [if_neg hk]
        split at h
        · rename_i hk2
          try rw [if_pos hk2]
          split at h
          · rename_i q h2
            try rw [h2]
            try dsimp only
            split at h
            · rename_i a rest h3
              try rw [h3]
              try dsimp only
              split at h
              · rename_i h5
                try rw [if_pos h5]
                obtain ⟨w, hw, rfl⟩ := Option.map_eq_some_iff.mp h
                rw [hc _ _ _ _ hw]
                rfl
              · cases h
            · cases h
          · cases h
        · cases h
    · cases h
  · cases h
theorem mC_none {call : mCall} {cc : ByteArray} {o pc : Nat} {st : List Value} {P : mP} (hA : ∀ i, decode cc pc ≠ .ok (.invokevirtual i, 3)) (hB : ∀ i, decode cc pc ≠ .ok (.invokestatic i, 3)) (hD : ∀ i, decode cc pc ≠ .ok (.invokespecial i, 3)) : mC call cc o pc st P = none := by
  unfold mC
  split
  · rename_i i heq; exact absurd heq (hA i)
  · rename_i i heq; exact absurd heq (hB i)
  · rename_i i heq; exact absurd heq (hD i)
  · rfl
/-- where mC says nothing of a call that may come later, the other groups say nothing either -/
theorem mC_call {cc : ByteArray} {o pc : Nat} {st : List Value} {P : mP} {scr : Option (List Int32)} {ret : Option FieldType} (h : (∃ i, decode cc pc = .ok (.invokevirtual i, 3)) ∨ (∃ i, decode cc pc = .ok (.invokestatic i, 3)) ∨ (∃ i, decode cc pc = .ok (.invokespecial i, 3))) : mN cc o pc st P = none ∧ mK scr cc pc st = none ∧ mret cc ret pc st = none := by
  rcases h with ⟨i, h⟩ | ⟨i, h⟩ | ⟨i, h⟩ <;> refine ⟨by unfold mN; rw [h], ?_, by unfold mret; rw [h]⟩ <;> unfold mK <;> cases scr <;> first | rfl | (dsimp only; rw [h])
theorem mexec_mono {call call' : mCall} (hc : ∀ k As P z, call k As P = some z → call' k As P = some z) {scr : Option (List Int32)} {cc : ByteArray} {nL o : Nat} {ini : Bool} {ret : Option FieldType} {mcM msM : Nat} : ∀ (f f' : Nat) (pc : Nat) (L : List (Nat × Value)) (st : List Value) (P : mP) (cz sz : Nat) (z : Option Value × mP), f ≤ f' → mexec call scr cc nL o ini ret mcM msM f pc L st P cz sz = some z → mexec call' scr cc nL o ini ret mcM msM f' pc L st P cz sz = some z := by
  intro f
  induction f with
  | zero => intro f' pc L st P cz sz z _ h; cases h
  | succ f ih =>
    intro f' pc L st P cz sz z hf h
    obtain ⟨g, rfl⟩ : ∃ g, f' = g + 1 := ⟨f' - 1, by omega⟩
    have hg : f ≤ g := by omega
    unfold mexec at h ⊢
    split at h
    · rename_i w hw
      try rw [hw]
      exact ih g _ _ _ _ _ _ _ hg h
    · rename_i hw
      try rw [hw]
      try dsimp only
      split at h
      · rename_i w hw
        try rw [hw]
        exact ih g _ _ _ _ _ _ _ hg h
      · rename_i hw
        try rw [hw]
        try dsimp only
        split at h
        · rename_i w hw
          try rw [hw]
          exact ih g _ _ _ _ _ _ _ hg h
        · rename_i hw
          try rw [hw]
          try dsimp only
          split at h
          · rename_i w hw
            rw [mC_mono hc hw]
            try dsimp only
            split at h
            · rename_i h5
              try rw [if_pos h5]
              exact ih g _ _ _ _ _ _ _ hg h
            · cases h
          · rename_i hw
            by_cases hcl : (∃ i, decode cc pc = .ok (.invokevirtual i, 3)) ∨ (∃ i, decode cc pc = .ok (.invokestatic i, 3)) ∨ (∃ i, decode cc pc = .ok (.invokespecial i, 3))
            · obtain ⟨e1, e2, e3⟩ := mC_call (o := o) (st := st) (P := P) (scr := scr) (ret := ret) hcl
              rw [e1, e2, e3] at h
              cases h
            · have hn : mC call' cc o pc st P = none := mC_none (fun i q => hcl (Or.inl ⟨i, q⟩)) (fun i q => hcl (Or.inr (Or.inl ⟨i, q⟩))) (fun i q => hcl (Or.inr (Or.inr ⟨i, q⟩)))
              rw [hn]
              try dsimp only
              split at h
              · rename_i w hw
                try rw [hw]
                try dsimp only
                split at h
                · rename_i h5
                  try rw [if_pos h5]
                  exact ih g _ _ _ _ _ _ _ hg h
                · cases h
              · rename_i hw
                try rw [hw]
                try dsimp only
                split at h
                · rename_i w hw
                  try rw [hw]
                  exact ih g _ _ _ _ _ _ _ hg h
                · rename_i hw
                  try rw [hw]
                  exact h
theorem mcall_mono {F F' : Nat} (hF : F ≤ F') : ∀ (d d' k : Nat) (As : List Value) (P : mP) (z : Option Value × mP), d ≤ d' → mcall F d k As P = some z → mcall F' d' k As P = some z := by
  intro d
  induction d with
  | zero => intro d' k As P z _ h; cases h
  | succ d ih =>
    intro d' k As P z hd h
    obtain ⟨g, rfl⟩ : ∃ g, d' = g + 1 := ⟨d' - 1, by omega⟩
    unfold mcall at h ⊢
    split at h
    · rename_i q hq
      try rw [hq]
      try dsimp only
      split at h
      · rename_i hA
        try rw [if_pos hA]
        exact mexec_mono (fun k As P z => ih g k As P z (by omega)) _ _ _ _ _ _ _ _ _ hF h
      · cases h
    · cases h
def Ev (d k : Nat) (As : List Value) (P : mP) (r : Option Value) (P' : mP) : Prop := ∃ F, mcall F d k As P = some (r, P')
theorem Ev.mono {d d' k : Nat} {As : List Value} {P P' : mP} {r : Option Value} (h : Ev d k As P r P') (hd : d ≤ d') : Ev d' k As P r P' := by
  obtain ⟨F, h⟩ := h
  exact ⟨F, mcall_mono (Nat.le_refl F) _ _ _ _ _ _ hd h⟩
def MEv (d : Nat) (scr : Option (List Int32)) (q : mQ) (pc : Nat) (L : List (Nat × Value)) (st : List Value) (P : mP) (cz sz : Nat) (r : Option Value) (P' : mP) : Prop := ∃ F f, mexec (mcall F d) scr q.2.1 q.2.2.1 q.2.2.2.2.2.1 (q.1.name == "<init>") q.2.2.2.1 q.2.2.2.2.2.2.1 q.2.2.2.2.2.2.2 f pc L st P cz sz = some (r, P')
theorem Ev.of {d k : Nat} {q : mQ} {As : List Value} {P P' : mP} {r : Option Value} (hq : mtL[k]? = some q) (hA : As.length ≤ q.2.2.1) (hB : As.all (fun v => mcat v == 1) = true) (h : MEv d none q 0 (mLargs 0 As) [] P 0 0 r P') : Ev (d + 1) k As P r P' := by
  obtain ⟨F, f, h⟩ := h
  refine ⟨max F f, ?_⟩
  unfold mcall
  rw [hq]
  dsimp only
  rw [if_pos ⟨hA, hB⟩]
  exact mexec_mono (fun k As P z => mcall_mono (Nat.le_max_left F f) d d k As P z (Nat.le_refl d)) _ _ _ _ _ _ _ _ _ (Nat.le_max_right F f) h
section ME
variable {d : Nat} {scr : Option (List Int32)} {q : mQ} {pc : Nat} {L : List (Nat × Value)} {st : List Value} {P P' : mP} {cz sz : Nat} {r : Option Value}
theorem me_A {z : Nat × List (Nat × Value) × List Value} (h : mA q.2.1 q.2.2.1 pc L st = some z) (kk : MEv d scr q z.1 z.2.1 z.2.2 P cz sz r P') : MEv d scr q pc L st P cz sz r P' := by
  obtain ⟨F, f, hh⟩ := kk
  refine ⟨F, f + 1, ?_⟩
  unfold mexec
  rw [h]
  exact hh
theorem me_S {z : Nat × List Value} (hA : mA q.2.1 q.2.2.1 pc L st = none) (h : mS q.2.1 pc st = some z) (kk : MEv d scr q z.1 L z.2 P cz sz r P') : MEv d scr q pc L st P cz sz r P' := by
  obtain ⟨F, f, hh⟩ := kk
  refine ⟨F, f + 1, ?_⟩
  unfold mexec
  rw [hA, h]
  exact hh
theorem me_B {z : Nat × List Value × mP} (hA : mA q.2.1 q.2.2.1 pc L st = none) (hS : mS q.2.1 pc st = none) (h : mB q.2.1 q.2.2.2.2.2.1 (q.1.name == "<init>") pc st P = some z) (kk : MEv d scr q z.1 L z.2.1 z.2.2 cz sz r P') : MEv d scr q pc L st P cz sz r P' := by
  obtain ⟨F, f, hh⟩ := kk
  refine ⟨F, f + 1, ?_⟩
  unfold mexec
  rw [hA, hS, h]
  exact hh
theorem me_K {z : Nat × List Value} (hA : mA q.2.1 q.2.2.1 pc L st = none) (hS : mS q.2.1 pc st = none) (hB : mB q.2.1 q.2.2.2.2.2.1 (q.1.name == "<init>") pc st P = none) (hC : ∀ call, mC call q.2.1 q.2.2.2.2.2.1 pc st P = none) (hN : mN q.2.1 q.2.2.2.2.2.1 pc st P = none) (h : mK scr q.2.1 pc st = some z) (kk : MEv d scr q z.1 L z.2 P cz sz r P') : MEv d scr q pc L st P cz sz r P' := by
  obtain ⟨F, f, hh⟩ := kk
  refine ⟨F, f + 1, ?_⟩
  unfold mexec
  rw [hA, hS, hB, hC, hN, h]
  exact hh
theorem me_R (hA : mA q.2.1 q.2.2.1 pc L st = none) (hS : mS q.2.1 pc st = none) (hB : mB q.2.1 q.2.2.2.2.2.1 (q.1.name == "<init>") pc st P = none) (hC : ∀ call, mC call q.2.1 q.2.2.2.2.2.1 pc st P = none) (hN : mN q.2.1 q.2.2.2.2.2.1 pc st P = none) (hK : mK scr q.2.1 pc st = none) (h : mret q.2.1 q.2.2.2.1 pc st = some r) : MEv d scr q pc L st P cz sz r P := by
  refine ⟨0, 1, ?_⟩
  unfold mexec
  rw [hA, hS, hB, hC, hN, hK, h]
  rfl
theorem me_C {P1 : mP} {k : Nat} {As : List Value} {r1 : Option Value} {z : Nat × List Value × mP × Nat × Nat} (hA : mA q.2.1 q.2.2.1 pc L st = none) (hS : mS q.2.1 pc st = none) (hB : mB q.2.1 q.2.2.2.2.2.1 (q.1.name == "<init>") pc st P = none) (hev : Ev d k As P r1 P1) (h : ∀ call : mCall, call k As P = some (r1, P1) → mC call q.2.1 q.2.2.2.2.2.1 pc st P = some z) (hz : cz + z.2.2.2.1 ≤ q.2.2.2.2.2.2.1 ∧ sz + z.2.2.2.2 ≤ q.2.2.2.2.2.2.2) (kk : MEv d scr q z.1 L z.2.1 z.2.2.1 (cz + z.2.2.2.1) (sz + z.2.2.2.2) r P') : MEv d scr q pc L st P cz sz r P' := by
  obtain ⟨F, f, hh⟩ := kk
  obtain ⟨F', h'⟩ := hev
  refine ⟨max F F', f + 1, ?_⟩
  unfold mexec
  rw [hA, hS, hB, h _ (mcall_mono (Nat.le_max_right F F') d d _ _ _ _ (Nat.le_refl d) h')]
  dsimp only
  rw [if_pos hz]
  exact mexec_mono (fun k As P z => mcall_mono (Nat.le_max_left F F') d d k As P z (Nat.le_refl d)) _ _ _ _ _ _ _ _ _ (Nat.le_refl f) hh
end ME
