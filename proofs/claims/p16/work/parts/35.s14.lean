/-! a text on both sides -/
theorem TR_lock {c : Int → Int32} {L : Int} {n : Nat} : ∀ {m : Nat} {i : Int} {P Q : mP} {s s2 : Nat → Int32} {a y : Int}, Typ P → SN P s → GS s → TRC c L n i P Q a → TRM c L m i s s2 y → (a < 0 ∧ y < 0) ∨ (0 ≤ a ∧ 0 ≤ y ∧ SN Q s2 ∧ GS s2) := by
  induction n with
  | zero =>
    intro m i P Q s s2 a y hT hN hG hc hm
    obtain ⟨h1, h2, h3⟩ := hc
    cases m with
    | zero =>
      obtain ⟨g1, g2, g3⟩ := hm
      exact Or.inr ⟨h3, g3, hN.cls hT h2.1 h2.2 g2, hG.row (fun j _ => g2 j)⟩
    | succ m =>
      obtain ⟨g1, _⟩ := hm
      omega
  | succ n ih =>
    intro m i P Q s s2 a y hT hN hG hc hm
    obtain ⟨h1, i', l, a', b, k, e, v, P0, P1, P2, h2, h3, h4, h5, h6, h7, h8⟩ := hc
    cases m with
    | zero =>
      obtain ⟨g1, _⟩ := hm
      omega
    | succ m =>
      obtain ⟨g1, j', l', a2, b2, k2, e2, w, s1, g2, g3, g4⟩ := hm
      have u := h2.uniq g2
      obtain ⟨u1, u2, u3, u4, u5⟩ := u
      subst u1 u2
      have hN0 : SN P0 s := hN.cls hT h3.1 h3.2 (fun _ => rfl)
      have q := pf_core h4 h5 hN0 hG h2.let u3 u4 u5 h6 g3
      rcases q with ⟨q1, q2⟩ | ⟨q1, q2, q3, q4⟩
      · rcases h8 with ⟨_, h8⟩ | ⟨h8, _⟩
        · rcases g4 with ⟨_, g4⟩ | ⟨g4, _⟩
          · exact Or.inl ⟨h8, g4⟩
          · exact absurd q1 g4
        · omega
      · rcases h8 with ⟨h8, _⟩ | ⟨_, h8, h9, h10⟩
        · omega
        · rcases g4 with ⟨g4, _⟩ | ⟨_, g4⟩
          · exact absurd g4 q1
          · exact ih h9 (q3.cls h7 h8.1 h8.2 (fun _ => rfl)) q4 h10 g4
