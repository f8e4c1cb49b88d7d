/-! a command of a text, on both sides -/
/-- class and reference: both fail, or both go on alike -/
def PFO (P1 : mP) (s' : Nat → Int32) (x y : Int) : Prop := ((-1004 ≤ y ∧ y ≤ -1001) ∧ x < 0) ∨ (¬ (-1004 ≤ y ∧ y ≤ -1001) ∧ 0 ≤ x ∧ SN P1 s' ∧ GS s')
theorem OUTC.pfo {P P1 : mP} {s s' : Nat → Int32} {x y : Int} (h : x = y ∧ OUTC P P1 s s' x) : PFO P1 s' x y := by
  obtain ⟨e, h⟩ := h
  rcases h with ⟨h1, h2, _⟩ | ⟨h1, _, h2, h3⟩
  · exact Or.inl (by omega)
  · exact Or.inr ⟨by omega, h1, h2, h3⟩
theorem add_pfo {P P1 : mP} {s s' : Nat → Int32} {x y k a b n : Int} (hT : Typ P) (hN : SN P s) (hG : GS s) (hk : k = 0 ∨ k = 1) (hc : WCT P P1 x k a b n) (hm : ASM s s' y k a b n) : PFO P1 s' x y := by
  obtain ⟨z, hc, ho⟩ := hc
  have n0 := hN.n0 hG
  -- what stands where a piece has been added
  have new : 0 ≤ z → ∃ c : Nat, okSz k a c ∧ (fv P1 1 1).toInt = (fv P 1 1).toInt + 1 ∧ z = (fv P 1 1).toInt ∧ (fv P 1 1).toInt ≤ 7 ∧ ccQ P1 (rv P1 2 z.toNat) = (c : Int) - 1 + k := by
    intro hz
    rcases hc with ⟨x1, _⟩ | ⟨x1, _⟩ | ⟨x1, x2, x3, x4, x5, x6, ⟨d, x7, x8, x9, x10, x11, x12, x13⟩, x14, x15⟩
    · omega
    · omega
    · refine ⟨d, x7, x4, x2, x1, ?_⟩
      rw [x15, x2]
      unfold ccQ
      rw [x9, x11]
      rcases hk with hk | hk
      · rw [if_pos hk]
        omega
      · rw [if_neg (by omega)]
        omega
  have err : z < 0 → x < 0 := fun h => by omega
  have zz : z < 0 ∨ 0 ≤ z := by omega
  rcases hm with ⟨y1, y2, y3⟩ | ⟨c, y1, y2, y3⟩
  · refine Or.inl ⟨by omega, ?_⟩
    rcases zz with h | h
    · exact err h
    · obtain ⟨d, d1, d2, d3, d4, d5⟩ := new h
      have := y2 d d1
      clear new
      omega
  · have q := add_core hT hN hG hc y3
    rcases q with ⟨q1, ⟨q2, q3, _⟩ | ⟨q2, _, q4, q5⟩⟩
    · exact Or.inl ⟨by omega, err (by omega)⟩
    · obtain ⟨d, d1, d2, d3, d4, d5⟩ := new q2
      have e := d1.1.1.uniq y1.1.1
      subst e
      clear new
      exact Or.inr ⟨by omega, by omega, q4, q5⟩
theorem pf_core {P P1 : mP} {s s' : Nat → Int32} {x y l a b n k a' b' n' k' : Int} (hT : Typ P) (hJ : Inj P) (hN : SN P s) (hG : GS s) (hl : LET l) (ea : a = a') (e1 : l = 115 ∨ l = 99 → b = b' ∧ n = n') (e2 : l = 109 → b = b' ∧ k = k') (hc : PFC P P1 x l a b n k) (hm : DSM s s' y l a' b' n' k') : PFO P1 s' x y := by
  subst ea
  rcases hc with ⟨h, hc⟩ | ⟨h, hc⟩ | ⟨h, hc⟩ | ⟨h, hc⟩ | ⟨h, hc⟩ | ⟨h, hc⟩ | ⟨h, hc⟩ | ⟨h, _⟩
  · rcases hm with ⟨g, hm⟩ | ⟨g, hm⟩ | ⟨g, hm⟩ | ⟨g, hm⟩ | ⟨g, hm⟩ | ⟨g, hm⟩
    all_goals try (exfalso; omega)
    obtain ⟨rfl, rfl⟩ := e1 (by omega)
    rw [if_pos h] at hm
    exact add_pfo hT hN hG (Or.inl rfl) hc hm
  · rcases hm with ⟨g, hm⟩ | ⟨g, hm⟩ | ⟨g, hm⟩ | ⟨g, hm⟩ | ⟨g, hm⟩ | ⟨g, hm⟩
    all_goals try (exfalso; omega)
    obtain ⟨rfl, rfl⟩ := e1 (by omega)
    rw [if_neg (by omega)] at hm
    exact add_pfo hT hN hG (Or.inr rfl) hc hm
  · rcases hm with ⟨g, hm⟩ | ⟨g, hm⟩ | ⟨g, hm⟩ | ⟨g, hm⟩ | ⟨g, hm⟩ | ⟨g, hm⟩
    all_goals try (exfalso; omega)
    obtain ⟨rfl, rfl⟩ := e2 h
    exact OUTC.pfo (mark_core hT hJ hN hG hc hm)
  · rcases hm with ⟨g, hm⟩ | ⟨g, hm⟩ | ⟨g, hm⟩ | ⟨g, hm⟩ | ⟨g, hm⟩ | ⟨g, hm⟩
    all_goals try (exfalso; omega)
    exact OUTC.pfo (turn_core hT hJ hN hG hc hm)
  · rcases hm with ⟨g, hm⟩ | ⟨g, hm⟩ | ⟨g, hm⟩ | ⟨g, hm⟩ | ⟨g, hm⟩ | ⟨g, hm⟩
    all_goals try (exfalso; omega)
    exact OUTC.pfo (fold_core hT hJ hN hG hc hm)
  · rcases hm with ⟨g, hm⟩ | ⟨g, hm⟩ | ⟨g, hm⟩ | ⟨g, hm⟩ | ⟨g, hm⟩ | ⟨g, hm⟩
    all_goals try (exfalso; omega)
    exact OUTC.pfo (unfold_core hT hJ hN hG hc hm)
  · rcases hm with ⟨g, hm⟩ | ⟨g, hm⟩ | ⟨g, hm⟩ | ⟨g, hm⟩ | ⟨g, hm⟩ | ⟨g, hm⟩
    all_goals try (exfalso; omega)
    exact OUTC.pfo (drop_core hT hN hG hc hm)
  · exact absurd hl h
