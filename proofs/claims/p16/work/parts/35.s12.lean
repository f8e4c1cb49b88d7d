/-! the other calls -/
theorem SIM.txt {P Q : mP} (hS : SIM P) (hT : Typ P) (f : ∀ x j : Nat, 1 ≤ x → x < 289 → fv Q x j = fv P x j) (fr : ∀ k : Nat, rv Q 2 k = rv P 2 k) (f8 : fv Q 0 8 = fv P 0 8) (g : ∀ j : Nat, fv Q 302 j = fv P 302 j) (g4 : fv Q 301 4 = fv P 301 4) (g8 : fv Q 301 8 = fv P 301 8) (g304 : ∀ j : Nat, fv Q 304 j = fv P 304 j) (g305 : ∀ j : Nat, fv Q 305 j = fv P 305 j) (ht : TXT Q) : SIM Q := by
  obtain ⟨s1, s2, s3, s4, s5, s6, s7, s8⟩ := hS
  exact ⟨s1.cls hT (fun x j h1 h2 => f x j h1 (by omega)) fr g, s2.same (fun x j h1 h2 => f x j (by omega) h2) g4 g305, s3.same f8 g8 (fun x j h1 h2 => f x j (by omega) (by omega)) g304, ht, by rw [f 79 3 (by omega) (by omega)]; exact s5, s6.row (fun j _ => g j), fun i hi hz => by rw [g4] at hz; exact (s7 i hi hz).row (fun j _ => g305 _), fun h => by rw [g8] at h; exact (s8 h).row (fun j _ => g304 j)⟩
theorem SIM.same {P Q : mP} (hS : SIM P) (hT : Typ P) (f : ∀ x j : Nat, 1 ≤ x → x < 291 → fv Q x j = fv P x j) (fr : ∀ k : Nat, rv Q 2 k = rv P 2 k) (f8 : fv Q 0 8 = fv P 0 8) (g : ∀ j : Nat, fv Q 302 j = fv P 302 j) (g4 : fv Q 301 4 = fv P 301 4) (g8 : fv Q 301 8 = fv P 301 8) (g23 : fv Q 301 23 = fv P 301 23) (g304 : ∀ j : Nat, fv Q 304 j = fv P 304 j) (g305 : ∀ j : Nat, fv Q 305 j = fv P 305 j) (g314 : ∀ j : Nat, fv Q 314 j = fv P 314 j) : SIM Q := by
  have s4 := hS.2.2.2.1
  refine hS.txt hT (fun x j h1 h2 => f x j h1 (by omega)) fr f8 g g4 g8 g304 g305 ⟨by rw [f 289 1 (by omega) (by omega), g23]; exact s4.1, fun j hj => ?_⟩
  rw [g23] at hj
  rw [f 290 j (by omega) (by omega), g314]
  exact s4.2 j hj
def APP (x c L L' : Int) (r r' : Nat → Int32) : Prop := (x = -1002 ∧ (c < 32 ∨ 126 < c ∨ 80 ≤ L) ∧ L' = L ∧ ∀ j : Nat, r' j = r j) ∨ (x = L + 1 ∧ 32 ≤ c ∧ c ≤ 126 ∧ L < 80 ∧ L' = L + 1 ∧ (r' L.toNat).toInt = c ∧ ∀ j : Nat, ¬ j = L.toNat → r' j = r j)
theorem TXT.append {P Q : mP} {x y c : Int} (h : TXT P) (h0 : 0 ≤ (fv P 301 23).toInt) (hc : APP x c (fv P 289 1).toInt (fv Q 289 1).toInt (fun j => fv P 290 j) (fun j => fv Q 290 j)) (hm : APP y c (fv P 301 23).toInt (fv Q 301 23).toInt (fun j => fv P 314 j) (fun j => fv Q 314 j)) : x = y ∧ TXT Q := by
  obtain ⟨t1, t2⟩ := h
  rcases hc with ⟨x1, x2, x3, x4⟩ | ⟨x1, x2, x3, x4, x5, x6, x7⟩ <;> rcases hm with ⟨y1, y2, y3, y4⟩ | ⟨y1, y2, y3, y4, y5, y6, y7⟩
  · exact ⟨by omega, by omega, fun j hj => (x4 j).trans ((t2 j (by omega)).trans (y4 j).symm)⟩
  · omega
  · omega
  · refine ⟨by omega, by omega, fun j hj => ?_⟩
    rw [t1] at x6 x7
    by_cases e : j = (fv P 301 23).toInt.toNat
    · rw [e]
      exact Int32.toInt_inj.mp (x6.trans y6.symm)
    · exact (x7 j e).trans ((t2 j (by omega)).trans (y7 j e).symm)
theorem SCi.keep {P P1 Q : mP} {B : Nat} (h : SCi P1 P B) (hT : Typ P) (f : ∀ x j : Nat, 1 ≤ x → x < 27 → fv Q x j = fv P1 x j) : SCi Q P B := by
  refine ⟨(f _ _ (by omega) (by omega)).trans h.1, (f _ _ (by omega) (by omega)).trans h.2.1, (f _ _ (by omega) (by omega)).trans h.2.2.1, fun k hk hz => ?_⟩
  have q := h.2.2.2 k hk hz
  have r := (rv_np hT k hk).2
  exact ⟨(f _ _ (by omega) (by omega)).trans q.1, (f _ _ (by omega) (by omega)).trans q.2.1, (f _ _ (by omega) (by omega)).trans q.2.2.1, fun j hj => (f _ _ (by omega) (by omega)).trans (q.2.2.2.1 j hj), fun j hj => (f _ _ (by omega) (by omega)).trans (q.2.2.2.2 j hj)⟩
theorem TXT.same {P Q : mP} (h : TXT P) (f : ∀ j : Nat, fv Q 289 j = fv P 289 j) (f2 : ∀ j : Nat, fv Q 290 j = fv P 290 j) (g23 : fv Q 301 23 = fv P 301 23) (g314 : ∀ j : Nat, fv Q 314 j = fv P 314 j) : TXT Q := ⟨by rw [f, g23]; exact h.1, fun j hj => by rw [g23] at hj; rw [f2, g314]; exact h.2 j hj⟩
theorem SIM.undo {P P1 P2 : mP} (hS : SIM P) (hT : Typ P) (hT1 : Typ P1) (hh : ∀ a j : Nat, 301 ≤ a → a < 315 → fv P1 a j = fv P a j) (hl : ∀ a j : Nat, a < 301 → fv P2 a j = fv P1 a j) (cr : ∀ k : Nat, rv P1 2 k = rv P 2 k) (mr : ∀ k : Nat, rv P2 2 k = rv P1 2 k)
    (c0 : ((fv P 79 2).toInt = 0 ∧ ∀ x j : Nat, fv P1 x j = fv P x j) ∨ (1 ≤ (fv P 79 2).toInt ∧ ((((fv P 79 1).toInt = 0 ∧ (fv P1 79 1).toInt = 7) ∨ (1 ≤ (fv P 79 1).toInt ∧ (fv P1 79 1).toInt = (fv P 79 1).toInt - 1)) ∧ (fv P1 79 2).toInt = (fv P 79 2).toInt - 1) ∧ SCi P1 P (81 + 26 * (fv P1 79 1).toInt.toNat))) (c1 : ∀ x j : Nat, 27 ≤ x → ¬ x = 79 → fv P1 x j = fv P x j) (c2 : fv P1 79 3 = fv P 79 3) (c3 : fv P1 0 8 = fv P 0 8)
    (m0 : ((fv P1 301 4).toInt = 0 ∧ ∀ x j : Nat, fv P2 x j = fv P1 x j) ∨ (1 ≤ (fv P1 301 4).toInt ∧ (∀ j : Nat, j < 155 → fv P2 302 j = fv P1 305 (155 * (fv P2 301 4).toInt.toNat + j)) ∧ (fv P2 301 4).toInt = (fv P1 301 4).toInt - 1)) (m1 : ∀ x j : Nat, ¬ x = 302 → ¬ (x = 301 ∧ j = 4) → fv P2 x j = fv P1 x j) : SIM P2 := by
  have hS' := hS
  obtain ⟨s1, s2, s3, s4, s5, s6, s7, s8⟩ := hS
  have e4 : fv P1 301 4 = fv P 301 4 := hh _ _ (by omega) (by omega)
  have m1' : ∀ x j : Nat, 301 ≤ x → x < 315 → ¬ x = 302 → ¬ (x = 301 ∧ j = 4) → fv P2 x j = fv P x j := fun x j h1 h2 h3 h4 => (m1 x j h3 h4).trans (hh x j h1 h2)
  have e := s2.1
  have b1 := Typ.rng (lo := 0) (hi := 7) hT rl_79 (by decide) (k := 1) (by decide) rfl
  have b2 := Typ.rng (lo := 0) (hi := 8) hT rl_301 (by decide) (k := 4) (by decide) rfl
  rw [e4] at m0
  rcases c0 with ⟨c0, c00⟩ | ⟨c0, ⟨c4, c5⟩, c6⟩
  · rcases m0 with ⟨m0, m00⟩ | ⟨m0, _⟩
    · have q : ∀ x j : Nat, fv P2 x j = fv P x j := fun x j => (m00 x j).trans (c00 x j)
      exact hS'.same hT (fun x j _ _ => q x j) (fun k => (mr k).trans (cr k)) (q _ _) (fun j => q _ _) (q _ _) (q _ _) (q _ _) (fun j => q _ _) (fun j => q _ _) (fun j => q _ _)
    · omega
  · rcases m0 with ⟨m0, _⟩ | ⟨m0, m3, m4⟩
    · omega
    · have r := s2.pop (Q := P2) b1 (by omega) (by rw [hl 79 1 (by omega)]; exact c4) (by rw [hl 79 2 (by omega)]; exact c5) m4 (by rw [hl 79 1 (by omega)]; exact c6.keep hT (fun x j _ _ => hl _ _ (by omega))) (fun x j h1 h2 => (hl _ _ (by omega)).trans (c1 x j (by omega) (by omega))) (fun j => m1' _ _ (by omega) (by omega) (by omega) (by omega)) (fun j hj => by rw [m3 j hj, hh _ _ (by omega) (by omega)]) (fun k => (mr k).trans (cr k))
      have cl : ∀ x j : Nat, 27 ≤ x → x < 301 → ¬ x = 79 → fv P2 x j = fv P x j := fun x j h1 h2 h3 => (hl _ _ h2).trans (c1 x j h1 h3)
      refine ⟨r.2, r.1, s3.same ((hl _ _ (by omega)).trans c3) (m1' _ _ (by omega) (by omega) (by omega) (by omega)) (fun x j h1 h2 => cl x j (by omega) (by omega) (by omega)) (fun j => m1' _ _ (by omega) (by omega) (by omega) (by omega)), s4.same (fun j => cl _ _ (by omega) (by omega) (by omega)) (fun j => cl _ _ (by omega) (by omega) (by omega)) (m1' _ _ (by omega) (by omega) (by omega) (by omega)) (fun j => m1' _ _ (by omega) (by omega) (by omega) (by omega)), by rw [hl 79 3 (by omega), c2]; exact s5, (s7 (fv P2 301 4).toInt.toNat (by omega) (by omega)).row (fun j hj => by show fv P2 302 j = _; rw [m3 j hj, hh _ _ (by omega) (by omega)]), fun i hi hz => (s7 i hi (by omega)).row (fun j _ => m1' _ _ (by omega) (by omega) (by omega) (by omega)), fun h => ?_⟩
      rw [m1' 301 8 (by omega) (by omega) (by omega) (by omega)] at h
      exact (s8 h).row (fun j _ => m1' _ _ (by omega) (by omega) (by omega) (by omega))
theorem SIM.save {P P1 P2 : mP} (hS : SIM P) (hT : Typ P) (hh : ∀ a j : Nat, 301 ≤ a → a < 315 → fv P1 a j = fv P a j) (hl : ∀ a j : Nat, a < 301 → fv P2 a j = fv P1 a j) (cr : ∀ k : Nat, rv P1 2 k = rv P 2 k) (mr : ∀ k : Nat, rv P2 2 k = rv P1 2 k)
    (c0 : SCn P1 53 P) (c1 : ∀ x j : Nat, ¬ (x = 0 ∧ j = 8) → (x < 53 ∨ 79 ≤ x) → fv P1 x j = fv P x j) (c2 : (fv P1 0 8).toInt = 1) (m0 : ∀ j : Nat, j < 155 → fv P2 304 j = fv P1 302 j) (m1 : ∀ x j : Nat, ¬ (x = 301 ∧ j = 8) → ¬ x = 304 → fv P2 x j = fv P1 x j) (m2 : (fv P2 301 8).toInt = 1) : SIM P2 := by
  obtain ⟨s1, s2, s3, s4, s5, s6, s7, s8⟩ := hS
  have ml : ∀ x j : Nat, 301 ≤ x → x < 315 → ¬ (x = 301 ∧ j = 8) → ¬ x = 304 → fv P2 x j = fv P x j := fun x j h1 h2 h3 h4 => (m1 x j h3 h4).trans (hh x j h1 h2)
  have cl : ∀ x j : Nat, 1 ≤ x → x < 301 → (x < 53 ∨ 79 ≤ x) → fv P2 x j = fv P x j := fun x j h1 h2 h3 => (hl _ _ h2).trans (c1 x j (by omega) h3)
  have m0' : ∀ j : Nat, j < 155 → fv P2 304 j = fv P 302 j := fun j hj => (m0 j hj).trans (hh _ _ (by omega) (by omega))
  exact ⟨s1.cls hT (fun x j h1 h2 => cl x j h1 (by omega) (by omega)) (fun k => (mr k).trans (cr k)) (fun j => ml _ _ (by omega) (by omega) (by omega) (by omega)), s2.same (fun x j h1 h2 => cl x j (by omega) (by omega) (by omega)) (ml _ _ (by omega) (by omega) (by omega) (by omega)) (fun j => ml _ _ (by omega) (by omega) (by omega) (by omega)), SNAP.save s1 (by rw [hl 0 8 (by omega)]; exact c2) m2 ⟨(hl _ _ (by omega)).trans c0.1, (hl _ _ (by omega)).trans c0.2.1, (hl _ _ (by omega)).trans c0.2.2.1, fun k hk hz => by
    have q := c0.2.2.2 k hk hz
    exact ⟨(hl _ _ (by omega)).trans q.1, (hl _ _ (by omega)).trans q.2.1, (hl _ _ (by omega)).trans q.2.2.1, fun j hj => (hl _ _ (by omega)).trans (q.2.2.2.1 j hj), fun j hj => (hl _ _ (by omega)).trans (q.2.2.2.2 j hj)⟩⟩ m0', s4.same (fun j => cl _ _ (by omega) (by omega) (by omega)) (fun j => cl _ _ (by omega) (by omega) (by omega)) (ml _ _ (by omega) (by omega) (by omega) (by omega)) (fun j => ml _ _ (by omega) (by omega) (by omega) (by omega)), by rw [cl 79 3 (by omega) (by omega) (by omega)]; exact s5, s6.row (fun j _ => ml _ _ (by omega) (by omega) (by omega) (by omega)), fun i hi hz => by
      rw [ml 301 4 (by omega) (by omega) (by omega) (by omega)] at hz
      exact (s7 i hi hz).row (fun j _ => ml _ _ (by omega) (by omega) (by omega) (by omega)), fun _ => s6.row (fun j hj => m0' j hj)⟩
theorem SIM.restore {P P1 P2 : mP} (hS : SIM P) (hT : Typ P) (hh : ∀ a j : Nat, 301 ≤ a → a < 315 → fv P1 a j = fv P a j) (hl : ∀ a j : Nat, a < 301 → fv P2 a j = fv P1 a j) (cr : ∀ k : Nat, rv P1 2 k = rv P 2 k) (mr : ∀ k : Nat, rv P2 2 k = rv P1 2 k) (c3 : fv P1 0 8 = fv P 0 8)
    (c0 : ((fv P 0 8).toInt = 0 ∧ ∀ x j : Nat, fv P1 x j = fv P x j) ∨ ((fv P 0 8).toInt = 1 ∧ SCi P1 P 53 ∧ (fv P1 79 2).toInt = 0)) (c1 : ∀ x j : Nat, 27 ≤ x → ¬ (x = 79 ∧ j = 2) → fv P1 x j = fv P x j)
    (m0 : ((fv P1 301 8).toInt = 0 ∧ ∀ x j : Nat, fv P2 x j = fv P1 x j) ∨ ((fv P1 301 8).toInt = 1 ∧ (∀ j : Nat, j < 155 → fv P2 302 j = fv P1 304 j) ∧ (fv P2 301 4).toInt = 0)) (m1 : ∀ x j : Nat, ¬ x = 302 → ¬ (x = 301 ∧ j = 4) → fv P2 x j = fv P1 x j) : SIM P2 := by
  have hS' := hS
  obtain ⟨s1, s2, s3, s4, s5, s6, s7, s8⟩ := hS
  have e8 : fv P1 301 8 = fv P 301 8 := hh _ _ (by omega) (by omega)
  have e := s3.1
  rw [e8] at m0
  rcases c0 with ⟨c0, c00⟩ | ⟨c0, c4, c5⟩
  · rcases m0 with ⟨m0, m00⟩ | ⟨m0, _⟩
    · have q : ∀ x j : Nat, fv P2 x j = fv P x j := fun x j => (m00 x j).trans (c00 x j)
      exact hS'.same hT (fun x j _ _ => q x j) (fun k => (mr k).trans (cr k)) (q _ _) (fun j => q _ _) (q _ _) (q _ _) (q _ _) (fun j => q _ _) (fun j => q _ _) (fun j => q _ _)
    · omega
  · rcases m0 with ⟨m0, _⟩ | ⟨m0, m3, m4⟩
    · omega
    · have ml : ∀ x j : Nat, 301 ≤ x → x < 315 → ¬ x = 302 → ¬ (x = 301 ∧ j = 4) → fv P2 x j = fv P x j := fun x j h1 h2 h3 h4 => (m1 x j h3 h4).trans (hh x j h1 h2)
      have cl : ∀ x j : Nat, 27 ≤ x → x < 301 → ¬ (x = 79 ∧ j = 2) → fv P2 x j = fv P x j := fun x j h1 h2 h3 => (hl _ _ h2).trans (c1 x j h1 h3)
      have m3' : ∀ j : Nat, j < 155 → fv P2 302 j = fv P 304 j := fun j hj => (m3 j hj).trans (hh _ _ (by omega) (by omega))
      refine ⟨s3.load m0 (c4.keep hT (fun x j _ _ => hl _ _ (by omega))) m3' (fun k => (mr k).trans (cr k)), HR.clear (by rw [hl 79 2 (by omega)]; exact c5) m4, s3.same ((hl _ _ (by omega)).trans c3) (ml _ _ (by omega) (by omega) (by omega) (by omega)) (fun x j h1 h2 => cl x j (by omega) (by omega) (by omega)) (fun j => ml _ _ (by omega) (by omega) (by omega) (by omega)), s4.same (fun j => cl _ _ (by omega) (by omega) (by omega)) (fun j => cl _ _ (by omega) (by omega) (by omega)) (ml _ _ (by omega) (by omega) (by omega) (by omega)) (fun j => ml _ _ (by omega) (by omega) (by omega) (by omega)), by rw [cl 79 3 (by omega) (by omega) (by omega)]; exact s5, (s8 m0).row (fun j hj => m3' j hj), fun i hi hz => by omega, fun h => ?_⟩
      rw [ml 301 8 (by omega) (by omega) (by omega) (by omega)] at h
      exact (s8 h).row (fun j _ => ml _ _ (by omega) (by omega) (by omega) (by omega))
