/-! class and reference held against each other: pieces, states, the history -/
/-- how many creases the record's piece has -/
def ncr (P : mP) (a o : Nat) : Int := (fv P a (o + 1)).toInt - (if (fv P a o).toInt = 1 then 0 else 1)
/-- the class's piece at b is the one of row a from o on -/
def PQ (P : mP) (b a o : Nat) : Prop := fv P b 0 = fv P a o ∧ fv P b 1 = fv P a (o + 1) ∧ fv P b 2 = fv P a (o + 2) ∧ (∀ j : Nat, j < 8 → (j : Int) < (fv P a (o + 1)).toInt → fv P (b + 1) j = fv P a (o + 3 + j)) ∧ ∀ j : Nat, j < 8 → (j : Int) < ncr P a o → fv P (b + 2) j = fv P a (o + 11 + j)
theorem PQ.move {P Q : mP} {b b' a a' o o' : Nat} (h : PQ P b a o) (e : PE Q b' P b) (g : ∀ j : Nat, j < 19 → fv Q a' (o' + j) = fv P a (o + j)) : PQ Q b' a' o' := by
  have g0 : fv Q a' o' = fv P a o := g 0 (by omega)
  have g1 := g 1 (by omega)
  have g2 := g 2 (by omega)
  have hn : ncr Q a' o' = ncr P a o := by unfold ncr; rw [g0, g1]
  refine ⟨e.1.trans (h.1.trans g0.symm), e.2.1.trans (h.2.1.trans g1.symm), e.2.2.1.trans (h.2.2.1.trans g2.symm), fun j hj hz => ?_, fun j hj hz => ?_⟩
  · rw [g1] at hz
    rw [e.2.2.2.1 j hj, h.2.2.2.1 j hj hz, Nat.add_assoc, Nat.add_assoc, g (3 + j) (by omega)]
  · rw [hn] at hz
    rw [e.2.2.2.2 j hj, h.2.2.2.2 j hj hz, Nat.add_assoc, Nat.add_assoc, g (11 + j) (by omega)]
/-- the class's state at A is the record of row a from o on; the stage's own is the reference's -/
def SRs (P : mP) (A a o : Nat) : Prop := fv P A 1 = fv P a o ∧ fv P A 2 = fv P a (o + 1) ∧ fv P A 3 = fv P a (o + 2) ∧ ∀ k : Nat, k < 8 → (k : Int) < (fv P a o).toInt → PQ P (A + 2 + 3 * k) a (o + 3 + 19 * k)
def SRn (P : mP) : Prop := fv P 1 1 = fv P 302 0 ∧ fv P 1 2 = fv P 302 1 ∧ fv P 1 3 = fv P 302 2 ∧ ∀ k : Nat, k < 8 → (k : Int) < (fv P 302 0).toInt → PQ P (rv P 2 k) 302 (3 + 19 * k)
theorem SRs.move {P Q : mP} {A A' a a' o o' : Nat} (h : SRs P A a o) (e : SCs Q A' P A) (g : ∀ j : Nat, j < 155 → fv Q a' (o' + j) = fv P a (o + j)) : SRs Q A' a' o' := by
  have g0 : fv Q a' o' = fv P a o := g 0 (by omega)
  have g1 := g 1 (by omega)
  have g2 := g 2 (by omega)
  refine ⟨e.1.trans (h.1.trans g0.symm), e.2.1.trans (h.2.1.trans g1.symm), e.2.2.1.trans (h.2.2.1.trans g2.symm), fun k hk hz => ?_⟩
  rw [g0] at hz
  refine (h.2.2.2 k hk hz).move (e.2.2.2 k hk (by rw [h.1]; exact hz)) (fun j hj => ?_)
  have := g (3 + 19 * k + j) (by omega)
  rw [show o' + 3 + 19 * k + j = o' + (3 + 19 * k + j) by omega, this]
  congr 1
  omega
theorem SRn.save {P Q : mP} {A' a' o' : Nat} (h : SRn P) (e : SCn Q A' P) (g : ∀ j : Nat, j < 155 → fv Q a' (o' + j) = fv P 302 j) : SRs Q A' a' o' := by
  have g0 : fv Q a' o' = fv P 302 0 := g 0 (by omega)
  have g1 := g 1 (by omega)
  have g2 := g 2 (by omega)
  refine ⟨e.1.trans (h.1.trans g0.symm), e.2.1.trans (h.2.1.trans g1.symm), e.2.2.1.trans (h.2.2.1.trans g2.symm), fun k hk hz => ?_⟩
  rw [g0] at hz
  refine (h.2.2.2 k hk hz).move (e.2.2.2 k hk (by rw [h.1]; exact hz)) (fun j hj => ?_)
  have := g (3 + 19 * k + j) (by omega)
  rw [show o' + 3 + 19 * k + j = o' + (3 + 19 * k + j) by omega, this]
theorem SRs.load {P Q : mP} {B a o : Nat} (h : SRs P B a o) (e : SCi Q P B) (g : ∀ j : Nat, j < 155 → fv Q 302 j = fv P a (o + j)) (hr : ∀ k : Nat, rv Q 2 k = rv P 2 k) : SRn Q := by
  have g0 : fv Q 302 0 = fv P a o := g 0 (by omega)
  have g1 := g 1 (by omega)
  have g2 := g 2 (by omega)
  refine ⟨e.1.trans (h.1.trans g0.symm), e.2.1.trans (h.2.1.trans g1.symm), e.2.2.1.trans (h.2.2.1.trans g2.symm), fun k hk hz => ?_⟩
  rw [g0] at hz
  rw [hr]
  refine (h.2.2.2 k hk hz).move (e.2.2.2 k hk (by rw [h.1]; exact hz)) (fun j hj => ?_)
  rw [g (3 + 19 * k + j) (by omega)]
  congr 1
  omega
theorem SCs.same {P Q : mP} {A : Nat} (f : ∀ x j : Nat, A ≤ x → x < A + 26 → fv Q x j = fv P x j) : SCs Q A P A := ⟨f _ _ (by omega) (by omega), f _ _ (by omega) (by omega), f _ _ (by omega) (by omega), fun k hk _ => ⟨f _ _ (by omega) (by omega), f _ _ (by omega) (by omega), f _ _ (by omega) (by omega), fun j _ => f _ _ (by omega) (by omega), fun j _ => f _ _ (by omega) (by omega)⟩⟩
/-- the states that undo brings back: record i of the past is the state at slot (next + 8 - count + i) mod 8 -/
def HR (P : mP) : Prop := (fv P 79 2).toInt = (fv P 301 4).toInt ∧ ∀ i : Nat, i < 8 → (i : Int) < (fv P 301 4).toInt → SRs P (81 + 26 * (((fv P 79 1).toInt.toNat + 8 - (fv P 301 4).toInt.toNat + i) % 8)) 305 (155 * i)
theorem HR.same {P Q : mP} (h : HR P) (f1 : ∀ x j : Nat, 79 ≤ x → x < 289 → fv Q x j = fv P x j) (f2 : fv Q 301 4 = fv P 301 4) (f3 : ∀ j : Nat, fv Q 305 j = fv P 305 j) : HR Q := by
  unfold HR
  rw [f2, f1 79 2 (by omega) (by omega), f1 79 1 (by omega) (by omega)]
  exact ⟨h.1, fun i hi hz => (h.2 i hi hz).move (SCs.same (fun x j h1 h2 => f1 x j (by omega) (by omega))) (fun j hj => f3 _)⟩
/-- a change: the state that was there is the newest of the past -/
theorem HR.push {P Q : mP} (h : HR P) (hs : SRn P) (r1 : 0 ≤ (fv P 79 1).toInt ∧ (fv P 79 1).toInt ≤ 7) (r2 : 0 ≤ (fv P 301 4).toInt ∧ (fv P 301 4).toInt ≤ 8)
    (hn : (((fv P 79 1).toInt < 7 ∧ (fv Q 79 1).toInt = (fv P 79 1).toInt + 1) ∨ ((fv P 79 1).toInt = 7 ∧ (fv Q 79 1).toInt = 0)))
    (hc : (((fv P 79 2).toInt < 8 ∧ (fv Q 79 2).toInt = (fv P 79 2).toInt + 1) ∨ ((fv P 79 2).toInt = 8 ∧ (fv Q 79 2).toInt = 8)))
    (hm : (((fv P 301 4).toInt < 8 ∧ (fv Q 301 4).toInt = (fv P 301 4).toInt + 1) ∨ ((fv P 301 4).toInt = 8 ∧ (fv Q 301 4).toInt = 8)))
    (hS : SCn Q (81 + 26 * (fv P 79 1).toInt.toNat) P)
    (hF : ∀ x j : Nat, 81 ≤ x → x < 289 → (x < 81 + 26 * (fv P 79 1).toInt.toNat ∨ 81 + 26 * (fv P 79 1).toInt.toNat + 26 ≤ x) → fv Q x j = fv P x j)
    (hP : ∀ c j : Nat, c < 8 → j < 155 → fv Q 305 (155 * c + j) = if (fv P 301 4).toInt.toNat = 8 then (if c < 7 then fv P 305 (155 * (c + 1) + j) else fv P 302 j) else (if c = (fv P 301 4).toInt.toNat then fv P 302 j else fv P 305 (155 * c + j))) : HR Q := by
  obtain ⟨he, hh⟩ := h
  refine ⟨by omega, fun i hi hz => ?_⟩
  by_cases h8 : (fv P 301 4).toInt = 8
  · by_cases hi7 : i = 7
    · have es : ((fv Q 79 1).toInt.toNat + 8 - (fv Q 301 4).toInt.toNat + i) % 8 = (fv P 79 1).toInt.toNat := by omega
      rw [es]
      refine hs.save hS (fun j hj => ?_)
      rw [hP i j hi hj, if_pos (by omega), if_neg (by omega)]
    · have es : ((fv Q 79 1).toInt.toNat + 8 - (fv Q 301 4).toInt.toNat + i) % 8 = ((fv P 79 1).toInt.toNat + 8 - (fv P 301 4).toInt.toNat + (i + 1)) % 8 := by omega
      rw [es]
      refine (hh (i + 1) (by omega) (by omega)).move (SCs.same (fun x j h1 h2 => hF x j (by omega) (by omega) (by omega))) (fun j hj => ?_)
      rw [hP i j hi hj, if_pos (by omega), if_pos (by omega)]
  · by_cases hin : i = (fv P 301 4).toInt.toNat
    · have es : ((fv Q 79 1).toInt.toNat + 8 - (fv Q 301 4).toInt.toNat + i) % 8 = (fv P 79 1).toInt.toNat := by omega
      rw [es]
      refine hs.save hS (fun j hj => ?_)
      rw [hP i j hi hj, if_neg (by omega), if_pos hin]
    · have es : ((fv Q 79 1).toInt.toNat + 8 - (fv Q 301 4).toInt.toNat + i) % 8 = ((fv P 79 1).toInt.toNat + 8 - (fv P 301 4).toInt.toNat + i) % 8 := by omega
      rw [es]
      refine (hh i hi (by omega)).move (SCs.same (fun x j h1 h2 => hF x j (by omega) (by omega) (by omega))) (fun j hj => ?_)
      rw [hP i j hi hj, if_neg (by omega), if_neg hin]
/-- undo: the newest of the past comes back -/
theorem HR.pop {P Q : mP} (h : HR P) (r1 : 0 ≤ (fv P 79 1).toInt ∧ (fv P 79 1).toInt ≤ 7) (r2 : 1 ≤ (fv P 301 4).toInt ∧ (fv P 301 4).toInt ≤ 8)
    (hn : ((fv P 79 1).toInt = 0 ∧ (fv Q 79 1).toInt = 7) ∨ (1 ≤ (fv P 79 1).toInt ∧ (fv Q 79 1).toInt = (fv P 79 1).toInt - 1))
    (hc : (fv Q 79 2).toInt = (fv P 79 2).toInt - 1) (hm : (fv Q 301 4).toInt = (fv P 301 4).toInt - 1)
    (hS : SCi Q P (81 + 26 * (fv Q 79 1).toInt.toNat)) (hF : ∀ x j : Nat, 80 ≤ x → x < 289 → fv Q x j = fv P x j) (f3 : ∀ j : Nat, fv Q 305 j = fv P 305 j)
    (hR : ∀ j : Nat, j < 155 → fv Q 302 j = fv P 305 (155 * (fv Q 301 4).toInt.toNat + j)) (hr : ∀ k : Nat, rv Q 2 k = rv P 2 k) : HR Q ∧ SRn Q := by
  obtain ⟨he, hh⟩ := h
  constructor
  · refine ⟨by omega, fun i hi hz => ?_⟩
    have es : ((fv Q 79 1).toInt.toNat + 8 - (fv Q 301 4).toInt.toNat + i) % 8 = ((fv P 79 1).toInt.toNat + 8 - (fv P 301 4).toInt.toNat + i) % 8 := by omega
    rw [es]
    exact (hh i hi (by omega)).move (SCs.same (fun x j h1 h2 => hF x j (by omega) (by omega))) (fun j hj => f3 _)
  · have q := hh (fv Q 301 4).toInt.toNat (by omega) (by omega)
    have es : ((fv P 79 1).toInt.toNat + 8 - (fv P 301 4).toInt.toNat + (fv Q 301 4).toInt.toNat) % 8 = (fv Q 79 1).toInt.toNat := by omega
    rw [es] at q
    exact q.load hS hR hr
