/-! each op on both sides -/
theorem PS.nm {P : mP} {B p : Nat} {s : Nat → Int32} (h : PS P B s (3 + 19 * p)) : fv P B 0 = s (3 + 19 * p) ∧ fv P B 1 = s (4 + 19 * p) ∧ fv P B 2 = s (5 + 19 * p) ∧ (∀ j : Nat, j < 8 → (j : Int) < (s (4 + 19 * p)).toInt → fv P (B + 1) j = s (6 + 19 * p + j)) ∧ ∀ j : Nat, j < 8 → (j : Int) < ncS s (3 + 19 * p) → fv P (B + 2) j = s (14 + 19 * p + j) := by
  have e1 : 3 + 19 * p + 1 = 4 + 19 * p := by omega
  have e2 : 3 + 19 * p + 2 = 5 + 19 * p := by omega
  have e3 : 3 + 19 * p + 3 = 6 + 19 * p := by omega
  have e4 : 3 + 19 * p + 11 = 14 + 19 * p := by omega
  unfold PS at h
  rw [e1, e2, e3, e4] at h
  exact h
theorem PS.of {P : mP} {B p : Nat} {s : Nat → Int32} (h : fv P B 0 = s (3 + 19 * p) ∧ fv P B 1 = s (4 + 19 * p) ∧ fv P B 2 = s (5 + 19 * p) ∧ (∀ j : Nat, j < 8 → (j : Int) < (s (4 + 19 * p)).toInt → fv P (B + 1) j = s (6 + 19 * p + j)) ∧ ∀ j : Nat, j < 8 → (j : Int) < ncS s (3 + 19 * p) → fv P (B + 2) j = s (14 + 19 * p + j)) : PS P B s (3 + 19 * p) := by
  have e1 : 3 + 19 * p + 1 = 4 + 19 * p := by omega
  have e2 : 3 + 19 * p + 2 = 5 + 19 * p := by omega
  have e3 : 3 + 19 * p + 3 = 6 + 19 * p := by omega
  have e4 : 3 + 19 * p + 11 = 14 + 19 * p := by omega
  unfold PS
  rw [e1, e2, e3, e4]
  exact h
def GPn (s : Nat → Int32) (p : Nat) : Prop := (((s (3 + 19 * p)).toInt = 0 ∧ 2 ≤ (s (4 + 19 * p)).toInt ∧ (s (4 + 19 * p)).toInt ≤ 7) ∨ ((s (3 + 19 * p)).toInt = 1 ∧ 2 ≤ (s (4 + 19 * p)).toInt ∧ (s (4 + 19 * p)).toInt ≤ 8)) ∧ (0 ≤ (s (5 + 19 * p)).toInt ∧ (s (5 + 19 * p)).toInt ≤ 1) ∧ (∀ j : Nat, (j : Int) < (s (4 + 19 * p)).toInt → 0 ≤ (s (6 + 19 * p + j)).toInt ∧ (s (6 + 19 * p + j)).toInt ≤ 9) ∧ ∀ j : Nat, (j : Int) < ncS s (3 + 19 * p) → 0 ≤ (s (14 + 19 * p + j)).toInt ∧ (s (14 + 19 * p + j)).toInt ≤ 2
theorem GP.n {s : Nat → Int32} {p : Nat} : GP s (3 + 19 * p) ↔ GPn s p := by
  have e1 : 3 + 19 * p + 1 = 4 + 19 * p := by omega
  have e2 : 3 + 19 * p + 2 = 5 + 19 * p := by omega
  have e3 : 3 + 19 * p + 3 = 6 + 19 * p := by omega
  have e4 : 3 + 19 * p + 11 = 14 + 19 * p := by omega
  unfold GP GPn
  rw [e1, e2, e3, e4]
theorem ncS_n {s : Nat → Int32} {p : Nat} : ncS s (3 + 19 * p) = (s (4 + 19 * p)).toInt - (if (s (3 + 19 * p)).toInt = 1 then 0 else 1) := by
  unfold ncS
  rw [show 3 + 19 * p + 1 = 4 + 19 * p by omega]
theorem ncS_nC {s : Nat → Int32} {p : Nat} (h : GPn s p) : ((nC (s (3 + 19 * p)).toInt (s (4 + 19 * p)).toInt : Nat) : Int) = ncS s (3 + 19 * p) := by
  rw [ncS_n]
  unfold nC
  rcases h.1 with h | h
  · rw [if_pos h.1, if_neg (by omega)]
    omega
  · rw [if_neg (by omega), if_pos h.1]
    omega
/-- the piece of a number, on both sides -/
theorem SN.pc {P : mP} {s : Nat → Int32} (hN : SN P s) (hG : GS s) (a : Int) : (a < 0 ∨ (s 0).toInt ≤ a) ∨ ((fv P (rv P 2 a.toNat) 0).toInt = (s (3 + 19 * a.toNat)).toInt ∧ (fv P (rv P 2 a.toNat) 1).toInt = (s (4 + 19 * a.toNat)).toInt ∧ (fv P (rv P 2 a.toNat) 2).toInt = (s (5 + 19 * a.toNat)).toInt ∧ (0 ≤ (s (3 + 19 * a.toNat)).toInt ∧ (s (3 + 19 * a.toNat)).toInt ≤ 1) ∧ (0 ≤ (s (5 + 19 * a.toNat)).toInt ∧ (s (5 + 19 * a.toNat)).toInt ≤ 1) ∧ 2 ≤ (s (4 + 19 * a.toNat)).toInt ∧ (s (4 + 19 * a.toNat)).toInt ≤ 8) := by
  by_cases h : a < 0 ∨ (s 0).toInt ≤ a
  · exact Or.inl h
  · have b := hG.1
    have q := (hN.2.2.2 a.toNat (by omega) (by omega)).nm
    have g := GP.n.mp (hG.2.2.2 a.toNat (by omega))
    exact Or.inr ⟨congrArg Int32.toInt q.1, congrArg Int32.toInt q.2.1, congrArg Int32.toInt q.2.2.1, by rcases g.1 with g | g <;> omega, g.2.1, by rcases g.1 with g | g <;> omega, by rcases g.1 with g | g <;> omega⟩
theorem SN.n0 {P : mP} {s : Nat → Int32} (hN : SN P s) (hG : GS s) : (fv P 1 1).toInt = (s 0).toInt ∧ 0 ≤ (s 0).toInt ∧ (s 0).toInt ≤ 8 := ⟨congrArg Int32.toInt hN.1, hG.1.1, hG.1.2⟩
theorem SN.one {P P1 : mP} {s s' : Nat → Int32} {p : Nat} (hT : Typ P) (hJ : Inj P) (hN : SN P s) (hp : p < 8) (c1 : ∀ x j : Nat, 3 ≤ x → x < 27 → ¬ (rv P 2 p ≤ x ∧ x < rv P 2 p + 3) → fv P1 x j = fv P x j) (k1 : fv P1 1 1 = fv P 1 1) (fr : ∀ k : Nat, rv P1 2 k = rv P 2 k) (m0 : s' 0 = s 0) (m1 : ∀ j : Nat, 3 ≤ j → (j < 3 + 19 * p ∨ 22 + 19 * p ≤ j) → s' j = s j) (k2 : fv P1 1 2 = s' 1) (k3 : fv P1 1 3 = s' 2) (hq : PS P1 (rv P 2 p) s' (3 + 19 * p)) : SN P1 s' := by
  refine ⟨k1.trans (hN.1.trans m0.symm), k2, k3, fun k hk hz => ?_⟩
  rw [m0] at hz
  rw [fr k]
  by_cases e : k = p
  · subst e
    exact hq
  · have r := (rv_np hT k hk).2
    have d := np_dis hJ hT hk hp e rfl
    exact (hN.2.2.2 k hk hz).row ⟨c1 _ _ (by omega) (by omega) (by omega), c1 _ _ (by omega) (by omega) (by omega), c1 _ _ (by omega) (by omega) (by omega), fun j _ => c1 _ _ (by omega) (by omega) (by omega), fun j _ => c1 _ _ (by omega) (by omega) (by omega)⟩ (fun j hj => m1 _ (by omega) (by omega))
theorem GS.one {s s' : Nat → Int32} {p : Nat} (hG : GS s) (hz : (p : Int) < (s 0).toInt) (m0 : s' 0 = s 0) (m1 : ∀ j : Nat, 3 ≤ j → (j < 3 + 19 * p ∨ 22 + 19 * p ≤ j) → s' j = s j) (w1 : 1 ≤ (s' 1).toInt ∧ (s' 1).toInt ≤ 99) (gp : GPn s' p) (hu : (smF (fun k => wpM s k) (s 0).toInt.toNat).toInt + (wpM s' p).toInt - (wpM s p).toInt ≤ (s' 1).toInt) : GS s' := by
  have gk : ∀ k : Nat, (k : Int) < (s 0).toInt → GP s' (3 + 19 * k) := fun k hk => by
    by_cases e : k = p
    · subst e
      exact GP.n.mpr gp
    · exact (hG.2.2.2 k hk).row (fun j hj => m1 _ (by omega) (by omega))
  refine ⟨by rw [m0]; exact hG.1, w1, ?_, fun k hk => gk k (by rw [m0] at hk; exact hk)⟩
  rw [m0]
  have b := hG.1
  rw [smF_upd (f := fun k => wpM s k) (p := p) (by omega) (fun j hj => hG.wp hj) (fun j hj => (gk j (by omega)).wp) (by omega) (fun j hj hn => ?_)]
  · exact hu
  · have q := GP.n.mp (hG.2.2.2 j (by omega))
    exact wpM_row (by rcases q.1 with q | q <;> omega) (fun i hi => m1 _ (by omega) (by omega))
/-- a piece that isn't folded becomes another -/
theorem OUTC.one {P P1 : mP} {s s' : Nat → Int32} {p : Nat} {x : Int} (hT : Typ P) (hJ : Inj P) (hN : SN P s) (hG : GS s) (hz : (p : Int) < (s 0).toInt) (hx : 0 ≤ x) (hp : PSH P P1) (c1 : ∀ x j : Nat, 3 ≤ x → x < 27 → ¬ (rv P 2 p ≤ x ∧ x < rv P 2 p + 3) → fv P1 x j = fv P x j) (c0 : ∀ j : Nat, fv P1 1 j = fv P 1 j) (fr : ∀ k : Nat, rv P1 2 k = rv P 2 k) (m0 : ∀ j : Nat, j < 3 → s' j = s j) (m1 : ∀ j : Nat, 3 ≤ j → (j < 3 + 19 * p ∨ 22 + 19 * p ≤ j) → s' j = s j) (hq : PS P1 (rv P 2 p) s' (3 + 19 * p)) (gp : GPn s' p) (uf : ¬ (s (5 + 19 * p)).toInt = 1) (uf' : ¬ (s' (5 + 19 * p)).toInt = 1) : OUTC P P1 s s' x := by
  have b := hG.1
  refine Or.inr ⟨hx, hp, SN.one hT hJ hN (by omega) c1 (c0 1) fr (m0 0 (by omega)) m1 ((c0 2).trans (hN.2.1.trans (m0 1 (by omega)).symm)) ((c0 3).trans (hN.2.2.1.trans (m0 2 (by omega)).symm)) hq, hG.one hz (m0 0 (by omega)) m1 (by rw [m0 1 (by omega)]; exact hG.2.1) gp ?_⟩
  rw [wpM_0 uf, wpM_0 uf', m0 1 (by omega)]
  have h0 : (0 : Int32).toInt = 0 := rfl
  have := hG.2.2.1
  omega
theorem mark_core {P P1 : mP} {s s' : Nat → Int32} {x y a b c : Int} (hT : Typ P) (hJ : Inj P) (hN : SN P s) (hG : GS s) (hc : markC P P1 x a b c) (hm : marksM s s' y a b c) : x = y ∧ OUTC P P1 s s' x := by
  have n0 := hN.n0 hG
  have pc := hN.pc hG a
  rcases hc with ⟨x1, x2, x3⟩ | ⟨x1, x2, x3, x4, x5⟩ | ⟨x1, x2, x3, x4, x5, x6⟩ | ⟨x1, x2, x3, x4, x5, x6, x7, x8, x9⟩ <;> rcases hm with ⟨y1, y2, y3⟩ | ⟨y1, y2, y3, y4, y5⟩ | ⟨y1, y2, y3, y4, y5, y6⟩ | ⟨y1, y2, y3, y4, y5, y6, y7⟩
  all_goals try (exfalso; omega)
  · exact ⟨by omega, Or.inl ⟨by omega, by omega, x3, y3⟩⟩
  · exact ⟨by omega, Or.inl ⟨by omega, by omega, x5, y5⟩⟩
  · exact ⟨by omega, Or.inl ⟨by omega, by omega, x6, y6⟩⟩
  · obtain ⟨p, rfl⟩ : ∃ p : Nat, a = p := ⟨a.toNat, by omega⟩
    obtain ⟨c', rfl⟩ : ∃ c' : Nat, b = c' := ⟨b.toNat, by omega⟩
    rw [Int.toNat_natCast] at *
    rw [Int.toNat_natCast] at x5 x7 x8 y5 y6 y7
    have q := (hN.2.2.2 p (by omega) (by omega)).nm
    have g := GP.n.mp (hG.2.2.2 p (by omega))
    have nc := ncS_n (s := s) (p := p)
    have r := (rv_np hT p (by omega)).2
    have hnc : (c' : Int) < ncS s (3 + 19 * p) := by rw [nc]; split <;> omega
    have e := q.2.2.2.2 c' (by omega) hnc
    have hxy : x = y := by rw [x5, y5, e]
    have g4 := g.2.2.2 c' hnc
    have e0 : ∀ j : Nat, j < 14 + 19 * p → s' j = s j := fun j hj => y7 j (by omega)
    have nc' : ncS s' (3 + 19 * p) = ncS s (3 + 19 * p) := by rw [ncS_n, ncS_n, e0 _ (by omega), e0 _ (by omega)]
    refine ⟨hxy, OUTC.one hT hJ hN hG (p := p) (by omega) (by omega) x6 (fun z j h1 h2 h3 => x8 z j (by omega) h2 (by omega)) (fun j => x8 1 j (by omega) (by omega) (by omega)) x9 (fun j hj => e0 j (by omega)) (fun j h1 h2 => y7 j (by rcases h2 with h2 | h2 <;> omega)) (PS.of ?_) ?_ (by omega) (by rw [e0 _ (by omega)]; omega)⟩
    · refine ⟨?_, ?_, ?_, fun j h1 h2 => ?_, fun j h1 h2 => ?_⟩
      · rw [e0 _ (by omega), x8 _ _ (by omega) (by omega) (by omega)]; exact q.1
      · rw [e0 _ (by omega), x8 _ _ (by omega) (by omega) (by omega)]; exact q.2.1
      · rw [e0 _ (by omega), x8 _ _ (by omega) (by omega) (by omega)]; exact q.2.2.1
      · rw [e0 _ (by omega)] at h2
        rw [e0 _ (by omega), x8 _ _ (by omega) (by omega) (by omega)]
        exact q.2.2.2.1 j h1 h2
      · rw [nc'] at h2
        by_cases ej : j = c'
        · subst ej
          exact Int32.toInt_inj.mp (x7.trans y6.symm)
        · rw [y7 _ (by omega), x8 _ _ (by omega) (by omega) (by omega)]
          exact q.2.2.2.2 j h1 h2
    · refine ⟨by rw [e0 _ (by omega), e0 _ (by omega)]; exact g.1, by rw [e0 _ (by omega)]; exact g.2.1, fun j hj => ?_, fun j hj => ?_⟩
      · rw [e0 _ (by omega)] at hj
        have gj := g.2.2.1 j hj
        rw [e0 _ (by rcases g.1 with g | g <;> omega)]
        exact gj
      · rw [nc'] at hj
        by_cases ej : j = c'
        · subst ej
          rw [y6]; omega
        · rw [y7 _ (by omega)]
          exact g.2.2.2 j hj
