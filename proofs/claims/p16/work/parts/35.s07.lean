theorem cntF_congr {f g : Nat → Int32} {c : Int} {n : Nat} (h : ∀ j : Nat, j < n → f j = g j) : cntF f c n = cntF g c n := by
  induction n with
  | zero => rfl
  | succ n ih =>
    show (if (f n).toInt = c then _ else _) = if (g n).toInt = c then _ else _
    rw [ih (fun j hj => h j (by omega)), h n (by omega)]
theorem cntF_bnd {f : Nat → Int32} {c : Int} {n : Nat} : 0 ≤ cntF f c n ∧ cntF f c n ≤ n := by
  induction n with
  | zero => exact ⟨Int.le_refl _, Int.le_refl _⟩
  | succ n ih =>
    show 0 ≤ (if (f n).toInt = c then cntF f c n + 1 else cntF f c n) ∧ (if (f n).toInt = c then cntF f c n + 1 else cntF f c n) ≤ _
    split <;> omega
theorem fl_eq {x : Int32} (h : 0 ≤ x.toInt ∧ x.toInt ≤ 2) : flI x = flM x ∧ 0 ≤ (flI x).toInt ∧ (flI x).toInt ≤ 2 := by
  have c : x = 0 ∨ x = 1 ∨ x = 2 := by
    have : x.toInt = 0 ∨ x.toInt = 1 ∨ x.toInt = 2 := by omega
    rcases this with e | e | e
    · exact Or.inl (Int32.toInt_inj.mp e)
    · exact Or.inr (Or.inl (Int32.toInt_inj.mp e))
    · exact Or.inr (Or.inr (Int32.toInt_inj.mp e))
  rcases c with rfl | rfl | rfl
  · exact ⟨rfl, by decide, by decide⟩
  · exact ⟨rfl, by decide, by decide⟩
  · exact ⟨rfl, by decide, by decide⟩
theorem turn_core {P P1 : mP} {s s' : Nat → Int32} {x y a : Int} (hT : Typ P) (hJ : Inj P) (hN : SN P s) (hG : GS s) (hc : turnC P P1 x a) (hm : turnsM s s' y a) : x = y ∧ OUTC P P1 s s' x := by
  have n0 := hN.n0 hG
  have pc := hN.pc hG a
  rcases hc with ⟨x1, x2, x3⟩ | ⟨x1, x2, x3, x4⟩ | ⟨x1, x2, x3, x4, x5, x6, x7⟩ <;> rcases hm with ⟨y1, y2, y3⟩ | ⟨y1, y2, y3, y4⟩ | ⟨y1, y2, y3, y4, y5⟩
  all_goals try (exfalso; omega)
  · exact ⟨by omega, Or.inl ⟨by omega, by omega, x3, y3⟩⟩
  · exact ⟨by omega, Or.inl ⟨by omega, by omega, x4, y4⟩⟩
  · obtain ⟨p, rfl⟩ : ∃ p : Nat, a = p := ⟨a.toNat, by omega⟩
    rw [Int.toNat_natCast] at x2 x3 x5 x6 y2 y3 y4 y5 pc
    have q := (hN.2.2.2 p (by omega) (by omega)).nm
    have g := GP.n.mp (hG.2.2.2 p (by omega))
    have r := (rv_np hT p (by omega)).2
    have nc := ncS_nC g
    rw [q.1, q.2.1] at x3 x5
    have nn : ncS s (3 + 19 * p) ≤ 8 := by have := ncS_le (s := s) (o := 3 + 19 * p); rw [show 3 + 19 * p + 1 = 4 + 19 * p by omega] at this; rcases g.1 with g | g <;> omega
    have ecr : ∀ j : Nat, j < nC (s (3 + 19 * p)).toInt (s (4 + 19 * p)).toInt → fv P1 (rv P 2 p + 2) j = s' (14 + 19 * p + j) ∧ 0 ≤ (s' (14 + 19 * p + j)).toInt ∧ (s' (14 + 19 * p + j)).toInt ≤ 2 := fun j hj => by
      have e := q.2.2.2.2 j (by omega) (by omega)
      have f := fl_eq (g.2.2.2 j (by omega))
      have h1 : fv P1 (rv P 2 p + 2) j = flI (fv P (rv P 2 p + 2) j) := x5.1 j hj
      rw [h1, e, y4 j hj, ← f.1]
      exact ⟨rfl, f.2⟩
    have e0 : ∀ j : Nat, j < 14 + 19 * p → s' j = s j := fun j hj => y5 j (by omega)
    have nc' : ncS s' (3 + 19 * p) = ncS s (3 + 19 * p) := by rw [ncS_n, ncS_n, e0 _ (by omega), e0 _ (by omega)]
    have ec := cntF_congr (c := 0) (f := fun j => fv P1 (rv P 2 p + 2) j) (g := fun j => s' (14 + 19 * p + j)) (n := nC (s (3 + 19 * p)).toInt (s (4 + 19 * p)).toInt) (fun j hj => (ecr j hj).1)
    have bc := cntF_bnd (c := 0) (f := fun j => s' (14 + 19 * p + j)) (n := nC (s (3 + 19 * p)).toInt (s (4 + 19 * p)).toInt)
    rw [ec] at x3
    have hx0 : (if (s (3 + 19 * p)).toInt = 0 then (s (4 + 19 * p)).toInt - 1 else (s (4 + 19 * p)).toInt) = ncS s (3 + 19 * p) := by
      rw [ncS_n]
      rcases g.1 with g | g
      · rw [if_pos g.1, if_neg (by omega)]
      · rw [if_neg (by omega), if_pos g.1]
        omega
    refine ⟨x3.trans y3.symm, OUTC.one hT hJ hN hG (p := p) (by omega) (by rw [x3, hx0]; omega) x4 (fun z j h1 h2 h3 => x6 z j (by omega) h2 (by omega)) (fun j => x6 1 j (by omega) (by omega) (by omega)) x7 (fun j hj => e0 j (by omega)) (fun j h1 h2 => y5 j (by rcases h2 with h2 | h2 <;> omega)) (PS.of ?_) ?_ (by omega) (by rw [e0 _ (by omega)]; omega)⟩
    · refine ⟨?_, ?_, ?_, fun j h1 h2 => ?_, fun j h1 h2 => ?_⟩
      · rw [e0 _ (by omega), x6 _ _ (by omega) (by omega) (by omega)]; exact q.1
      · rw [e0 _ (by omega), x6 _ _ (by omega) (by omega) (by omega)]; exact q.2.1
      · rw [e0 _ (by omega), x6 _ _ (by omega) (by omega) (by omega)]; exact q.2.2.1
      · rw [e0 _ (by omega)] at h2
        rw [e0 _ (by omega), x6 _ _ (by omega) (by omega) (by omega)]
        exact q.2.2.2.1 j h1 h2
      · rw [nc'] at h2
        exact (ecr j (by omega)).1
    · refine ⟨by rw [e0 _ (by omega), e0 _ (by omega)]; exact g.1, by rw [e0 _ (by omega)]; exact g.2.1, fun j hj => ?_, fun j hj => ?_⟩
      · rw [e0 _ (by omega)] at hj
        rw [e0 _ (by rcases g.1 with g | g <;> omega)]
        exact g.2.2.1 j hj
      · rw [nc'] at hj
        exact (ecr j (by omega)).2
theorem RTX_eq {c n : Int} {j : Nat} (h0 : 0 ≤ c) (h1 : c < n) (hj : (j : Int) < n) : RTX c n j = (if c.toNat + j < n.toNat then c.toNat + j else c.toNat + j - n.toNat) := by
  unfold RTX
  split
  · rw [Int.emod_eq_of_lt (by omega) (by omega)]
    omega
  · rw [show c + j = (c + j - n) + n by omega, Int.add_emod_right, Int.emod_eq_of_lt (by omega) (by omega)]
    omega
def pw : Nat → Int
  | 0 => 1
  | n + 1 => 10 * pw n
theorem pw_le {n : Nat} (h : n ≤ 8) : 1 ≤ pw n ∧ pw n ≤ 100000000 := by
  have := (show (List.range 9).all (fun n => decide (1 ≤ pw n ∧ pw n ≤ 100000000)) = true by decide)
  exact of_decide_eq_true (List.all_eq_true.mp this n (List.mem_range.mpr (by omega)))
theorem nmF_bnd {f : Nat → Int32} {n : Nat} (h8 : n ≤ 8) (h : ∀ j : Nat, j < n → 0 ≤ (f j).toInt ∧ (f j).toInt ≤ 9) : 0 ≤ (nmF f n).toInt ∧ (nmF f n).toInt + 1 ≤ pw n := by
  induction n with
  | zero => exact ⟨Int.le_refl _, Int.le_refl _⟩
  | succ n ih =>
    have i := ih (by omega) (fun j hj => h j (by omega))
    have b := h n (by omega)
    have p := pw_le (n := n) (by omega)
    have h10 : (10 : Int32).toInt = 10 := by decide
    have e1 : (nmF f n * 10).toInt = (nmF f n).toInt * 10 := ti_mul rfl h10 (by omega) (by omega)
    have e2 : (nmF f n * 10 + f n).toInt = (nmF f n).toInt * 10 + (f n).toInt := ti_add e1 rfl (by omega) (by omega)
    show 0 ≤ (nmF f n * 10 + f n).toInt ∧ (nmF f n * 10 + f n).toInt + 1 ≤ 10 * pw n
    omega
theorem rotate_core {P P1 : mP} {s s' : Nat → Int32} {x y a b : Int} (hT : Typ P) (hJ : Inj P) (hN : SN P s) (hG : GS s) (hc : rotateC P P1 x a b) (hm : rotatesM s s' y a b) : x = y ∧ OUTC P P1 s s' x := by
  have n0 := hN.n0 hG
  have pc := hN.pc hG a
  rcases hc with ⟨x1, x2, x3⟩ | ⟨x1, x2, x3, x4, x5⟩ | ⟨x1, x2, x3, x4, x5, x6, x7, x8, x9, x10⟩ <;> rcases hm with ⟨y1, y2, y3⟩ | ⟨y1, y2, y3, y4, y5⟩ | ⟨y1, y2, y3, y4, y5, y6, y7, y8⟩
  all_goals try (exfalso; omega)
  · exact ⟨by omega, Or.inl ⟨by omega, by omega, x3, y3⟩⟩
  · exact ⟨by omega, Or.inl ⟨by omega, by omega, x5, y5⟩⟩
  · obtain ⟨p, rfl⟩ : ∃ p : Nat, a = p := ⟨a.toNat, by omega⟩
    rw [Int.toNat_natCast] at x2 x3 x4 x5 x7 x8 x9 y2 y3 y4 y5 y6 y7 y8 pc
    have q := (hN.2.2.2 p (by omega) (by omega)).nm
    have g := GP.n.mp (hG.2.2.2 p (by omega))
    have r := (rv_np hT p (by omega)).2
    have ncs := ncS_n (s := s) (p := p)
    rw [if_pos y4] at ncs
    rw [q.2.1] at x5 x7 x8
    have rt : ∀ j : Nat, (j : Int) < (s (4 + 19 * p)).toInt → RTX b (s (4 + 19 * p)).toInt j = (if b.toNat + j < (s (4 + 19 * p)).toInt.toNat then b.toNat + j else b.toNat + j - (s (4 + 19 * p)).toInt.toNat) ∧ (RTX b (s (4 + 19 * p)).toInt j : Int) < (s (4 + 19 * p)).toInt := fun j hj => by
      have e := RTX_eq (c := b) (n := (s (4 + 19 * p)).toInt) (j := j) (by omega) (by omega) hj
      refine ⟨e, ?_⟩
      rw [e]
      split <;> omega
    have es : ∀ j : Nat, j < (s (4 + 19 * p)).toInt.toNat → fv P1 (rv P 2 p + 1) j = s' (6 + 19 * p + j) ∧ s' (6 + 19 * p + j) = s (6 + 19 * p + RTX b (s (4 + 19 * p)).toInt j) := fun j hj => by
      have e := rt j (by omega)
      have h1 : fv P1 (rv P 2 p + 1) j = fv P (rv P 2 p + 1) (if b.toNat + j < (s (4 + 19 * p)).toInt.toNat then b.toNat + j else b.toNat + j - (s (4 + 19 * p)).toInt.toNat) := x7.1 j hj
      rw [← e.1] at h1
      exact ⟨by rw [h1, q.2.2.2.1 _ (by omega) e.2, y6 j hj], y6 j hj⟩
    have ec : ∀ j : Nat, j < (s (4 + 19 * p)).toInt.toNat → fv P1 (rv P 2 p + 2) j = s' (14 + 19 * p + j) ∧ s' (14 + 19 * p + j) = s (14 + 19 * p + RTX b (s (4 + 19 * p)).toInt j) := fun j hj => by
      have e := rt j (by omega)
      have h1 : fv P1 (rv P 2 p + 2) j = fv P (rv P 2 p + 2) (if b.toNat + j < (s (4 + 19 * p)).toInt.toNat then b.toNat + j else b.toNat + j - (s (4 + 19 * p)).toInt.toNat) := x8.1 j hj
      rw [← e.1] at h1
      exact ⟨by rw [h1, q.2.2.2.2 _ (by omega) (by omega), y7 j hj], y7 j hj⟩
    have e0 : ∀ j : Nat, j < 6 + 19 * p → s' j = s j := fun j hj => y8 j (by omega) (by omega)
    have nc' : ncS s' (3 + 19 * p) = ncS s (3 + 19 * p) := by rw [ncS_n, ncS_n, e0 _ (by omega), e0 _ (by omega)]
    have ex : nmF (fun j => fv P1 (rv P 2 p + 1) j) (s (4 + 19 * p)).toInt.toNat = nmF (fun j => s (6 + 19 * p + RTX b (s (4 + 19 * p)).toInt j)) (s (4 + 19 * p)).toInt.toNat := nmF_congr (fun j hj => (es j hj).1.trans (es j hj).2)
    have bn := nmF_bnd (f := fun j => s (6 + 19 * p + RTX b (s (4 + 19 * p)).toInt j)) (n := (s (4 + 19 * p)).toInt.toNat) (by omega) (fun j hj => g.2.2.1 _ (rt j (by omega)).2)
    rw [ex] at x5
    refine ⟨x5.trans y5.symm, OUTC.one hT hJ hN hG (p := p) (by omega) (by omega) x6 (fun z j h1 h2 h3 => x9 z j (by omega) h2 (by omega) (by omega)) (fun j => x9 1 j (by omega) (by omega) (by omega) (by omega)) x10 (fun j hj => e0 j (by omega)) (fun j h1 h2 => y8 j (by rcases h2 with h2 | h2 <;> omega) (by rcases h2 with h2 | h2 <;> omega)) (PS.of ?_) ?_ (by omega) (by rw [e0 _ (by omega)]; omega)⟩
    · refine ⟨?_, ?_, ?_, fun j h1 h2 => ?_, fun j h1 h2 => ?_⟩
      · rw [e0 _ (by omega), x9 _ _ (by omega) (by omega) (by omega) (by omega)]; exact q.1
      · rw [e0 _ (by omega), x9 _ _ (by omega) (by omega) (by omega) (by omega)]; exact q.2.1
      · rw [e0 _ (by omega), x9 _ _ (by omega) (by omega) (by omega) (by omega)]; exact q.2.2.1
      · rw [e0 _ (by omega)] at h2
        exact (es j (by omega)).1
      · rw [nc'] at h2
        exact (ec j (by omega)).1
    · refine ⟨by rw [e0 _ (by omega), e0 _ (by omega)]; exact g.1, by rw [e0 _ (by omega)]; exact g.2.1, fun j hj => ?_, fun j hj => ?_⟩
      · rw [e0 _ (by omega)] at hj
        rw [(es j (by omega)).2]
        exact g.2.2.1 _ (rt j hj).2
      · rw [nc'] at hj
        rw [(ec j (by omega)).2]
        exact g.2.2.2 _ (by have := (rt j (by omega)).2; omega)
