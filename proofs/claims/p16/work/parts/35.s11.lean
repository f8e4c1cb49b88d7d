theorem join_core {P P1 : mP} {s s' : Nat → Int32} {x y a b c : Int} (hT : Typ P) (hJ : Inj P) (hN : SN P s) (hG : GS s) (hc : joinC P P1 x a b c) (hm : joinsM s s' y a b c) : x = y ∧ OUTC P P1 s s' x := by
  have n0 := hN.n0 hG
  have pc := hN.pc hG a
  have pc2 := hN.pc hG b
  rcases hc with ⟨x1, x2, x3⟩ | ⟨x1, x2, x3, x4, x5, x6⟩ | ⟨x1, x2, x3, x4, x5, x6, x7⟩ | ⟨x1, x2, x3, x4, x5, x6, x7, x8, x9, x10, x11, x12, x13, x14⟩ <;> rcases hm with ⟨y1, y2, y3⟩ | ⟨y1, y2, y3, y4, y5, y6⟩ | ⟨y1, y2, y3, y4, y5, y6, y7⟩ | ⟨y1, y2, y3, y4, y5, y6, y7, m, y8, y9, y10, y11, y12, y13⟩
  all_goals try (exfalso; omega)
  · exact ⟨by omega, Or.inl ⟨by omega, by omega, x3, y3⟩⟩
  · exact ⟨by omega, Or.inl ⟨by omega, by omega, x6, y6⟩⟩
  · exact ⟨by omega, Or.inl ⟨by omega, by omega, x7, y7⟩⟩
  · obtain ⟨p, rfl⟩ : ∃ p : Nat, a = p := ⟨a.toNat, by omega⟩
    obtain ⟨q, rfl⟩ : ∃ q : Nat, b = q := ⟨b.toNat, by omega⟩
    obtain ⟨n, en⟩ : ∃ n : Nat, (s 0).toInt = n := ⟨(s 0).toInt.toNat, by omega⟩
    rw [Int.toNat_natCast] at pc pc2
    simp only [Int.toNat_natCast] at x5 x6 x8 x9 x10 x11 x13 x14 y5 y6 y8 y9 y10 y11 y12 y13
    rw [n0.1, en, show ((n : Int) - 1).toNat = n - 1 by omega] at x13
    rw [en, show ((n : Int) - 1).toNat = n - 1 by omega] at y13
    have hp := (hN.2.2.2 p (by omega) (by omega)).nm
    have hq := (hN.2.2.2 q (by omega) (by omega)).nm
    have gp := GP.n.mp (hG.2.2.2 p (by omega))
    have gq := GP.n.mp (hG.2.2.2 q (by omega))
    obtain ⟨z1, ez1⟩ : ∃ z1 : Nat, (s (4 + 19 * p)).toInt = z1 := ⟨(s (4 + 19 * p)).toInt.toNat, by omega⟩
    obtain ⟨z2, ez2⟩ : ∃ z2 : Nat, (s (4 + 19 * q)).toInt = z2 := ⟨(s (4 + 19 * q)).toInt.toNat, by omega⟩
    have c1 : (fv P (rv P 2 p) 1).toInt = z1 := by rw [hp.2.1]; exact ez1
    have c2 : (fv P (rv P 2 q) 1).toInt = z2 := by rw [hq.2.1]; exact ez2
    rw [c1, c2] at x8 x6 x5
    simp only [c1, c2, Int.toNat_natCast] at x11
    simp only [ez1, ez2, Int.toNat_natCast] at y8 y9 y10 y11 y12 y5 y6
    obtain ⟨l1, l2, l3, l4, l5⟩ := x11
    have rp := (rv_np hT p (by omega)).2
    have e0 : ∀ j : Nat, j < 4 + 19 * p → m j = s j := fun j hj => y12 j (by omega) (by omega) (by omega)
    have rcd : ∀ k : Nat, ¬ k = p → ∀ j : Nat, j < 19 → m (3 + 19 * k + j) = s (3 + 19 * k + j) := fun k hk j hj => y12 _ (by omega) (by omega) (by omega)
    have m3 : m (3 + 19 * p) = s (3 + 19 * p) := e0 _ (by omega)
    have m5 : m (5 + 19 * p) = s (5 + 19 * p) := y12 _ (by omega) (by omega) (by omega)
    have ncp := ncS_n (s := s) (p := p)
    have ncq := ncS_n (s := s) (p := q)
    have ncm := ncS_n (s := m) (p := p)
    rw [if_neg (by omega)] at ncp ncq
    rw [m3, if_neg (by omega), y11] at ncm
    have ms : ∀ j : Nat, j < z1 + z2 → m (6 + 19 * p + j) = if j < z1 then s (6 + 19 * p + j) else s (6 + 19 * q + (j - z1)) := fun j hj => by
      by_cases e : j < z1
      · rw [if_pos e]
        exact y12 _ (by omega) (by omega) (by omega)
      · rw [if_neg e, ← y8 (j - z1) (by omega)]
        congr 1
        omega
    have mc : ∀ j : Nat, j + 1 < z1 + z2 → (j + 1 < z1 → m (14 + 19 * p + j) = s (14 + 19 * p + j)) ∧ (j + 1 = z1 → (m (14 + 19 * p + j)).toInt = c) ∧ (z1 ≤ j → m (14 + 19 * p + j) = s (14 + 19 * q + (j - z1))) := fun j hj => by
      refine ⟨fun e => y12 _ (by omega) (by omega) (by omega), fun e => ?_, fun e => ?_⟩
      · rw [← y9]
        congr 2
        omega
      · have := y10 (j - z1 + 1) (by omega) (by omega)
        rw [show 13 + 19 * p + z1 + (j - z1 + 1) = 14 + 19 * p + j by omega, show 13 + 19 * q + (j - z1 + 1) = 14 + 19 * q + (j - z1) by omega] at this
        exact this
    have hpm : PS P1 (rv P 2 p) m (3 + 19 * p) := by
      refine PS.of ⟨by rw [m3, x9]; exact hp.1, Int32.toInt_inj.mp (x8.trans y11.symm), by rw [m5, x10]; exact hp.2.2.1, fun j h1 h2 => ?_, fun j h1 h2 => ?_⟩
      · rw [y11] at h2
        rw [ms j (by omega)]
        by_cases e : j < z1
        · rw [if_pos e, l1 j e]
          exact hp.2.2.2.1 j h1 (by omega)
        · have := l2 (j - z1) (by omega)
          rw [show z1 + (j - z1) = j by omega] at this
          rw [if_neg e, this]
          exact hq.2.2.2.1 _ (by omega) (by omega)
      · have hm := mc j (by omega)
        rcases Nat.lt_trichotomy (j + 1) z1 with e | e | e
        · rw [hm.1 e, l3 j e]
          exact hp.2.2.2.2 j h1 (by omega)
        · have := l4 (by omega)
          rw [show z1 - 1 = j by omega] at this
          exact Int32.toInt_inj.mp (this.trans (hm.2.1 e).symm)
        · have := l5 (j - z1) (by omega)
          rw [show z1 + (j - z1) = j by omega] at this
          rw [hm.2.2 (by omega), this]
          exact hq.2.2.2.2 _ (by omega) (by omega)
    have gm : GPn m p := by
      refine ⟨Or.inl ⟨by rw [m3]; omega, by omega, by omega⟩, by rw [m5]; exact gp.2.1, fun j hj => ?_, fun j hj => ?_⟩
      · rw [ms j (by omega)]
        split
        · exact gp.2.2.1 j (by omega)
        · exact gq.2.2.1 _ (by omega)
      · have hm := mc j (by omega)
        rcases Nat.lt_trichotomy (j + 1) z1 with e | e | e
        · rw [hm.1 e]
          exact gp.2.2.2 j (by omega)
        · rw [hm.2.1 e]
          omega
        · rw [hm.2.2 (by omega)]
          exact gq.2.2.2 _ (by omega)
    have gk : ∀ k : Nat, k < n → GP m (3 + 19 * k) := fun k hk => by
      by_cases e : k = p
      · subst e
        exact GP.n.mpr gm
      · exact (hG.2.2.2 k (by omega)).row (rcd k e)
    have hu := hG.2.2.1
    rw [en, Int.toNat_natCast] at hu
    have m1 : m 1 = s 1 := e0 1 (by omega)
    have m2 : m 2 = s 2 := e0 2 (by omega)
    have eu : smF (fun k => wpM m k) n = smF (fun k => wpM s k) n := smF_congr (fun k hk => by
      show wpM m k = wpM s k
      by_cases e : k = p
      · subst e
        rw [wpM_0 (by rw [m5]; omega), wpM_0 (by omega)]
      · have g := GP.n.mp (hG.2.2.2 k (by omega))
        exact wpM_row (by rcases g.1 with g | g <;> omega) (rcd k e))
    refine ⟨by omega, Or.inr ⟨by omega, x7, SN.del (n := n) (t := q) (m := m) (by omega) (fun k hk hkq => ?_) x13 (by omega) (by omega) y13 (by rw [m1]; exact (x14 1 2 (by omega) (by omega) (by omega) (by omega)).trans hN.2.1) (by rw [m2]; exact (x14 1 3 (by omega) (by omega) (by omega) (by omega)).trans hN.2.2.1), GS.del (n := n) (t := q) (m := m) (by omega) gk (by rw [m1]; exact hG.2.1) (by rw [eu, m1]; exact hu) (by omega) y13⟩⟩
    by_cases e : k = p
    · subst e
      exact hpm
    · have r := (rv_np hT k (by omega)).2
      have d := np_dis hJ hT (show k < 8 by omega) (show p < 8 by omega) e rfl
      have cl : ∀ z j : Nat, rv P 2 k ≤ z → z < rv P 2 k + 3 → fv P1 z j = fv P z j := fun z j h1 h2 => x14 z j (by omega) (by omega) (by omega) (by omega)
      exact (hN.2.2.2 k (by omega) (by omega)).row ⟨cl _ _ (by omega) (by omega), cl _ _ (by omega) (by omega), cl _ _ (by omega) (by omega), fun j _ => cl _ _ (by omega) (by omega), fun j _ => cl _ _ (by omega) (by omega)⟩ (rcd k e)
/-- a piece comes behind the others -/
theorem SN.app {P P1 : mP} {s' : Nat → Int32} {n : Nat} (hn : n ≤ 7) (k1 : (fv P1 1 1).toInt = (n : Int) + 1) (m0 : (s' 0).toInt = (n : Int) + 1) (k2 : fv P1 1 2 = s' 1) (k3 : fv P1 1 3 = s' 2) (fr : ∀ k : Nat, rv P1 2 k = rv P 2 k) (old : ∀ k : Nat, k < n → PS P1 (rv P 2 k) s' (3 + 19 * k)) (new : PS P1 (rv P 2 n) s' (3 + 19 * n)) : SN P1 s' := by
  refine ⟨Int32.toInt_inj.mp (k1.trans m0.symm), k2, k3, fun k hk hz => ?_⟩
  rw [fr k]
  by_cases e : k = n
  · subst e
    exact new
  · exact old k (by omega)
theorem GS.app {s' : Nat → Int32} {n : Nat} (hn : n ≤ 7) (m0 : (s' 0).toInt = (n : Int) + 1) (w1 : 1 ≤ (s' 1).toInt ∧ (s' 1).toInt ≤ 99) (old : ∀ k : Nat, k < n → GP s' (3 + 19 * k)) (new : GPn s' n) (uf : ¬ (s' (5 + 19 * n)).toInt = 1) (hu : (smF (fun k => wpM s' k) n).toInt ≤ (s' 1).toInt) : GS s' := by
  refine ⟨by omega, w1, ?_, fun k hk => ?_⟩
  · rw [show (s' 0).toInt.toNat = n + 1 by omega]
    show (smF (fun k => wpM s' k) n + wpM s' n).toInt ≤ _
    rw [wpM_0 uf, Int32.add_zero]
    exact hu
  · by_cases e : k = n
    · subst e
      exact GP.n.mpr new
    · exact old k (by omega)
theorem add_core {P P1 : mP} {s s' : Nat → Int32} {x y a b c : Int} (hT : Typ P) (hN : SN P s) (hG : GS s) (hc : addC P P1 x a b c) (hm : addsToldM s s' y a b c) : x = y ∧ OUTC P P1 s s' x := by
  have n0 := hN.n0 hG
  rcases hc with ⟨x1, x2, x3⟩ | ⟨x1, x2, x3, x4⟩ | ⟨x1, x2, x3, x4, x5, x6, ⟨d, x7, x8, x9, x10, x11, x12, x13⟩, x14, x15⟩
  · rcases hm with ⟨y1, y2, y3⟩ | ⟨y1, ⟨e, y2⟩, y3, y4⟩ | ⟨y1, y2, y3, ⟨e, y4, y5, _⟩, _⟩
    · exact ⟨by omega, Or.inl ⟨by omega, by omega, x3, y3⟩⟩
    · exact absurd y2 (x2 e)
    · exact absurd ⟨y4, y5⟩ (x2 e)
  · obtain ⟨e0, x2⟩ := x2
    rcases hm with ⟨y1, y2, y3⟩ | ⟨y1, y2, y3, y4⟩ | ⟨y1, _⟩
    · exact absurd x2 (y2 e0)
    · clear y2
      exact ⟨by omega, Or.inl ⟨by omega, by omega, x4, y4⟩⟩
    · omega
  · rcases hm with ⟨y1, y2, y3⟩ | ⟨y1, y2, y3, y4⟩ | ⟨y1, y2, y3, ⟨e, y4, y5, y6, y7, y8, y9, y10⟩, y11⟩
    · exact absurd ⟨x7, x8⟩ (y2 d)
    · clear y2
      omega
    · have ed := x7.1.1.uniq y4.1.1
      subst ed
      obtain ⟨n, en⟩ : ∃ n : Nat, (s 0).toInt = n := ⟨(s 0).toInt.toNat, by omega⟩
      rw [n0.1, en, Int.toNat_natCast] at x9 x10 x11
      simp only [n0.1, en, Int.toNat_natCast] at x12 x13
      simp only [en, Int.toNat_natCast] at y6 y7 y8 y9 y10 y11
      have rcd : ∀ k : Nat, k < n → ∀ j : Nat, j < 19 → s' (3 + 19 * k + j) = s (3 + 19 * k + j) := fun k hk j hj => y11 _ (by omega) (by omega)
      have hd := x7.1.2
      have hk := x7.2
      have nl := nC_le (kd := a) (c := d)
      have nc : ((nC a d : Nat) : Int) = ncS s' (3 + 19 * n) := by
        rw [ncS_n, y6, y7]
        unfold nC
        rcases hk with h | h
        · rw [if_pos h.1, if_neg (by omega)]
          omega
        · rw [if_neg (by omega), if_pos h.1]
          omega
      have e1 : s' 1 = s 1 := y11 1 (by omega) (by omega)
      have e2 : s' 2 = s 2 := y11 2 (by omega) (by omega)
      have hu := hG.2.2.1
      rw [en, Int.toNat_natCast] at hu
      have k12 : fv P1 1 2 = fv P 1 2 := Int32.toInt_inj.mp x5
      have k13 : fv P1 1 3 = fv P 1 3 := Int32.toInt_inj.mp x6
      refine ⟨by omega, Or.inr ⟨by omega, x3, SN.app (n := n) (P := P) (by omega) (by omega) (by omega) (by rw [k12, e1]; exact hN.2.1) (by rw [k13, e2]; exact hN.2.2.1) x15 (fun k hk => ?_) (PS.of ⟨Int32.toInt_inj.mp (x9.trans y6.symm), Int32.toInt_inj.mp (x11.trans y7.symm), Int32.toInt_inj.mp (x10.trans y8.symm), fun j h1 h2 => ?_, fun j h1 h2 => ?_⟩), GS.app (n := n) (by omega) (by omega) (by rw [e1]; exact hG.2.1) (fun k hk => (hG.2.2.2 k (by omega)).row (rcd k hk)) ⟨?_, by rw [y8]; omega, fun j hj => ?_, fun j hj => ?_⟩ (by rw [y8]; decide) ?_⟩⟩
      · have r := (rv_np hT k (by omega)).2
        have q := x14 k (by omega) (by omega)
        exact (hN.2.2.2 k (by omega) (by omega)).row ⟨q.1, q.2.1 (by omega), q.2.2.1, q.2.2.2.1, q.2.2.2.2⟩ (rcd k hk)
      · rw [y7] at h2
        rw [x12 j (by omega), y9 j (by omega)]
      · rw [x13 j (by omega), y10 j (by omega)]
      · rw [y6, y7]
        rcases hk with h | h
        · exact Or.inl ⟨h.1, by omega, by omega⟩
        · exact Or.inr ⟨h.1, by omega, by omega⟩
      · rw [y7] at hj
        rw [y9 j (by omega), dgI_ti]
        omega
      · rw [y10 j (by omega), dgI_ti]
        have := x8.2.2 (nC a d - 1 - j) (by omega)
        omega
      · rw [e1, smF_congr (g := fun k => wpM s k) (fun k hk => ?_)]
        · exact hu
        · have g := GP.n.mp (hG.2.2.2 k (by omega))
          exact wpM_row (by rcases g.1 with g | g <;> omega) (rcd k hk)
theorem cut_core {P P1 : mP} {s s' : Nat → Int32} {x y a b : Int} (hT : Typ P) (hJ : Inj P) (hN : SN P s) (hG : GS s) (hc : cutC P P1 x a b) (hm : cutsM s s' y a b) : x = y ∧ OUTC P P1 s s' x := by
  have n0 := hN.n0 hG
  have pc := hN.pc hG a
  rcases hc with ⟨x1, x2, x3⟩ | ⟨x1, x2, x3, x4, x5⟩ | ⟨x1, x2, x3, x4, x5, x6, x7, x8, x9, x10, x11, x12, x13, x14, x15, x16⟩ <;> rcases hm with ⟨y1, y2, y3⟩ | ⟨y1, y2, y3, y4, y5⟩ | ⟨y1, y2, y3, y4, y5, y6, y7, y8, y9, y10, y11, y12⟩
  all_goals try (exfalso; omega)
  · exact ⟨by omega, Or.inl ⟨by omega, by omega, x3, y3⟩⟩
  · exact ⟨by omega, Or.inl ⟨by omega, by omega, x5, y5⟩⟩
  · obtain ⟨p, rfl⟩ : ∃ p : Nat, a = p := ⟨a.toNat, by omega⟩
    obtain ⟨n, en⟩ : ∃ n : Nat, (s 0).toInt = n := ⟨(s 0).toInt.toNat, by omega⟩
    simp only [Int.toNat_natCast, n0.1, en] at x9 x10 x11 x12 x13 x14 x15
    simp only [Int.toNat_natCast, en] at y6 y7 y8 y9 y10 y11 y12
    rw [Int.toNat_natCast] at x2 x3 y2 y3 pc
    have hp := (hN.2.2.2 p (by omega) (by omega)).nm
    have gp := GP.n.mp (hG.2.2.2 p (by omega))
    have rp := (rv_np hT p (by omega)).2
    rw [hp.2.1] at x12
    simp only [hp.2.1] at x13 x14
    have rcd : ∀ k : Nat, k < n → ¬ k = p → ∀ j : Nat, j < 19 → s' (3 + 19 * k + j) = s (3 + 19 * k + j) := fun k hk hkp j hj => y12 _ (by omega) (by omega) (by omega)
    have e0 : ∀ j : Nat, ¬ j = 0 → ¬ j = 4 + 19 * p → j < 22 + 19 * p → s' j = s j := fun j h1 h2 h3 => y12 j h1 h2 (by omega)
    have ncp := ncS_n (s := s) (p := p)
    have ncp' := ncS_n (s := s') (p := p)
    have ncn := ncS_n (s := s') (p := n)
    rw [if_neg (by omega)] at ncp
    rw [e0 (3 + 19 * p) (by omega) (by omega) (by omega), if_neg (by omega), y6] at ncp'
    rw [y7, if_neg (by omega), y8] at ncn
    have e1 : s' 1 = s 1 := e0 1 (by omega) (by omega) (by omega)
    have e2 : s' 2 = s 2 := e0 2 (by omega) (by omega) (by omega)
    have hu := hG.2.2.1
    rw [en, Int.toNat_natCast] at hu
    have k12 : fv P1 1 2 = fv P 1 2 := Int32.toInt_inj.mp x7
    have k13 : fv P1 1 3 = fv P 1 3 := Int32.toInt_inj.mp x8
    have gpn : GPn s' p := by
      refine ⟨by rw [e0 _ (by omega) (by omega) (by omega), y6]; exact Or.inl ⟨by omega, by omega, by omega⟩, by rw [e0 _ (by omega) (by omega) (by omega)]; exact gp.2.1, fun j hj => ?_, fun j hj => ?_⟩
      · rw [y6] at hj
        rw [e0 _ (by omega) (by omega) (by omega)]
        exact gp.2.2.1 j (by omega)
      · rw [e0 _ (by omega) (by omega) (by omega)]
        exact gp.2.2.2 j (by omega)
    refine ⟨by omega, Or.inr ⟨by omega, x5, SN.app (n := n) (P := P) (by omega) (by omega) (by omega) (by rw [k12, e1]; exact hN.2.1) (by rw [k13, e2]; exact hN.2.2.1) x16 (fun k hk => ?_) (PS.of ⟨Int32.toInt_inj.mp (x10.trans y7.symm), Int32.toInt_inj.mp (x12.trans y8.symm), Int32.toInt_inj.mp (x11.trans y9.symm), fun j h1 h2 => ?_, fun j h1 h2 => ?_⟩), GS.app (n := n) (by omega) (by omega) (by rw [e1]; exact hG.2.1) (fun k hk => ?_) ⟨?_, by rw [y9]; omega, fun j hj => ?_, fun j hj => ?_⟩ (by rw [y9]; decide) ?_⟩⟩
    · have r := (rv_np hT k (by omega)).2
      have q := x15 k (by omega) (by omega)
      by_cases e : k = p
      · subst e
        refine PS.of ⟨?_, Int32.toInt_inj.mp (x9.trans y6.symm), ?_, fun j h1 h2 => ?_, fun j h1 h2 => ?_⟩
        · rw [q.1, e0 _ (by omega) (by omega) (by omega)]
          exact hp.1
        · rw [q.2.2.1, e0 _ (by omega) (by omega) (by omega)]
          exact hp.2.2.1
        · rw [y6] at h2
          rw [q.2.2.2.1 j h1, e0 _ (by omega) (by omega) (by omega)]
          exact hp.2.2.2.1 j h1 (by omega)
        · rw [q.2.2.2.2 j h1, e0 _ (by omega) (by omega) (by omega)]
          exact hp.2.2.2.2 j h1 (by omega)
      · have d := np_dis hJ hT (show k < 8 by omega) (show p < 8 by omega) e rfl
        exact (hN.2.2.2 k (by omega) (by omega)).row ⟨q.1, q.2.1 (by omega), q.2.2.1, q.2.2.2.1, q.2.2.2.2⟩ (rcd k hk e)
    · rw [y8] at h2
      rw [x13 j h1 h2, y10 j h1 h2, show 6 + 19 * p + (b + 1).toNat + j = 6 + 19 * p + ((b + 1).toNat + j) by omega]
      exact hp.2.2.2.1 _ (by omega) (by omega)
    · rw [x14 j h1 (by omega), y11 j h1 (by omega), show 14 + 19 * p + (b + 1).toNat + j = 14 + 19 * p + ((b + 1).toNat + j) by omega]
      exact hp.2.2.2.2 _ (by omega) (by omega)
    · by_cases e : k = p
      · subst e
        exact GP.n.mpr gpn
      · exact (hG.2.2.2 k (by omega)).row (rcd k hk e)
    · rw [y7, y8]
      exact Or.inl ⟨rfl, by omega, by omega⟩
    · rw [y8] at hj
      rw [y10 j (by omega) hj, show 6 + 19 * p + (b + 1).toNat + j = 6 + 19 * p + ((b + 1).toNat + j) by omega]
      exact gp.2.2.1 _ (by omega)
    · rw [y11 j (by omega) (by omega), show 14 + 19 * p + (b + 1).toNat + j = 14 + 19 * p + ((b + 1).toNat + j) by omega]
      exact gp.2.2.2 _ (by omega)
    · rw [e1, smF_congr (g := fun k => wpM s k) (fun k hk => ?_)]
      · exact hu
      · show wpM s' k = wpM s k
        by_cases e : k = p
        · subst e
          rw [wpM_0 (by rw [e0 _ (by omega) (by omega) (by omega)]; omega), wpM_0 (by omega)]
        · have g := GP.n.mp (hG.2.2.2 k (by omega))
          exact wpM_row (by rcases g.1 with g | g <;> omega) (rcd k hk e)
