theorem fold_core {P P1 : mP} {s s' : Nat → Int32} {x y a : Int} (hT : Typ P) (hJ : Inj P) (hN : SN P s) (hG : GS s) (hc : foldC P P1 x a) (hm : foldsM s s' y a) : x = y ∧ OUTC P P1 s s' x := by
  have n0 := hN.n0 hG
  have pc := hN.pc hG a
  by_cases hv : a < 0 ∨ (s 0).toInt ≤ a
  · rcases hc with ⟨x1, x2, x3⟩ | ⟨x1, x2, x3, x4⟩ | ⟨x1, x2, x3, x4, x5, x6, x7, x8, x9, x10⟩
    · rcases hm with ⟨y1, y2, y3⟩ | ⟨y1, y2, y3, y4⟩ | ⟨y1, y2, y3, y4, y5, y6, y7, y8⟩
      · exact ⟨by omega, Or.inl ⟨by omega, by omega, x3, y3⟩⟩
      · clear y3
        omega
      · omega
    · clear x3
      omega
    · omega
  · obtain ⟨p, rfl⟩ : ∃ p : Nat, a = p := ⟨a.toNat, by omega⟩
    unfold foldC at hc
    unfold foldsM at hm
    rw [Int.toNat_natCast] at hc hm pc
    have q := (hN.2.2.2 p (by omega) (by omega)).nm
    have g := GP.n.mp (hG.2.2.2 p (by omega))
    have r := (rv_np hT p (by omega)).2
    have nc := ncS_nC g
    have nn : ncS s (3 + 19 * p) ≤ 8 := by have := ncS_le (s := s) (o := 3 + 19 * p); rw [show 3 + 19 * p + 1 = 4 + 19 * p by omega] at this; rcases g.1 with g | g <;> omega
    have wy : ∀ {w w' : Int}, WYf cC eC (fv P (rv P 2 p) 0).toInt (fv P (rv P 2 p) 1).toInt (fun j => fv P (rv P 2 p + 1) j) (fun j => fv P (rv P 2 p + 2) j) w → WYf cM eM (s (3 + 19 * p)).toInt (s (4 + 19 * p)).toInt (fun j => s (6 + 19 * p + j)) (fun j => s (14 + 19 * p + j)) w' → w = w' := by
      intro w w' h k
      rw [q.1, q.2.1] at h
      exact WY_uniq (by rcases g.1 with g | g <;> omega) (by rcases g.1 with g | g <;> omega) (fun j hj => q.2.2.2.1 j (by rcases g.1 with g | g <;> omega) hj) (fun j hj => q.2.2.2.2 j (by omega) (by omega)) (fun j hj => by
        have e := q.2.2.2.2 j (by omega) (by omega)
        show 0 ≤ (fv P (rv P 2 p + 2) j).toInt ∧ (fv P (rv P 2 p + 2) j).toInt ≤ 2
        rw [e]
        exact g.2.2.2 j (by omega)) h k
    have eo := occ_eq hN hG (n := (fv P 1 1).toInt.toNat) (by omega)
    have ew : wdF (fv P (rv P 2 p) 0).toInt (fun j => fv P (rv P 2 p + 1) j) (fv P (rv P 2 p) 1).toInt.toNat = wdF (s (3 + 19 * p)).toInt (fun j => s (6 + 19 * p + j)) (s (4 + 19 * p)).toInt.toNat := wdF_congr (by rw [q.1]) (by rw [q.2.1]) (fun j hj => q.2.2.2.1 j (by rcases g.1 with g | g <;> omega) (by omega))
    rw [eo, ew, n0.1, hN.2.1] at hc
    rcases hc with ⟨x1, x2, x3⟩ | ⟨x1, x2, x3, x4⟩ | ⟨x1, x2, x3, x4, x5, x6, x7, x8, x9, x10⟩
    · omega
    · rcases hm with ⟨y1, y2, y3⟩ | ⟨y1, y2, y3, y4⟩ | ⟨y1, y2, y3, y4, y5, y6, y7, y8⟩
      · omega
      · exact ⟨by omega, Or.inl ⟨by omega, by omega, x4, y4⟩⟩
      · exfalso
        rcases x3 with x3 | ⟨w, x3, x3'⟩ | ⟨x3, x3'⟩
        · omega
        · exact x3' (wy x3 y3)
        · omega
    · rcases hm with ⟨y1, y2, y3⟩ | ⟨y1, y2, y3, y4⟩ | ⟨y1, y2, y3, y4, y5, y6, y7, y8⟩
      · omega
      · exfalso
        rcases y3 with y3 | ⟨w, y3, y3'⟩ | ⟨y3, y3'⟩
        · omega
        · exact y3' (wy x3 y3).symm
        · omega
      · have e0 : ∀ j : Nat, ¬ j = 5 + 19 * p → ¬ j = 2 → s' j = s j := y8
        have nc' : ncS s' (3 + 19 * p) = ncS s (3 + 19 * p) := by rw [ncS_n, ncS_n, e0 _ (by omega) (by omega), e0 _ (by omega) (by omega)]
        have hq : PS P1 (rv P 2 p) s' (3 + 19 * p) := by
          refine PS.of ⟨?_, ?_, ?_, fun j h1 h2 => ?_, fun j h1 h2 => ?_⟩
          · rw [e0 _ (by omega) (by omega), x9 _ _ (by omega) (by omega) (by omega) (by omega)]; exact q.1
          · rw [e0 _ (by omega) (by omega), x9 _ _ (by omega) (by omega) (by omega) (by omega)]; exact q.2.1
          · exact Int32.toInt_inj.mp (x7.trans y6.symm)
          · rw [e0 _ (by omega) (by omega)] at h2
            rw [e0 _ (by omega) (by omega), x9 _ _ (by omega) (by omega) (by omega) (by omega)]
            exact q.2.2.2.1 j h1 h2
          · rw [nc'] at h2
            rw [e0 _ (by omega) (by omega), x9 _ _ (by omega) (by omega) (by omega) (by omega)]
            exact q.2.2.2.2 j h1 h2
        have gp : GPn s' p := by
          refine ⟨by rw [e0 _ (by omega) (by omega), e0 _ (by omega) (by omega)]; exact g.1, by rw [show (s' (5 + 19 * p)).toInt = 1 from y6]; omega, fun j hj => ?_, fun j hj => ?_⟩
          · rw [e0 _ (by omega) (by omega)] at hj
            rw [e0 _ (by omega) (by omega)]
            exact g.2.2.1 j hj
          · rw [nc'] at hj
            rw [e0 _ (by omega) (by omega)]
            exact g.2.2.2 j hj
        have h0 : (0 : Int32).toInt = 0 := rfl
        have wd := (hG.2.2.2 p (by omega)).wd
        have ub := used_bnd hG
        have gb := hG.2.1
        have m1 : ∀ j : Nat, 3 ≤ j → (j < 3 + 19 * p ∨ 22 + 19 * p ≤ j) → s' j = s j := fun j h1 h2 => e0 j (by rcases h2 with h2 | h2 <;> omega) (by omega)
        have ewp : wpM s' p = wdF (s (3 + 19 * p)).toInt (fun j => s (6 + 19 * p + j)) (s (4 + 19 * p)).toInt.toNat := by
          unfold wpM
          rw [if_pos (show (s' (5 + 19 * p)).toInt = 1 from y6), e0 _ (by omega) (by omega), e0 _ (by omega) (by omega)]
          exact wdF_congr rfl rfl (fun j hj => e0 _ (by omega) (by omega))
        have el : (smF (fun k => wpM s k) (s 0).toInt.toNat + wdF (s (3 + 19 * p)).toInt (fun j => s (6 + 19 * p + j)) (s (4 + 19 * p)).toInt.toNat - s 1).toInt = (smF (fun k => wpM s k) (s 0).toInt.toNat).toInt + (wdF (s (3 + 19 * p)).toInt (fun j => s (6 + 19 * p + j)) (s (4 + 19 * p)).toInt.toNat).toInt - (s 1).toInt := ti_sub (ti_add rfl rfl (by omega) (by omega)) rfl (by omega) (by omega)
        rw [el] at x4
        have hN' : SN P1 s' := SN.one hT hJ hN (by omega) (fun z j h1 h2 h3 => x9 z j (by omega) h2 (by omega) (by omega)) (x9 1 1 (by omega) (by omega) (by omega) (by omega)) x10 (e0 0 (by omega) (by omega)) m1 ((x9 1 2 (by omega) (by omega) (by omega) (by omega)).trans (hN.2.1.trans (e0 1 (by omega) (by omega)).symm)) (x8.trans ((congrArg (· + 1) hN.2.2.1).trans y7.symm)) hq
        have hG' : GS s' := hG.one (by omega) (e0 0 (by omega) (by omega)) m1 (by rw [e0 1 (by omega) (by omega)]; exact hG.2.1) gp (by rw [e0 1 (by omega) (by omega), ewp, wpM_0 y2]; omega)
        exact ⟨x5.trans y5.symm, Or.inr ⟨by rw [x5]; exact wd.1, x6, hN', hG'⟩⟩
/-- a piece goes: class and reference close the gap -/
theorem SN.del {P P1 : mP} {m s' : Nat → Int32} {n t : Nat} (hn : t < n ∧ n ≤ 8) (hq : ∀ k : Nat, k < n → ¬ k = t → PS P1 (rv P 2 k) m (3 + 19 * k)) (hr : RMf P P1 t (n - 1)) (k1 : (fv P1 1 1).toInt = (n : Int) - 1) (m0 : (s' 0).toInt = (n : Int) - 1) (hs : ∀ j : Nat, 1 ≤ j → s' j = if 3 + 19 * t ≤ j ∧ j < 3 + 19 * (n - 1) then m (j + 19) else m j) (k2 : fv P1 1 2 = m 1) (k3 : fv P1 1 3 = m 2) : SN P1 s' := by
  refine ⟨Int32.toInt_inj.mp (k1.trans m0.symm), k2.trans ((hs 1 (by omega)).trans (if_neg (by omega))).symm, k3.trans ((hs 2 (by omega)).trans (if_neg (by omega))).symm, fun k hk hz => ?_⟩
  rw [hr k]
  by_cases c : t ≤ k
  · rw [if_pos (by omega)]
    refine (hq (k + 1) (by omega) (by omega)).row (PE.refl _ _) (fun j hj => ?_)
    rw [hs _ (by omega), if_pos (by omega)]
    congr 1
    omega
  · rw [if_neg (by omega), if_neg (by omega)]
    refine (hq k (by omega) (by omega)).row (PE.refl _ _) (fun j hj => ?_)
    rw [hs _ (by omega), if_neg (by omega)]
theorem GS.del {m s' : Nat → Int32} {n t : Nat} (hn : t < n ∧ n ≤ 8) (hg : ∀ k : Nat, k < n → GP m (3 + 19 * k)) (w1 : 1 ≤ (m 1).toInt ∧ (m 1).toInt ≤ 99) (hu : (smF (fun k => wpM m k) n).toInt ≤ (m 1).toInt) (m0 : (s' 0).toInt = (n : Int) - 1) (hs : ∀ j : Nat, 1 ≤ j → s' j = if 3 + 19 * t ≤ j ∧ j < 3 + 19 * (n - 1) then m (j + 19) else m j) : GS s' := by
  have e1 : s' 1 = m 1 := (hs 1 (by omega)).trans (if_neg (by omega))
  have key : ∀ k : Nat, k < n - 1 → ∃ k' : Nat, k' < n ∧ (k' = if t ≤ k then k + 1 else k) ∧ ∀ j : Nat, j < 19 → s' (3 + 19 * k + j) = m (3 + 19 * k' + j) := by
    intro k hk
    by_cases c : t ≤ k
    · refine ⟨k + 1, by omega, (if_pos c).symm, fun j hj => ?_⟩
      rw [hs _ (by omega), if_pos (by omega)]
      congr 1
      omega
    · refine ⟨k, by omega, (if_neg c).symm, fun j hj => ?_⟩
      rw [hs _ (by omega), if_neg (by omega)]
  refine ⟨by omega, by rw [e1]; exact w1, ?_, fun k hk => ?_⟩
  · have wb : ∀ j : Nat, j < n → 0 ≤ (wpM m j).toInt ∧ (wpM m j).toInt ≤ 144 := fun j hj => (hg j hj).wp
    obtain ⟨n', rfl⟩ : ∃ n' : Nat, n = n' + 1 := ⟨n - 1, by omega⟩
    have d := smF_del (f := fun k => wpM m k) (g := fun k => wpM s' k) (n := n') (p := t) (by omega) wb hn.1 (fun j hj => by
      obtain ⟨k', h1, h2, h3⟩ := key j (by omega)
      have g := GP.n.mp (hg k' h1)
      have e := wpM_row (s := m) (s' := s') (k := k') (k' := j) (by rcases g.1 with g | g <;> omega) h3
      show wpM s' j = if t ≤ j then wpM m (j + 1) else wpM m j
      rw [e, h2]
      split <;> rfl)
    have wt := wb t hn.1
    rw [show (s' 0).toInt.toNat = n' by omega, d, e1]
    omega
  · obtain ⟨k', h1, h2, h3⟩ := key k (by omega)
    exact (hg k' h1).row h3
theorem drop_core {P P1 : mP} {s s' : Nat → Int32} {x y a : Int} (hT : Typ P) (hN : SN P s) (hG : GS s) (hc : dropC P P1 x a) (hm : dropsM s s' y a) : x = y ∧ OUTC P P1 s s' x := by
  have n0 := hN.n0 hG
  rcases hc with ⟨x1, x2, x3⟩ | ⟨x1, x2, x3, x4, x5, x6⟩ <;> rcases hm with ⟨y1, y2, y3⟩ | ⟨y1, y2, y3, y4⟩
  all_goals try (exfalso; omega)
  · exact ⟨by omega, Or.inl ⟨by omega, by omega, x3, y3⟩⟩
  · obtain ⟨p, rfl⟩ : ∃ p : Nat, a = p := ⟨a.toNat, by omega⟩
    obtain ⟨n, en⟩ : ∃ n : Nat, (s 0).toInt = n := ⟨(s 0).toInt.toNat, by omega⟩
    rw [Int.toNat_natCast] at x5 y4
    rw [n0.1, en, show ((n : Int) - 1).toNat = n - 1 by omega] at x5
    rw [en, show ((n : Int) - 1).toNat = n - 1 by omega] at y4
    have cl : ∀ z j : Nat, 2 ≤ z → z < 27 → fv P1 z j = fv P z j := fun z j h1 h2 => x6 z j (by omega) h2 (by omega)
    have hu := hG.2.2.1
    rw [en, Int.toNat_natCast] at hu
    refine ⟨by omega, Or.inr ⟨by omega, x3, SN.del (n := n) (t := p) (m := s) (by omega) (fun k hk _ => ?_) x5 (by omega) (by omega) y4 ((x6 1 2 (by omega) (by omega) (by omega)).trans hN.2.1) ((x6 1 3 (by omega) (by omega) (by omega)).trans hN.2.2.1), GS.del (n := n) (t := p) (m := s) (by omega) (fun k hk => hG.2.2.2 k (by omega)) hG.2.1 hu (by omega) y4⟩⟩
    have r := (rv_np hT k (by omega)).2
    exact (hN.2.2.2 k (by omega) (by omega)).row ⟨cl _ _ (by omega) (by omega), cl _ _ (by omega) (by omega), cl _ _ (by omega) (by omega), fun j _ => cl _ _ (by omega) (by omega), fun j _ => cl _ _ (by omega) (by omega)⟩ (fun j _ => rfl)
