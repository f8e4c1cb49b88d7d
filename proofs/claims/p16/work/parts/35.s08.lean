/-! what is taken on the stage, on both sides -/
theorem occ_eq {P : mP} {s : Nat → Int32} (hN : SN P s) (hG : GS s) {n : Nat} (hn : n = (s 0).toInt.toNat) : smF (fun k => wpC P (rv P 2 k)) n = smF (fun k => wpM s k) n := by
  subst hn
  have b := hG.1
  refine smF_congr (fun k hk => ?_)
  have q := (hN.2.2.2 k (by omega) (by omega)).nm
  have g := GP.n.mp (hG.2.2.2 k (by omega))
  show wpC P (rv P 2 k) = wpM s k
  unfold wpC wpM
  rw [q.1, q.2.1, q.2.2.1, wdF_congr rfl rfl (fun j hj => q.2.2.2.1 j (by rcases g.1 with g | g <;> omega) (by omega))]
theorem used_bnd {s : Nat → Int32} (hG : GS s) : 0 ≤ (smF (fun k => wpM s k) (s 0).toInt.toNat).toInt ∧ (smF (fun k => wpM s k) (s 0).toInt.toNat).toInt ≤ 1152 := by
  have b := hG.1
  have q := smF_bnd (f := fun k => wpM s k) (n := (s 0).toInt.toNat) (by omega) (fun j hj => hG.wp hj)
  omega
theorem stage_core {P P1 : mP} {s s' : Nat → Int32} {x y : Int} {a : Int32} (hT : Typ P) (hN : SN P s) (hG : GS s) (hc : stageC P P1 x a.toInt a) (hm : stagesM s s' y a.toInt) : x = y ∧ OUTC P P1 s s' x := by
  have n0 := hN.n0 hG
  have ub := used_bnd hG
  have eo := occ_eq hN hG (n := (fv P 1 1).toInt.toNat) (by omega)
  rw [n0.1] at eo
  have sb : 1 ≤ a.toInt ∧ a.toInt ≤ 99 → (smF (fun k => wpM s k) (s 0).toInt.toNat - a).toInt = (smF (fun k => wpM s k) (s 0).toInt.toNat).toInt - a.toInt := fun h => ti_sub rfl rfl (by omega) (by omega)
  rcases hc with ⟨x1, x2, x3⟩ | ⟨x1, x2, x3, x4⟩ | ⟨x1, x2, x3, x4, x5, x6, x7⟩
  · rcases hm with ⟨y1, y2, y3⟩ | ⟨y1, y2, y3, y4⟩ | ⟨y1, y2, y3, y4, y5⟩
    · exact ⟨by omega, Or.inl ⟨by omega, by omega, x3, y3⟩⟩
    · omega
    · omega
  · rw [n0.1, eo, sb x2] at x3
    rcases hm with ⟨y1, y2, y3⟩ | ⟨y1, y2, y3, y4⟩ | ⟨y1, y2, y3, y4, y5⟩
    · omega
    · exact ⟨by omega, Or.inl ⟨by omega, by omega, x4, y4⟩⟩
    · omega
  · rw [n0.1, eo, sb x1] at x2
    rcases hm with ⟨y1, y2, y3⟩ | ⟨y1, y2, y3, y4⟩ | ⟨y1, y2, y3, y4, y5⟩
    · omega
    · omega
    · have e12 : (fv P 1 2).toInt = (s 1).toInt := congrArg Int32.toInt hN.2.1
      have gb := hG.2.1
      have cl : ∀ z j : Nat, 2 ≤ z → z < 27 → fv P1 z j = fv P z j := fun z j h1 h2 => x6 z j (by omega) h2 (by omega)
      refine ⟨by omega, Or.inr ⟨by omega, x4, ⟨(x6 1 1 (by omega) (by omega) (by omega)).trans (hN.1.trans (y5 0 (by omega)).symm), Int32.toInt_inj.mp (x5.trans y4.symm), (x6 1 3 (by omega) (by omega) (by omega)).trans (hN.2.2.1.trans (y5 2 (by omega)).symm), fun k hk hz => ?_⟩, ?_⟩⟩
      · rw [y5 0 (by omega)] at hz
        have r := (rv_np hT k hk).2
        rw [x7 k]
        exact (hN.2.2.2 k hk hz).row ⟨cl _ _ (by omega) (by omega), cl _ _ (by omega) (by omega), cl _ _ (by omega) (by omega), fun j _ => cl _ _ (by omega) (by omega), fun j _ => cl _ _ (by omega) (by omega)⟩ (fun j hj => y5 _ (by omega))
      · have gk : ∀ k : Nat, (k : Int) < (s 0).toInt → GP s' (3 + 19 * k) := fun k hk => (hG.2.2.2 k hk).row (fun j hj => y5 _ (by omega))
        refine ⟨by rw [y5 0 (by omega)]; exact hG.1, by rw [show (s' 1).toInt = a.toInt from y4]; exact x1, ?_, fun k hk => gk k (by rw [y5 0 (by omega)] at hk; exact hk)⟩
        rw [y5 0 (by omega), show (s' 1).toInt = a.toInt from y4, smF_congr (g := fun k => wpM s k) (fun k hk => ?_)]
        · exact y2
        · have g := GP.n.mp (hG.2.2.2 k (by omega))
          exact wpM_row (by rcases g.1 with g | g <;> omega) (fun j hj => y5 _ (by omega))
theorem unfold_core {P P1 : mP} {s s' : Nat → Int32} {x y a : Int} (hT : Typ P) (hJ : Inj P) (hN : SN P s) (hG : GS s) (hc : unfoldC P P1 x a) (hm : unfoldsM s s' y a) : x = y ∧ OUTC P P1 s s' x := by
  have n0 := hN.n0 hG
  have pc := hN.pc hG a
  rcases hc with ⟨x1, x2, x3⟩ | ⟨x1, x2, x3, x4⟩ | ⟨x1, x2, x3, x4, x5, x6, x7⟩ <;> rcases hm with ⟨y1, y2, y3⟩ | ⟨y1, y2, y3, y4⟩ | ⟨y1, y2, y3, y4, y5⟩
  all_goals try (exfalso; omega)
  · exact ⟨by omega, Or.inl ⟨by omega, by omega, x3, y3⟩⟩
  · exact ⟨by omega, Or.inl ⟨by omega, by omega, x4, y4⟩⟩
  · obtain ⟨p, rfl⟩ : ∃ p : Nat, a = p := ⟨a.toNat, by omega⟩
    rw [Int.toNat_natCast] at x2 x5 x6 y2 y4 y5 pc
    have q := (hN.2.2.2 p (by omega) (by omega)).nm
    have g := GP.n.mp (hG.2.2.2 p (by omega))
    have r := (rv_np hT p (by omega)).2
    have e0 : ∀ j : Nat, ¬ j = 5 + 19 * p → s' j = s j := y5
    have nc' : ncS s' (3 + 19 * p) = ncS s (3 + 19 * p) := by rw [ncS_n, ncS_n, e0 _ (by omega), e0 _ (by omega)]
    have hq : PS P1 (rv P 2 p) s' (3 + 19 * p) := by
      refine PS.of ⟨?_, ?_, ?_, fun j h1 h2 => ?_, fun j h1 h2 => ?_⟩
      · rw [e0 _ (by omega), x6 _ _ (by omega) (by omega) (by omega)]; exact q.1
      · rw [e0 _ (by omega), x6 _ _ (by omega) (by omega) (by omega)]; exact q.2.1
      · exact Int32.toInt_inj.mp (x5.trans y4.symm)
      · rw [e0 _ (by omega)] at h2
        rw [e0 _ (by rcases g.1 with g | g <;> omega), x6 _ _ (by omega) (by omega) (by omega)]
        exact q.2.2.2.1 j h1 h2
      · rw [nc'] at h2
        rw [e0 _ (by omega), x6 _ _ (by omega) (by omega) (by omega)]
        exact q.2.2.2.2 j h1 h2
    have gp : GPn s' p := by
      refine ⟨by rw [e0 _ (by omega), e0 _ (by omega)]; exact g.1, by rw [show (s' (5 + 19 * p)).toInt = 0 from y4]; omega, fun j hj => ?_, fun j hj => ?_⟩
      · rw [e0 _ (by omega)] at hj
        rw [e0 _ (by omega)]
        exact g.2.2.1 j hj
      · rw [nc'] at hj
        rw [e0 _ (by omega)]
        exact g.2.2.2 j hj
    have h0 : (0 : Int32).toInt = 0 := rfl
    have wp := (hG.2.2.2 p (by omega)).wp
    have m1 : ∀ j : Nat, 3 ≤ j → (j < 3 + 19 * p ∨ 22 + 19 * p ≤ j) → s' j = s j := fun j h1 h2 => e0 j (by rcases h2 with h2 | h2 <;> omega)
    have hN' : SN P1 s' := SN.one hT hJ hN (by omega) (fun z j h1 h2 h3 => x6 z j (by omega) h2 (by omega)) (x6 1 1 (by omega) (by omega) (by omega)) x7 (e0 0 (by omega)) m1 ((x6 1 2 (by omega) (by omega) (by omega)).trans (hN.2.1.trans (e0 1 (by omega)).symm)) ((x6 1 3 (by omega) (by omega) (by omega)).trans (hN.2.2.1.trans (e0 2 (by omega)).symm)) hq
    have hG' : GS s' := hG.one (by omega) (e0 0 (by omega)) m1 (by rw [e0 1 (by omega)]; exact hG.2.1) gp (by rw [e0 1 (by omega), wpM_0 (show ¬ (s' (5 + 19 * p)).toInt = 1 by rw [show (s' (5 + 19 * p)).toInt = 0 from y4]; decide)]; have := hG.2.2.1; omega)
    have e00 : s' 0 = s 0 := e0 0 (by omega)
    have eo := occ_eq hN' hG' (n := (fv P 1 1).toInt.toNat) (by rw [e00]; omega)
    have ex : x = y := by rw [x3, y3, eo, hN.2.1, n0.1]
    have ub := used_bnd hG'
    have ul := hG'.2.2.1
    rw [e00] at ub ul
    rw [e0 1 (by omega)] at ul
    have gb := hG.2.1
    have es : (s 1 - smF (fun k => wpM s' k) (s 0).toInt.toNat).toInt = (s 1).toInt - (smF (fun k => wpM s' k) (s 0).toInt.toNat).toInt := ti_sub rfl rfl (by omega) (by omega)
    exact ⟨ex, Or.inr ⟨by rw [ex, y3, es]; omega, x4, hN', hG'⟩⟩
