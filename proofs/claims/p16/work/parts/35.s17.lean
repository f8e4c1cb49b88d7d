/-! the quiet calls: class and reference answer alike -/
theorem SN.at {P : mP} {s : Nat → Int32} (hN : SN P s) (hG : GS s) {a : Int} (h0 : 0 ≤ a) (h1 : a < (s 0).toInt) : (fv P (rv P 2 a.toNat) 0 = s (3 + 19 * a.toNat) ∧ fv P (rv P 2 a.toNat) 1 = s (4 + 19 * a.toNat) ∧ fv P (rv P 2 a.toNat) 2 = s (5 + 19 * a.toNat) ∧ (∀ j : Nat, (j : Int) < (s (4 + 19 * a.toNat)).toInt → fv P (rv P 2 a.toNat + 1) j = s (6 + 19 * a.toNat + j)) ∧ ∀ j : Nat, j < nC (s (3 + 19 * a.toNat)).toInt (s (4 + 19 * a.toNat)).toInt → fv P (rv P 2 a.toNat + 2) j = s (14 + 19 * a.toNat + j)) ∧ (((s (3 + 19 * a.toNat)).toInt = 0 ∧ 2 ≤ (s (4 + 19 * a.toNat)).toInt ∧ (s (4 + 19 * a.toNat)).toInt ≤ 7) ∨ ((s (3 + 19 * a.toNat)).toInt = 1 ∧ 2 ≤ (s (4 + 19 * a.toNat)).toInt ∧ (s (4 + 19 * a.toNat)).toInt ≤ 8)) ∧ ∀ j : Nat, j < nC (s (3 + 19 * a.toNat)).toInt (s (4 + 19 * a.toNat)).toInt → 0 ≤ (s (14 + 19 * a.toNat + j)).toInt ∧ (s (14 + 19 * a.toNat + j)).toInt ≤ 2 := by
  have b := hG.1
  have q := (hN.2.2.2 a.toNat (by omega) (by omega)).nm
  have g := GP.n.mp (hG.2.2.2 a.toNat (by omega))
  have nc := ncS_nC g
  have hc : ((nC (s (3 + 19 * a.toNat)).toInt (s (4 + 19 * a.toNat)).toInt : Nat) : Int) ≤ 8 := by
    rw [nc, ncS_n]
    split <;> rcases g.1 with g | g <;> omega
  exact ⟨⟨q.1, q.2.1, q.2.2.1, fun j hj => q.2.2.2.1 j (by rcases g.1 with g | g <;> omega) hj, fun j hj => q.2.2.2.2 j (by omega) (by omega)⟩, g.1, fun j hj => g.2.2.2 j (by omega)⟩
theorem SN.cnt {P : mP} {s : Nat → Int32} (hN : SN P s) (hG : GS s) {a : Int} (h0 : 0 ≤ a) (h1 : a < (s 0).toInt) (c : Int) : cntF (fun j : Nat => fv P (rv P 2 a.toNat + 2) j) c (nC (fv P (rv P 2 a.toNat) 0).toInt (fv P (rv P 2 a.toNat) 1).toInt) = cntF (fun j : Nat => s (14 + 19 * a.toNat + j)) c (nC (s (3 + 19 * a.toNat)).toInt (s (4 + 19 * a.toNat)).toInt) := by
  obtain ⟨q, -, -⟩ := hN.at hG h0 h1
  rw [q.1, q.2.1]
  exact cntF_congr q.2.2.2.2
theorem size_eq {P : mP} {s : Nat → Int32} {x y a b : Int} (hN : SN P s) (hG : GS s) (hc : sizeC P x a b) (hm : sizeM s y a b) : x = y := by
  have n0 := hN.n0 hG
  have pc := hN.pc hG a
  rcases hc with ⟨x1, x2⟩ | ⟨x1, x2, x3⟩ <;> rcases hm with ⟨y1, y2⟩ | ⟨y1, y2, y3⟩
  all_goals try omega
  obtain ⟨q, -, -⟩ := hN.at hG (a := a) (by omega) (by omega)
  rw [x3, y3, q.2.2.2.1 b.toNat (by omega)]
theorem crease_eq {P : mP} {s : Nat → Int32} {x y a b : Int} (hN : SN P s) (hG : GS s) (hc : creaseC P x a b) (hm : creaseM s y a b) : x = y := by
  have n0 := hN.n0 hG
  have pc := hN.pc hG a
  rcases hc with ⟨x1, x2⟩ | ⟨x1, x2, x3⟩ <;> rcases hm with ⟨y1, y2⟩ | ⟨y1, y2, y3⟩
  all_goals try omega
  obtain ⟨q, -, -⟩ := hN.at hG (a := a) (by omega) (by omega)
  rw [x3, y3, q.2.2.2.2 b.toNat (by unfold nC; split <;> omega)]
theorem piece_eq {P : mP} {s : Nat → Int32} {x y a b : Int} (hN : SN P s) (hG : GS s) (hc : pieceC P x a b) (hm : pieceM s y a b) : x = y := by
  have n0 := hN.n0 hG
  have pc := hN.pc hG a
  unfold pieceM at hm
  by_cases hz : 0 ≤ a ∧ a < (s 0).toInt
  · have c0 := hN.cnt hG hz.1 hz.2 0
    have c1 := hN.cnt hG hz.1 hz.2 1
    have c2 := hN.cnt hG hz.1 hz.2 2
    obtain ⟨q, g, -⟩ := hN.at hG hz.1 hz.2
    have sm : smF (fun j : Nat => fv P (rv P 2 a.toNat + 1) j) (fv P (rv P 2 a.toNat) 1).toInt.toNat = smF (fun j : Nat => s (6 + 19 * a.toNat + j)) (s (4 + 19 * a.toNat)).toInt.toNat := by
      rw [q.2.1]
      exact smF_congr (fun j hj => q.2.2.2.1 j (by omega))
    have wd : wdF (fv P (rv P 2 a.toNat) 0).toInt (fun j : Nat => fv P (rv P 2 a.toNat + 1) j) (fv P (rv P 2 a.toNat) 1).toInt.toNat = wdF (s (3 + 19 * a.toNat)).toInt (fun j : Nat => s (6 + 19 * a.toNat + j)) (s (4 + 19 * a.toNat)).toInt.toNat := by
      rw [q.1, q.2.1]
      exact wdF_congr rfl rfl (fun j hj => q.2.2.2.1 j (by omega))
    rw [← sm, ← wd, ← c0, ← c1, ← c2] at hm
    rcases hc with ⟨x1, x2⟩ | ⟨x1, x2, x3⟩ | ⟨x1, x2, x3⟩ | ⟨x1, x2, x3⟩ | ⟨x1, x2, x3⟩ | ⟨x1, x2, x3⟩ | ⟨x1, x2, x3⟩ | ⟨x1, x2, x3⟩ | ⟨x1, x2, x3⟩ | ⟨x1, x2, x3⟩ | ⟨x1, x2, x3⟩ <;> clear q g c0 c1 c2 sm wd hN hG <;> omega
  · rcases hc with ⟨x1, x2⟩ | h
    · rcases hm with ⟨y1, y2⟩ | h
      · omega
      · omega
    · omega
theorem why_eq {P : mP} {s : Nat → Int32} {x y a : Int} (hN : SN P s) (hG : GS s) (hc : whyC P x a) (hm : whyM s y a) : x = y := by
  have n0 := hN.n0 hG
  have pc := hN.pc hG a
  rcases hc with ⟨x1, x2⟩ | ⟨x1, x2⟩ <;> rcases hm with ⟨y1, y2⟩ | ⟨y1, y2⟩
  all_goals try omega
  obtain ⟨q, g, d⟩ := hN.at hG (a := a) (by omega) (by omega)
  rw [q.1, q.2.1] at x2
  exact WY_uniq (by omega) (by omega) q.2.2.2.1 q.2.2.2.2 (fun j hj => by rw [q.2.2.2.2 j hj]; exact d j hj) x2 y2
theorem SN.pcr {P : mP} {s : Nat → Int32} (hN : SN P s) (hG : GS s) {a : Int} (h0 : 0 ≤ a) (h1 : a < (s 0).toInt) : pcR (fv P (rv P 2 a.toNat) 0).toInt (fv P (rv P 2 a.toNat) 1).toInt (fun j : Nat => fv P (rv P 2 a.toNat + 1) j) (fun j : Nat => fv P (rv P 2 a.toNat + 2) j) = pcR (s (3 + 19 * a.toNat)).toInt (s (4 + 19 * a.toNat)).toInt (fun j : Nat => s (6 + 19 * a.toNat + j)) (fun j : Nat => s (14 + 19 * a.toNat + j)) := by
  obtain ⟨q, g, -⟩ := hN.at hG h0 h1
  rw [q.1, q.2.1]
  exact pcR.congr q.2.2.2.1 q.2.2.2.2
theorem SN.dec {P : mP} {s : Nat → Int32} (hN : SN P s) (hG : GS s) {a : Int} (h0 : 0 ≤ a) (h1 : a < (s 0).toInt) (hz : cntF (fun j : Nat => s (14 + 19 * a.toNat + j)) 0 (nC (s (3 + 19 * a.toNat)).toInt (s (4 + 19 * a.toNat)).toInt) = 0) : DEC (pcR (s (3 + 19 * a.toNat)).toInt (s (4 + 19 * a.toNat)).toInt (fun j : Nat => s (6 + 19 * a.toNat + j)) (fun j : Nat => s (14 + 19 * a.toNat + j))) := by
  obtain ⟨-, g, d⟩ := hN.at hG h0 h1
  have z := cntF_0 (f := fun j : Nat => s (14 + 19 * a.toNat + j)) (n := nC (s (3 + 19 * a.toNat)).toInt (s (4 + 19 * a.toNat)).toInt) (by omega)
  exact pcR.dec (fun j hj => by
    have h1 := z j hj
    have h2 := d j hj
    have h1 : ¬ (s (14 + 19 * a.toNat + j)).toInt = 0 := h1
    show (s (14 + 19 * a.toNat + j)).toInt = 1 ∨ (s (14 + 19 * a.toNat + j)).toInt = 2
    omega)
theorem step_eq {P : mP} {s : Nat → Int32} {x y a : Int} (hN : SN P s) (hG : GS s) (hc : stepC P x a) (hm : stepM s y a) : x = y := by
  have n0 := hN.n0 hG
  by_cases hz : 0 ≤ a ∧ a < (s 0).toInt
  · have c0 := hN.cnt hG hz.1 hz.2 0
    rcases hc with ⟨x1, x2⟩ | ⟨x1, x2, x3⟩ | ⟨x1, x2, v, k1, k2⟩ <;> rcases hm with ⟨y1, y2⟩ | ⟨y1, y2, y3⟩ | ⟨y1, y2, w, l1, l2⟩
    all_goals try omega
    rw [hN.pcr hG hz.1 hz.2] at k1
    have e := FS.uniq (FS.conv (hN.dec hG hz.1 hz.2 y2) k1) l1
    omega
  · rcases hc with ⟨x1, x2⟩ | ⟨x1, x2, x3⟩ | ⟨x1, x2, v, k1, k2⟩ <;> rcases hm with ⟨y1, y2⟩ | ⟨y1, y2, y3⟩ | ⟨y1, y2, w, l1, l2⟩
    all_goals omega
theorem steps_eq {P : mP} {s : Nat → Int32} {x y a : Int} (hN : SN P s) (hG : GS s) (hc : stepsC P x a) (hm : stepsM s y a) : x = y := by
  have n0 := hN.n0 hG
  by_cases hz : 0 ≤ a ∧ a < (s 0).toInt
  · have c0 := hN.cnt hG hz.1 hz.2 0
    rcases hc with ⟨x1, x2⟩ | ⟨x1, x2, x3⟩ | ⟨x1, x2, x3, v, k1⟩ <;> rcases hm with ⟨y1, y2⟩ | ⟨y1, y2, y3⟩ | ⟨y1, y2, y3, w, l1⟩
    all_goals try omega
    rw [hN.pcr hG hz.1 hz.2] at k1
    have e := RD.uniq (RD.conv (hN.dec hG hz.1 hz.2 y2) k1).1 l1
    omega
  · rcases hc with ⟨x1, x2⟩ | ⟨x1, x2, x3⟩ | ⟨x1, x2, x3, v, k1⟩ <;> rcases hm with ⟨y1, y2⟩ | ⟨y1, y2, y3⟩ | ⟨y1, y2, y3, w, l1⟩
    all_goals omega
theorem place_eq {P : mP} {s : Nat → Int32} {x y a b : Int} (hN : SN P s) (hG : GS s) (hc : placeC P x a b) (hm : placeM s y a b) : x = y := by
  have n0 := hN.n0 hG
  have pc := hN.pc hG a
  rcases hc with ⟨x1, x2⟩ | ⟨x1, x2, x3⟩ | ⟨x1, x2, x3, x4⟩ | ⟨x1, x2, x3, x4⟩ <;> rcases hm with ⟨y1, y2⟩ | ⟨y1, y2, y3⟩ | ⟨y1, y2, y3, y4⟩
  all_goals try omega
  obtain ⟨q, g, -⟩ := hN.at hG (a := a) (by omega) (by omega)
  rw [x4, y4, plF_congr (fun j hj => q.2.2.2.1 j (by omega))]
