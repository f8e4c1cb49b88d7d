/-! foldsAgain, layer, orders: class and reference answer alike -/
theorem sT_conv {n n' : Nat} {cr cr' : Nat → Int32} {pl pl' : Nat → Int} (hn : n = n') (hc : ∀ j : Nat, j + 1 < n → cr j = cr' j) (hp : ∀ j : Nat, j ≤ n → pl j = pl' j) : sT n cr (PSc n pl) = sT n' cr' (PSm n' pl') ∧ sF n cr (PSc n pl) = sF n' cr' (PSm n' pl') := by
  subst hn
  have d0 : DIS (n - n) (fun _ => (0 : Int)) := fun i j hi _ _ => by omega
  constructor
  · unfold sT
    rw [gO_eq hc (leaf' := lfC (PSc n pl')) (fun o => by unfold lfC; rw [propext (PSc.eq (o := o) (o' := o) (fun _ _ => rfl) hp)]) n _ (Nat.le_refl n)]
    exact gO_ps (fun o hd => by unfold lfC; rw [propext (PS_eq hd)]) n _ (Nat.le_refl n) d0
  · unfold sF
    rw [gO_eq hc (leaf' := lfF1 n (PSc n pl')) (fun o => by unfold lfF1; rw [propext (PSc.eq (o := o) (o' := o) (fun _ _ => rfl) hp)]) n _ (Nat.le_refl n)]
    exact gO_ps (fun o hd => by unfold lfF1; rw [propext (PS_eq hd)]) n _ (Nat.le_refl n) d0
theorem SN.srt {P : mP} {s : Nat → Int32} (hN : SN P s) (hG : GS s) {a : Int} (h0 : 0 ≤ a) (h1 : a < (s 0).toInt) (hk : (s (3 + 19 * a.toNat)).toInt = 0) : nP P (rv P 2 a.toNat) = (s (4 + 19 * a.toNat)).toInt.toNat ∧ sT (nP P (rv P 2 a.toNat)) (cP P (rv P 2 a.toNat)) (psP P (rv P 2 a.toNat)) = sT (s (4 + 19 * a.toNat)).toInt.toNat (fun j : Nat => s (14 + 19 * a.toNat + j)) (PSm (s (4 + 19 * a.toNat)).toInt.toNat (fun j : Nat => (plF (fun j : Nat => s (6 + 19 * a.toNat + j)) j).toInt)) ∧ sF (nP P (rv P 2 a.toNat)) (cP P (rv P 2 a.toNat)) (psP P (rv P 2 a.toNat)) = sF (s (4 + 19 * a.toNat)).toInt.toNat (fun j : Nat => s (14 + 19 * a.toNat + j)) (PSm (s (4 + 19 * a.toNat)).toInt.toNat (fun j : Nat => (plF (fun j : Nat => s (6 + 19 * a.toNat + j)) j).toInt)) := by
  obtain ⟨q, g, -⟩ := hN.at hG h0 h1
  have en : nP P (rv P 2 a.toNat) = (s (4 + 19 * a.toNat)).toInt.toNat := by
    show (min (fv P (rv P 2 a.toNat) 1).toInt 7).toNat = _
    rw [q.2.1]
    omega
  have c := sT_conv (cr := cP P (rv P 2 a.toNat)) (cr' := fun j : Nat => s (14 + 19 * a.toNat + j)) (pl := pP P (rv P 2 a.toNat)) (pl' := fun j : Nat => (plF (fun j : Nat => s (6 + 19 * a.toNat + j)) j).toInt) en (fun j hj => q.2.2.2.2 j (by
    rw [en] at hj
    unfold nC
    rw [if_pos hk]
    omega)) (fun j hj => by
    rw [en] at hj
    show (plF (fun j : Nat => fv P (rv P 2 a.toNat + 1) j) j).toInt = (plF (fun j : Nat => s (6 + 19 * a.toNat + j)) j).toInt
    rw [plF_congr (fun i hi => q.2.2.2.1 i (by omega))])
  exact ⟨en, c.1, c.2⟩
theorem foldsAgain_eq {P : mP} {s : Nat → Int32} {x y a : Int} (hN : SN P s) (hG : GS s) (hc : foldsAgainC P x a) (hm : foldsAgainM s y a) : x = y := by
  have n0 := hN.n0 hG
  by_cases hz : 0 ≤ a ∧ a < (s 0).toInt
  · have c0 := hN.cnt hG hz.1 hz.2 0
    have pc := (hN.pc hG a).resolve_left (by omega)
    rcases hc with ⟨x1, x2⟩ | ⟨x1, x2⟩ | ⟨x1, x2, x3, x4⟩ <;> rcases hm with y1 | ⟨y1, y2, y3, y4⟩
    all_goals try omega
    rw [(hN.srt hG hz.1 hz.2 y2).2.1] at x4
    omega
  · rcases hc with ⟨x1, x2⟩ | ⟨x1, x2⟩ | ⟨x1, x2, x3, x4⟩ <;> rcases hm with y1 | ⟨y1, y2, y3, y4⟩
    all_goals omega
theorem orders_eq {P : mP} {s : Nat → Int32} {x y a : Int} (hN : SN P s) (hG : GS s) (hc : ordersC P x a) (hm : ordersM s y a) : x = y := by
  have n0 := hN.n0 hG
  by_cases hz : 0 ≤ a ∧ a < (s 0).toInt
  · have c0 := hN.cnt hG hz.1 hz.2 0
    have pc := (hN.pc hG a).resolve_left (by omega)
    rcases hc with ⟨x1, x2⟩ | ⟨x1, x2⟩ | ⟨x1, x2, x3, x4⟩ <;> rcases hm with y1 | ⟨y1, y2, y3, y4⟩
    all_goals try omega
    rw [x4, y4]
    exact (hN.srt hG hz.1 hz.2 y2).2.1
  · rcases hc with ⟨x1, x2⟩ | ⟨x1, x2⟩ | ⟨x1, x2, x3, x4⟩ <;> rcases hm with y1 | ⟨y1, y2, y3, y4⟩
    all_goals omega
theorem layer_eq {P : mP} {s : Nat → Int32} {x y a b : Int} (hN : SN P s) (hG : GS s) (hc : layerC P x a b) (hm : layerM s y a b) : x = y := by
  have n0 := hN.n0 hG
  by_cases hz : 0 ≤ a ∧ a < (s 0).toInt
  · have c0 := hN.cnt hG hz.1 hz.2 0
    have pc := (hN.pc hG a).resolve_left (by omega)
    rcases hc with ⟨x1, x2⟩ | ⟨x1, x2, x3, x4⟩ | ⟨x1, x2, x3⟩ | ⟨x1, x2, x3, x4, x5, x6⟩ | ⟨x1, x2, x3, x4, x5, f, x6, x7⟩ <;> rcases hm with ⟨y1, y2⟩ | ⟨y1, y2, y3⟩ | ⟨y1, y2, y3, y4, y5, y6⟩ | ⟨y1, y2, y3, y4, y5, g, y6, y7⟩
    all_goals try omega
    · have e := (hN.srt hG hz.1 hz.2 y2).2.1
      omega
    · have e := (hN.srt hG hz.1 hz.2 y2).2.1
      omega
    · have e := hN.srt hG hz.1 hz.2 y2
      rw [e.2.2, y6] at x6
      have fg : g = f := Option.some.inj x6
      subst fg
      rw [x7 (by rw [e.1]; omega), y7]
  · rcases hc with ⟨x1, x2⟩ | ⟨x1, x2, x3, x4⟩ | ⟨x1, x2, x3⟩ | ⟨x1, x2, x3, x4, x5, x6⟩ | ⟨x1, x2, x3, x4, x5, f, x6, x7⟩ <;> rcases hm with ⟨y1, y2⟩ | ⟨y1, y2, y3⟩ | ⟨y1, y2, y3, y4, y5, y6⟩ | ⟨y1, y2, y3, y4, y5, g, y6, y7⟩
    all_goals omega
