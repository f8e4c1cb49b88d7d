/-! read, on both sides -/
theorem ch_eq {P : mP} (h : TXT P) : chC P = chM P := by
  funext i
  unfold chC chM ch
  rw [h.1]
  by_cases e : 0 ≤ i ∧ i < (fv P 301 23).toInt
  · rw [if_pos e, if_pos e]
    exact h.2 _ (by omega)
  · rw [if_neg e, if_neg e]
theorem SIM.read {P P1 P2 : mP} (hS : SIM P) (hT : Typ P) (hT1 : Typ P1) (hh : ∀ a j : Nat, 301 ≤ a → a < 315 → fv P1 a j = fv P a j) (hl : ∀ a j : Nat, a < 301 → fv P2 a j = fv P1 a j) (mr : ∀ k : Nat, rv P2 2 k = rv P1 2 k) (cl : (fv P1 289 1).toInt = 0) (ml : (fv P2 301 23).toInt = 0) (c : RDC P P1) (m : RDM P1 P2) : SIM P2 := by
  have hS' := hS
  obtain ⟨s1, s2, s3, s4, s5, s6, s7, s8⟩ := hS
  have e23 : fv P1 301 23 = fv P 301 23 := hh _ _ (by omega) (by omega)
  have ec : chM P1 = chC P := (chM_eq (P := P) (fun j => hh _ _ (by omega) (by omega)) e23).trans (ch_eq s4).symm
  have eL : (fv P1 301 23).toInt = (fv P 289 1).toInt := by rw [e23]; exact s4.1.symm
  have es : sr P1 = sr P := funext (fun j => hh _ _ (by omega) (by omega))
  have e4 : fv P1 301 4 = fv P 301 4 := hh _ _ (by omega) (by omega)
  have e305 : ∀ j : Nat, fv P1 305 j = fv P 305 j := fun j => hh _ _ (by omega) (by omega)
  have e302 : ∀ j : Nat, fv P1 302 j = fv P 302 j := fun j => hh _ _ (by omega) (by omega)
  obtain ⟨c1, c2, c3⟩ := c
  obtain ⟨_, m1, m2, m3⟩ := m
  rw [ec, eL, es] at m3
  have g8 : fv P2 301 8 = fv P 301 8 := m1.trans (hh _ _ (by omega) (by omega))
  have g304 : ∀ j : Nat, fv P2 304 j = fv P 304 j := fun j => (m2 j).trans (hh _ _ (by omega) (by omega))
  have k8 : fv P2 0 8 = fv P 0 8 := (hl _ _ (by omega)).trans c1
  have r3 : SNAP P2 := s3.same k8 g8 (fun x j h1 h2 => (hl _ _ (by omega)).trans (c2 x j h1 h2)) g304
  have r4 : TXT P2 := ⟨by rw [hl 289 1 (by omega), cl, ml], fun j hj => by omega⟩
  have r8 : (fv P2 301 8).toInt = 1 → GS (fun j => fv P2 304 j) := fun h => by rw [g8] at h; exact (s8 h).row (fun j _ => g304 j)
  have b1 := Typ.rng (lo := 0) (hi := 7) hT rl_79 (by decide) (k := 1) (by decide) rfl
  have b2 := Typ.rng (lo := 0) (hi := 8) hT rl_301 (by decide) (k := 4) (by decide) rfl
  rcases c3 with ⟨t1, c4, c5⟩ | ⟨t1, c4, R, a, c5, cR, c6⟩
  · rcases m3 with ⟨_, m4, m5, m6⟩ | ⟨t2, _⟩
    · exact hS'.txt hT (fun x j h1 h2 => (hl _ _ (by omega)).trans (c4 x j h1 h2)) (fun k => (mr k).trans (c5 k)) k8 (fun j => (m4 j).trans (e302 j)) (m5.trans e4) g8 g304 (fun j => (m6 j).trans (e305 j)) r4
    · exact absurd t2 t1
  · rcases m3 with ⟨t2, _⟩ | ⟨_, w, y, m4, m5⟩
    · exact absurd t1 t2
    · obtain ⟨n, c5⟩ := c5
      obtain ⟨n', m4⟩ := m4
      have lk := TR_lock hT s1 s6 c5 m4
      rcases c6 with ⟨a1, ⟨d1, d2, d3, d4⟩, d5, d6, d7⟩ | ⟨a1, d1, d2, d3, d4, d5⟩
      · rcases m5 with ⟨y1, m6, m7, m8⟩ | ⟨y1, _⟩
        · have q302 : ∀ j : Nat, j < 155 → fv P2 302 j = fv P 302 j := fun j hj => (m6 j hj).trans (e302 j)
          have q305 : ∀ j : Nat, fv P2 305 j = fv P 305 j := fun j => (m8 j).trans (e305 j)
          have q4 : fv P2 301 4 = fv P 301 4 := m7.trans e4
          have q1 : fv P2 302 0 = fv P 302 0 := q302 0 (by omega)
          refine ⟨⟨(hl _ _ (by omega)).trans (d1.trans (s1.1.trans q1.symm)), (hl _ _ (by omega)).trans (d2.trans (s1.2.1.trans (q302 1 (by omega)).symm)), (hl _ _ (by omega)).trans (d3.trans (s1.2.2.1.trans (q302 2 (by omega)).symm)), fun k hk hz => ?_⟩, ⟨?_, fun i hi hz => ?_⟩, r3, r4, by rw [hl 79 3 (by omega)]; exact c4, s6.row (fun j hj => q302 j hj), fun i hi hz => ?_, r8⟩
          · have hz : (k : Int) < (fv P2 302 0).toInt := hz
            rw [q1] at hz
            rw [mr k]
            have z11 : (fv P 1 1).toInt = (fv P 302 0).toInt := congrArg Int32.toInt s1.1
            have pe := d4 k hk (by omega)
            have r := (rv_np hT1 k hk).2
            exact (s1.2.2.2 k hk hz).row ⟨(hl _ _ (by omega)).trans pe.1, (hl _ _ (by omega)).trans pe.2.1, (hl _ _ (by omega)).trans pe.2.2.1, fun j hj => (hl _ _ (by omega)).trans (pe.2.2.2.1 j hj), fun j hj => (hl _ _ (by omega)).trans (pe.2.2.2.2 j hj)⟩ (fun j hj => q302 _ (by omega))
          · rw [hl 79 2 (by omega), d7, q4]
            exact s2.1
          · rw [q4] at hz
            rw [hl 79 1 (by omega), d6, q4]
            exact (s2.2 i hi hz).move (SCs.same (fun x j h1 h2 => (hl _ _ (by omega)).trans (d5 x j (by omega) (by omega)))) (fun j hj => q305 _)
          · rw [q4] at hz
            exact (s7 i hi hz).row (fun j _ => q305 _)
        · omega
      · rcases m5 with ⟨y1, _⟩ | ⟨y1, m6, m7, m8⟩
        · omega
        · rcases lk with ⟨lk, _⟩ | ⟨_, _, l1, l2⟩
          · omega
          · rw [e4] at m7
            have u3' : ∀ c j : Nat, c < 8 → j < 155 → fv P2 305 (155 * c + j) = if (fv P 301 4).toInt.toNat = 8 then (if c < 7 then fv P 305 (155 * (c + 1) + j) else fv P 302 j) else (if c = (fv P 301 4).toInt.toNat then fv P 302 j else fv P 305 (155 * c + j)) := by
              intro c j hc hj
              rw [m8 c j hc hj, e4, e302, e305, e305]
            refine ⟨l1.cls cR (fun x j h1 h2 => (hl _ _ (by omega)).trans (d1.1 x j h1 h2)) (fun k => (mr k).trans (d1.2 k)) m6, ?_, r3, r4, by rw [hl 79 3 (by omega)]; exact c4, l2.row (fun j _ => m6 j), ?_, r8⟩
            · refine s2.push s1 b1 b2 (by rw [hl 79 1 (by omega)]; exact d2) (by rw [hl 79 2 (by omega)]; exact d3) m7 ?_ (fun a j h1 h2 h3 => (hl _ _ (by omega)).trans (d5 a j h1 h2 h3)) u3'
              exact ⟨(hl _ _ (by omega)).trans d4.1, (hl _ _ (by omega)).trans d4.2.1, (hl _ _ (by omega)).trans d4.2.2.1, fun k hk hz => by
                have q := d4.2.2.2 k hk hz
                exact ⟨(hl _ _ (by omega)).trans q.1, (hl _ _ (by omega)).trans q.2.1, (hl _ _ (by omega)).trans q.2.2.1, fun j hj => (hl _ _ (by omega)).trans (q.2.2.2.1 j hj), fun j hj => (hl _ _ (by omega)).trans (q.2.2.2.2 j hj)⟩⟩
            · intro i hi hz
              by_cases h8 : (fv P 301 4).toInt = 8
              · by_cases h7 : i < 7
                · exact (s7 (i + 1) (by omega) (by omega)).row (fun j hj => by rw [u3' i j hi hj, if_pos (by omega), if_pos h7])
                · exact s6.row (fun j hj => by rw [u3' i j hi hj, if_pos (by omega), if_neg h7])
              · by_cases h7 : i = (fv P 301 4).toInt.toNat
                · exact s6.row (fun j hj => by rw [u3' i j hi hj, if_neg (by omega), if_pos h7])
                · exact (s7 i hi (by omega)).row (fun j hj => by rw [u3' i j hi hj, if_neg (by omega), if_neg h7])
