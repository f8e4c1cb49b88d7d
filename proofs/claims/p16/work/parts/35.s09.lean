/-! what stands in the way, on both sides: the rest -/
theorem cntF_0 {f : Nat → Int32} {n : Nat} (h : ¬ 0 < cntF f 0 n) : ∀ j : Nat, j < n → ¬ (f j).toInt = 0 := by
  induction n with
  | zero => intro j hj; omega
  | succ n ih =>
    intro j hj
    have b := cntF_bnd (f := f) (c := 0) (n := n)
    have e : cntF f 0 (n + 1) = if (f n).toInt = 0 then cntF f 0 n + 1 else cntF f 0 n := rfl
    rw [e] at h
    by_cases c : (f n).toInt = 0
    · rw [if_pos c] at h
      omega
    · rw [if_neg c] at h
      by_cases ej : j = n
      · subst ej
        exact c
      · exact ih h j (by omega)
theorem WYe_uniq {R : RS} {w w' : Int} (hd : DEC R) (h : WYe cC eC R w) (g : WYe cM eM R w') : w = w' := by
  obtain ⟨k, R1, h1, h2⟩ := h
  obtain ⟨l, R2, g1, g2⟩ := g
  obtain ⟨c1, c2⟩ := RD.conv hd h1
  have e := (RD.uniq c1 g1).2
  subst e
  have q := isR_conv c2
  rcases h2 with ⟨h2, h3⟩ | ⟨h2, h3⟩ <;> rcases g2 with ⟨g2, g3⟩ | ⟨g2, g3⟩
  · omega
  · exact absurd (q.mp h2) g2
  · exact absurd (q.mpr g2) h2
  · omega
/-- the same answer, whatever way it is found -/
theorem WY_uniq {kd n w w' : Int} {f g f' g' : Nat → Int32} (hk : kd = 0 ∨ kd = 1) (hn : 2 ≤ n) (hf : ∀ j : Nat, (j : Int) < n → f j = f' j) (hg : ∀ j : Nat, j < nC kd n → g j = g' j) (hd : ∀ j : Nat, j < nC kd n → 0 ≤ (g j).toInt ∧ (g j).toInt ≤ 2) (h : WYf cC eC kd n f g w) (k : WYf cM eM kd n f' g' w') : w = w' := by
  have c0 := cntF_congr (c := 0) hg
  have c1 := cntF_congr (c := 1) hg
  have c2 := cntF_congr (c := 2) hg
  have ev : evF f n.toNat = evF f' n.toNat := evF.congr (fun j hj => hf j (by omega))
  have sh : kd = 1 → (SHf n.toNat f g ↔ SHf n.toNat f' g') := fun e => by
    have gg : ∀ j : Nat, j < n.toNat → g j = g' j := fun j hj => hg j (by unfold nC; rw [if_neg (by omega)]; exact hj)
    exact ⟨fun h => h.congr (fun j hj => hf j (by omega)) gg, fun h => h.congr (fun j hj => (hf j (by omega)).symm) (fun j hj => (gg j hj).symm)⟩
  have ep : ∀ {v : Int}, WYe cM eM (pcR kd n f' g') v → WYe cM eM (pcR kd n f g) v := fun {v} h => by
    have e : pcR kd n f g = pcR kd n f' g' := by
      unfold pcR
      refine tm_eq rfl rfl (fun j hj => hf j (by omega)) (fun j hj h1 => ?_)
      rcases hk with e | e
      · have h1 := h1 (decide_eq_true e)
        show (if kd = 0 then _ else _) = if kd = 0 then _ else _
        rw [if_pos e, if_pos e]
        exact hg _ (by unfold nC; rw [if_pos e]; omega)
      · show (if kd = 0 then _ else _) = if kd = 0 then _ else _
        rw [if_neg (by omega), if_neg (by omega)]
        exact hg _ (by unfold nC; rw [if_neg (by omega)]; exact hj)
    rw [e]
    exact h
  have dc : ¬ 0 < cntF g 0 (nC kd n) → DEC (pcR kd n f g) := fun h => by
    have z := cntF_0 h
    refine DEC.ofg (fun j hj h1 => ?_)
    rcases hk with e | e
    · have h1 := h1 (decide_eq_true e)
      have q : j - 1 < nC kd n := by unfold nC; rw [if_pos e]; omega
      have := z _ q
      have := hd _ q
      show (if kd = 0 then g (j - 1) else g j).toInt = 1 ∨ (if kd = 0 then g (j - 1) else g j).toInt = 2
      rw [if_pos e]
      omega
    · have q : j < nC kd n := by unfold nC; rw [if_neg (by omega)]; exact hj
      have := z _ q
      have := hd _ q
      show (if kd = 0 then g (j - 1) else g j).toInt = 1 ∨ (if kd = 0 then g (j - 1) else g j).toInt = 2
      rw [if_neg (by omega)]
      omega
  unfold WYf at h k
  rw [← c0, ← c1, ← c2, ← ev] at k
  rcases h with h | ⟨h0, h1, h2, h3⟩ | ⟨h0, h1, h2, h3, h4⟩ | ⟨h0, h1, h2, h3, h4, h5⟩ | ⟨h0, h1, h2⟩ <;> rcases k with k | ⟨k0, k1, k2, k3⟩ | ⟨k0, k1, k2, k3, k4⟩ | ⟨k0, k1, k2, k3, k4, k5⟩ | ⟨k0, k1, k2⟩
  all_goals try omega
  · exact absurd ((sh h1).mp h4) (by rcases k1 with k1 | k1; exact absurd h1 k1; exact k1.2.2)
  · exact absurd ((sh k1).mpr k4) (by rcases h1 with h1 | h1; exact absurd k1 h1; exact h1.2.2)
  · exact WYe_uniq (dc h0) h2 (ep k2)
