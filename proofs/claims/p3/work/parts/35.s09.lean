/-! what stands in the way, on both sides -/
def DEC (R : RS) : Prop := ∀ j : Nat, j < R.n → (R.st = true → 1 ≤ j) → (R.g j).toInt = 1 ∨ (R.g j).toInt = 2
theorem c_eq {x y : Int32} (hx : x.toInt = 1 ∨ x.toInt = 2) (hy : y.toInt = 1 ∨ y.toInt = 2) : cC x y ↔ cM x y := by
  have e : (x + y).toInt = x.toInt + y.toInt := ti_add rfl rfl (by omega) (by omega)
  unfold cC cM
  omega
theorem CRf.conv {st : Bool} {n i : Nat} {f g : Nat → Int32} (hd : ∀ j : Nat, j < n → (st = true → 1 ≤ j) → (g j).toInt = 1 ∨ (g j).toInt = 2) (h1 : loI st ≤ i) (h2 : i < hiI st n) : CRf cC n f g i ↔ CRf cM n f g i := by
  have hn : i < n := hiI_le h2
  have e4 := hd i hn (fun e => by unfold loI at h1; rw [if_pos e] at h1; exact h1)
  have e5 := hd _ (nxI_lt hn) (fun e => nxI_ge (by unfold hiI at h2; rw [if_pos e] at h2; omega))
  unfold CRf
  rw [c_eq e4 e5]
theorem FS.conv {R : RS} {x : Int} (hd : DEC R) (h : FS cC R x) : FS cM R x := by
  rcases h with h | h | h | ⟨h1, h⟩
  · exact Or.inl h
  · exact Or.inr (Or.inl h)
  · exact Or.inr (Or.inr (Or.inl h))
  · refine Or.inr (Or.inr (Or.inr ⟨h1, ?_⟩))
    rcases h with ⟨i, a, b, c, d, e⟩ | ⟨a, b⟩
    · exact Or.inl ⟨i, a, b, (CRf.conv hd a b).mp c, fun j h2 h3 h4 => d j h2 h3 ((CRf.conv hd h2 (by omega)).mpr h4), e⟩
    · exact Or.inr ⟨fun j h2 h3 h4 => a j h2 h3 ((CRf.conv hd h2 h3).mpr h4), b⟩
theorem DEC.ofg {st : Bool} {n : Nat} {f g : Nat → Int32} (h : ∀ j : Nat, j < n → (st = true → 1 ≤ j) → (g j).toInt = 1 ∨ (g j).toInt = 2) : DEC (tm st n f g) := by
  intro j hj h1
  rw [tm_g (st := st) (n := n) (f := f) (g := g) hj h1]
  exact h j hj h1
theorem DEC.mk {R : RS} {x : Int} (hd : DEC R) (h : FS cC R x) (hx : ¬ x = 0) : DEC (mkF R x) := by
  have h2 := FS.two h hx
  unfold mkF
  split
  · exact DEC.ofg (fun j hj h1 => hd j (by omega) h1)
  · split
    · refine DEC.ofg (fun j hj h1 => ?_)
      unfold tk
      rw [if_neg (by omega)]
      exact hd (j + 1) (by omega) (fun _ => by omega)
    · refine DEC.ofg (fun j hj h1 => ?_)
      have key : ∀ a k : Nat, k + 1 < R.n → (R.st = true → 1 ≤ k) → (tk a R.g k).toInt = 1 ∨ (tk a R.g k).toInt = 2 := by
        intro a k hk hk1
        unfold tk
        split
        · exact hd k (by omega) hk1
        · exact hd (k + 1) (by omega) (fun _ => by omega)
      generalize max (x - 10).toNat (nxI R.n (x - 10).toNat) = a
      generalize min (x - 10).toNat (nxI R.n (x - 10).toNat) = b
      show (if j < b then _ else _ : Int32).toInt = 1 ∨ (if j < b then _ else _ : Int32).toInt = 2
      split
      · exact key a j (by omega) h1
      · exact key a (j + 1) (by omega) (fun _ => by omega)
theorem RD.conv {k : Nat} : ∀ {R R' : RS}, DEC R → RD cC R k R' → RD cM R k R' ∧ DEC R' := by
  induction k with
  | zero =>
    intro R R' hd h
    obtain ⟨h1, h2⟩ := h
    subst h2
    exact ⟨⟨FS.conv hd h1, rfl⟩, hd⟩
  | succ k ih =>
    intro R R' hd h
    obtain ⟨x, h1, h2, h3⟩ := h
    have := ih (hd.mk h1 h2) h3
    exact ⟨⟨x, FS.conv hd h1, h2, this.1⟩, this.2⟩
theorem isR_conv {R : RS} (hd : DEC R) : isRf eC R ↔ isRf eM R := by
  constructor
  · rintro (h | ⟨h1, h2, h3, h4, h5⟩)
    · exact Or.inl h
    · exact Or.inr ⟨h1, h2, h3, h4, by have := hd 0 (by omega) (fun e => by rw [h1] at e; cases e); unfold eM; omega⟩
  · rintro (h | ⟨h1, h2, h3, h4, h5⟩)
    · exact Or.inl h
    · exact Or.inr ⟨h1, h2, h3, h4, trivial⟩
theorem cntF_0 {f : Nat → Int32} {n : Nat} (h : ¬ 0 < cntF f 0 n) : ∀ j : Nat, j < n → ¬ (f j).toInt = 0 := by
  induction n with
  | zero => intro j hj; omega
  | succ n ih =>
    intro j hj
    have b := cntF_bnd (f := f) (c := 0) (n := n)
    have e : cntF f 0 (n + 1) = if (f n).toInt = 0 then cntF f 0 n + 1 else cntF f 0 n := rfl
    rw [e] at h
    by_cases c : (f n).toInt = 0
    · rw [if_pos c] at h
      omega
    · rw [if_neg c] at h
      by_cases ej : j = n
      · subst ej
        exact c
      · exact ih h j (by omega)
theorem WYe_uniq {R : RS} {w w' : Int} (hd : DEC R) (h : WYe cC eC R w) (g : WYe cM eM R w') : w = w' := by
  obtain ⟨k, R1, h1, h2⟩ := h
  obtain ⟨l, R2, g1, g2⟩ := g
  obtain ⟨c1, c2⟩ := RD.conv hd h1
  have e := (RD.uniq c1 g1).2
  subst e
  have q := isR_conv c2
  rcases h2 with ⟨h2, h3⟩ | ⟨h2, h3⟩ <;> rcases g2 with ⟨g2, g3⟩ | ⟨g2, g3⟩
  · omega
  · exact absurd (q.mp h2) g2
  · exact absurd (q.mpr g2) h2
  · omega
/-- the same answer, whatever way it is found -/
theorem WY_uniq {kd n w w' : Int} {f g f' g' : Nat → Int32} (hk : kd = 0 ∨ kd = 1) (hn : 2 ≤ n) (hf : ∀ j : Nat, (j : Int) < n → f j = f' j) (hg : ∀ j : Nat, j < nC kd n → g j = g' j) (hd : ∀ j : Nat, j < nC kd n → 0 ≤ (g j).toInt ∧ (g j).toInt ≤ 2) (h : WYf cC eC kd n f g w) (k : WYf cM eM kd n f' g' w') : w = w' := by
  have c0 := cntF_congr (c := 0) hg
  have c1 := cntF_congr (c := 1) hg
  have c2 := cntF_congr (c := 2) hg
  have ev : evF f n.toNat = evF f' n.toNat := evF.congr (fun j hj => hf j (by omega))
  have sh : kd = 1 → (SHf n.toNat f g ↔ SHf n.toNat f' g') := fun e => by
    have gg : ∀ j : Nat, j < n.toNat → g j = g' j := fun j hj => hg j (by unfold nC; rw [if_neg (by omega)]; exact hj)
    exact ⟨fun h => h.congr (fun j hj => hf j (by omega)) gg, fun h => h.congr (fun j hj => (hf j (by omega)).symm) (fun j hj => (gg j hj).symm)⟩
  have ep : ∀ {v : Int}, WYe cM eM (pcR kd n f' g') v → WYe cM eM (pcR kd n f g) v := fun {v} h => by
    have e : pcR kd n f g = pcR kd n f' g' := by
      unfold pcR
      refine tm_eq rfl rfl (fun j hj => hf j (by omega)) (fun j hj h1 => ?_)
      rcases hk with e | e
      · have h1 := h1 (decide_eq_true e)
        show (if kd = 0 then _ else _) = if kd = 0 then _ else _
        rw [if_pos e, if_pos e]
        exact hg _ (by unfold nC; rw [if_pos e]; omega)
      · show (if kd = 0 then _ else _) = if kd = 0 then _ else _
        rw [if_neg (by omega), if_neg (by omega)]
        exact hg _ (by unfold nC; rw [if_neg (by omega)]; exact hj)
    rw [e]
    exact h
  have dc : ¬ 0 < cntF g 0 (nC kd n) → DEC (pcR kd n f g) := fun h => by
    have z := cntF_0 h
    refine DEC.ofg (fun j hj h1 => ?_)
    rcases hk with e | e
    · have h1 := h1 (decide_eq_true e)
      have q : j - 1 < nC kd n := by unfold nC; rw [if_pos e]; omega
      have := z _ q
      have := hd _ q
      show (if kd = 0 then g (j - 1) else g j).toInt = 1 ∨ (if kd = 0 then g (j - 1) else g j).toInt = 2
      rw [if_pos e]
      omega
    · have q : j < nC kd n := by unfold nC; rw [if_neg (by omega)]; exact hj
      have := z _ q
      have := hd _ q
      show (if kd = 0 then g (j - 1) else g j).toInt = 1 ∨ (if kd = 0 then g (j - 1) else g j).toInt = 2
      rw [if_neg (by omega)]
      omega
  unfold WYf at h k
  rw [← c0, ← c1, ← c2, ← ev] at k
  rcases h with h | ⟨h0, h1, h2, h3⟩ | ⟨h0, h1, h2, h3, h4⟩ | ⟨h0, h1, h2, h3, h4, h5⟩ | ⟨h0, h1, h2⟩ <;> rcases k with k | ⟨k0, k1, k2, k3⟩ | ⟨k0, k1, k2, k3, k4⟩ | ⟨k0, k1, k2, k3, k4, k5⟩ | ⟨k0, k1, k2⟩
  all_goals try omega
  · exact absurd ((sh h1).mp h4) (by rcases k1 with k1 | k1; exact absurd h1 k1; exact k1.2.2)
  · exact absurd ((sh k1).mpr k4) (by rcases h1 with h1 | h1; exact absurd k1 h1; exact h1.2.2)
  · exact WYe_uniq (dc h0) h2 (ep k2)
