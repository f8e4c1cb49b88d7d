/-! the fresh pool is typed -/
def okVb (s : mSp) : Value → Bool
  | .int x => s.1 == 0 && (decide (s.2.1 ≤ x.toInt) && decide (x.toInt ≤ s.2.2))
  | .ref b => s.1 == rl b + 1
  | _ => false
theorem okVb_ok {s : mSp} {v : Value} (h : okVb s v = true) : okV s v := by
  cases v with
  | int x =>
    simp only [okVb, Bool.and_eq_true, beq_iff_eq, decide_eq_true_eq] at h
    exact h
  | ref b =>
    simp only [okVb, beq_iff_eq] at h
    exact h
  | _ => simp [okVb] at h
def okVs (f : Nat → mSp) : Nat → List Value → Bool
  | _, [] => true
  | j, v :: vs => okVb (f j) v && okVs f (j + 1) vs
theorem okVs_ok {f : Nat → mSp} : ∀ (vs : List Value) (i : Nat), okVs f i vs = true → ∀ j : Nat, j < vs.length → okV (f (i + j)) (vs.getD j .null)
  | [], _, _, j, hj => absurd hj (Nat.not_lt_zero j)
  | v :: vs, i, h, 0, _ => by
    simp only [okVs, Bool.and_eq_true] at h
    exact okVb_ok h.1
  | v :: vs, i, h, j + 1, hj => by
    simp only [okVs, Bool.and_eq_true] at h
    have := okVs_ok vs (i + 1) h.2 j (by simpa using hj)
    rw [show i + (j + 1) = i + 1 + j by omega]
    simpa [List.getD] using this
def typb (P : mP) : Bool := (List.range 315).all (fun a => match P[a]? with
  | some c => c.1 == (rsp (rl a)).1 && (c.2.length == (rsp (rl a)).2.1 && okVs (rsp (rl a)).2.2 0 c.2)
  | none => false)
theorem typb_ok {P : mP} (h : typb P = true) : Typ P := by
  intro a ha
  have h1 := List.all_eq_true.mp h a (List.mem_range.mpr ha)
  cases hc : P[a]? with
  | none =>
    rw [hc] at h1
    cases h1
  | some c =>
    rw [hc] at h1
    simp only [Bool.and_eq_true, beq_iff_eq] at h1
    refine ⟨c, rfl, h1.1, h1.2.1, fun j hj => ?_⟩
    have := okVs_ok c.2 0 h1.2.2 j hj
    rwa [Nat.zero_add] at this
theorem typ0 : Typ P0 := typb_ok (by decide +kernel)
