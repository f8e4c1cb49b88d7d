/-! the fresh pool -/
theorem rl_all {p : Nat → Prop} {t : Nat} (f : Nat → Bool) (hf : ∀ b, f b = true → p b) (h : (List.range 315).all (fun b => !(rl b == t) || f b) = true) (ht : t ≠ 99) (b : Nat) (hb : rl b = t) : p b := hf b (ar_all h hb ht)
theorem xr0 : XR P0 := by
  refine ⟨fun b hb => ?_, fun A hA => ?_, fun k hk => ?_, by decide +kernel, by decide +kernel, by decide +kernel⟩
  · rcases hb with hb | hb
    · exact rl_all (p := fun b => rv P0 b 3 = b + 1 ∧ rv P0 b 4 = b + 2) (fun b => decide (rv P0 b 3 = b + 1 ∧ rv P0 b 4 = b + 2)) (fun b h => of_decide_eq_true h) (by decide +kernel) (by decide) b hb
    · exact rl_all (p := fun b => rv P0 b 3 = b + 1 ∧ rv P0 b 4 = b + 2) (fun b => decide (rv P0 b 3 = b + 1 ∧ rv P0 b 4 = b + 2)) (fun b h => of_decide_eq_true h) (by decide +kernel) (by decide) b hb
  · have := rl_all (p := fun A => rv P0 A 0 = A + 1 ∧ (List.range 8).all (fun k => rv P0 (A + 1) k == A + 2 + 3 * k) = true) (fun A => decide (rv P0 A 0 = A + 1 ∧ (List.range 8).all (fun k => rv P0 (A + 1) k == A + 2 + 3 * k) = true)) (fun A h => of_decide_eq_true h) (by decide +kernel) (by decide) A hA
    exact ⟨this.1, fun k hk => beq_iff_eq.mp (List.all_eq_true.mp this.2 k (List.mem_range.mpr hk))⟩
  · have : (List.range 8).all (fun k => rv P0 80 k == 81 + 26 * k) = true := by decide +kernel
    exact beq_iff_eq.mp (List.all_eq_true.mp this k (List.mem_range.mpr hk))
theorem inj0 : Inj P0 := by
  have h : (List.range 8).all (fun k => rv P0 2 k == 3 + 3 * k) = true := by decide +kernel
  intro i j hi hj e
  have h1 := beq_iff_eq.mp (List.all_eq_true.mp h i (List.mem_range.mpr hi))
  have h2 := beq_iff_eq.mp (List.all_eq_true.mp h j (List.mem_range.mpr hj))
  omega
theorem srn0 : SRn P0 := ⟨by decide +kernel, by decide +kernel, by decide +kernel, fun k _ hz => by
  rw [show (fv P0 302 0).toInt = 0 by decide +kernel] at hz
  omega⟩
theorem hr0 : HR P0 := ⟨by decide +kernel, fun i _ hz => by
  rw [show (fv P0 301 4).toInt = 0 by decide +kernel] at hz
  omega⟩
