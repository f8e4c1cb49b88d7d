/-! calls that change nothing of it; the beginning -/
theorem rl_q {x : Nat} (h1 : 1 ≤ x) (hx : x < 291) : ((1 ≤ rl x ∧ rl x < 10) ∨ (31 ≤ rl x ∧ rl x ≤ 33)) := by
  have h : (List.range 291).all (fun x => decide (x = 0 ∨ (1 ≤ rl x ∧ rl x < 10) ∨ (31 ≤ rl x ∧ rl x ≤ 33))) = true := by decide +kernel
  exact (of_decide_eq_true (List.all_eq_true.mp h x (List.mem_range.mpr hx))).resolve_left (by omega)
theorem rl_q1 {x : Nat} (h1 : 1 ≤ x) (hx : x < 289) : ((1 ≤ rl x ∧ rl x < 8) ∨ (31 ≤ rl x ∧ rl x ≤ 33)) := by
  have h : (List.range 289).all (fun x => decide (x = 0 ∨ (1 ≤ rl x ∧ rl x < 8) ∨ (31 ≤ rl x ∧ rl x ≤ 33))) = true := by decide +kernel
  exact (of_decide_eq_true (List.all_eq_true.mp h x (List.mem_range.mpr hx))).resolve_left (by omega)
theorem KW.by {W : List Nat} {P Q : mP} {x : Nat} {p : Nat → Bool} (h : KW W P Q) (hT : Typ P) (hQ : Typ Q) (hw : W.all p = true) (hp : ∀ n : Nat, 64 * rl x ≤ n → n < 64 * rl x + 64 → p n = false) (hr : rl x ≠ 99) (j : Nat) : fv Q x j = fv P x j := by
  by_cases hj : isO (rl x) = false ∨ j < 64
  · have b := ec_bnd (r := rl x) hj
    exact h.1 x j (all_nc hw (hp _ b.1 b.2))
  · have h1 : isO (rl x) = true := by cases e : isO (rl x) with | true => rfl | false => exact absurd (Or.inl e) hj
    have h2 := isO_len h1
    rw [fv_out hT rfl hr (by omega), fv_out hQ rfl hr (by omega)]
theorem KW.q {W : List Nat} {P Q : mP} (h : KW W P Q) (hT : Typ P) (hQ : Typ Q) (hw : W.all (fun c => decide (640 ≤ c ∧ c < 1984)) = true) {x : Nat} (h1 : 1 ≤ x) (h2 : x < 291) (j : Nat) : fv Q x j = fv P x j := by
  have r := rl_q h1 h2
  exact h.by hT hQ hw (fun n a b => decide_eq_false (by omega)) (by omega) j
theorem KW.q1 {W : List Nat} {P Q : mP} (h : KW W P Q) (hT : Typ P) (hQ : Typ Q) (hw : W.all (fun c => decide (512 ≤ c ∧ c < 1984)) = true) {x : Nat} (h1 : 1 ≤ x) (h2 : x < 289) (j : Nat) : fv Q x j = fv P x j := by
  have r := rl_q1 h1 h2
  exact h.by hT hQ hw (fun n a b => decide_eq_false (by omega)) (by omega) j
theorem sim0 : SIM P0 := by
  have h0 : (fv P0 302 0).toInt = 0 := by decide +kernel
  have h1 : (fv P0 302 1).toInt = 30 := by decide +kernel
  have h4 : (fv P0 301 4).toInt = 0 := by decide +kernel
  have h8 : (fv P0 301 8).toInt = 0 := by decide +kernel
  have h23 : (fv P0 301 23).toInt = 0 := by decide +kernel
  refine ⟨srn0, hr0, snap0, ⟨by decide +kernel, fun j hj => by omega⟩, by decide +kernel, ⟨?_, ?_, ?_, fun k hk => ?_⟩, fun i hi hz => by omega, fun h => by omega⟩
  · show 0 ≤ (fv P0 302 0).toInt ∧ (fv P0 302 0).toInt ≤ 8
    omega
  · show 1 ≤ (fv P0 302 1).toInt ∧ (fv P0 302 1).toInt ≤ 99
    omega
  · show (smF (fun k => wpM (sr P0) k) (fv P0 302 0).toInt.toNat).toInt ≤ (fv P0 302 1).toInt
    rw [h0, h1]
    decide
  · have hk : (k : Int) < (fv P0 302 0).toInt := hk
    omega
