/-! what the rows over typed pools need of Int32 -/
theorem ti_full (x : Int32) : (-2147483648 : Int) ≤ x.toInt ∧ x.toInt ≤ 2147483647 := ⟨Int32.le_toInt x, by have := Int32.toInt_lt x; omega⟩
theorem ti_lt {x y : Int32} {a b : Int} (h : x < y) (ha : x.toInt = a := by rfl) (hb : y.toInt = b := by rfl) : a < b := by
  subst ha; subst hb; exact Int32.lt_iff_toInt_lt.mp h
theorem ti_lt_n {x y : Int32} {a b : Int} (h : ¬ x < y) (ha : x.toInt = a := by rfl) (hb : y.toInt = b := by rfl) : a ≥ b := by
  subst ha; subst hb
  rw [Int32.lt_iff_toInt_lt] at h
  omega
theorem ti_le {x y : Int32} {a b : Int} (h : x ≤ y) (ha : x.toInt = a := by rfl) (hb : y.toInt = b := by rfl) : a ≤ b := by
  subst ha; subst hb; exact Int32.le_iff_toInt_le.mp h
theorem ti_le_n {x y : Int32} {a b : Int} (h : ¬ x ≤ y) (ha : x.toInt = a := by rfl) (hb : y.toInt = b := by rfl) : a > b := by
  subst ha; subst hb
  rw [Int32.le_iff_toInt_le] at h
  omega
theorem ti_ge {x y : Int32} {a b : Int} (h : y ≤ x) (ha : x.toInt = a := by rfl) (hb : y.toInt = b := by rfl) : a ≥ b := ti_le h hb ha
theorem ti_ge_n {x y : Int32} {a b : Int} (h : ¬ y ≤ x) (ha : x.toInt = a := by rfl) (hb : y.toInt = b := by rfl) : a < b := ti_le_n h hb ha
theorem ti_gt {x y : Int32} {a b : Int} (h : y < x) (ha : x.toInt = a := by rfl) (hb : y.toInt = b := by rfl) : a > b := ti_lt h hb ha
theorem ti_gt_n {x y : Int32} {a b : Int} (h : ¬ y < x) (ha : x.toInt = a := by rfl) (hb : y.toInt = b := by rfl) : a ≤ b := ti_lt_n h hb ha
theorem ti_eq {x y : Int32} {a b : Int} (h : x = y) (ha : x.toInt = a := by rfl) (hb : y.toInt = b := by rfl) : a = b := by
  subst ha; subst hb; rw [h]
theorem ti_eq_n {x y : Int32} {a b : Int} (h : ¬ x = y) (ha : x.toInt = a := by rfl) (hb : y.toInt = b := by rfl) : a ≠ b := by
  subst ha; subst hb; exact fun e => h (Int32.toInt_inj.mp e)
theorem ti_ne {x y : Int32} {a b : Int} (h : ¬ x = y) (ha : x.toInt = a := by rfl) (hb : y.toInt = b := by rfl) : a ≠ b := ti_eq_n h ha hb
theorem ti_ne_n {x y : Int32} {a b : Int} (h : ¬ ¬ x = y) (ha : x.toInt = a := by rfl) (hb : y.toInt = b := by rfl) : a = b := ti_eq (Decidable.not_not.mp h) ha hb
theorem ti_01 {x : Int32} (h : x.toInt = 0 ∨ x.toInt = 1) : x = 0 ∨ x = 1 := h.elim (fun e => Or.inl (Int32.toInt_inj.mp e)) (fun e => Or.inr (Int32.toInt_inj.mp e))
theorem ti_bm {x : Int} (h1 : -2147483648 ≤ x) (h2 : x ≤ 2147483647) : x.bmod (2 ^ 32) = x := by
  rw [Int.bmod_def]
  split <;> omega
theorem ti_add {x y : Int32} {a b : Int} (ha : x.toInt = a) (hb : y.toInt = b) (h1 : -2147483648 ≤ a + b) (h2 : a + b ≤ 2147483647) : (x + y).toInt = a + b := by
  rw [Int32.toInt_add, ha, hb, ti_bm h1 h2]
theorem ti_sub {x y : Int32} {a b : Int} (ha : x.toInt = a) (hb : y.toInt = b) (h1 : -2147483648 ≤ a - b) (h2 : a - b ≤ 2147483647) : (x - y).toInt = a - b := by
  rw [Int32.toInt_sub, ha, hb, ti_bm h1 h2]
theorem ti_mul {x y : Int32} {a b : Int} (ha : x.toInt = a) (hb : y.toInt = b) (h1 : -2147483648 ≤ a * b) (h2 : a * b ≤ 2147483647) : (x * y).toInt = a * b := by
  rw [Int32.toInt_mul, ha, hb, ti_bm h1 h2]
theorem ti_fit {x : Int32} (h : x.toInt = 0 ∨ x.toInt = 1) : mfit .boolean (.int x) = true := by
  rcases ti_01 h with rfl | rfl <;> rfl
theorem ti_mm7 {x y z : Int32} (h : (if (7 : Nat) = 7 then (if x < y then y else x) else (if y < x then y else x)) = z) : z.toInt = max x.toInt y.toInt := by
  rw [if_pos rfl] at h
  subst h
  split
  · rename_i h
    have := Int32.lt_iff_toInt_lt.mp h
    omega
  · rename_i h
    rw [Int32.lt_iff_toInt_lt] at h
    omega
theorem ti_mm8 {x y z : Int32} (h : (if (8 : Nat) = 7 then (if x < y then y else x) else (if y < x then y else x)) = z) : z.toInt = min x.toInt y.toInt := by
  rw [if_neg (by decide)] at h
  subst h
  split
  · rename_i h
    have := Int32.lt_iff_toInt_lt.mp h
    omega
  · rename_i h
    rw [Int32.lt_iff_toInt_lt] at h
    omega
/-- Script and the reference untouched -/
def KX (P P' : mP) : Prop := ∀ b j : Nat, rl b = 8 ∨ 17 ≤ rl b → fv P' b j = fv P b j
theorem KX.refl (P : mP) : KX P P := fun _ _ _ => rfl
theorem KX.trans {P P1 P2 : mP} (h : KX P P1) (g : KX P1 P2) : KX P P2 := fun b j hb => (g b j hb).trans (h b j hb)
theorem KX.step {P Q Q' : mP} {a k r : Nat} (h : KX P Q) (ha : rl a = r) (hr : ¬ (r = 8 ∨ 17 ≤ r)) (f : ∀ b j : Nat, ¬ (b = a ∧ j = k) → fv Q' b j = fv Q b j) : KX P Q' := fun b j hb => (f b j (fun e => hr (by rw [← ha, ← e.1]; exact hb))).trans (h b j hb)
theorem ti_n0 {y : Int32} (h : ¬ y.toInt = 0) : ¬ y = 0 := fun e => h (by rw [e]; rfl)
theorem ti_div {x y z : Int32} (h : x / y = z) (hx : 0 ≤ x.toInt) (hy : 0 < y.toInt) : z.toInt = x.toInt / y.toInt := by
  subst h
  have w := ti_full x
  rw [Int32.toInt_div, Int.tdiv_eq_ediv_of_nonneg hx]
  have h1 : 0 ≤ x.toInt / y.toInt := Int.ediv_nonneg hx (by omega)
  have h2 : x.toInt / y.toInt ≤ x.toInt := Int.ediv_le_self _ hx
  exact ti_bm (by omega) (by omega)
theorem ti_rem {x y z : Int32} (h : x - x / y * y = z) (hx : 0 ≤ x.toInt) (hy : 0 < y.toInt) : 0 ≤ z.toInt ∧ z.toInt < y.toInt := by
  have w := ti_full x
  have d := ti_div (x := x) (y := y) rfl hx hy
  have h1 : 0 ≤ x.toInt / y.toInt := Int.ediv_nonneg hx (by omega)
  have h3 := Int.emod_nonneg x.toInt (b := y.toInt) (by omega)
  have h4 := Int.emod_lt_of_pos x.toInt hy
  have h5 := Int.mul_ediv_add_emod x.toInt y.toInt
  have h6 : x.toInt / y.toInt * y.toInt = y.toInt * (x.toInt / y.toInt) := Int.mul_comm _ _
  have h7 : 0 ≤ y.toInt * (x.toInt / y.toInt) := Int.mul_nonneg (by omega) h1
  have m := ti_mul (y := y) (b := y.toInt) d rfl (by omega) (by omega)
  have s := ti_sub (x := x) (y := x / y * y) (a := x.toInt) rfl m (by omega) (by omega)
  subst h
  omega
theorem mt_callv {d : Nat} {scr : Option (List Int32)} {q : mQ} {pc : Nat} {L : List (Nat × Value)} {st rest : List Value} {P : mP} {cz sz : Nat} {Φ : Option Value → mP → Prop} {i kd k a r : Nat} {q' : mQ} {As : List Value} {Ψ : Option Value → mP → Prop} (hT : Typ P) (hd : decode q.2.1 pc = .ok (.invokevirtual i, 3)) (hc : mcal q.2.2.2.2.2.1 i = some (kd, k)) (hq : mtL[k]? = some q') (hkd : kd < 2) (hn : As.length = q'.2.2.2.2.1) (hr : rl a = r) (hr9 : r ≠ 99) (hk : (rsp r).1 = q'.2.2.2.2.2.1) (hcat : (rest.map mcat).sum ≤ 8) (hst : st = As.reverse ++ .ref a :: rest) (hz : q'.2.2.2.2.2.2.1 = 0 ∧ q'.2.2.2.2.2.2.2 = 0) (hcz : cz ≤ q.2.2.2.2.2.2.1 ∧ sz ≤ q.2.2.2.2.2.2.2) (hev : EvP d k (.ref a :: As) P Ψ) (kk : ∀ (r1 : Option Value) (P1 : mP), Ψ r1 P1 → MEvP d scr q (pc + 3) L (r1.toList ++ rest) P1 cz sz Φ) (ho : q'.2.2.2.2.2.1 < 8 := by decide) : MEvP d scr q pc L st P cz sz Φ := by
  obtain ⟨vs, h1, -, -⟩ := hT.cell hr hr9
  rw [hk] at h1
  exact mp_callv hd hc hq hkd hn h1 ho hcat hst hz hcz hev kk
