/-! what the rows over typed pools need of Int32 -/
theorem ti_full (x : Int32) : (-2147483648 : Int) ≤ x.toInt ∧ x.toInt ≤ 2147483647 := ⟨Int32.le_toInt x, by have := Int32.toInt_lt x; omega⟩
theorem ti_lt {x y : Int32} {a b : Int} (h : x < y) (ha : x.toInt = a := by rfl) (hb : y.toInt = b := by rfl) : a < b := by
  subst ha; subst hb; exact Int32.lt_iff_toInt_lt.mp h
theorem ti_lt_n {x y : Int32} {a b : Int} (h : ¬ x < y) (ha : x.toInt = a := by rfl) (hb : y.toInt = b := by rfl) : a ≥ b := by
  subst ha; subst hb
  rw [Int32.lt_iff_toInt_lt] at h
  omega
theorem ti_le {x y : Int32} {a b : Int} (h : x ≤ y) (ha : x.toInt = a := by rfl) (hb : y.toInt = b := by rfl) : a ≤ b := by
  subst ha; subst hb; exact Int32.le_iff_toInt_le.mp h
theorem ti_le_n {x y : Int32} {a b : Int} (h : ¬ x ≤ y) (ha : x.toInt = a := by rfl) (hb : y.toInt = b := by rfl) : a > b := by
  subst ha; subst hb
  rw [Int32.le_iff_toInt_le] at h
  omega
theorem ti_ge {x y : Int32} {a b : Int} (h : y ≤ x) (ha : x.toInt = a := by rfl) (hb : y.toInt = b := by rfl) : a ≥ b := ti_le h hb ha
theorem ti_ge_n {x y : Int32} {a b : Int} (h : ¬ y ≤ x) (ha : x.toInt = a := by rfl) (hb : y.toInt = b := by rfl) : a < b := ti_le_n h hb ha
theorem ti_gt {x y : Int32} {a b : Int} (h : y < x) (ha : x.toInt = a := by rfl) (hb : y.toInt = b := by rfl) : a > b := ti_lt h hb ha
theorem ti_gt_n {x y : Int32} {a b : Int} (h : ¬ y < x) (ha : x.toInt = a := by rfl) (hb : y.toInt = b := by rfl) : a ≤ b := ti_lt_n h hb ha
theorem ti_eq {x y : Int32} {a b : Int} (h : x = y) (ha : x.toInt = a := by rfl) (hb : y.toInt = b := by rfl) : a = b := by
  subst ha; subst hb; rw [h]
theorem ti_eq_n {x y : Int32} {a b : Int} (h : ¬ x = y) (ha : x.toInt = a := by rfl) (hb : y.toInt = b := by rfl) : a ≠ b := by
  subst ha; subst hb; exact fun e => h (Int32.toInt_inj.mp e)
theorem ti_ne {x y : Int32} {a b : Int} (h : ¬ x = y) (ha : x.toInt = a := by rfl) (hb : y.toInt = b := by rfl) : a ≠ b := ti_eq_n h ha hb
theorem ti_ne_n {x y : Int32} {a b : Int} (h : ¬ ¬ x = y) (ha : x.toInt = a := by rfl) (hb : y.toInt = b := by rfl) : a = b := ti_eq (Decidable.not_not.mp h) ha hb
theorem ti_01 {x : Int32} (h : x.toInt = 0 ∨ x.toInt = 1) : x = 0 ∨ x = 1 := h.elim (fun e => Or.inl (Int32.toInt_inj.mp e)) (fun e => Or.inr (Int32.toInt_inj.mp e))
theorem ti_bm {x : Int} (h1 : -2147483648 ≤ x) (h2 : x ≤ 2147483647) : x.bmod (2 ^ 32) = x := by
  rw [Int.bmod_def]
  split <;> omega
theorem ti_add {x y : Int32} {a b : Int} (ha : x.toInt = a) (hb : y.toInt = b) (h1 : -2147483648 ≤ a + b) (h2 : a + b ≤ 2147483647) : (x + y).toInt = a + b := by
  rw [Int32.toInt_add, ha, hb, ti_bm h1 h2]
theorem ti_sub {x y : Int32} {a b : Int} (ha : x.toInt = a) (hb : y.toInt = b) (h1 : -2147483648 ≤ a - b) (h2 : a - b ≤ 2147483647) : (x - y).toInt = a - b := by
  rw [Int32.toInt_sub, ha, hb, ti_bm h1 h2]
theorem ti_mul {x y : Int32} {a b : Int} (ha : x.toInt = a) (hb : y.toInt = b) (h1 : -2147483648 ≤ a * b) (h2 : a * b ≤ 2147483647) : (x * y).toInt = a * b := by
  rw [Int32.toInt_mul, ha, hb, ti_bm h1 h2]
theorem ti_fit {x : Int32} (h : x.toInt = 0 ∨ x.toInt = 1) : mfit .boolean (.int x) = true := by
  rcases ti_01 h with rfl | rfl <;> rfl
theorem ti_mm7 {x y z : Int32} (h : (if (7 : Nat) = 7 then (if x < y then y else x) else (if y < x then y else x)) = z) : z.toInt = max x.toInt y.toInt := by
  rw [if_pos rfl] at h
  subst h
  split
  · rename_i h
    have := Int32.lt_iff_toInt_lt.mp h
    omega
  · rename_i h
    rw [Int32.lt_iff_toInt_lt] at h
    omega
theorem ti_mm8 {x y z : Int32} (h : (if (8 : Nat) = 7 then (if x < y then y else x) else (if y < x then y else x)) = z) : z.toInt = min x.toInt y.toInt := by
  rw [if_neg (by decide)] at h
  subst h
  split
  · rename_i h
    have := Int32.lt_iff_toInt_lt.mp h
    omega
  · rename_i h
    rw [Int32.lt_iff_toInt_lt] at h
    omega
theorem ti_n0 {y : Int32} (h : ¬ y.toInt = 0) : ¬ y = 0 := fun e => h (by rw [e]; rfl)
theorem ti_div {x y z : Int32} (h : x / y = z) (hx : 0 ≤ x.toInt) (hy : 0 < y.toInt) : z.toInt = x.toInt / y.toInt := by
  subst h
  have w := ti_full x
  rw [Int32.toInt_div, Int.tdiv_eq_ediv_of_nonneg hx]
  have h1 : 0 ≤ x.toInt / y.toInt := Int.ediv_nonneg hx (by omega)
  have h2 : x.toInt / y.toInt ≤ x.toInt := Int.ediv_le_self _ hx
  exact ti_bm (by omega) (by omega)
theorem ti_rem {x y z : Int32} (h : x - x / y * y = z) (hx : 0 ≤ x.toInt) (hy : 0 < y.toInt) : 0 ≤ z.toInt ∧ z.toInt < y.toInt := by
  have w := ti_full x
  have d := ti_div (x := x) (y := y) rfl hx hy
  have h1 : 0 ≤ x.toInt / y.toInt := Int.ediv_nonneg hx (by omega)
  have h3 := Int.emod_nonneg x.toInt (b := y.toInt) (by omega)
  have h4 := Int.emod_lt_of_pos x.toInt hy
  have h5 := Int.mul_ediv_add_emod x.toInt y.toInt
  have h6 : x.toInt / y.toInt * y.toInt = y.toInt * (x.toInt / y.toInt) := Int.mul_comm _ _
  have h7 : 0 ≤ y.toInt * (x.toInt / y.toInt) := Int.mul_nonneg (by omega) h1
  have m := ti_mul (y := y) (b := y.toInt) d rfl (by omega) (by omega)
  have s := ti_sub (x := x) (y := x / y * y) (a := x.toInt) rfl m (by omega) (by omega)
  subst h
  omega
theorem ti_addz {x y z : Int32} {a b : Int} (h : x + y = z) (ha : x.toInt = a) (hb : y.toInt = b) (h1 : -2147483648 ≤ a + b) (h2 : a + b ≤ 2147483647) : z.toInt = a + b := h ▸ ti_add ha hb h1 h2
theorem ti_subz {x y z : Int32} {a b : Int} (h : x - y = z) (ha : x.toInt = a) (hb : y.toInt = b) (h1 : -2147483648 ≤ a - b) (h2 : a - b ≤ 2147483647) : z.toInt = a - b := h ▸ ti_sub ha hb h1 h2
theorem ti_mulz {x y z : Int32} {a b : Int} (h : x * y = z) (ha : x.toInt = a) (hb : y.toInt = b) (h1 : -2147483648 ≤ a * b) (h2 : a * b ≤ 2147483647) : z.toInt = a * b := h ▸ ti_mul ha hb h1 h2
theorem ti_ex (e : Int32) : ∃ z : Int32, e = z := ⟨e, rfl⟩
theorem Typ.rng {P : mP} {a r k : Nat} {lo hi : Int} (h : Typ P) (hr : rl a = r) (hn : r ≠ 99) (hl : k < (rsp r).2.1) (hs : (rsp r).2.2 k = (0, lo, hi)) : lo ≤ (fv P a k).toInt ∧ (fv P a k).toInt ≤ hi := by
  obtain ⟨_, -, -, -, h1, h2⟩ := h.int hr hn hl hs
  exact ⟨h1, h2⟩
theorem ssp_0 (j : Nat) : (ssp j).1 = 0 := by
  unfold ssp
  split
  · rfl
  · split
    · rfl
    · split
      · rfl
      · split <;> rfl
theorem okS_mk {i x : Int32} (h3 : 3 ≤ i.toInt) (g1 : (i.toInt - 3) % 19 = 0 → 0 ≤ x.toInt ∧ x.toInt ≤ 1) (g2 : (i.toInt - 3) % 19 = 1 → 0 ≤ x.toInt ∧ x.toInt ≤ 8) : okV (ssp i.toInt.toNat) (.int x) := by
  unfold ssp
  rw [if_neg (by omega), if_neg (by omega)]
  split
  · rename_i h
    exact ⟨rfl, g1 (by omega)⟩
  · split
    · rename_i h
      exact ⟨rfl, g2 (by omega)⟩
    · exact ⟨rfl, ti_full x⟩
theorem okS_get0 {i x : Int32} (h : okV (ssp i.toInt.toNat) (.int x)) (h3 : 3 ≤ i.toInt) (h0 : (i.toInt - 3) % 19 = 0) : 0 ≤ x.toInt ∧ x.toInt ≤ 1 := by
  unfold ssp at h
  rw [if_neg (by omega), if_neg (by omega), if_pos (by omega)] at h
  exact h.2
theorem okS_get1 {i x : Int32} (h : okV (ssp i.toInt.toNat) (.int x)) (h3 : 3 ≤ i.toInt) (h0 : (i.toInt - 3) % 19 = 1) : 0 ≤ x.toInt ∧ x.toInt ≤ 8 := by
  unfold ssp at h
  rw [if_neg (by omega), if_neg (by omega), if_neg (by omega), if_pos (by omega)] at h
  exact h.2
theorem mp_abs {d : Nat} {scr : Option (List Int32)} {q : mQ} {pc : Nat} {L : List (Nat × Value)} {rest : List Value} {P : mP} {cz sz : Nat} {Φ : Option Value → mP → Prop} {i k : Nat} {x v : Int32} (hd : decode q.2.1 pc = .ok (.invokestatic i, 3)) (hc : mcal q.2.2.2.2.2.1 i = some (9, k)) (hcat : (rest.map mcat).sum ≤ 8) (hv : (if 0 ≤ x then x else 0 - x) = v) (hcz : cz ≤ q.2.2.2.2.2.2.1 ∧ sz ≤ q.2.2.2.2.2.2.2) (kk : MEvP d scr q (pc + 3) L (.int v :: rest) P cz sz Φ) : MEvP d scr q pc L (.int x :: rest) P cz sz Φ := by
  subst hv
  obtain ⟨r, P', h1, F, f, hh⟩ := kk
  refine ⟨r, P', h1, F, f + 1, ?_⟩
  have hC : mC (mcall F d) q.2.1 q.2.2.2.2.2.1 pc (.int x :: rest) P = some (pc + 3, .int (if 0 ≤ x then x else 0 - x) :: rest, P, 0, 0) := by
    simp only [mC, hd, hc]
    rw [if_neg (by omega), if_neg (by omega), if_pos trivial, if_pos hcat]
  unfold mexec
  rw [show mA q.2.1 q.2.2.1 pc L (.int x :: rest) = none by simp only [mA, hd], show mS q.2.1 pc (.int x :: rest) = none by simp only [mS, hd], show mB q.2.1 q.2.2.2.2.2.1 (q.1.name == "<init>") pc (.int x :: rest) P = none by simp only [mB, hd], hC]
  dsimp only
  rw [Nat.add_zero, Nat.add_zero, if_pos hcz]
  exact hh
/-- a strip has at most 7 panels, wherever a piece is kept -/
def RelAt (P : mP) (a o : Nat) : Prop := ∀ k : Nat, k < 8 → (fv P a (o + 3 + 19 * k)).toInt = 0 → (fv P a (o + 4 + 19 * k)).toInt ≤ 7
def Rel (P : mP) : Prop := RelAt P 302 0 ∧ RelAt P 303 0 ∧ RelAt P 304 0 ∧ ∀ c : Nat, c < 8 → RelAt P 305 (155 * c)
theorem RelAt.congr {P P' : mP} {a o : Nat} (h : RelAt P a o) (f : ∀ j : Nat, fv P' a j = fv P a j) : RelAt P' a o := by
  intro k hk hz
  rw [f] at hz ⊢
  exact h k hk hz
theorem Rel.all {P P' : mP} (h : Rel P) (f : ∀ b j : Nat, fv P' b j = fv P b j) : Rel P' := ⟨h.1.congr (f _), h.2.1.congr (f _), h.2.2.1.congr (f _), fun c hc => (h.2.2.2 c hc).congr (f _)⟩
theorem Rel.ne {P P' : mP} {a k r : Nat} (h : Rel P) (ha : rl a = r) (hr : (r == 18 || r == 19 || r == 20 || r == 21) = false) (f : ∀ b j : Nat, ¬ (b = a ∧ j = k) → fv P' b j = fv P b j) : Rel P' := by
  simp only [Bool.or_eq_false_iff, beq_eq_false_iff_ne] at hr
  have e1 : ∀ j, ¬ (302 = a ∧ j = k) := fun j e => hr.1.1.1 (by rw [← ha, ← e.1]; exact rl_302)
  have e2 : ∀ j, ¬ (303 = a ∧ j = k) := fun j e => hr.1.1.2 (by rw [← ha, ← e.1]; exact rl_303)
  have e3 : ∀ j, ¬ (304 = a ∧ j = k) := fun j e => hr.1.2 (by rw [← ha, ← e.1]; exact rl_304)
  have e4 : ∀ j, ¬ (305 = a ∧ j = k) := fun j e => hr.2 (by rw [← ha, ← e.1]; exact rl_305)
  exact ⟨h.1.congr (fun j => f _ _ (e1 j)), h.2.1.congr (fun j => f _ _ (e2 j)), h.2.2.1.congr (fun j => f _ _ (e3 j)), fun c hc => (h.2.2.2 c hc).congr (fun j => f _ _ (e4 j))⟩
theorem Rel.kw {W : List Nat} {P P' : mP} (h : Rel P) (g : KW W P P') (hw : (W.contains 1152 || W.contains 1216 || W.contains 1280 || W.contains 1344) = false) : Rel P' := by
  simp only [Bool.or_eq_false_iff] at hw
  exact ⟨h.1.congr (fun j => g.at j rl_302 hw.1.1.1), h.2.1.congr (fun j => g.at j rl_303 hw.1.1.2), h.2.2.1.congr (fun j => g.at j rl_304 hw.1.2), fun c hc => (h.2.2.2 c hc).congr (fun j => g.at j rl_305 hw.2)⟩
theorem mt_callv {d : Nat} {scr : Option (List Int32)} {q : mQ} {pc : Nat} {L : List (Nat × Value)} {st rest : List Value} {P : mP} {cz sz : Nat} {Φ : Option Value → mP → Prop} {i kd k a r : Nat} {q' : mQ} {As : List Value} {Ψ : Option Value → mP → Prop} (hT : Typ P) (hd : decode q.2.1 pc = .ok (.invokevirtual i, 3)) (hc : mcal q.2.2.2.2.2.1 i = some (kd, k)) (hq : mtL[k]? = some q') (hkd : kd < 2) (hn : As.length = q'.2.2.2.2.1) (hr : rl a = r) (hr9 : r ≠ 99) (hk : (rsp r).1 = q'.2.2.2.2.2.1) (hcat : (rest.map mcat).sum ≤ 8) (hst : st = As.reverse ++ .ref a :: rest) (hz : q'.2.2.2.2.2.2.1 = 0 ∧ q'.2.2.2.2.2.2.2 = 0) (hcz : cz ≤ q.2.2.2.2.2.2.1 ∧ sz ≤ q.2.2.2.2.2.2.2) (hev : EvP d k (.ref a :: As) P Ψ) (kk : ∀ (r1 : Option Value) (P1 : mP), Ψ r1 P1 → MEvP d scr q (pc + 3) L (r1.toList ++ rest) P1 cz sz Φ) (ho : q'.2.2.2.2.2.1 < 8 := by decide) : MEvP d scr q pc L st P cz sz Φ := by
  obtain ⟨vs, h1, -, -⟩ := hT.cell hr hr9
  rw [hk] at h1
  exact mp_callv hd hc hq hkd hn h1 ho hcat hst hz hcz hev kk
