/-! what the rows over typed pools need of Int32 -/
theorem ti_full (x : Int32) : (-2147483648 : Int) ≤ x.toInt ∧ x.toInt ≤ 2147483647 := ⟨Int32.le_toInt x, by have := Int32.toInt_lt x; omega⟩
theorem ti_lt {x y : Int32} {a b : Int} (h : x < y) (ha : x.toInt = a := by rfl) (hb : y.toInt = b := by rfl) : a < b := by
  subst ha; subst hb; exact Int32.lt_iff_toInt_lt.mp h
theorem ti_lt_n {x y : Int32} {a b : Int} (h : ¬ x < y) (ha : x.toInt = a := by rfl) (hb : y.toInt = b := by rfl) : a ≥ b := by
  subst ha; subst hb
  rw [Int32.lt_iff_toInt_lt] at h
  omega
theorem ti_le {x y : Int32} {a b : Int} (h : x ≤ y) (ha : x.toInt = a := by rfl) (hb : y.toInt = b := by rfl) : a ≤ b := by
  subst ha; subst hb; exact Int32.le_iff_toInt_le.mp h
theorem ti_le_n {x y : Int32} {a b : Int} (h : ¬ x ≤ y) (ha : x.toInt = a := by rfl) (hb : y.toInt = b := by rfl) : a > b := by
  subst ha; subst hb
  rw [Int32.le_iff_toInt_le] at h
  omega
theorem ti_ge {x y : Int32} {a b : Int} (h : y ≤ x) (ha : x.toInt = a := by rfl) (hb : y.toInt = b := by rfl) : a ≥ b := ti_le h hb ha
theorem ti_ge_n {x y : Int32} {a b : Int} (h : ¬ y ≤ x) (ha : x.toInt = a := by rfl) (hb : y.toInt = b := by rfl) : a < b := ti_le_n h hb ha
theorem ti_gt {x y : Int32} {a b : Int} (h : y < x) (ha : x.toInt = a := by rfl) (hb : y.toInt = b := by rfl) : a > b := ti_lt h hb ha
theorem ti_gt_n {x y : Int32} {a b : Int} (h : ¬ y < x) (ha : x.toInt = a := by rfl) (hb : y.toInt = b := by rfl) : a ≤ b := ti_lt_n h hb ha
theorem ti_eq {x y : Int32} {a b : Int} (h : x = y) (ha : x.toInt = a := by rfl) (hb : y.toInt = b := by rfl) : a = b := by
  subst ha; subst hb; rw [h]
theorem ti_eq_n {x y : Int32} {a b : Int} (h : ¬ x = y) (ha : x.toInt = a := by rfl) (hb : y.toInt = b := by rfl) : a ≠ b := by
  subst ha; subst hb; exact fun e => h (Int32.toInt_inj.mp e)
theorem ti_ne {x y : Int32} {a b : Int} (h : ¬ x = y) (ha : x.toInt = a := by rfl) (hb : y.toInt = b := by rfl) : a ≠ b := ti_eq_n h ha hb
theorem ti_ne_n {x y : Int32} {a b : Int} (h : ¬ ¬ x = y) (ha : x.toInt = a := by rfl) (hb : y.toInt = b := by rfl) : a = b := ti_eq (Decidable.not_not.mp h) ha hb
theorem ti_01 {x : Int32} (h : x.toInt = 0 ∨ x.toInt = 1) : x = 0 ∨ x = 1 := h.elim (fun e => Or.inl (Int32.toInt_inj.mp e)) (fun e => Or.inr (Int32.toInt_inj.mp e))
theorem ti_bm {x : Int} (h1 : -2147483648 ≤ x) (h2 : x ≤ 2147483647) : x.bmod (2 ^ 32) = x := by
  rw [Int.bmod_def]
  split <;> omega
theorem ti_add {x y : Int32} {a b : Int} (ha : x.toInt = a) (hb : y.toInt = b) (h1 : -2147483648 ≤ a + b) (h2 : a + b ≤ 2147483647) : (x + y).toInt = a + b := by
  rw [Int32.toInt_add, ha, hb, ti_bm h1 h2]
theorem ti_sub {x y : Int32} {a b : Int} (ha : x.toInt = a) (hb : y.toInt = b) (h1 : -2147483648 ≤ a - b) (h2 : a - b ≤ 2147483647) : (x - y).toInt = a - b := by
  rw [Int32.toInt_sub, ha, hb, ti_bm h1 h2]
theorem ti_mul {x y : Int32} {a b : Int} (ha : x.toInt = a) (hb : y.toInt = b) (h1 : -2147483648 ≤ a * b) (h2 : a * b ≤ 2147483647) : (x * y).toInt = a * b := by
  rw [Int32.toInt_mul, ha, hb, ti_bm h1 h2]
theorem ti_fit {x : Int32} (h : x.toInt = 0 ∨ x.toInt = 1) : mfit .boolean (.int x) = true := by
  rcases ti_01 h with rfl | rfl <;> rfl
theorem ti_mm7 {x y z : Int32} (h : (if (7 : Nat) = 7 then (if x < y then y else x) else (if y < x then y else x)) = z) : z.toInt = max x.toInt y.toInt := by
  rw [if_pos rfl] at h
  subst h
  split
  · rename_i h
    have := Int32.lt_iff_toInt_lt.mp h
    omega
  · rename_i h
    rw [Int32.lt_iff_toInt_lt] at h
    omega
theorem ti_mm8 {x y z : Int32} (h : (if (8 : Nat) = 7 then (if x < y then y else x) else (if y < x then y else x)) = z) : z.toInt = min x.toInt y.toInt := by
  rw [if_neg (by decide)] at h
  subst h
  split
  · rename_i h
    have := Int32.lt_iff_toInt_lt.mp h
    omega
  · rename_i h
    rw [Int32.lt_iff_toInt_lt] at h
    omega
theorem ti_n0 {y : Int32} (h : ¬ y.toInt = 0) : ¬ y = 0 := fun e => h (by rw [e]; rfl)
theorem ti_div {x y z : Int32} (h : x / y = z) (hx : 0 ≤ x.toInt) (hy : 0 < y.toInt) : z.toInt = x.toInt / y.toInt := by
  subst h
  have w := ti_full x
  rw [Int32.toInt_div, Int.tdiv_eq_ediv_of_nonneg hx]
  have h1 : 0 ≤ x.toInt / y.toInt := Int.ediv_nonneg hx (by omega)
  have h2 : x.toInt / y.toInt ≤ x.toInt := Int.ediv_le_self _ hx
  exact ti_bm (by omega) (by omega)
theorem ti_rem {x y z : Int32} (h : x - x / y * y = z) (hx : 0 ≤ x.toInt) (hy : 0 < y.toInt) : 0 ≤ z.toInt ∧ z.toInt < y.toInt := by
  have w := ti_full x
  have d := ti_div (x := x) (y := y) rfl hx hy
  have h1 : 0 ≤ x.toInt / y.toInt := Int.ediv_nonneg hx (by omega)
  have h3 := Int.emod_nonneg x.toInt (b := y.toInt) (by omega)
  have h4 := Int.emod_lt_of_pos x.toInt hy
  have h5 := Int.mul_ediv_add_emod x.toInt y.toInt
  have h6 : x.toInt / y.toInt * y.toInt = y.toInt * (x.toInt / y.toInt) := Int.mul_comm _ _
  have h7 : 0 ≤ y.toInt * (x.toInt / y.toInt) := Int.mul_nonneg (by omega) h1
  have m := ti_mul (y := y) (b := y.toInt) d rfl (by omega) (by omega)
  have s := ti_sub (x := x) (y := x / y * y) (a := x.toInt) rfl m (by omega) (by omega)
  subst h
  omega
theorem ti_addz {x y z : Int32} {a b : Int} (h : x + y = z) (ha : x.toInt = a) (hb : y.toInt = b) (h1 : -2147483648 ≤ a + b) (h2 : a + b ≤ 2147483647) : z.toInt = a + b := h ▸ ti_add ha hb h1 h2
theorem ti_subz {x y z : Int32} {a b : Int} (h : x - y = z) (ha : x.toInt = a) (hb : y.toInt = b) (h1 : -2147483648 ≤ a - b) (h2 : a - b ≤ 2147483647) : z.toInt = a - b := h ▸ ti_sub ha hb h1 h2
theorem ti_mulz {x y z : Int32} {a b : Int} (h : x * y = z) (ha : x.toInt = a) (hb : y.toInt = b) (h1 : -2147483648 ≤ a * b) (h2 : a * b ≤ 2147483647) : z.toInt = a * b := h ▸ ti_mul ha hb h1 h2
theorem ti_ex (e : Int32) : ∃ z : Int32, e = z := ⟨e, rfl⟩
theorem Typ.rng {P : mP} {a r k : Nat} {lo hi : Int} (h : Typ P) (hr : rl a = r) (hn : r ≠ 99) (hl : k < (rsp r).2.1) (hs : (rsp r).2.2 k = (0, lo, hi)) : lo ≤ (fv P a k).toInt ∧ (fv P a k).toInt ≤ hi := by
  obtain ⟨_, -, -, -, h1, h2⟩ := h.int hr hn hl hs
  exact ⟨h1, h2⟩
theorem ssp_0 (j : Nat) : (ssp j).1 = 0 := by
  unfold ssp
  split
  · rfl
  · split
    · rfl
    · split
      · rfl
      · split <;> rfl
theorem okS_mk {i x : Int32} (h3 : 3 ≤ i.toInt) (g1 : (i.toInt - 3) % 19 = 0 → 0 ≤ x.toInt ∧ x.toInt ≤ 1) (g2 : (i.toInt - 3) % 19 = 1 → 0 ≤ x.toInt ∧ x.toInt ≤ 8) : okV (ssp i.toInt.toNat) (.int x) := by
  unfold ssp
  rw [if_neg (by omega), if_neg (by omega)]
  split
  · rename_i h
    exact ⟨rfl, g1 (by omega)⟩
  · split
    · rename_i h
      exact ⟨rfl, g2 (by omega)⟩
    · exact ⟨rfl, ti_full x⟩
theorem okS_get0 {i x : Int32} (h : okV (ssp i.toInt.toNat) (.int x)) (h3 : 3 ≤ i.toInt) (h0 : (i.toInt - 3) % 19 = 0) : 0 ≤ x.toInt ∧ x.toInt ≤ 1 := by
  unfold ssp at h
  rw [if_neg (by omega), if_neg (by omega), if_pos (by omega)] at h
  exact h.2
theorem okS_get1 {i x : Int32} (h : okV (ssp i.toInt.toNat) (.int x)) (h3 : 3 ≤ i.toInt) (h0 : (i.toInt - 3) % 19 = 1) : 0 ≤ x.toInt ∧ x.toInt ≤ 8 := by
  unfold ssp at h
  rw [if_neg (by omega), if_neg (by omega), if_neg (by omega), if_pos (by omega)] at h
  exact h.2
theorem mp_abs {d : Nat} {scr : Option (List Int32)} {q : mQ} {pc : Nat} {L : List (Nat × Value)} {rest : List Value} {P : mP} {cz sz : Nat} {Φ : Option Value → mP → Prop} {i k : Nat} {x v : Int32} (hd : decode q.2.1 pc = .ok (.invokestatic i, 3)) (hc : mcal q.2.2.2.2.2.1 i = some (9, k)) (hcat : (rest.map mcat).sum ≤ 8) (hv : (if 0 ≤ x then x else 0 - x) = v) (hcz : cz ≤ q.2.2.2.2.2.2.1 ∧ sz ≤ q.2.2.2.2.2.2.2) (kk : MEvP d scr q (pc + 3) L (.int v :: rest) P cz sz Φ) : MEvP d scr q pc L (.int x :: rest) P cz sz Φ := by
  subst hv
  obtain ⟨r, P', h1, F, f, hh⟩ := kk
  refine ⟨r, P', h1, F, f + 1, ?_⟩
  have hC : mC (mcall F d) q.2.1 q.2.2.2.2.2.1 pc (.int x :: rest) P = some (pc + 3, .int (if 0 ≤ x then x else 0 - x) :: rest, P, 0, 0) := by
    simp only [mC, hd, hc]
    rw [if_neg (by omega), if_neg (by omega), if_pos trivial, if_pos hcat]
  unfold mexec
  rw [show mA q.2.1 q.2.2.1 pc L (.int x :: rest) = none by simp only [mA, hd], show mS q.2.1 pc (.int x :: rest) = none by simp only [mS, hd], show mB q.2.1 q.2.2.2.2.2.1 (q.1.name == "<init>") pc (.int x :: rest) P = none by simp only [mB, hd], hC]
  dsimp only
  rw [Nat.add_zero, Nat.add_zero, if_pos hcz]
  exact hh
/-- a strip has at most 7 panels, wherever a piece is kept -/
def RelAt (P : mP) (a o : Nat) : Prop := ∀ k : Nat, k < 8 → (fv P a (o + 3 + 19 * k)).toInt = 0 → (fv P a (o + 4 + 19 * k)).toInt ≤ 7
def Rel (P : mP) : Prop := RelAt P 302 0 ∧ RelAt P 303 0 ∧ RelAt P 304 0 ∧ ∀ c : Nat, c < 8 → RelAt P 305 (155 * c)
theorem RelAt.congr {P P' : mP} {a o : Nat} (h : RelAt P a o) (f : ∀ j : Nat, fv P' a j = fv P a j) : RelAt P' a o := by
  intro k hk hz
  rw [f] at hz ⊢
  exact h k hk hz
theorem Rel.all {P P' : mP} (h : Rel P) (f : ∀ b j : Nat, fv P' b j = fv P b j) : Rel P' := ⟨h.1.congr (f _), h.2.1.congr (f _), h.2.2.1.congr (f _), fun c hc => (h.2.2.2 c hc).congr (f _)⟩
theorem Rel.ne {P P' : mP} {a k r : Nat} (h : Rel P) (ha : rl a = r) (hr : (r == 18 || r == 19 || r == 20 || r == 21) = false) (f : ∀ b j : Nat, ¬ (b = a ∧ j = k) → fv P' b j = fv P b j) : Rel P' := by
  simp only [Bool.or_eq_false_iff, beq_eq_false_iff_ne] at hr
  have e1 : ∀ j, ¬ (302 = a ∧ j = k) := fun j e => hr.1.1.1 (by rw [← ha, ← e.1]; exact rl_302)
  have e2 : ∀ j, ¬ (303 = a ∧ j = k) := fun j e => hr.1.1.2 (by rw [← ha, ← e.1]; exact rl_303)
  have e3 : ∀ j, ¬ (304 = a ∧ j = k) := fun j e => hr.1.2 (by rw [← ha, ← e.1]; exact rl_304)
  have e4 : ∀ j, ¬ (305 = a ∧ j = k) := fun j e => hr.2 (by rw [← ha, ← e.1]; exact rl_305)
  exact ⟨h.1.congr (fun j => f _ _ (e1 j)), h.2.1.congr (fun j => f _ _ (e2 j)), h.2.2.1.congr (fun j => f _ _ (e3 j)), fun c hc => (h.2.2.2 c hc).congr (fun j => f _ _ (e4 j))⟩
theorem Rel.kw {W : List Nat} {P P' : mP} (h : Rel P) (g : KW W P P') (hw : (W.contains 1152 || W.contains 1216 || W.contains 1280 || W.contains 1344) = false) : Rel P' := by
  simp only [Bool.or_eq_false_iff] at hw
  exact ⟨h.1.congr (fun j => g.at j rl_302 hw.1.1.1), h.2.1.congr (fun j => g.at j rl_303 hw.1.1.2), h.2.2.1.congr (fun j => g.at j rl_304 hw.1.2), fun c hc => (h.2.2.2 c hc).congr (fun j => g.at j rl_305 hw.2)⟩
theorem mt_callv {d : Nat} {scr : Option (List Int32)} {q : mQ} {pc : Nat} {L : List (Nat × Value)} {st rest : List Value} {P : mP} {cz sz : Nat} {Φ : Option Value → mP → Prop} {i kd k a r : Nat} {q' : mQ} {As : List Value} {Ψ : Option Value → mP → Prop} (hT : Typ P) (hd : decode q.2.1 pc = .ok (.invokevirtual i, 3)) (hc : mcal q.2.2.2.2.2.1 i = some (kd, k)) (hq : mtL[k]? = some q') (hkd : kd < 2) (hn : As.length = q'.2.2.2.2.1) (hr : rl a = r) (hr9 : r ≠ 99) (hk : (rsp r).1 = q'.2.2.2.2.2.1) (hcat : (rest.map mcat).sum ≤ 8) (hst : st = As.reverse ++ .ref a :: rest) (hz : q'.2.2.2.2.2.2.1 = 0 ∧ q'.2.2.2.2.2.2.2 = 0) (hcz : cz ≤ q.2.2.2.2.2.2.1 ∧ sz ≤ q.2.2.2.2.2.2.2) (hev : EvP d k (.ref a :: As) P Ψ) (kk : ∀ (r1 : Option Value) (P1 : mP), Ψ r1 P1 → MEvP d scr q (pc + 3) L (r1.toList ++ rest) P1 cz sz Φ) (ho : q'.2.2.2.2.2.1 < 8 := by decide) : MEvP d scr q pc L st P cz sz Φ := by
  obtain ⟨vs, h1, -, -⟩ := hT.cell hr hr9
  rw [hk] at h1
  exact mp_callv hd hc hq hkd hn h1 ho hcat hst hz hcz hev kk
/-! the reference's rows of states -/
theorem sspm {i : Nat} (h : i < 155) : ssp i = ssp (i % 155) := by rw [Nat.mod_eq_of_lt h]
theorem okS_pp {i j : Nat} {x : Int32} {f g : Nat → mSp} (hf : f i = ssp (i % 155)) (hg : g j = ssp (j % 155)) (h : okV (f i) (.int x)) (e : i % 155 = j % 155) : okV (g j) (.int x) := by
  rw [hg, ← e, ← hf]
  exact h
theorem ssp_19 {j : Nat} (h : 3 ≤ j) : ssp (j + 19) = ssp j := by
  have e : (j + 19 - 3) % 19 = (j - 3) % 19 := by omega
  have h1 : ¬ j + 19 = 0 := by omega
  have h2 : ¬ j + 19 < 3 := by omega
  have h3 : ¬ j = 0 := by omega
  have h4 : ¬ j < 3 := by omega
  unfold ssp
  rw [if_neg h1, if_neg h2, if_neg h3, if_neg h4, e]
theorem okS_19 {i j : Nat} {x : Int32} (h : okV (ssp i) (.int x)) (e : i = j + 19) (h3 : 3 ≤ j) : okV (ssp j) (.int x) := by
  rw [← ssp_19 h3, ← e]
  exact h
theorem okS_c0 {x : Int32} (h : 0 ≤ x.toInt ∧ x.toInt ≤ 8) : okV (ssp 0) (.int x) := ⟨rfl, h⟩
theorem okS_c1 {x : Int32} : okV (ssp 1) (.int x) := ⟨rfl, ti_full x⟩
theorem okS_c2 {x : Int32} : okV (ssp 2) (.int x) := ⟨rfl, ti_full x⟩
def CPY (P P' : mP) (a o b u k : Nat) : Prop := (∀ j : Nat, j < k → fv P' b (u + j) = fv P a (o + j)) ∧ ∀ x j : Nat, ¬ (x = b ∧ u ≤ j ∧ j < u + k) → fv P' x j = fv P x j
theorem CPY.start {P : mP} {a o b u k : Nat} (h : k = 0) : CPY P P a o b u k := ⟨fun j hj => by omega, fun _ _ _ => rfl⟩
theorem CPY.fin {P P' : mP} {a o b u k : Nat} (h : CPY P P' a o b u k) (e : k = 155) : CPY P P' a o b u 155 := e ▸ h
theorem CPY.step {P Q Q' : mP} {a o b u k k' n i : Nat} (h : CPY P Q a o b u k) (f1 : fv Q' b n = fv Q a i) (f2 : ∀ x j : Nat, ¬ (x = b ∧ j = n) → fv Q' x j = fv Q x j) (hk : k' = k + 1) (hn : n = u + k) (hi : i = o + k) (hd : ¬ a = b ∨ u + k ≤ o) : CPY P Q' a o b u k' := by
  subst hk hn hi
  refine ⟨fun j hj => ?_, fun x j hx => ?_⟩
  · by_cases e : j = k
    · subst e
      rw [f1]
      refine h.2 a (o + j) (fun e => ?_)
      rcases hd with g | g
      · exact g e.1
      · omega
    · rw [f2 _ _ (fun e => by omega)]
      exact h.1 j (by omega)
  · rw [f2 _ _ (fun e => hx ⟨e.1, by omega, by omega⟩)]
    exact h.2 x j (fun e => hx ⟨e.1, by omega, by omega⟩)
theorem Rel.at {P : mP} (h : Rel P) {a o : Nat} (ha : (a = 302 ∨ a = 303 ∨ a = 304) ∧ o = 0 ∨ a = 305 ∧ o % 155 = 0 ∧ o < 1240) : RelAt P a o := by
  rcases ha with ⟨h1, rfl⟩ | ⟨rfl, h1, h2⟩
  · rcases h1 with rfl | rfl | rfl
    · exact h.1
    · exact h.2.1
    · exact h.2.2.1
  · have := h.2.2.2 (o / 155) (by omega)
    rwa [show 155 * (o / 155) = o by omega] at this
theorem RelAt.cpy {P P' : mP} {a o b u : Nat} (h : RelAt P a o) (g : CPY P P' a o b u 155) : RelAt P' b u := by
  intro k hk hz
  have e1 := g.1 (3 + 19 * k) (by omega)
  have e2 := g.1 (4 + 19 * k) (by omega)
  rw [Nat.add_assoc, e1, ← Nat.add_assoc] at hz
  rw [Nat.add_assoc, e2, ← Nat.add_assoc]
  exact h k hk hz
theorem RelAt.off {P P' : mP} {a o b u c w : Nat} (h : RelAt P c w) (g : CPY P P' a o b u 155) (hn : ¬ c = b ∨ w + 155 ≤ u ∨ u + 155 ≤ w) : RelAt P' c w := by
  intro k hk hz
  rw [g.2 c _ (fun e => by rcases hn with q | q | q <;> omega)] at hz ⊢
  exact h k hk hz
theorem Rel.cpy {P P' : mP} {a o b u : Nat} (h : Rel P) (g : CPY P P' a o b u 155) (ha : (a = 302 ∨ a = 303 ∨ a = 304) ∧ o = 0 ∨ a = 305 ∧ o % 155 = 0 ∧ o < 1240) (hb : (b = 302 ∨ b = 303 ∨ b = 304) ∧ u = 0 ∨ b = 305 ∧ u % 155 = 0 ∧ u < 1240) : Rel P' := by
  have h1 := (h.at ha).cpy g
  have key : ∀ c w : Nat, RelAt P c w → ((c = b ∧ w = u) ∨ ¬ c = b ∨ w + 155 ≤ u ∨ u + 155 ≤ w) → RelAt P' c w := by
    intro c w hc q
    rcases q with ⟨rfl, rfl⟩ | q
    · exact h1
    · exact hc.off g q
  refine ⟨key _ _ h.1 ?_, key _ _ h.2.1 ?_, key _ _ h.2.2.1 ?_, fun c hc => key _ _ (h.2.2.2 c hc) ?_⟩ <;> omega
theorem Rel.oth {P P' : mP} {k : Nat} (h : Rel P) (f : ∀ b j : Nat, ¬ (b = 302 ∧ j = k) → fv P' b j = fv P b j) (hk : k < 3 ∨ ((k - 3) % 19 ≠ 0 ∧ (k - 3) % 19 ≠ 1)) : Rel P' := by
  refine ⟨fun p hp hz => ?_, fun p hp hz => ?_, fun p hp hz => ?_, fun c hc p hp hz => ?_⟩
  · rw [f _ _ (fun e => by omega)] at hz ⊢
    exact h.1 p hp hz
  · rw [f _ _ (fun e => by omega)] at hz ⊢
    exact h.2.1 p hp hz
  · rw [f _ _ (fun e => by omega)] at hz ⊢
    exact h.2.2.1 p hp hz
  · rw [f _ _ (fun e => by omega)] at hz ⊢
    exact h.2.2.2 c hc p hp hz
theorem Rel.siz {P P' : mP} {k p : Nat} {x : Int32} (h : Rel P) (f : ∀ b j : Nat, ¬ (b = 302 ∧ j = k) → fv P' b j = fv P b j) (e : fv P' 302 k = x) (hp : p < 8) (hk : k = 4 + 19 * p) (hx : x.toInt ≤ 7) : Rel P' := by
  refine ⟨fun q hq hz => ?_, fun p hp hz => ?_, fun p hp hz => ?_, fun c hc p hp hz => ?_⟩
  · by_cases hpq : q = p
    · subst hpq
      rw [show 0 + 4 + 19 * q = k by omega, e]
      exact hx
    · rw [f _ _ (fun e => by omega)] at hz ⊢
      exact h.1 q hq hz
  · rw [f _ _ (fun e => by omega)] at hz ⊢
    exact h.2.1 p hp hz
  · rw [f _ _ (fun e => by omega)] at hz ⊢
    exact h.2.2.1 p hp hz
  · rw [f _ _ (fun e => by omega)] at hz ⊢
    exact h.2.2.2 c hc p hp hz
theorem Rel.rec {P P1 P2 : mP} {p k1 k2 : Nat} {x y : Int32} (h : Rel P) (f1 : ∀ b j : Nat, ¬ (b = 302 ∧ j = k1) → fv P1 b j = fv P b j) (e1 : fv P1 302 k1 = x) (f2 : ∀ b j : Nat, ¬ (b = 302 ∧ j = k2) → fv P2 b j = fv P1 b j) (e2 : fv P2 302 k2 = y) (hp : p < 8) (h1 : k1 = 3 + 19 * p) (h2 : k2 = 4 + 19 * p) (hx : ¬ x.toInt = 0 ∨ y.toInt ≤ 7) : Rel P2 := by
  refine ⟨fun q hq hz => ?_, fun p hp hz => ?_, fun p hp hz => ?_, fun c hc p hp hz => ?_⟩
  · by_cases hpq : q = p
    · subst hpq
      rw [f2 _ _ (fun e => by omega), show 0 + 3 + 19 * q = k1 by omega, e1] at hz
      rw [show 0 + 4 + 19 * q = k2 by omega, e2]
      exact hx.resolve_left (fun g => g hz)
    · rw [f2 _ _ (fun e => by omega), f1 _ _ (fun e => by omega)] at hz ⊢
      exact h.1 q hq hz
  · rw [f2 _ _ (fun e => by omega), f1 _ _ (fun e => by omega)] at hz ⊢
    exact h.2.1 p hp hz
  · rw [f2 _ _ (fun e => by omega), f1 _ _ (fun e => by omega)] at hz ⊢
    exact h.2.2.1 p hp hz
  · rw [f2 _ _ (fun e => by omega), f1 _ _ (fun e => by omega)] at hz ⊢
    exact h.2.2.2 c hc p hp hz
theorem Rel.use {P : mP} {p : Nat} (h : Rel P) (hp : p < 8) (hz : (fv P 302 (3 + 19 * p)).toInt = 0) : (fv P 302 (4 + 19 * p)).toInt ≤ 7 := by
  have := h.1 p hp
  rw [Nat.zero_add, Nat.zero_add] at this
  exact this hz
def Mv (P P' : mP) (a k : Nat) : Prop := (∀ j : Nat, a ≤ j → j < k → fv P' 302 j = fv P 302 (j + 19)) ∧ ∀ j : Nat, j < a ∨ k ≤ j → fv P' 302 j = fv P 302 j
theorem Mv.start {P : mP} {a k : Nat} (h : k = a) : Mv P P a k := ⟨fun j h1 h2 => by omega, fun _ _ => rfl⟩
theorem Mv.step {P Q Q' : mP} {a k k' n i : Nat} (h : Mv P Q a k) (f1 : fv Q' 302 n = fv Q 302 i) (f2 : ∀ x j : Nat, ¬ (x = 302 ∧ j = n) → fv Q' x j = fv Q x j) (hk : k' = k + 1 ∧ a ≤ k) (hn : n = k) (hi : i = k + 19) : Mv P Q' a k' := by
  obtain ⟨rfl, hk⟩ := hk
  subst hn hi
  refine ⟨fun j h1 h2 => ?_, fun j hj => ?_⟩
  · by_cases e : j = n
    · subst e
      rw [f1]
      exact h.2 _ (by omega)
    · rw [f2 _ _ (fun q => e q.2)]
      exact h.1 j h1 (by omega)
  · rw [f2 _ _ (fun q => by omega)]
    exact h.2 j (by omega)
theorem Mv.rel {P P' : mP} {a k p m : Nat} (h : Rel P) (g : Mv P P' a k) (ha : a = 3 + 19 * p) (hk : k = 3 + 19 * m) (hm : p ≤ m ∧ m < 8) (f3 : ∀ j : Nat, fv P' 303 j = fv P 303 j) (f4 : ∀ j : Nat, fv P' 304 j = fv P 304 j) (f5 : ∀ j : Nat, fv P' 305 j = fv P 305 j) : Rel P' := by
  refine ⟨fun q hq hz => ?_, h.2.1.congr f3, h.2.2.1.congr f4, fun c hc => (h.2.2.2 c hc).congr f5⟩
  by_cases hq1 : p ≤ q ∧ q < m
  · rw [g.1 _ (by omega) (by omega)] at hz ⊢
    have := h.1 (q + 1) (by omega)
    rw [show 0 + 3 + 19 * (q + 1) = 0 + 3 + 19 * q + 19 by omega, show 0 + 4 + 19 * (q + 1) = 0 + 4 + 19 * q + 19 by omega] at this
    exact this hz
  · rw [g.2 _ (by omega)] at hz ⊢
    exact h.1 q hq hz
def UD (P : mP) (p : Nat) (kd : Int) : Prop := ∃ j : Nat, j < 8 ∧ (fv P 302 (14 + 19 * p + j)).toInt = kd
def UDf (P : mP) (p k : Nat) : Prop := ∃ j : Nat, k ≤ j ∧ j < 8 ∧ (fv P 302 (14 + 19 * p + j)).toInt = 0
theorem UDf.start {P : mP} {p k : Nat} (h : UD P p 0) (hk : k = 0) : UDf P p k := by
  obtain ⟨j, h1, h2⟩ := h
  exact ⟨j, by omega, h1, h2⟩
theorem UDf.next {P : mP} {p k k' : Nat} (h : UDf P p k) (hk : k' = k + 1) (hn : ¬ (fv P 302 (14 + 19 * p + k)).toInt = 0) : UDf P p k' := by
  obtain ⟨j, h1, h2, h3⟩ := h
  refine ⟨j, ?_, h2, h3⟩
  by_cases e : j = k
  · subst e
    exact absurd h3 hn
  · omega
theorem UD.kw {W : List Nat} {P P' : mP} {p : Nat} {kd : Int} (h : UD P p kd) (g : KW W P P') (hw : W.contains 1152 = false) : UD P' p kd := by
  obtain ⟨j, h1, h2⟩ := h
  exact ⟨j, h1, by rw [g.at _ rl_302 hw]; exact h2⟩
