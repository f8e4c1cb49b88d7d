/-! what the rows over typed pools need of Int32 -/
theorem ti_full (x : Int32) : (-2147483648 : Int) ≤ x.toInt ∧ x.toInt ≤ 2147483647 := ⟨Int32.le_toInt x, by have := Int32.toInt_lt x; omega⟩
theorem ti_lt {x y : Int32} {a b : Int} (h : x < y) (ha : x.toInt = a := by rfl) (hb : y.toInt = b := by rfl) : a < b := by
  subst ha; subst hb; exact Int32.lt_iff_toInt_lt.mp h
theorem ti_lt_n {x y : Int32} {a b : Int} (h : ¬ x < y) (ha : x.toInt = a := by rfl) (hb : y.toInt = b := by rfl) : a ≥ b := by
  subst ha; subst hb
  rw [Int32.lt_iff_toInt_lt] at h
  omega
theorem ti_le {x y : Int32} {a b : Int} (h : x ≤ y) (ha : x.toInt = a := by rfl) (hb : y.toInt = b := by rfl) : a ≤ b := by
  subst ha; subst hb; exact Int32.le_iff_toInt_le.mp h
theorem ti_le_n {x y : Int32} {a b : Int} (h : ¬ x ≤ y) (ha : x.toInt = a := by rfl) (hb : y.toInt = b := by rfl) : a > b := by
  subst ha; subst hb
  rw [Int32.le_iff_toInt_le] at h
  omega
theorem ti_ge {x y : Int32} {a b : Int} (h : y ≤ x) (ha : x.toInt = a := by rfl) (hb : y.toInt = b := by rfl) : a ≥ b := ti_le h hb ha
theorem ti_ge_n {x y : Int32} {a b : Int} (h : ¬ y ≤ x) (ha : x.toInt = a := by rfl) (hb : y.toInt = b := by rfl) : a < b := ti_le_n h hb ha
theorem ti_gt {x y : Int32} {a b : Int} (h : y < x) (ha : x.toInt = a := by rfl) (hb : y.toInt = b := by rfl) : a > b := ti_lt h hb ha
theorem ti_gt_n {x y : Int32} {a b : Int} (h : ¬ y < x) (ha : x.toInt = a := by rfl) (hb : y.toInt = b := by rfl) : a ≤ b := ti_lt_n h hb ha
theorem ti_eq {x y : Int32} {a b : Int} (h : x = y) (ha : x.toInt = a := by rfl) (hb : y.toInt = b := by rfl) : a = b := by
  subst ha; subst hb; rw [h]
theorem ti_eq_n {x y : Int32} {a b : Int} (h : ¬ x = y) (ha : x.toInt = a := by rfl) (hb : y.toInt = b := by rfl) : a ≠ b := by
  subst ha; subst hb; exact fun e => h (Int32.toInt_inj.mp e)
theorem ti_ne {x y : Int32} {a b : Int} (h : ¬ x = y) (ha : x.toInt = a := by rfl) (hb : y.toInt = b := by rfl) : a ≠ b := ti_eq_n h ha hb
theorem ti_ne_n {x y : Int32} {a b : Int} (h : ¬ ¬ x = y) (ha : x.toInt = a := by rfl) (hb : y.toInt = b := by rfl) : a = b := ti_eq (Decidable.not_not.mp h) ha hb
theorem ti_01 {x : Int32} (h : x.toInt = 0 ∨ x.toInt = 1) : x = 0 ∨ x = 1 := h.elim (fun e => Or.inl (Int32.toInt_inj.mp e)) (fun e => Or.inr (Int32.toInt_inj.mp e))
theorem ti_bm {x : Int} (h1 : -2147483648 ≤ x) (h2 : x ≤ 2147483647) : x.bmod (2 ^ 32) = x := by
  rw [Int.bmod_def]
  split <;> omega
theorem ti_add {x y : Int32} {a b : Int} (ha : x.toInt = a) (hb : y.toInt = b) (h1 : -2147483648 ≤ a + b) (h2 : a + b ≤ 2147483647) : (x + y).toInt = a + b := by
  rw [Int32.toInt_add, ha, hb, ti_bm h1 h2]
theorem ti_sub {x y : Int32} {a b : Int} (ha : x.toInt = a) (hb : y.toInt = b) (h1 : -2147483648 ≤ a - b) (h2 : a - b ≤ 2147483647) : (x - y).toInt = a - b := by
  rw [Int32.toInt_sub, ha, hb, ti_bm h1 h2]
theorem ti_mul {x y : Int32} {a b : Int} (ha : x.toInt = a) (hb : y.toInt = b) (h1 : -2147483648 ≤ a * b) (h2 : a * b ≤ 2147483647) : (x * y).toInt = a * b := by
  rw [Int32.toInt_mul, ha, hb, ti_bm h1 h2]
theorem ti_fit {x : Int32} (h : x.toInt = 0 ∨ x.toInt = 1) : mfit .boolean (.int x) = true := by
  rcases ti_01 h with rfl | rfl <;> rfl
theorem ti_mm7 {x y z : Int32} (h : (if (7 : Nat) = 7 then (if x < y then y else x) else (if y < x then y else x)) = z) : z.toInt = max x.toInt y.toInt := by
  rw [if_pos rfl] at h
  subst h
  split
  · rename_i h
    have := Int32.lt_iff_toInt_lt.mp h
    omega
  · rename_i h
    rw [Int32.lt_iff_toInt_lt] at h
    omega
theorem ti_mm8 {x y z : Int32} (h : (if (8 : Nat) = 7 then (if x < y then y else x) else (if y < x then y else x)) = z) : z.toInt = min x.toInt y.toInt := by
  rw [if_neg (by decide)] at h
  subst h
  split
  · rename_i h
    have := Int32.lt_iff_toInt_lt.mp h
    omega
  · rename_i h
    rw [Int32.lt_iff_toInt_lt] at h
    omega
theorem ti_n0 {y : Int32} (h : ¬ y.toInt = 0) : ¬ y = 0 := fun e => h (by rw [e]; rfl)
theorem ti_div {x y z : Int32} (h : x / y = z) (hx : 0 ≤ x.toInt) (hy : 0 < y.toInt) : z.toInt = x.toInt / y.toInt := by
  subst h
  have w := ti_full x
  rw [Int32.toInt_div, Int.tdiv_eq_ediv_of_nonneg hx]
  have h1 : 0 ≤ x.toInt / y.toInt := Int.ediv_nonneg hx (by omega)
  have h2 : x.toInt / y.toInt ≤ x.toInt := Int.ediv_le_self _ hx
  exact ti_bm (by omega) (by omega)
theorem ti_rem {x y z : Int32} (h : x - x / y * y = z) (hx : 0 ≤ x.toInt) (hy : 0 < y.toInt) : 0 ≤ z.toInt ∧ z.toInt < y.toInt := by
  have w := ti_full x
  have d := ti_div (x := x) (y := y) rfl hx hy
  have h1 : 0 ≤ x.toInt / y.toInt := Int.ediv_nonneg hx (by omega)
  have h3 := Int.emod_nonneg x.toInt (b := y.toInt) (by omega)
  have h4 := Int.emod_lt_of_pos x.toInt hy
  have h5 := Int.mul_ediv_add_emod x.toInt y.toInt
  have h6 : x.toInt / y.toInt * y.toInt = y.toInt * (x.toInt / y.toInt) := Int.mul_comm _ _
  have h7 : 0 ≤ y.toInt * (x.toInt / y.toInt) := Int.mul_nonneg (by omega) h1
  have m := ti_mul (y := y) (b := y.toInt) d rfl (by omega) (by omega)
  have s := ti_sub (x := x) (y := x / y * y) (a := x.toInt) rfl m (by omega) (by omega)
  subst h
  omega
theorem np_ar {b : Nat} (h : rl b = 33) : b % 3 = 0 ∧ 3 ≤ b ∧ b ≤ 24 := by
  have h1 := rl_lt h (by decide)
  have h2 : (List.range 315).all (fun b => !(rl b == 33) || (b % 3 == 0 && (decide (3 ≤ b) && decide (b ≤ 24)))) = true := by decide +kernel
  have h3 := List.all_eq_true.mp h2 b (List.mem_range.mpr h1)
  rw [h] at h3
  simpa using h3
theorem ar_all {t : Nat} {f : Nat → Bool} (h2 : (List.range 315).all (fun b => !(rl b == t) || f b) = true) {b : Nat} (h : rl b = t) (ht : t ≠ 99) : f b = true := by
  have h3 := List.all_eq_true.mp h2 b (List.mem_range.mpr (rl_lt h ht))
  rw [h] at h3
  simpa using h3
theorem pc_ar {b : Nat} (h : rl b = 3) : 29 ≤ b ∧ b ≤ 298 ∧ (b ≤ 286 ∨ b = 298) := by
  have := ar_all (f := fun b => decide (29 ≤ b ∧ b ≤ 298 ∧ (b ≤ 286 ∨ b = 298))) (by decide +kernel) h (by decide)
  exact of_decide_eq_true this
theorem st_ar {b : Nat} (h : rl b = 1) : 27 ≤ b ∧ b ≤ 263 := by
  have := ar_all (f := fun b => decide (27 ≤ b ∧ b ≤ 263)) (by decide +kernel) h (by decide)
  exact of_decide_eq_true this
/-- the stage's own pieces are eight -/
def Inj (P : mP) : Prop := ∀ i j : Nat, i < 8 → j < 8 → rv P 2 i = rv P 2 j → i = j
theorem Inj.st {P P' : mP} (h : Inj P) (g : ∀ b j : Nat, rv P' b j = rv P b j) : Inj P' := fun i j hi hj e => h i j hi hj (by rw [g, g] at e; exact e)
theorem Inj.kw {W : List Nat} {P P' : mP} (h : Inj P) (g : KW W P P') (hw : W.contains 2048 = false) : Inj P' := fun i j hi hj e => h i j hi hj (by rw [g.2.2 hw, g.2.2 hw] at e; exact e)
/-- cells below lo and from hi on are as they were -/
def KI (lo hi : Nat) (P P' : mP) : Prop := ∀ x j : Nat, x < lo ∨ hi ≤ x → fv P' x j = fv P x j
/-- the order of the pieces while one is taken out -/
def RMv (P Q : mP) (t i : Nat) : Prop := ∀ k : Nat, rv Q 2 k = if t ≤ k ∧ k + 1 < i then rv P 2 (k + 1) else rv P 2 k
def RMf (P Q : mP) (t l : Nat) : Prop := ∀ k : Nat, rv Q 2 k = if t ≤ k ∧ k < l then rv P 2 (k + 1) else if k = l then rv P 2 t else rv P 2 k
theorem RMv.start {P : mP} {t i : Nat} (h : i = t + 1) : RMv P P t i := fun k => by rw [if_neg (by omega)]
theorem RMv.step {P Q Q' : mP} {t i i' n m b : Nat} (h : RMv P Q t i) (f1 : rv Q' 2 n = b) (f2 : ∀ x j : Nat, ¬ (x = 2 ∧ j = n) → rv Q' x j = rv Q x j) (hb : rv Q 2 m = b) (hi : i' = i + 1 ∧ t < i) (hn : n + 1 = i) (hm : m = i) : RMv P Q' t i' := by
  intro k
  obtain ⟨rfl, hi⟩ := hi
  by_cases e : k = n
  · subst e
    rw [f1, ← hb, h m, if_neg (by omega), if_pos (by omega), hm, ← hn]
  · rw [f2 2 k (fun g => e g.2), h k]
    by_cases c : t ≤ k ∧ k + 1 < i
    · rw [if_pos c, if_pos (by omega)]
    · rw [if_neg c, if_neg (by omega)]
theorem RMv.fin {P Q Q' : mP} {t i n b l : Nat} (h : RMv P Q t i) (f1 : rv Q' 2 n = b) (f2 : ∀ x j : Nat, ¬ (x = 2 ∧ j = n) → rv Q' x j = rv Q x j) (hb : rv P 2 t = b) (hn : n + 1 = i) (hl : l = n) (ht : t < i) (_hk : t ≤ n) : RMf P Q' t l := by
  intro k
  subst hl
  by_cases e : k = l
  · subst e
    rw [f1, if_neg (by omega), if_pos rfl, hb]
  · rw [f2 2 k (fun g => e g.2), h k]
    by_cases c : t ≤ k ∧ k + 1 < i
    · rw [if_pos c, if_pos (by omega)]
    · rw [if_neg c, if_neg (by omega), if_neg e]
theorem RMf.inj {P Q : mP} {t l : Nat} (h : RMf P Q t l) (hi : Inj P) (ht : t ≤ l) (hl : l < 8) (_h0 : t < 8) : Inj Q := by
  have key : ∀ k : Nat, k < 8 → ∃ k', k' < 8 ∧ rv Q 2 k = rv P 2 k' ∧ k' = (if t ≤ k ∧ k < l then k + 1 else if k = l then t else k) := by
    intro k hk
    refine ⟨_, ?_, ?_, rfl⟩
    · split
      · omega
      · split <;> omega
    · rw [h k]
      split
      · rfl
      · split <;> rfl
  intro a b ha hb e
  obtain ⟨a', ha1, ha2, ha3⟩ := key a ha
  obtain ⟨b', hb1, hb2, hb3⟩ := key b hb
  have := hi a' b' ha1 hb1 (by rw [← ha2, ← hb2, e])
  rw [ha3, hb3] at this
  split at this <;> split at this <;> first | omega | (split at this <;> first | omega | (split at this <;> omega))
/-- the refs in the row of the stage's pieces -/
theorem rv_np {P : mP} (h : Typ P) (k : Nat) (hk : k < 8) : rl (rv P 2 k) = 33 ∧ rv P 2 k % 3 = 0 ∧ 3 ≤ rv P 2 k ∧ rv P 2 k ≤ 24 := by
  obtain ⟨-, -, -, -, h4⟩ := h.ref (a := 2) (r := 32) (j := k) (t := 33) (lo := 0) (hi := 0) rl_2 (by decide) hk rfl
  exact ⟨h4, np_ar h4⟩
theorem np_dis {P : mP} {b i k : Nat} (h : Inj P) (hT : Typ P) (hk : k < 8) (hi : i < 8) (hn : ¬ k = i) (hb : rv P 2 i = b) : rv P 2 k + 3 ≤ b ∨ b + 3 ≤ rv P 2 k := by
  have h1 := (rv_np hT k hk).2.1
  have h2 := (rv_np hT i hi).2.1
  have h3 : ¬ rv P 2 k = rv P 2 i := fun e => hn (h k i hk hi e)
  omega
theorem KI.refl {lo hi : Nat} {P : mP} : KI lo hi P P := fun _ _ _ => rfl
theorem KI.trans {lo hi lo2 hi2 : Nat} {P P1 P2 : mP} (h : KI lo hi P P1) (g : KI lo2 hi2 P1 P2) (hs : lo ≤ lo2 ∧ hi2 ≤ hi) : KI lo hi P P2 := fun x j hx => (g x j (by omega)).trans (h x j hx)
/-- the piece at b of Q is that at c of P -/
def PE (Q : mP) (b : Nat) (P : mP) (c : Nat) : Prop := fv Q b 0 = fv P c 0 ∧ fv Q b 1 = fv P c 1 ∧ fv Q b 2 = fv P c 2 ∧ (∀ j : Nat, j < 8 → fv Q (b + 1) j = fv P (c + 1) j) ∧ ∀ j : Nat, j < 8 → fv Q (b + 2) j = fv P (c + 2) j
theorem PE.keep {P Q R : mP} {b c lo hi : Nat} (h : PE Q b P c) (g : KI lo hi Q R) (hd : b + 3 ≤ lo ∨ hi ≤ b) : PE R b P c := ⟨(g b 0 (by omega)).trans h.1, (g b 1 (by omega)).trans h.2.1, (g b 2 (by omega)).trans h.2.2.1, fun j hj => (g (b + 1) j (by omega)).trans (h.2.2.2.1 j hj), fun j hj => (g (b + 2) j (by omega)).trans (h.2.2.2.2 j hj)⟩
theorem np_dis0 {b c : Nat} (h : ¬ b = c) (hb : b % 3 = 0) (hc : c % 3 = 0) : b + 3 ≤ c ∨ c + 3 ≤ b := by omega
theorem PE.refl (P : mP) (b : Nat) : PE P b P b := ⟨rfl, rfl, rfl, fun _ _ => rfl, fun _ _ => rfl⟩
/-- a copy of the stage's own state at A; of the state at B; the stage's own as the state at B -/
def SCn (Q : mP) (A : Nat) (P : mP) : Prop := fv Q A 1 = fv P 1 1 ∧ fv Q A 2 = fv P 1 2 ∧ fv Q A 3 = fv P 1 3 ∧ ∀ k : Nat, k < 8 → (k : Int) < (fv P 1 1).toInt → PE Q (A + 2 + 3 * k) P (rv P 2 k)
def SCs (Q : mP) (A : Nat) (P : mP) (B : Nat) : Prop := fv Q A 1 = fv P B 1 ∧ fv Q A 2 = fv P B 2 ∧ fv Q A 3 = fv P B 3 ∧ ∀ k : Nat, k < 8 → (k : Int) < (fv P B 1).toInt → PE Q (A + 2 + 3 * k) P (B + 2 + 3 * k)
theorem SCn.keep {P Q R : mP} {A lo hi : Nat} (h : SCn Q A P) (g : KI lo hi Q R) (hd : A + 26 ≤ lo ∨ hi ≤ A) : SCn R A P := ⟨(g A 1 (by omega)).trans h.1, (g A 2 (by omega)).trans h.2.1, (g A 3 (by omega)).trans h.2.2.1, fun k hk h2 => (h.2.2.2 k hk h2).keep g (by omega)⟩
theorem SCs.keep {P Q R : mP} {A B lo hi : Nat} (h : SCs Q A P B) (g : KI lo hi Q R) (hd : A + 26 ≤ lo ∨ hi ≤ A) : SCs R A P B := ⟨(g A 1 (by omega)).trans h.1, (g A 2 (by omega)).trans h.2.1, (g A 3 (by omega)).trans h.2.2.1, fun k hk h2 => (h.2.2.2 k hk h2).keep g (by omega)⟩
def SCi (Q : mP) (P : mP) (B : Nat) : Prop := fv Q 1 1 = fv P B 1 ∧ fv Q 1 2 = fv P B 2 ∧ fv Q 1 3 = fv P B 3 ∧ ∀ k : Nat, k < 8 → (k : Int) < (fv P B 1).toInt → PE Q (rv P 2 k) P (B + 2 + 3 * k)
theorem PE.src {P0 P Q : mP} {b c lo hi : Nat} (h : PE Q b P c) (g : KI lo hi P0 P) (hd : c + 3 ≤ lo ∨ hi ≤ c) : PE Q b P0 c := ⟨h.1.trans (g c 0 (by omega)), h.2.1.trans (g c 1 (by omega)), h.2.2.1.trans (g c 2 (by omega)), fun j hj => (h.2.2.2.1 j hj).trans (g (c + 1) j (by omega)), fun j hj => (h.2.2.2.2 j hj).trans (g (c + 2) j (by omega))⟩
theorem pe_back {Po P Q : mP} (da sa : Nat → Nat) {v z : Int} {b c lo hi : Nat} (h : ∀ k : Nat, k < 8 → (k : Int) < v → PE P (da k) Po (sa k)) (hz : z = v + 1) (hv : 0 ≤ v) (hb : da v.toNat = b) (hc : sa v.toNat = c) (pe : PE Q b P c) (k0 : KI lo hi Po P) (hcs : c + 3 ≤ lo ∨ hi ≤ c) (ki : KI b (b + 3) P Q) (hd : ∀ k : Nat, k < 8 → ¬ k = v.toNat → da k + 3 ≤ b ∨ b + 3 ≤ da k) : ∀ k : Nat, k < 8 → (k : Int) < z → PE Q (da k) Po (sa k) := by
  intro k hk hkz
  by_cases e : k = v.toNat
  · subst e
    rw [hb, hc]
    exact pe.src k0 hcs
  · exact (h k hk (by omega)).keep ki (hd k hk e)
theorem ti_addz {x y z : Int32} {a b : Int} (h : x + y = z) (ha : x.toInt = a) (hb : y.toInt = b) (h1 : -2147483648 ≤ a + b) (h2 : a + b ≤ 2147483647) : z.toInt = a + b := h ▸ ti_add ha hb h1 h2
theorem ti_subz {x y z : Int32} {a b : Int} (h : x - y = z) (ha : x.toInt = a) (hb : y.toInt = b) (h1 : -2147483648 ≤ a - b) (h2 : a - b ≤ 2147483647) : z.toInt = a - b := h ▸ ti_sub ha hb h1 h2
theorem ti_mulz {x y z : Int32} {a b : Int} (h : x * y = z) (ha : x.toInt = a) (hb : y.toInt = b) (h1 : -2147483648 ≤ a * b) (h2 : a * b ≤ 2147483647) : z.toInt = a * b := h ▸ ti_mul ha hb h1 h2
theorem ti_ex (e : Int32) : ∃ z : Int32, e = z := ⟨e, rfl⟩
theorem Typ.rng {P : mP} {a r k : Nat} {lo hi : Int} (h : Typ P) (hr : rl a = r) (hn : r ≠ 99) (hl : k < (rsp r).2.1) (hs : (rsp r).2.2 k = (0, lo, hi)) : lo ≤ (fv P a k).toInt ∧ (fv P a k).toInt ≤ hi := by
  obtain ⟨_, -, -, -, h1, h2⟩ := h.int hr hn hl hs
  exact ⟨h1, h2⟩
theorem ssp_0 (j : Nat) : (ssp j).1 = 0 := by
  unfold ssp
  split
  · rfl
  · split
    · rfl
    · split
      · rfl
      · split <;> rfl
theorem okS_mk {i x : Int32} (h3 : 3 ≤ i.toInt) (g1 : (i.toInt - 3) % 19 = 0 → 0 ≤ x.toInt ∧ x.toInt ≤ 1) (g2 : (i.toInt - 3) % 19 = 1 → 0 ≤ x.toInt ∧ x.toInt ≤ 8) : okV (ssp i.toInt.toNat) (.int x) := by
  unfold ssp
  rw [if_neg (by omega), if_neg (by omega)]
  split
  · rename_i h
    exact ⟨rfl, g1 (by omega)⟩
  · split
    · rename_i h
      exact ⟨rfl, g2 (by omega)⟩
    · exact ⟨rfl, ti_full x⟩
theorem okS_get0 {i x : Int32} (h : okV (ssp i.toInt.toNat) (.int x)) (h3 : 3 ≤ i.toInt) (h0 : (i.toInt - 3) % 19 = 0) : 0 ≤ x.toInt ∧ x.toInt ≤ 1 := by
  unfold ssp at h
  rw [if_neg (by omega), if_neg (by omega), if_pos (by omega)] at h
  exact h.2
theorem okS_get1 {i x : Int32} (h : okV (ssp i.toInt.toNat) (.int x)) (h3 : 3 ≤ i.toInt) (h0 : (i.toInt - 3) % 19 = 1) : 0 ≤ x.toInt ∧ x.toInt ≤ 8 := by
  unfold ssp at h
  rw [if_neg (by omega), if_neg (by omega), if_neg (by omega), if_pos (by omega)] at h
  exact h.2
theorem mp_abs {d : Nat} {scr : Option (List Int32)} {q : mQ} {pc : Nat} {L : List (Nat × Value)} {rest : List Value} {P : mP} {cz sz : Nat} {Φ : Option Value → mP → Prop} {i k : Nat} {x v : Int32} (hd : decode q.2.1 pc = .ok (.invokestatic i, 3)) (hc : mcal q.2.2.2.2.2.1 i = some (9, k)) (hcat : (rest.map mcat).sum ≤ 8) (hv : (if 0 ≤ x then x else 0 - x) = v) (hcz : cz ≤ q.2.2.2.2.2.2.1 ∧ sz ≤ q.2.2.2.2.2.2.2) (kk : MEvP d scr q (pc + 3) L (.int v :: rest) P cz sz Φ) : MEvP d scr q pc L (.int x :: rest) P cz sz Φ := by
  subst hv
  obtain ⟨r, P', h1, F, f, hh⟩ := kk
  refine ⟨r, P', h1, F, f + 1, ?_⟩
  have hC : mC (mcall F d) q.2.1 q.2.2.2.2.2.1 pc (.int x :: rest) P = some (pc + 3, .int (if 0 ≤ x then x else 0 - x) :: rest, P, 0, 0) := by
    simp only [mC, hd, hc]
    rw [if_neg (by omega), if_neg (by omega), if_pos trivial, if_pos hcat]
  unfold mexec
  rw [show mA q.2.1 q.2.2.1 pc L (.int x :: rest) = none by simp only [mA, hd], show mS q.2.1 pc (.int x :: rest) = none by simp only [mS, hd], show mB q.2.1 q.2.2.2.2.2.1 (q.1.name == "<init>") pc (.int x :: rest) P = none by simp only [mB, hd], hC]
  dsimp only
  rw [Nat.add_zero, Nat.add_zero, if_pos hcz]
  exact hh
theorem mp_nat {d : Nat} {scr : Option (List Int32)} {q : mQ} {pc : Nat} {L : List (Nat × Value)} {rest : List Value} {P : mP} {cz sz : Nat} {Φ : Option Value → mP → Prop} {i k : Nat} {x : UInt32} {v : Int32} (hd : decode q.2.1 pc = .ok (.invokestatic i, 3)) (hc : mcal q.2.2.2.2.2.1 i = some (10, k)) (hcat : (rest.map mcat).sum ≤ 8) (hv : x.toInt32 = v) (hcz : cz ≤ q.2.2.2.2.2.2.1 ∧ sz ≤ q.2.2.2.2.2.2.2) (kk : MEvP d scr q (pc + 3) L (.int v :: rest) P cz sz Φ) : MEvP d scr q pc L (.float x :: rest) P cz sz Φ := by
  subst hv
  obtain ⟨r, P', h1, F, f, hh⟩ := kk
  refine ⟨r, P', h1, F, f + 1, ?_⟩
  have hC : mC (mcall F d) q.2.1 q.2.2.2.2.2.1 pc (.float x :: rest) P = some (pc + 3, .int x.toInt32 :: rest, P, 0, 0) := by
    simp only [mC, hd, hc]
    rw [if_neg (by omega), if_neg (by omega), if_neg (by omega), if_pos trivial, if_pos hcat]
  unfold mexec
  rw [show mA q.2.1 q.2.2.1 pc L (.float x :: rest) = none by simp only [mA, hd], show mS q.2.1 pc (.float x :: rest) = none by simp only [mS, hd], show mB q.2.1 q.2.2.2.2.2.1 (q.1.name == "<init>") pc (.float x :: rest) P = none by simp only [mB, hd], hC]
  dsimp only
  rw [Nat.add_zero, Nat.add_zero, if_pos hcz]
  exact hh
theorem uf_ex (e : UInt32) : ∃ z : UInt32, e = z := ⟨e, rfl⟩
section AR
variable {cc : ByteArray} {nL pc : Nat} {L L' : List (Nat × Value)} {st r : List Value}
theorem a_fload_n {k : Fin 4} {x : UInt32} (hd : decode cc pc = .ok (.fload_n k, 1)) (hg : mget L k = some (.float x)) : mA cc nL pc L st = some (pc + 1, L, .float x :: st) := by simp only [mA, hd, hg]
theorem a_fstore_n {k : Fin 4} {x : UInt32} (hd : decode cc pc = .ok (.fstore_n k, 1)) (hk : (k : Nat) < nL) (hL : mput k (.float x) L = L') : mA cc nL pc L (.float x :: r) = some (pc + 1, L', r) := by simp only [mA, hd, hL]; rw [if_pos hk]
theorem s_ixor {x y v : Int32} (hd : decode cc pc = .ok (.ixor, 1)) (hv : x ^^^ y = v) : mA cc nL pc L (.int y :: .int x :: r) = none ∧ mS cc pc (.int y :: .int x :: r) = some (pc + 1, .int v :: r) := ⟨by simp only [mA, hd], by simp only [mS, hd, mbin, hv]⟩
theorem s_i2f {x : Int32} {v : UInt32} (hd : decode cc pc = .ok (.i2f, 1)) (hv : FP.i2f x = v) : mA cc nL pc L (.int x :: r) = none ∧ mS cc pc (.int x :: r) = some (pc + 1, .float v :: r) := ⟨by simp only [mA, hd], by simp only [mS, hd, hv]⟩
theorem s_fdiv {x y v : UInt32} (hd : decode cc pc = .ok (.fdiv, 1)) (hn : vf_n32 (FP.fdiv x y)) (hv : FP.fdiv x y = v) : mA cc nL pc L (.float y :: .float x :: r) = none ∧ mS cc pc (.float y :: .float x :: r) = some (pc + 1, .float v :: r) := ⟨by simp only [mA, hd], by simp only [mS, hd]; rw [if_pos (show FP.fdiv x y &&& 2147483647 ≤ 2139095040 from hn), hv]⟩
theorem s_fmul {x y v : UInt32} (hd : decode cc pc = .ok (.fmul, 1)) (hn : vf_n32 (FP.fmul x y)) (hv : FP.fmul x y = v) : mA cc nL pc L (.float y :: .float x :: r) = none ∧ mS cc pc (.float y :: .float x :: r) = some (pc + 1, .float v :: r) := ⟨by simp only [mA, hd], by simp only [mS, hd]; rw [if_pos (show FP.fmul x y &&& 2147483647 ≤ 2139095040 from hn), hv]⟩
theorem s_fsub {x y v : UInt32} (hd : decode cc pc = .ok (.fsub, 1)) (hn : vf_n32 (FP.fsub x y)) (hv : FP.fsub x y = v) : mA cc nL pc L (.float y :: .float x :: r) = none ∧ mS cc pc (.float y :: .float x :: r) = some (pc + 1, .float v :: r) := ⟨by simp only [mA, hd], by simp only [mS, hd]; rw [if_pos (show FP.fsub x y &&& 2147483647 ≤ 2139095040 from hn), hv]⟩
theorem s_fcmp {x y : UInt32} {op : CmpOp} {v : Int32} (hd : decode cc pc = .ok (.fcmp op, 1)) (hv : Op.cmpValue (FP.fcmp x y) op = v) : mA cc nL pc L (.float y :: .float x :: r) = none ∧ mS cc pc (.float y :: .float x :: r) = some (pc + 1, .int v :: r) := ⟨by simp only [mA, hd], by simp only [mS, hd, hv]⟩
theorem s_f2i {x : UInt32} {v : Int32} (hd : decode cc pc = .ok (.f2i, 1)) (hv : FP.f2i x = v) : mA cc nL pc L (.float x :: r) = none ∧ mS cc pc (.float x :: r) = some (pc + 1, .int v :: r) := ⟨by simp only [mA, hd], by simp only [mS, hd, hv]⟩
theorem s_fconst0 (hd : decode cc pc = .ok (.fconst 0, 1)) : mA cc nL pc L st = none ∧ mS cc pc st = some (pc + 1, .float FP.fconst0 :: st) := ⟨by simp only [mA, hd], by simp only [mS, hd]⟩
theorem s_fconst1 (hd : decode cc pc = .ok (.fconst 1, 1)) : mA cc nL pc L st = none ∧ mS cc pc st = some (pc + 1, .float FP.fconst1 :: st) := ⟨by simp only [mA, hd], by simp only [mS, hd]⟩
theorem s_fconst2 (hd : decode cc pc = .ok (.fconst 2, 1)) : mA cc nL pc L st = none ∧ mS cc pc st = some (pc + 1, .float FP.fconst2 :: st) := ⟨by simp only [mA, hd], by simp only [mS, hd]⟩
end AR
section MP
variable {d : Nat} {scr : Option (List Int32)} {q : mQ} {pc : Nat} {L : List (Nat × Value)} {st : List Value} {P : mP} {cz sz : Nat} {Φ : Option Value → mP → Prop}
theorem mp_ldc {i : Nat} {v : Int32} (hd : decode q.2.1 pc = .ok (.ldc i, 2)) (hc : mldcI q.2.2.2.2.2.1 i = some v) (kk : MEvP d scr q (pc + 2) L (.int v :: st) P cz sz Φ) : MEvP d scr q pc L st P cz sz Φ := mp_B (z := (pc + 2, .int v :: st, P)) (by simp only [mA, hd]) (by simp only [mS, hd]) (by simp only [mB, hd, hc, Option.map_some]) kk
theorem mp_ldcw {i : Nat} {v : UInt32} (hd : decode q.2.1 pc = .ok (.ldc_w i, 3)) (hc : mldcF q.2.2.2.2.2.1 i = some v) (kk : MEvP d scr q (pc + 3) L (.float v :: st) P cz sz Φ) : MEvP d scr q pc L st P cz sz Φ := mp_B (z := (pc + 3, .float v :: st, P)) (by simp only [mA, hd]) (by simp only [mS, hd]) (by simp only [mB, hd, hc, Option.map_some]) kk
end MP
/-- a strip has at most 7 panels, a piece that is there at least 2, wherever a piece is kept -/
def RelAt (P : mP) (a o : Nat) : Prop := ∀ k : Nat, k < 8 → ((fv P a (o + 3 + 19 * k)).toInt = 0 → (fv P a (o + 4 + 19 * k)).toInt ≤ 7) ∧ ((k : Int) < (fv P a o).toInt → 2 ≤ (fv P a (o + 4 + 19 * k)).toInt)
def Rel (P : mP) : Prop := RelAt P 302 0 ∧ RelAt P 303 0 ∧ RelAt P 304 0 ∧ ∀ c : Nat, c < 8 → RelAt P 305 (155 * c)
theorem RelAt.congr {P P' : mP} {a o : Nat} (h : RelAt P a o) (f : ∀ j : Nat, fv P' a j = fv P a j) : RelAt P' a o := by
  intro k hk
  rw [f, f, f]
  exact h k hk
theorem Rel.all {P P' : mP} (h : Rel P) (f : ∀ b j : Nat, fv P' b j = fv P b j) : Rel P' := ⟨h.1.congr (f _), h.2.1.congr (f _), h.2.2.1.congr (f _), fun c hc => (h.2.2.2 c hc).congr (f _)⟩
theorem Rel.ne {P P' : mP} {a k r : Nat} (h : Rel P) (ha : rl a = r) (hr : (r == 18 || r == 19 || r == 20 || r == 21) = false) (f : ∀ b j : Nat, ¬ (b = a ∧ j = k) → fv P' b j = fv P b j) : Rel P' := by
  simp only [Bool.or_eq_false_iff, beq_eq_false_iff_ne] at hr
  have e1 : ∀ j, ¬ (302 = a ∧ j = k) := fun j e => hr.1.1.1 (by rw [← ha, ← e.1]; exact rl_302)
  have e2 : ∀ j, ¬ (303 = a ∧ j = k) := fun j e => hr.1.1.2 (by rw [← ha, ← e.1]; exact rl_303)
  have e3 : ∀ j, ¬ (304 = a ∧ j = k) := fun j e => hr.1.2 (by rw [← ha, ← e.1]; exact rl_304)
  have e4 : ∀ j, ¬ (305 = a ∧ j = k) := fun j e => hr.2 (by rw [← ha, ← e.1]; exact rl_305)
  exact ⟨h.1.congr (fun j => f _ _ (e1 j)), h.2.1.congr (fun j => f _ _ (e2 j)), h.2.2.1.congr (fun j => f _ _ (e3 j)), fun c hc => (h.2.2.2 c hc).congr (fun j => f _ _ (e4 j))⟩
theorem Rel.kw {W : List Nat} {P P' : mP} (h : Rel P) (g : KW W P P') (hw : (W.contains 1152 || W.contains 1216 || W.contains 1280 || W.contains 1344) = false) : Rel P' := by
  simp only [Bool.or_eq_false_iff] at hw
  exact ⟨h.1.congr (fun j => g.at j rl_302 hw.1.1.1), h.2.1.congr (fun j => g.at j rl_303 hw.1.1.2), h.2.2.1.congr (fun j => g.at j rl_304 hw.1.2), fun c hc => (h.2.2.2 c hc).congr (fun j => g.at j rl_305 hw.2)⟩
/-! floats: what is no NaN -/
theorem vf_nat {n : Nat} (h : n % 2147483648 ≤ 2139095040) : vf_n32 (UInt32.ofNat n) := by
  unfold vf_n32
  rw [UInt32.le_iff_toNat_le, UInt32.toNat_and]
  have e : (UInt32.ofNat n).toNat = n % 4294967296 := UInt32.toNat_ofNat'
  rw [e]
  show n % 4294967296 &&& (2 ^ 31 - 1) ≤ 2139095040
  rw [Nat.and_two_pow_sub_one_eq_mod]
  omega
theorem vf_toNat {x : UInt32} (h : vf_n32 x) : x.toNat % 2147483648 ≤ 2139095040 := by
  unfold vf_n32 at h
  rw [UInt32.le_iff_toNat_le, UInt32.toNat_and] at h
  have h : x.toNat &&& (2 ^ 31 - 1) ≤ 2139095040 := h
  rw [Nat.and_two_pow_sub_one_eq_mod] at h
  omega
/-- a datum of the float format that is a number or an infinity -/
def fdOk (d : FP.Core.Datum) : Prop := (∃ s, d = .inf s) ∨ ∃ s c q, d = .fin s c q ∧ c < 16777216 ∧ q ≤ 104
set_option maxRecDepth 100000 in
theorem vf_enc {d : FP.Core.Datum} (h : fdOk d) : vf_n32 (UInt32.ofNat (FP.Core.encode FP.Core.b32 d)) := by
  apply vf_nat
  rcases h with ⟨s, rfl⟩ | ⟨s, c, q, rfl, hc, hq⟩
  · cases s <;> decide +kernel
  · have hs : s.toNat ≤ 1 := by cases s <;> decide
    unfold FP.Core.encode
    dsimp only
    split
    · rename_i h1
      have h1 : c < 8388608 := h1
      show ((s.toNat * 256 + 0) * 8388608 + c) % 2147483648 ≤ 2139095040
      omega
    · rename_i h1
      have h1 : ¬ c < 8388608 := h1
      show ((s.toNat * 256 + ((q - (-149)).toNat + 1)) * 8388608 + (c - 8388608)) % 2147483648 ≤ 2139095040
      omega
theorem fd_bound {s : Bool} {c : Nat} {q : Int} (hc : c < 16777216) : fdOk (FP.Core.bound FP.Core.b32 s c q) := by
  unfold FP.Core.bound
  split
  · rename_i h
    exact Or.inr ⟨s, c, q, rfl, hc, h⟩
  · exact Or.inl ⟨s, rfl⟩
theorem fd_rr (s : Bool) (num den : Nat) (e : Int) : fdOk (FP.Core.roundRatio FP.Core.b32 s num den e) := by
  unfold FP.Core.roundRatio
  split
  · exact Or.inr ⟨s, 0, -149, rfl, by decide, by decide⟩
  · unfold FP.Core.roundAt FP.Core.settle
    split
    · rename_i h
      exact fd_bound h
    · exact fd_bound (by decide)
theorem fd_round {d : FP.Core.Datum} (h : d ≠ .nan) : fdOk (FP.Core.round FP.Core.b32 d) := by
  cases d with
  | nan => exact absurd rfl h
  | inf s => exact Or.inl ⟨s, rfl⟩
  | fin s c q => exact fd_rr s c 1 q
theorem vf_dec {x : UInt32} (h : vf_n32 x) : FP.Core.decode FP.Core.b32 x.toNat ≠ .nan := by
  have h1 := vf_toNat h
  unfold FP.Core.decode
  split
  · rename_i h2
    have h2 : x.toNat / 8388608 % 256 = 255 := h2
    rw [if_pos]
    · exact fun e => by cases e
    · show x.toNat % 8388608 = 0
      omega
  · split
    · exact fun e => by cases e
    · exact fun e => by cases e
def fnz (y : UInt32) : Bool := match FP.Core.decode FP.Core.b32 y.toNat with
  | .fin _ d _ => d != 0
  | _ => false
theorem fnz_dec {y : UInt32} (h : fnz y = true) : ∃ s d q, FP.Core.decode FP.Core.b32 y.toNat = .fin s d q ∧ d ≠ 0 := by
  unfold fnz at h
  cases e : FP.Core.decode FP.Core.b32 y.toNat with
  | nan => rw [e] at h; cases h
  | inf s => rw [e] at h; cases h
  | fin s d q =>
    rw [e] at h
    exact ⟨s, d, q, rfl, by simpa using h⟩
theorem vf_mul {x y : UInt32} (h : vf_n32 x) (hy : fnz y = true) : vf_n32 (FP.fmul x y) := by
  obtain ⟨s, d, q, e, hd⟩ := fnz_dec hy
  have hx := vf_dec h
  show vf_n32 (UInt32.ofNat (FP.Core.encode FP.Core.b32 (FP.Core.round FP.Core.b32 (FP.Core.exactProduct (FP.Core.decode FP.Core.b32 x.toNat) (FP.Core.decode FP.Core.b32 y.toNat)))))
  refine vf_enc (fd_round ?_)
  rw [e]
  cases e2 : FP.Core.decode FP.Core.b32 x.toNat with
  | nan => exact absurd e2 hx
  | inf t =>
    show (if d = 0 then FP.Core.Datum.nan else .inf (t != s)) ≠ .nan
    rw [if_neg hd]
    exact fun e => by cases e
  | fin t c r => exact fun e => by cases e
theorem vf_sub {x y : UInt32} (h : vf_n32 x) (hy : fnz y = true) : vf_n32 (FP.fsub x y) := by
  obtain ⟨s, d, q, e, hd⟩ := fnz_dec hy
  have hx := vf_dec h
  show vf_n32 (UInt32.ofNat (FP.Core.encode FP.Core.b32 (FP.Core.round FP.Core.b32 (FP.Core.exactSum (FP.Core.decode FP.Core.b32 x.toNat) (FP.Core.negate (FP.Core.decode FP.Core.b32 y.toNat))))))
  refine vf_enc (fd_round ?_)
  rw [e]
  cases e2 : FP.Core.decode FP.Core.b32 x.toNat with
  | nan => exact absurd e2 hx
  | inf t => exact fun e => by cases e
  | fin t c r => exact fun e => by cases e
def fint (n : Nat) : Bool := match FP.Core.decode FP.Core.b32 (UInt32.ofNat (FP.Core.fromInt FP.Core.b32 (n : Int))).toNat with
  | .fin _ d _ => n == 0 || d != 0
  | _ => false
theorem fint_all : (List.range 201).all fint = true := by decide +kernel
theorem fint_dec {a : Int32} {x : UInt32} (hx : FP.i2f a = x) (ha : 0 ≤ a.toInt ∧ a.toInt ≤ 200) : ∃ s d q, FP.Core.decode FP.Core.b32 x.toNat = .fin s d q ∧ (a.toInt = 0 ∨ d ≠ 0) := by
  have h := List.all_eq_true.mp fint_all a.toInt.toNat (List.mem_range.mpr (by omega))
  have e : ((a.toInt.toNat : Nat) : Int) = a.toInt := by omega
  unfold fint at h
  rw [e] at h
  have e3 : x = UInt32.ofNat (FP.Core.fromInt FP.Core.b32 a.toInt) := hx.symm
  rw [← e3] at h
  cases e2 : FP.Core.decode FP.Core.b32 x.toNat with
  | nan => rw [e2] at h; cases h
  | inf s => rw [e2] at h; cases h
  | fin s d q =>
    rw [e2] at h
    refine ⟨s, d, q, rfl, ?_⟩
    rcases Bool.or_eq_true _ _ ▸ h with h | h
    · rw [beq_iff_eq] at h
      exact Or.inl (by omega)
    · exact Or.inr (by simpa using h)
theorem vf_div {a b : Int32} {x y : UInt32} (hx : FP.i2f a = x) (hy : FP.i2f b = y) (ha : 0 ≤ a.toInt ∧ a.toInt ≤ 200) (hb : 1 ≤ b.toInt ∧ b.toInt ≤ 200) : vf_n32 (FP.fdiv x y) := by
  obtain ⟨s, c, q, e1, -⟩ := fint_dec hx ha
  obtain ⟨t, d, r, e2, hd⟩ := fint_dec hy ⟨by omega, hb.2⟩
  have hd : d ≠ 0 := hd.resolve_left (by omega)
  show vf_n32 (UInt32.ofNat (FP.Core.encode FP.Core.b32 (FP.Core.quotient FP.Core.b32 (FP.Core.decode FP.Core.b32 x.toNat) (FP.Core.decode FP.Core.b32 y.toNat))))
  rw [e1, e2]
  refine vf_enc ?_
  show fdOk (if d = 0 then (if c = 0 then FP.Core.Datum.nan else .inf (s != t)) else FP.Core.roundRatio FP.Core.b32 (s != t) c d (q - r))
  rw [if_neg hd]
  exact fd_rr _ _ _ _
theorem mt_callv {d : Nat} {scr : Option (List Int32)} {q : mQ} {pc : Nat} {L : List (Nat × Value)} {st rest : List Value} {P : mP} {cz sz : Nat} {Φ : Option Value → mP → Prop} {i kd k a r : Nat} {q' : mQ} {As : List Value} {Ψ : Option Value → mP → Prop} (hT : Typ P) (hd : decode q.2.1 pc = .ok (.invokevirtual i, 3)) (hc : mcal q.2.2.2.2.2.1 i = some (kd, k)) (hq : mtL[k]? = some q') (hkd : kd < 2) (hn : As.length = q'.2.2.2.2.1) (hr : rl a = r) (hr9 : r ≠ 99) (hk : (rsp r).1 = q'.2.2.2.2.2.1) (hcat : (rest.map mcat).sum ≤ 8) (hst : st = As.reverse ++ .ref a :: rest) (hz : q'.2.2.2.2.2.2.1 = 0 ∧ q'.2.2.2.2.2.2.2 = 0) (hcz : cz ≤ q.2.2.2.2.2.2.1 ∧ sz ≤ q.2.2.2.2.2.2.2) (hev : EvP d k (.ref a :: As) P Ψ) (kk : ∀ (r1 : Option Value) (P1 : mP), Ψ r1 P1 → MEvP d scr q (pc + 3) L (r1.toList ++ rest) P1 cz sz Φ) (ho : q'.2.2.2.2.2.1 < 8 := by decide) : MEvP d scr q pc L st P cz sz Φ := by
  obtain ⟨vs, h1, -, -⟩ := hT.cell hr hr9
  rw [hk] at h1
  exact mp_callv hd hc hq hkd hn h1 ho hcat hst hz hcz hev kk
/-! the reference's rows of states -/
theorem sspm {i : Nat} (h : i < 155) : ssp i = ssp (i % 155) := by rw [Nat.mod_eq_of_lt h]
theorem okS_pp {i j : Nat} {x : Int32} {f g : Nat → mSp} (hf : f i = ssp (i % 155)) (hg : g j = ssp (j % 155)) (h : okV (f i) (.int x)) (e : i % 155 = j % 155) : okV (g j) (.int x) := by
  rw [hg, ← e, ← hf]
  exact h
theorem ssp_19 {j : Nat} (h : 3 ≤ j) : ssp (j + 19) = ssp j := by
  have e : (j + 19 - 3) % 19 = (j - 3) % 19 := by omega
  have h1 : ¬ j + 19 = 0 := by omega
  have h2 : ¬ j + 19 < 3 := by omega
  have h3 : ¬ j = 0 := by omega
  have h4 : ¬ j < 3 := by omega
  unfold ssp
  rw [if_neg h1, if_neg h2, if_neg h3, if_neg h4, e]
theorem okS_19 {i j : Nat} {x : Int32} (h : okV (ssp i) (.int x)) (e : i = j + 19) (h3 : 3 ≤ j) : okV (ssp j) (.int x) := by
  rw [← ssp_19 h3, ← e]
  exact h
theorem okS_c0 {x : Int32} (h : 0 ≤ x.toInt ∧ x.toInt ≤ 8) : okV (ssp 0) (.int x) := ⟨rfl, h⟩
theorem okS_c1 {x : Int32} : okV (ssp 1) (.int x) := ⟨rfl, ti_full x⟩
theorem okS_c2 {x : Int32} : okV (ssp 2) (.int x) := ⟨rfl, ti_full x⟩
def CPY (P P' : mP) (a o b u k : Nat) : Prop := (∀ j : Nat, j < k → fv P' b (u + j) = fv P a (o + j)) ∧ ∀ x j : Nat, ¬ (x = b ∧ u ≤ j ∧ j < u + k) → fv P' x j = fv P x j
theorem CPY.start {P : mP} {a o b u k : Nat} (h : k = 0) : CPY P P a o b u k := ⟨fun j hj => by omega, fun _ _ _ => rfl⟩
theorem CPY.fin {P P' : mP} {a o b u k : Nat} (h : CPY P P' a o b u k) (e : k = 155) : CPY P P' a o b u 155 := e ▸ h
theorem CPY.step {P Q Q' : mP} {a o b u k k' n i : Nat} (h : CPY P Q a o b u k) (f1 : fv Q' b n = fv Q a i) (f2 : ∀ x j : Nat, ¬ (x = b ∧ j = n) → fv Q' x j = fv Q x j) (hk : k' = k + 1) (hn : n = u + k) (hi : i = o + k) (hd : ¬ a = b ∨ u + k ≤ o) : CPY P Q' a o b u k' := by
  subst hk hn hi
  refine ⟨fun j hj => ?_, fun x j hx => ?_⟩
  · by_cases e : j = k
    · subst e
      rw [f1]
      refine h.2 a (o + j) (fun e => ?_)
      rcases hd with g | g
      · exact g e.1
      · omega
    · rw [f2 _ _ (fun e => by omega)]
      exact h.1 j (by omega)
  · rw [f2 _ _ (fun e => hx ⟨e.1, by omega, by omega⟩)]
    exact h.2 x j (fun e => hx ⟨e.1, by omega, by omega⟩)
theorem Rel.at {P : mP} (h : Rel P) {a o : Nat} (ha : (a = 302 ∨ a = 303 ∨ a = 304) ∧ o = 0 ∨ a = 305 ∧ o % 155 = 0 ∧ o < 1240) : RelAt P a o := by
  rcases ha with ⟨h1, rfl⟩ | ⟨rfl, h1, h2⟩
  · rcases h1 with rfl | rfl | rfl
    · exact h.1
    · exact h.2.1
    · exact h.2.2.1
  · have := h.2.2.2 (o / 155) (by omega)
    rwa [show 155 * (o / 155) = o by omega] at this
theorem RelAt.cpy {P P' : mP} {a o b u : Nat} (h : RelAt P a o) (g : CPY P P' a o b u 155) : RelAt P' b u := by
  intro k hk
  have e0 := g.1 0 (by omega)
  have e1 := g.1 (3 + 19 * k) (by omega)
  have e2 := g.1 (4 + 19 * k) (by omega)
  rw [Nat.add_zero, Nat.add_zero] at e0
  rw [Nat.add_assoc, Nat.add_assoc, e0, e1, e2, ← Nat.add_assoc, ← Nat.add_assoc]
  exact h k hk
theorem RelAt.off {P P' : mP} {a o b u c w : Nat} (h : RelAt P c w) (g : CPY P P' a o b u 155) (hn : ¬ c = b ∨ w + 155 ≤ u ∨ u + 155 ≤ w) : RelAt P' c w := by
  intro k hk
  rw [g.2 c (w + 3 + 19 * k) (fun e => by rcases hn with q | q | q <;> omega), g.2 c (w + 4 + 19 * k) (fun e => by rcases hn with q | q | q <;> omega), g.2 c w (fun e => by rcases hn with q | q | q <;> omega)]
  exact h k hk
theorem Rel.cpy {P P' : mP} {a o b u : Nat} (h : Rel P) (g : CPY P P' a o b u 155) (ha : (a = 302 ∨ a = 303 ∨ a = 304) ∧ o = 0 ∨ a = 305 ∧ o % 155 = 0 ∧ o < 1240) (hb : (b = 302 ∨ b = 303 ∨ b = 304) ∧ u = 0 ∨ b = 305 ∧ u % 155 = 0 ∧ u < 1240) : Rel P' := by
  have h1 := (h.at ha).cpy g
  have key : ∀ c w : Nat, RelAt P c w → ((c = b ∧ w = u) ∨ ¬ c = b ∨ w + 155 ≤ u ∨ u + 155 ≤ w) → RelAt P' c w := by
    intro c w hc q
    rcases q with ⟨rfl, rfl⟩ | q
    · exact h1
    · exact hc.off g q
  refine ⟨key _ _ h.1 ?_, key _ _ h.2.1 ?_, key _ _ h.2.2.1 ?_, fun c hc => key _ _ (h.2.2.2 c hc) ?_⟩ <;> omega
theorem RelAt.one {P P' : mP} {a o : Nat} (h : RelAt P a o) (f0 : fv P' a o = fv P a o) (f : ∀ p : Nat, p < 8 → fv P' a (o + 3 + 19 * p) = fv P a (o + 3 + 19 * p) ∧ fv P' a (o + 4 + 19 * p) = fv P a (o + 4 + 19 * p)) : RelAt P' a o := by
  intro p hp
  rw [f0, (f p hp).1, (f p hp).2]
  exact h p hp
/-- but for the first row, nothing has changed -/
theorem Rel.first {P P' : mP} (h : Rel P) (f : ∀ b j : Nat, ¬ b = 302 → fv P' b j = fv P b j) (h1 : RelAt P' 302 0) : Rel P' := ⟨h1, h.2.1.congr (fun j => f _ j (by decide)), h.2.2.1.congr (fun j => f _ j (by decide)), fun c hc => (h.2.2.2 c hc).congr (fun j => f _ j (by decide))⟩
theorem Rel.oth {P P' : mP} {k : Nat} (h : Rel P) (f : ∀ b j : Nat, ¬ (b = 302 ∧ j = k) → fv P' b j = fv P b j) (hk : (k < 3 ∧ k ≠ 0) ∨ (3 ≤ k ∧ (k - 3) % 19 ≠ 0 ∧ (k - 3) % 19 ≠ 1)) : Rel P' :=
  h.first (fun b j hb => f b j (fun e => hb e.1)) (h.1.one (f _ _ (fun e => by omega)) (fun p hp => ⟨f _ _ (fun e => by omega), f _ _ (fun e => by omega)⟩))
theorem Rel.siz {P P' : mP} {k p : Nat} {x : Int32} (h : Rel P) (f : ∀ b j : Nat, ¬ (b = 302 ∧ j = k) → fv P' b j = fv P b j) (e : fv P' 302 k = x) (hp : p < 8) (hk : k = 4 + 19 * p) (hx : 2 ≤ x.toInt ∧ x.toInt ≤ 7) : Rel P' := by
  refine h.first (fun b j hb => f b j (fun e => hb e.1)) (fun q hq => ?_)
  by_cases hpq : q = p
  · subst hpq
    rw [show 0 + 4 + 19 * q = k by omega, e]
    exact ⟨fun _ => hx.2, fun _ => hx.1⟩
  · rw [f 302 (0 + 3 + 19 * q) (fun e => by omega), f 302 (0 + 4 + 19 * q) (fun e => by omega), f 302 0 (fun e => by omega)]
    exact h.1 q hq
theorem Rel.many {P P' : mP} {x : Int32} (h : Rel P) (f : ∀ b j : Nat, ¬ (b = 302 ∧ j = 0) → fv P' b j = fv P b j) (e : fv P' 302 0 = x) (hx : x.toInt ≤ (fv P 302 0).toInt) : Rel P' := by
  refine h.first (fun b j hb => f b j (fun e => hb e.1)) (fun q hq => ?_)
  rw [f 302 (0 + 3 + 19 * q) (fun e => by omega), f 302 (0 + 4 + 19 * q) (fun e => by omega), e]
  exact ⟨(h.1 q hq).1, fun g => (h.1 q hq).2 (by omega)⟩
theorem Rel.rec {P P0 P1 P2 : mP} {p k1 k2 : Nat} {w x y : Int32} (h : Rel P) (f0 : ∀ b j : Nat, ¬ (b = 302 ∧ j = 0) → fv P0 b j = fv P b j) (e0 : fv P0 302 0 = w) (f1 : ∀ b j : Nat, ¬ (b = 302 ∧ j = k1) → fv P1 b j = fv P0 b j) (e1 : fv P1 302 k1 = x) (f2 : ∀ b j : Nat, ¬ (b = 302 ∧ j = k2) → fv P2 b j = fv P1 b j) (e2 : fv P2 302 k2 = y) (hp : p < 8 ∧ (p : Int) = (fv P 302 0).toInt) (hw : w.toInt = (fv P 302 0).toInt + 1) (h1 : k1 = 3 + 19 * p) (h2 : k2 = 4 + 19 * p) (hx : ¬ x.toInt = 0 ∨ y.toInt ≤ 7) (hy : 2 ≤ y.toInt) : Rel P2 := by
  refine h.first (fun b j hb => (f2 b j (fun e => hb e.1)).trans ((f1 b j (fun e => hb e.1)).trans (f0 b j (fun e => hb e.1)))) (fun q hq => ?_)
  have g0 : (fv P2 302 0).toInt = w.toInt := by rw [f2 302 0 (fun e => by omega), f1 302 0 (fun e => by omega), e0]
  rw [g0]
  by_cases hpq : q = p
  · subst hpq
    rw [f2 302 (0 + 3 + 19 * q) (fun e => by omega), show 0 + 3 + 19 * q = k1 by omega, e1, show 0 + 4 + 19 * q = k2 by omega, e2]
    exact ⟨fun g => hx.resolve_left (fun n => n g), fun _ => hy⟩
  · rw [f2 302 (0 + 3 + 19 * q) (fun e => by omega), f1 302 (0 + 3 + 19 * q) (fun e => by omega), f0 302 (0 + 3 + 19 * q) (fun e => by omega), f2 302 (0 + 4 + 19 * q) (fun e => by omega), f1 302 (0 + 4 + 19 * q) (fun e => by omega), f0 302 (0 + 4 + 19 * q) (fun e => by omega)]
    exact ⟨(h.1 q hq).1, fun g => (h.1 q hq).2 (by omega)⟩
theorem Rel.use {P : mP} {p : Nat} (h : Rel P) (hp : p < 8) (hz : (fv P 302 (3 + 19 * p)).toInt = 0) : (fv P 302 (4 + 19 * p)).toInt ≤ 7 := by
  have := (h.1 p hp).1
  rw [Nat.zero_add, Nat.zero_add] at this
  exact this hz
theorem Rel.two {P : mP} {p : Nat} (h : Rel P) (hp : p < 8) (hz : (p : Int) < (fv P 302 0).toInt) : 2 ≤ (fv P 302 (4 + 19 * p)).toInt := by
  have := (h.1 p hp).2
  rw [Nat.zero_add] at this
  exact this hz
def Mv (P P' : mP) (a k : Nat) : Prop := (∀ j : Nat, a ≤ j → j < k → fv P' 302 j = fv P 302 (j + 19)) ∧ ∀ j : Nat, j < a ∨ k ≤ j → fv P' 302 j = fv P 302 j
theorem Mv.start {P : mP} {a k : Nat} (h : k = a) : Mv P P a k := ⟨fun j h1 h2 => by omega, fun _ _ => rfl⟩
theorem Mv.step {P Q Q' : mP} {a k k' n i : Nat} (h : Mv P Q a k) (f1 : fv Q' 302 n = fv Q 302 i) (f2 : ∀ x j : Nat, ¬ (x = 302 ∧ j = n) → fv Q' x j = fv Q x j) (hk : k' = k + 1 ∧ a ≤ k) (hn : n = k) (hi : i = k + 19) : Mv P Q' a k' := by
  obtain ⟨rfl, hk⟩ := hk
  subst hn hi
  refine ⟨fun j h1 h2 => ?_, fun j hj => ?_⟩
  · by_cases e : j = n
    · subst e
      rw [f1]
      exact h.2 _ (by omega)
    · rw [f2 _ _ (fun q => e q.2)]
      exact h.1 j h1 (by omega)
  · rw [f2 _ _ (fun q => by omega)]
    exact h.2 j (by omega)
theorem Mv.rel {P P' : mP} {a k p m : Nat} (h : Rel P) (g : Mv P P' a k) (ha : a = 3 + 19 * p) (hk : k = 3 + 19 * m) (hm : p ≤ m ∧ m < 8) (hn : (m : Int) + 1 ≤ (fv P 302 0).toInt) (f3 : ∀ j : Nat, fv P' 303 j = fv P 303 j) (f4 : ∀ j : Nat, fv P' 304 j = fv P 304 j) (f5 : ∀ j : Nat, fv P' 305 j = fv P 305 j) : Rel P' := by
  refine ⟨fun q hq => ?_, h.2.1.congr f3, h.2.2.1.congr f4, fun c hc => (h.2.2.2 c hc).congr f5⟩
  rw [g.2 0 (by omega)]
  by_cases hq1 : p ≤ q ∧ q < m
  · rw [g.1 (0 + 3 + 19 * q) (by omega) (by omega), g.1 (0 + 4 + 19 * q) (by omega) (by omega)]
    have := h.1 (q + 1) (by omega)
    rw [show 0 + 3 + 19 * (q + 1) = 0 + 3 + 19 * q + 19 by omega, show 0 + 4 + 19 * (q + 1) = 0 + 4 + 19 * q + 19 by omega] at this
    exact ⟨this.1, fun _ => this.2 (by omega)⟩
  · rw [g.2 (0 + 3 + 19 * q) (by omega), g.2 (0 + 4 + 19 * q) (by omega)]
    exact h.1 q hq
/-- the past, moved down by one as far as k -/
def SHF (P Q : mP) (k : Nat) : Prop := (∀ c j : Nat, c < 8 → j < 155 → fv Q 305 (155 * c + j) = if c + 1 < k then fv P 305 (155 * (c + 1) + j) else fv P 305 (155 * c + j)) ∧ ∀ x j : Nat, ¬ x = 305 → fv Q x j = fv P x j
theorem SHF.start {P : mP} {k : Nat} (h : k = 1) : SHF P P k := ⟨fun c j _ _ => by rw [if_neg (by omega)], fun _ _ _ => rfl⟩
theorem SHF.fin {P Q : mP} {k : Nat} (h : SHF P Q k) (e : k = 8) : SHF P Q 8 := e ▸ h
theorem SHF.step {P Q R : mP} {k k' o u : Nat} (h : SHF P Q k) (g : CPY Q R 305 o 305 u 155) (hk : k' = k + 1 ∧ 1 ≤ k ∧ k < 8) (ho : o = 155 * k) (hu : u + 155 = 155 * k) : SHF P R k' := by
  obtain ⟨rfl, h1, h8⟩ := hk
  refine ⟨fun c j hc hj => ?_, fun x j hx => (g.2 x j (fun e => hx e.1)).trans (h.2 x j hx)⟩
  by_cases e : c + 1 = k
  · have q := g.1 j hj
    rw [show u + j = 155 * c + j by omega, show o + j = 155 * (c + 1) + j by omega] at q
    rw [q, h.1 (c + 1) j (by omega) hj, if_neg (by omega), if_pos (by omega)]
  · rw [g.2 305 (155 * c + j) (by omega), h.1 c j hc hj]
    by_cases e2 : c + 1 < k
    · rw [if_pos e2, if_pos (by omega)]
    · rw [if_neg e2, if_neg (by omega)]
/-- the past after a change: n changes were there -/
def PUP (P Q : mP) (n : Nat) : Prop := ∀ c j : Nat, c < 8 → j < 155 → fv Q 305 (155 * c + j) = if n = 8 then (if c < 7 then fv P 305 (155 * (c + 1) + j) else fv P 303 j) else (if c = n then fv P 303 j else fv P 305 (155 * c + j))
theorem PUP.a {P P1 P2 : mP} {n u : Nat} (g : CPY P P1 303 0 305 u 155) (f : ∀ x j : Nat, ¬ (x = 301 ∧ j = 4) → fv P2 x j = fv P1 x j) (hn : n < 8) (hu : u = 155 * n) : PUP P P2 n := by
  intro c j hc hj
  rw [if_neg (by omega), f _ _ (by omega)]
  by_cases e : c = n
  · subst e
    have q := g.1 j hj
    rw [hu, Nat.zero_add] at q
    rw [if_pos rfl, q]
  · rw [if_neg e]
    exact g.2 _ _ (by omega)
theorem PUP.src {P0 P Q : mP} {n : Nat} (h : PUP P Q n) (f : ∀ x j : Nat, ¬ x = 301 → fv P x j = fv P0 x j) : PUP P0 Q n := by
  intro c j hc hj
  rw [h c j hc hj, f _ _ (by decide), f _ _ (by decide), f _ _ (by decide)]
theorem PUP.b {P P0 P1 P2 P3 : mP} {u : Nat} (h : SHF P P0 8) (f1 : ∀ x j : Nat, ¬ (x = 301 ∧ j = 4) → fv P1 x j = fv P0 x j) (g : CPY P1 P2 303 0 305 u 155) (f3 : ∀ x j : Nat, ¬ (x = 301 ∧ j = 4) → fv P3 x j = fv P2 x j) (hu : u = 1085) : PUP P P3 8 := by
  intro c j hc hj
  rw [if_pos rfl, f3 _ _ (by omega)]
  by_cases e : c = 7
  · subst e
    have q := g.1 j hj
    rw [hu, Nat.zero_add, f1 303 j (by omega), h.2 303 j (by decide)] at q
    rw [if_neg (by omega)]
    exact q
  · rw [g.2 305 (155 * c + j) (by omega), f1 _ _ (by omega), h.1 c j hc hj, if_pos (by omega), if_pos (by omega)]
theorem Mv.get {P Q : mP} {a k k' : Nat} (h : Mv P Q a k) (e : k = k') (j : Nat) : fv Q 302 j = if a ≤ j ∧ j < k' then fv P 302 (j + 19) else fv P 302 j := by
  subst e
  by_cases c : a ≤ j ∧ j < k
  · rw [if_pos c]
    exact h.1 j c.1 c.2
  · rw [if_neg c]
    exact h.2 j (by omega)
def UD (P : mP) (p : Nat) (kd : Int) : Prop := ∃ j : Nat, j < 8 ∧ (fv P 302 (14 + 19 * p + j)).toInt = kd
def UDf (P : mP) (p k : Nat) : Prop := ∃ j : Nat, k ≤ j ∧ j < 8 ∧ (fv P 302 (14 + 19 * p + j)).toInt = 0
theorem UDf.start {P : mP} {p k : Nat} (h : UD P p 0) (hk : k = 0) : UDf P p k := by
  obtain ⟨j, h1, h2⟩ := h
  exact ⟨j, by omega, h1, h2⟩
theorem UDf.next {P : mP} {p k k' : Nat} (h : UDf P p k) (hk : k' = k + 1) (hn : ¬ (fv P 302 (14 + 19 * p + k)).toInt = 0) : UDf P p k' := by
  obtain ⟨j, h1, h2, h3⟩ := h
  refine ⟨j, ?_, h2, h3⟩
  by_cases e : j = k
  · subst e
    exact absurd h3 hn
  · omega
theorem UD.kw {W : List Nat} {P P' : mP} {p : Nat} {kd : Int} (h : UD P p kd) (g : KW W P P') (hw : W.contains 1152 = false) : UD P' p kd := by
  obtain ⟨j, h1, h2⟩ := h
  exact ⟨j, h1, by rw [g.at _ rl_302 hw]; exact h2⟩
/-! counts, sums, places, widths: the same functions for class and reference -/
theorem ti_remx {x y z : Int32} (h : x - x / y * y = z) (hx : 0 ≤ x.toInt) (hy : 0 < y.toInt) : z.toInt = x.toInt % y.toInt := by
  have h1 : (x / y).toInt = x.toInt / y.toInt := ti_div rfl hx hy
  have h2 : x.toInt / y.toInt * y.toInt ≤ x.toInt := Int.ediv_mul_le _ (by omega)
  have h3 : 0 ≤ x.toInt / y.toInt := Int.ediv_nonneg hx (by omega)
  have h4 : 0 ≤ x.toInt / y.toInt * y.toInt := Int.mul_nonneg h3 (by omega)
  have fx := ti_full x
  have h5 : (x / y * y).toInt = x.toInt / y.toInt * y.toInt := ti_mul h1 rfl (by omega) (by omega)
  have h6 : (x - x / y * y).toInt = x.toInt - x.toInt / y.toInt * y.toInt := ti_sub rfl h5 (by omega) (by omega)
  rw [← h, h6, Int.emod_def, Int.mul_comm]
theorem s3_rng {P : mP} {p : Nat} (h : Typ P) (hp : p < 8) : 0 ≤ (fv P 302 (3 + 19 * p)).toInt ∧ (fv P 302 (3 + 19 * p)).toInt ≤ 1 :=
  h.rng rl_302 (by decide) (show 3 + 19 * p < 155 by omega) (show ssp (3 + 19 * p) = (0, 0, 1) by unfold ssp; rw [if_neg (by omega), if_neg (by omega), if_pos (by omega)])
theorem s4_rng {P : mP} {p : Nat} (h : Typ P) (hp : p < 8) : 0 ≤ (fv P 302 (4 + 19 * p)).toInt ∧ (fv P 302 (4 + 19 * p)).toInt ≤ 8 :=
  h.rng rl_302 (by decide) (show 4 + 19 * p < 155 by omega) (show ssp (4 + 19 * p) = (0, 0, 8) by unfold ssp; rw [if_neg (by omega), if_neg (by omega), if_neg (by omega), if_pos (by omega)])
def cntF (f : Nat → Int32) (c : Int) : Nat → Int
  | 0 => 0
  | n + 1 => if (f n).toInt = c then cntF f c n + 1 else cntF f c n
theorem cntF.yes {f : Nat → Int32} {c v w : Int} {i j : Nat} (h : v = cntF f c i) (hj : j = i + 1) (hf : (f i).toInt = c) (hw : w = v + 1) : w = cntF f c j := by
  subst hj
  rw [hw, h]
  show _ = if (f i).toInt = c then _ else _
  rw [if_pos hf]
theorem cntF.no {f : Nat → Int32} {c v w : Int} {i j : Nat} (h : v = cntF f c i) (hj : j = i + 1) (hf : ¬ (f i).toInt = c) (hw : w = v) : w = cntF f c j := by
  subst hj
  rw [hw, h]
  show _ = if (f i).toInt = c then _ else _
  rw [if_neg hf]
def nC (kd n : Int) : Nat := if kd = 0 then (n - 1).toNat else n.toNat
def smF (f : Nat → Int32) : Nat → Int32
  | 0 => 0
  | n + 1 => smF f n + f n
theorem smF.step {f : Nat → Int32} {v w x : Int32} {i j : Nat} (h : v = smF f i) (hj : j = i + 1) (hx : x.toInt = (f i).toInt) (hz : v + x = w) : w = smF f j := by
  subst hj
  have e : x = f i := Int32.toInt_inj.mp hx
  rw [← hz, h, e]
  rfl
theorem smF.skip {f : Nat → Int32} {v : Int32} {i j : Nat} (h : v = smF f i) (hj : j = i + 1) (hx : f i = 0) : v = smF f j := by
  subst hj
  show v = smF f i + f i
  rw [hx, Int32.add_zero, h]
def nmF (f : Nat → Int32) : Nat → Int32
  | 0 => 0
  | n + 1 => nmF f n * 10 + f n
theorem nmF.step {f : Nat → Int32} {v w x u : Int32} {i j : Nat} (h : v = nmF f i) (hj : j = i + 1) (hx : x.toInt = (f i).toInt) (hu : v * 10 = u) (hz : u + x = w) : w = nmF f j := by
  subst hj
  have e : x = f i := Int32.toInt_inj.mp hx
  rw [← hz, ← hu, h, e]
  rfl
def plF (f : Nat → Int32) : Nat → Int32
  | 0 => 0
  | n + 1 => if n % 2 = 0 then plF f n + f n else plF f n + -f n
theorem plF.even {f : Nat → Int32} {v w x : Int32} {i j : Nat} (h : v = plF f i) (hj : j = i + 1) (he : i % 2 = 0) (hx : x.toInt = (f i).toInt) (hz : v + x = w) : w = plF f j := by
  subst hj
  have e : x = f i := Int32.toInt_inj.mp hx
  rw [← hz, h, e]
  show _ = if i % 2 = 0 then _ else _
  rw [if_pos he]
theorem plF.odd {f : Nat → Int32} {v w x y : Int32} {i j : Nat} (h : v = plF f i) (hj : j = i + 1) (he : ¬ i % 2 = 0) (hx : x.toInt = (f i).toInt) (hy : -x = y) (hz : v + y = w) : w = plF f j := by
  subst hj
  have e : x = f i := Int32.toInt_inj.mp hx
  rw [← hz, h, ← hy, e]
  show _ = if i % 2 = 0 then _ else _
  rw [if_neg he]
def mxI (x y : Int32) : Int32 := if x < y then y else x
def mnI (x y : Int32) : Int32 := if y < x then y else x
theorem mxI_of {x y z : Int32} (h : (z.toInt = x.toInt ∧ y.toInt ≤ x.toInt) ∨ (z.toInt = y.toInt ∧ x.toInt ≤ y.toInt)) : z = mxI x y := by
  unfold mxI
  apply Int32.toInt_inj.mp
  split
  · rename_i c
    have := ti_lt c
    omega
  · rename_i c
    have := ti_lt_n c
    omega
theorem mnI_of {x y z : Int32} (h : (z.toInt = x.toInt ∧ x.toInt ≤ y.toInt) ∨ (z.toInt = y.toInt ∧ y.toInt ≤ x.toInt)) : z = mnI x y := by
  unfold mnI
  apply Int32.toInt_inj.mp
  split
  · rename_i c
    have := ti_lt c
    omega
  · rename_i c
    have := ti_lt_n c
    omega
def mxF (f : Nat → Int32) : Nat → Int32
  | 0 => 0
  | n + 1 => mxI (mxF f n) (f n)
def loF (f : Nat → Int32) : Nat → Int32
  | 0 => 0
  | n + 1 => mnI (loF f n) (plF f (n + 1))
def hiF (f : Nat → Int32) : Nat → Int32
  | 0 => 0
  | n + 1 => mxI (hiF f n) (plF f (n + 1))
theorem mxF.step {f : Nat → Int32} {v w x : Int32} {i j : Nat} (h : v = mxF f i) (hj : j = i + 1) (hx : x.toInt = (f i).toInt) (hz : w = mxI v x) : w = mxF f j := by
  subst hj
  have e : x = f i := Int32.toInt_inj.mp hx
  rw [hz, h, e]
  rfl
theorem hiF.step {f : Nat → Int32} {v w x : Int32} {i j k : Nat} (h : v = hiF f i) (hj : j = i + 1) (hx : x.toInt = (plF f k).toInt) (hk : k = i + 1) (hz : w = mxI v x) : w = hiF f j := by
  subst hj hk
  have e : x = plF f (i + 1) := Int32.toInt_inj.mp hx
  rw [hz, h, e]
  rfl
theorem loF.step {f : Nat → Int32} {v w x : Int32} {i j k : Nat} (h : v = loF f i) (hj : j = i + 1) (hx : x.toInt = (plF f k).toInt) (hk : k = i + 1) (hz : w = mnI v x) : w = loF f j := by
  subst hj hk
  have e : x = plF f (i + 1) := Int32.toInt_inj.mp hx
  rw [hz, h, e]
  rfl
/-- the width on the stage -/
def wdF (kd : Int) (f : Nat → Int32) (n : Nat) : Int32 := if kd = 1 then mxF f n else hiF f n - loF f n
theorem wdF.c {kd : Int} {f : Nat → Int32} {n m : Nat} {x : Int32} (hk : kd = 1) (h : x.toInt = (mxF f m).toInt) (e : m = n) : x.toInt = (wdF kd f n).toInt := by
  subst e
  unfold wdF
  rw [if_pos hk, h]
theorem wdF.s {kd : Int} {f : Nat → Int32} {n m : Nat} {x a b : Int32} (hk : ¬ kd = 1) (h1 : a = hiF f m) (h2 : b = loF f m) (e : m = n) (hz : a - b = x) : x.toInt = (wdF kd f n).toInt := by
  subst e
  unfold wdF
  rw [if_neg hk, ← hz, h1, h2]
/-- what a piece takes on the stage -/
def wpC (P : mP) (b : Nat) : Int32 := if (fv P b 2).toInt = 1 then wdF (fv P b 0).toInt (fun j => fv P (b + 1) j) (fv P b 1).toInt.toNat else 0
/-- the reference's row of the stage -/
abbrev sr (P : mP) : Nat → Int32 := fun j => fv P 302 j
def wpM (s : Nat → Int32) (k : Nat) : Int32 := if (s (5 + 19 * k)).toInt = 1 then wdF (s (3 + 19 * k)).toInt (fun j => s (6 + 19 * k + j)) (s (4 + 19 * k)).toInt.toNat else 0
theorem wpC.yes {P : mP} {b : Nat} {x : Int} (h : x = (wdF (fv P b 0).toInt (fun j => fv P (b + 1) j) (fv P b 1).toInt.toNat).toInt) (hf : (fv P b 2).toInt = 1) : x = (wpC P b).toInt := by
  unfold wpC
  rw [if_pos hf, h]
theorem wpC.no {P : mP} {b : Nat} (hf : ¬ (fv P b 2).toInt = 1) : wpC P b = 0 := by
  unfold wpC
  rw [if_neg hf]
theorem wpM.yes {P : mP} {b : Nat} {x : Int} (h : x = (wdF (fv P 302 (3 + 19 * b)).toInt (fun j => fv P 302 (6 + 19 * b + j)) (fv P 302 (4 + 19 * b)).toInt.toNat).toInt) (hf : (fv P 302 (5 + 19 * b)).toInt = 1) : x = (wpM (sr P) b).toInt := by
  have e : wpM (sr P) b = wdF (fv P 302 (3 + 19 * b)).toInt (fun j => fv P 302 (6 + 19 * b + j)) (fv P 302 (4 + 19 * b)).toInt.toNat := if_pos hf
  rw [e, h]
theorem wpM.no {P : mP} {b : Nat} (hf : ¬ (fv P 302 (5 + 19 * b)).toInt = 1) : wpM (sr P) b = 0 := if_neg hf
theorem hiF.both {f : Nat → Int32} {v w x : Int32} {k j : Nat} (h : v = hiF f (k - 1)) (hx : x.toInt = (plF f k).toInt) (hj : j = k + 1) (hz : w = mxI v x) : w = hiF f (j - 1) := by
  subst hj
  rw [Nat.add_sub_cancel]
  cases k with
  | zero =>
    have e : x = 0 := Int32.toInt_inj.mp hx
    have h' : v = 0 := h
    rw [hz, h', e]
    rfl
  | succ k => exact hiF.step h rfl hx rfl hz
theorem loF.both {f : Nat → Int32} {v w x : Int32} {k j : Nat} (h : v = loF f (k - 1)) (hx : x.toInt = (plF f k).toInt) (hj : j = k + 1) (hz : w = mnI v x) : w = loF f (j - 1) := by
  subst hj
  rw [Nat.add_sub_cancel]
  cases k with
  | zero =>
    have e : x = 0 := Int32.toInt_inj.mp hx
    have h' : v = 0 := h
    rw [hz, h', e]
    rfl
  | succ k => exact loF.step h rfl hx rfl hz
/-! what is written into pieces -/
def flI (x : Int32) : Int32 := if x.toInt = 0 then x else if x.toInt = 1 then 2 else 1
/-- the first i entries of row a are those of F, the others are as they were -/
def ROW (P Q : mP) (a : Nat) (F : Nat → Int32) (i : Nat) : Prop := (∀ j : Nat, j < i → fv Q a j = F j) ∧ ∀ j : Nat, i ≤ j → fv Q a j = fv P a j
theorem ROW.start {P Q : mP} {a i : Nat} {F : Nat → Int32} (h : i = 0) (f : ∀ j : Nat, fv Q a j = fv P a j) : ROW P Q a F i := ⟨fun j hj => by omega, fun j _ => f j⟩
theorem ROW.step {P Q Q' : mP} {a i i' n : Nat} {F : Nat → Int32} {v : Int} (h : ROW P Q a F i) (hi : i' = i + 1) (hn : n = i) (f1 : (fv Q' a n).toInt = v) (hv : v = (F i).toInt) (f2 : ∀ j : Nat, ¬ j = n → fv Q' a j = fv Q a j) : ROW P Q' a F i' := by
  subst hi hn
  refine ⟨fun j hj => ?_, fun j hj => ?_⟩
  · by_cases e : j = n
    · subst e
      exact Int32.toInt_inj.mp (f1.trans hv)
    · rw [f2 j e]
      exact h.1 j (by omega)
  · rw [f2 j (by omega)]
    exact h.2 j (by omega)
theorem ROW.skip {P Q : mP} {a i i' : Nat} {F : Nat → Int32} (h : ROW P Q a F i) (hi : i' = i + 1) (f1 : fv P a i = F i) : ROW P Q a F i' := by
  subst hi
  refine ⟨fun j hj => ?_, fun j hj => h.2 j (by omega)⟩
  by_cases e : j = i
  · subst e
    exact (h.2 j (Nat.le_refl _)).trans f1
  · exact h.1 j (by omega)
theorem ROW.keep {P Q Q' : mP} {a i : Nat} {F : Nat → Int32} (h : ROW P Q a F i) (f : ∀ j : Nat, fv Q' a j = fv Q a j) : ROW P Q' a F i := ⟨fun j hj => (f j).trans (h.1 j hj), fun j hj => (f j).trans (h.2 j hj)⟩
theorem ROW.fin {P Q : mP} {a i n : Nat} {F : Nat → Int32} (h : ROW P Q a F i) (e : i = n) : ROW P Q a F n := e ▸ h
theorem flI.zero {x : Int32} (h : x.toInt = 0) : x = flI x := by
  unfold flI
  rw [if_pos h]
theorem flI.one {x : Int32} {v : Int} (h : x.toInt = 1) (hv : v = 2) : v = (flI x).toInt := by
  unfold flI
  rw [if_neg (by omega), if_pos h, hv]
  rfl
theorem flI.two {x : Int32} {v : Int} (h0 : ¬ x.toInt = 0) (h : ¬ x.toInt = 1) (hv : v = 1) : v = (flI x).toInt := by
  unfold flI
  rw [if_neg h0, if_neg h, hv]
  rfl
/-- a strip, lengthened by the first i panels of another -/
def LB (P Q : mP) (a b c i : Nat) (k : Int) : Prop := (∀ j : Nat, j < c → fv Q (a + 1) j = fv P (a + 1) j) ∧ (∀ j : Nat, j < i → fv Q (a + 1) (c + j) = fv P (b + 1) j) ∧ (∀ j : Nat, j + 1 < c → fv Q (a + 2) j = fv P (a + 2) j) ∧ (1 ≤ c → (fv Q (a + 2) (c - 1)).toInt = k) ∧ ∀ j : Nat, j < i → fv Q (a + 2) (c + j) = fv P (b + 2) j
theorem LB.start {P Q : mP} {a b c i n : Nat} {k : Int} (hi : i = 0) (h1 : ∀ j : Nat, fv Q (a + 1) j = fv P (a + 1) j) (h2 : ∀ j : Nat, ¬ j = n → fv Q (a + 2) j = fv P (a + 2) j) (h3 : 1 ≤ c → n = c - 1 ∧ (fv Q (a + 2) n).toInt = k) : LB P Q a b c i k := by
  subst hi
  refine ⟨fun j _ => h1 j, fun j hj => by omega, fun j hj => ?_, fun h => ?_, fun j hj => by omega⟩
  · have := h3 (by omega)
    exact h2 j (by omega)
  · have := h3 h
    rw [← this.1]
    exact this.2
theorem LB.step {P Q Q' : mP} {a b c i i' n m : Nat} {k v w : Int} (h : LB P Q a b c i k) (hi : i' = i + 1) (hn : n = c + i ∧ m = c + i) (f1 : (fv Q' (a + 1) n).toInt = v) (hv : v = (fv P (b + 1) i).toInt) (g1 : (fv Q' (a + 2) m).toInt = w) (hw : w = (fv P (b + 2) i).toInt) (f2 : ∀ j : Nat, ¬ j = n → fv Q' (a + 1) j = fv Q (a + 1) j) (g2 : ∀ j : Nat, ¬ j = m → fv Q' (a + 2) j = fv Q (a + 2) j) : LB P Q' a b c i' k := by
  obtain ⟨rfl, rfl⟩ := hn
  subst hi
  obtain ⟨h1, h2, h3, h4, h5⟩ := h
  refine ⟨fun j hj => (f2 j (by omega)).trans (h1 j hj), fun j hj => ?_, fun j hj => (g2 j (by omega)).trans (h3 j hj), fun hc => ?_, fun j hj => ?_⟩
  · by_cases e : j = i
    · subst e
      exact Int32.toInt_inj.mp (f1.trans hv)
    · rw [f2 _ (by omega)]
      exact h2 j (by omega)
  · rw [g2 _ (by omega)]
    exact h4 hc
  · by_cases e : j = i
    · subst e
      exact Int32.toInt_inj.mp (g1.trans hw)
    · rw [g2 _ (by omega)]
      exact h5 j (by omega)
theorem LB.fin {P Q Q' : mP} {a b c i n : Nat} {k : Int} (h : LB P Q a b c i k) (e : i = n) (f : ∀ x j : Nat, ¬ (x = a ∧ j = 1) → fv Q' x j = fv Q x j) : LB P Q' a b c n k := by
  subst e
  obtain ⟨h1, h2, h3, h4, h5⟩ := h
  exact ⟨fun j hj => (f _ _ (by omega)).trans (h1 j hj), fun j hj => (f _ _ (by omega)).trans (h2 j hj), fun j hj => (f _ _ (by omega)).trans (h3 j hj), fun hc => by rw [f _ _ (by omega)]; exact h4 hc, fun j hj => (f _ _ (by omega)).trans (h5 j hj)⟩
theorem RMf.fin2 {P Q R : mP} {t l m : Nat} (h : RMf P Q t l) (e : l = m) (f : ∀ b j : Nat, rv R b j = rv Q b j) : RMf P R t m := by
  subst e
  exact fun k => (f 2 k).trans (h k)
/-! the digits of a number -/
def dvF (n : Int) : Nat → Int
  | 0 => n
  | i + 1 => dvF n i / 10
def NDG (n : Int) (c : Nat) : Prop := dvF n c = 0 ∧ ∀ j : Nat, j < c → 0 < dvF n j
theorem NDG.uniq {n : Int} {c d : Nat} (h : NDG n c) (g : NDG n d) : c = d := by
  rcases Nat.lt_trichotomy c d with e | e | e
  · have := g.2 c e
    have := h.1
    omega
  · exact e
  · have := h.2 d e
    have := g.1
    omega
theorem dvF_nonneg {n : Int} (h : 0 ≤ n) (i : Nat) : 0 ≤ dvF n i := by
  induction i with
  | zero => exact h
  | succ i ih =>
    show 0 ≤ dvF n i / 10
    omega
theorem dvF_0 {n : Int} {i : Nat} (h : dvF n i = 0) : ∀ k : Nat, dvF n (i + k) = 0 := by
  intro k
  induction k with
  | zero => exact h
  | succ k ih =>
    show dvF n (i + k) / 10 = 0
    omega
theorem dvF_10 {n : Int} (h0 : 0 ≤ n) (h1 : n ≤ 2147483647) : dvF n 10 = 0 := by
  simp only [dvF]
  omega
theorem dvF.next {n v w : Int} {i j : Nat} (h : v = dvF n i) (hj : j = i + 1) (hw : w = v / 10) : w = dvF n j := by
  subst hj
  rw [hw, h]
  rfl
/-- digit j from the left of c digits -/
def dgI (n : Int) (c j : Nat) : Int32 := Int32.ofInt (dvF n (c - 1 - j) % 10)
theorem dgI_ti {n : Int} {c j : Nat} : (dgI n c j).toInt = dvF n (c - 1 - j) % 10 := by
  unfold dgI
  rw [Int32.toInt_ofInt]
  exact ti_bm (by omega) (by omega)
theorem dgI_of {n : Int} {c j : Nat} {x : Int32} (h : x.toInt = dvF n (c - 1 - j) % 10) : x = dgI n c j := Int32.toInt_inj.mp (h.trans dgI_ti.symm)
def okD (n : Int) (c : Nat) : Prop := NDG n c ∧ 1 ≤ c ∧ c ≤ 8 ∧ ∀ i : Nat, i < c → ¬ dvF n i % 10 = 0
def okSz (kd n : Int) (c : Nat) : Prop := okD n c ∧ ((kd = 0 ∧ 2 ≤ c ∧ c ≤ 7) ∨ (kd = 1 ∧ (c = 4 ∨ c = 6 ∨ c = 8) ∧ (smF (dgI n c) c).toInt = 24))
def okCr (n : Int) (m : Nat) : Prop := 0 ≤ n ∧ dvF n m = 0 ∧ ∀ i : Nat, i < m → dvF n i % 10 ≤ 2
theorem smF_congr {f g : Nat → Int32} {n : Nat} (h : ∀ j : Nat, j < n → f j = g j) : smF f n = smF g n := by
  induction n with
  | zero => rfl
  | succ n ih =>
    show smF f n + f n = smF g n + g n
    rw [ih (fun j hj => h j (by omega)), h n (by omega)]
/-- the first loop: how many digits -/
theorem NDG.grow {n v : Int} {i j : Nat} (h : ∀ k : Nat, k < i → 0 < dvF n k) (hv : v = dvF n i) (hp : 0 < v) (hj : j = i + 1) : ∀ k : Nat, k < j → 0 < dvF n k := by
  subst hj
  intro k hk
  by_cases e : k = i
  · subst e
    omega
  · exact h k (by omega)
theorem NDG.none {n v : Int} {i c : Nat} (h : ∀ k : Nat, k < i → 0 < dvF n k) (hv : v = dvF n i) (hn : ¬ v = 0) (hx : 8 ≤ i ∨ v ≤ 0) : ¬ okD n c := by
  rintro ⟨⟨g1, g2⟩, h1, h8, -⟩
  rcases Nat.lt_trichotomy c i with e | e | e
  · have := h c e
    omega
  · subst e
    omega
  · have := g2 i e
    omega
theorem okD.zero {n : Int} {c d i : Nat} (h : NDG n c) (hi : i < c) (hz : dvF n i % 10 = 0) : ¬ okD n d := fun g => g.2.2.2 i (by rw [← h.uniq g.1]; exact hi) hz
/-- the second loop: digits from the right -/
def DGR (P : mP) (a : Nat) (n : Int) (c : Nat) (v : Int) : Prop := ∀ j : Nat, v < (j : Int) → j < c → fv P a j = dgI n c j
theorem DGR.start {P : mP} {a c : Nat} {n v : Int} (h : (c : Int) ≤ v + 1) : DGR P a n c v := fun j h1 h2 => by omega
theorem DGR.step {P Q : mP} {a c k : Nat} {n v w x : Int} (h : DGR P a n c v) (hw : w = v - 1) (hk : (k : Int) = v) (f1 : (fv Q a k).toInt = x) (hx : x = dvF n (c - 1 - k) % 10) (f2 : ∀ j : Nat, ¬ j = k → fv Q a j = fv P a j) : DGR Q a n c w := by
  intro j h1 h2
  by_cases e : j = k
  · subst e
    exact dgI_of (f1.trans hx)
  · rw [f2 j e]
    exact h j (by omega) h2
/-- no digit of the last ones is 0 -/
def NZ (n : Int) (c : Nat) (v : Int) : Prop := ∀ i : Nat, (i : Int) + 1 + v < c → ¬ dvF n i % 10 = 0
theorem NZ.start {n v : Int} {c : Nat} (h : (c : Int) ≤ v + 1) : NZ n c v := fun i hi => by omega
theorem NZ.step {n v w : Int} {c k : Nat} (h : NZ n c v) (hw : w = v - 1) (hk : (k : Int) + 1 + v = c) (hz : ¬ dvF n k % 10 = 0) : NZ n c w := by
  intro i hi
  by_cases e : i = k
  · subst e
    exact hz
  · exact h i (by omega)
def SM2 (n : Int) (c : Nat) (v : Int) : Prop := ∀ i : Nat, (i : Int) + 1 + v < c → dvF n i % 10 ≤ 2
theorem SM2.start {n v : Int} {c : Nat} (h : (c : Int) ≤ v + 1) : SM2 n c v := fun i hi => by omega
theorem SM2.step {n v w : Int} {c k : Nat} (h : SM2 n c v) (hw : w = v - 1) (hk : (k : Int) + 1 + v = c) (hz : dvF n k % 10 ≤ 2) : SM2 n c w := by
  intro i hi
  by_cases e : i = k
  · subst e
    exact hz
  · exact h i (by omega)
theorem okSz.no {kd n : Int} {c : Nat} (h : ¬ okD n c) : ¬ okSz kd n c := fun g => h g.1
theorem nC_le {kd : Int} {c : Nat} : nC kd c ≤ c := by
  unfold nC
  split <;> omega
/-! what an op of the class does -/
theorem SCn.src {P0 P Q : mP} {A : Nat} (h : SCn Q A P) (hT : Typ P0) (f : ∀ x j : Nat, (1 ≤ x ∧ x < 27) ∨ (79 ≤ x ∧ x < 289) → fv P x j = fv P0 x j) (fr : ∀ k : Nat, rv P 2 k = rv P0 2 k) : SCn Q A P0 := by
  refine ⟨h.1.trans (f _ _ (by omega)), h.2.1.trans (f _ _ (by omega)), h.2.2.1.trans (f _ _ (by omega)), fun k hk hz => ?_⟩
  have q := h.2.2.2 k hk (by rw [f 1 1 (by omega)]; exact hz)
  rw [fr k] at q
  have r := (rv_np hT k hk).2
  exact ⟨q.1.trans (f _ _ (by omega)), q.2.1.trans (f _ _ (by omega)), q.2.2.1.trans (f _ _ (by omega)), fun j hj => (q.2.2.2.1 j hj).trans (f _ _ (by omega)), fun j hj => (q.2.2.2.2 j hj).trans (f _ _ (by omega))⟩
/-- neither the states nor the text have changed -/
def NCH (P Q : mP) : Prop := (∀ x j : Nat, 1 ≤ x → x < 291 → fv Q x j = fv P x j) ∧ ∀ k : Nat, rv Q 2 k = rv P 2 k
def KPX (P Q : mP) : Prop := fv Q 0 8 = fv P 0 8 ∧ ∀ x j : Nat, (27 ≤ x ∧ x < 79) ∨ x = 289 ∨ x = 290 → fv Q x j = fv P x j
/-- the state that was there has been kept, unless a text is carried out -/
def PSH (P Q : mP) : Prop := fv Q 79 3 = fv P 79 3 ∧ (((fv P 79 3).toInt = 1 ∧ ∀ x j : Nat, 79 ≤ x → x < 289 → fv Q x j = fv P x j) ∨ ((fv P 79 3).toInt = 0 ∧ (((fv P 79 1).toInt < 7 ∧ (fv Q 79 1).toInt = (fv P 79 1).toInt + 1) ∨ ((fv P 79 1).toInt = 7 ∧ (fv Q 79 1).toInt = 0)) ∧ (((fv P 79 2).toInt < 8 ∧ (fv Q 79 2).toInt = (fv P 79 2).toInt + 1) ∨ ((fv P 79 2).toInt = 8 ∧ (fv Q 79 2).toInt = 8)) ∧ SCn Q (81 + 26 * (fv P 79 1).toInt.toNat) P ∧ ∀ x j : Nat, 81 ≤ x → x < 289 → (x < 81 + 26 * (fv P 79 1).toInt.toNat ∨ 81 + 26 * (fv P 79 1).toInt.toNat + 26 ≤ x) → fv Q x j = fv P x j))
theorem PSH.mk {P0 P Q R : mP} (hT : Typ P0) (h0 : ((fv P 79 3).toInt = 1 ∧ (fv Q 79 1).toInt = (fv P 79 1).toInt ∧ (fv Q 79 2).toInt = (fv P 79 2).toInt) ∨ ((fv P 79 3).toInt = 0 ∧ (((fv P 79 1).toInt < 7 ∧ (fv Q 79 1).toInt = (fv P 79 1).toInt + 1) ∨ ((fv P 79 1).toInt = 7 ∧ (fv Q 79 1).toInt = 0)) ∧ (((fv P 79 2).toInt < 8 ∧ (fv Q 79 2).toInt = (fv P 79 2).toInt + 1) ∨ ((fv P 79 2).toInt = 8 ∧ (fv Q 79 2).toInt = 8))))
    (h1 : (fv P 79 3).toInt = 1 ∨ SCn Q (81 + 26 * (fv P 79 1).toInt.toNat) P) (h2 : ∀ x j : Nat, ¬ x = 79 → (x < 81 + 26 * (fv P 79 1).toInt.toNat ∨ 81 + 26 * (fv P 79 1).toInt.toNat + 26 ≤ x) → fv Q x j = fv P x j) (h3 : (fv P 79 3).toInt = 0 ∨ ∀ x j : Nat, fv Q x j = fv P x j) (h4 : fv Q 79 3 = fv P 79 3)
    (fk : ∀ x j : Nat, 79 ≤ x → x < 289 → fv R x j = fv Q x j) (fs : ∀ x j : Nat, (1 ≤ x ∧ x < 27) ∨ (79 ≤ x ∧ x < 289) → fv P x j = fv P0 x j) (fr : ∀ k : Nat, rv P 2 k = rv P0 2 k) (h79 : 0 ≤ (fv P0 79 1).toInt ∧ (fv P0 79 1).toInt ≤ 7) : PSH P0 R := by
  have g1 := fs 79 1 (by omega)
  have g2 := fs 79 2 (by omega)
  have g3 := fs 79 3 (by omega)
  rw [g1, g2, g3] at h0
  rw [g1, g3] at h1
  rw [g3] at h3 h4
  rw [g1] at h2
  refine ⟨(fk 79 3 (by omega) (by omega)).trans h4, ?_⟩
  rw [fk 79 1 (by omega) (by omega), fk 79 2 (by omega) (by omega)]
  rcases h0 with ⟨a, b, c⟩ | ⟨a, b, c⟩
  · exact Or.inl ⟨a, fun x j hx hy => (fk x j hx hy).trans (((h3.resolve_left (by omega)) x j).trans (fs x j (by omega)))⟩
  · refine Or.inr ⟨a, b, c, ?_, fun x j hx hy hz => (fk x j (by omega) hy).trans ((h2 x j (by omega) hz).trans (fs x j (by omega)))⟩
    have q := ((h1.resolve_left (by omega)).src hT fs fr)
    exact ⟨(fk _ _ (by omega) (by omega)).trans q.1, (fk _ _ (by omega) (by omega)).trans q.2.1, (fk _ _ (by omega) (by omega)).trans q.2.2.1, fun k hk hz => by
      have r := q.2.2.2 k hk hz
      exact ⟨(fk _ _ (by omega) (by omega)).trans r.1, (fk _ _ (by omega) (by omega)).trans r.2.1, (fk _ _ (by omega) (by omega)).trans r.2.2.1, fun j hj => (fk _ _ (by omega) (by omega)).trans (r.2.2.2.1 j hj), fun j hj => (fk _ _ (by omega) (by omega)).trans (r.2.2.2.2 j hj)⟩⟩
theorem ROW.src {P0 P Q : mP} {a i : Nat} {F G : Nat → Int32} (h : ROW P Q a F i) (f : ∀ j : Nat, fv P a j = fv P0 a j) (g : ∀ j : Nat, j < i → F j = G j) : ROW P0 Q a G i := ⟨fun j hj => (h.1 j hj).trans (g j hj), fun j hj => (h.2 j hj).trans (f j)⟩
theorem LB.src {P0 P Q R : mP} {a b c i c' i' : Nat} {k : Int} (h : LB P Q a b c i k) (f : ∀ x j : Nat, 3 ≤ x → x < 27 → fv P x j = fv P0 x j) (g : ∀ x j : Nat, 3 ≤ x → x < 27 → fv R x j = fv Q x j) (ha : 3 ≤ a ∧ a ≤ 24) (hb : 3 ≤ b ∧ b ≤ 24) (hc : c = c') (hi : i = i') : LB P0 R a b c' i' k := by
  subst hc hi
  obtain ⟨h1, h2, h3, h4, h5⟩ := h
  exact ⟨fun j hj => (g _ _ (by omega) (by omega)).trans ((h1 j hj).trans (f _ _ (by omega) (by omega))), fun j hj => (g _ _ (by omega) (by omega)).trans ((h2 j hj).trans (f _ _ (by omega) (by omega))), fun j hj => (g _ _ (by omega) (by omega)).trans ((h3 j hj).trans (f _ _ (by omega) (by omega))), fun hc => by rw [g _ _ (by omega) (by omega)]; exact h4 hc, fun j hj => (g _ _ (by omega) (by omega)).trans ((h5 j hj).trans (f _ _ (by omega) (by omega)))⟩
theorem RMf.src {P0 P Q : mP} {t l : Nat} (h : RMf P Q t l) (f : ∀ k : Nat, rv P 2 k = rv P0 2 k) : RMf P0 Q t l := by
  intro k
  rw [h k, f, f, f]
theorem RMf.eq {P Q : mP} {t l m : Nat} (h : RMf P Q t l) (e : l = m) : RMf P Q t m := e ▸ h
/-- the piece at c, but for its count if it is the one at b -/
def PEx (Q P : mP) (c b : Nat) : Prop := fv Q c 0 = fv P c 0 ∧ (¬ c = b → fv Q c 1 = fv P c 1) ∧ fv Q c 2 = fv P c 2 ∧ (∀ j : Nat, j < 8 → fv Q (c + 1) j = fv P (c + 1) j) ∧ ∀ j : Nat, j < 8 → fv Q (c + 2) j = fv P (c + 2) j
theorem PEx.mk {Po P3 P4 : mP} {b : Nat} {n m : Int} (hT : Typ Po) (v0 : ∀ k : Nat, rv P3 2 k = rv Po 2 k) (pe : ∀ k : Nat, k < 8 → ¬ (k : Int) = n → PE P4 (rv P3 2 k) P3 (rv P3 2 k)) (f : ∀ x j : Nat, 3 ≤ x → x < 27 → ¬ (x = b ∧ j = 1) → fv P3 x j = fv Po x j) (hb : b % 3 = 0) (e : n = m) : ∀ k : Nat, k < 8 → ¬ (k : Int) = m → PEx P4 Po (rv Po 2 k) b := by
  intro k hk hn
  have q := pe k hk (by omega)
  have r := (rv_np hT k hk).2
  rw [v0 k] at q
  exact ⟨q.1.trans (f _ _ (by omega) (by omega) (by omega)), fun hc => q.2.1.trans (f _ _ (by omega) (by omega) (by omega)), q.2.2.1.trans (f _ _ (by omega) (by omega) (by omega)), fun j hj => (q.2.2.2.1 j hj).trans (f _ _ (by omega) (by omega) (by omega)), fun j hj => (q.2.2.2.2 j hj).trans (f _ _ (by omega) (by omega) (by omega))⟩
/-! the reference's ops -/
def flM (x : Int32) : Int32 := if x.toInt = 0 then 0 else 3 - x
/-- two ranges of the row are written -/
def W2 (P Q : mP) (E : Nat → Prop) (u v : Nat) (F G : Nat → Int32) (i k : Nat) : Prop := (∀ j : Nat, j < i → fv Q 302 (u + j) = F j) ∧ (∀ j : Nat, j < k → fv Q 302 (v + j) = G j) ∧ ∀ j : Nat, ¬ E j → ¬ (u ≤ j ∧ j < u + i) → ¬ (v ≤ j ∧ j < v + k) → fv Q 302 j = fv P 302 j
theorem W2.start {P Q : mP} {E : Nat → Prop} {u v i k : Nat} {F G : Nat → Int32} (hi : i = 0) (hk : k = 0) (f : ∀ j : Nat, ¬ E j → fv Q 302 j = fv P 302 j) : W2 P Q E u v F G i k := ⟨fun j hj => by omega, fun j hj => by omega, fun j hj _ _ => f j hj⟩
theorem W2.one {P Q Q' : mP} {E : Nat → Prop} {u v i i' k n : Nat} {F G : Nat → Int32} {x : Int} (h : W2 P Q E u v F G i k) (hi : i' = i + 1) (hn : n = u + i) (f1 : (fv Q' 302 n).toInt = x) (hx : x = (F i).toInt) (f2 : ∀ j : Nat, ¬ j = n → fv Q' 302 j = fv Q 302 j) (hd : u + i < v ∨ v + k ≤ u) : W2 P Q' E u v F G i' k := by
  subst hi hn
  refine ⟨fun j hj => ?_, fun j hj => (f2 _ (by omega)).trans (h.2.1 j hj), fun j h0 h1 h2 => (f2 _ (by omega)).trans (h.2.2 j h0 (by omega) h2)⟩
  by_cases e : j = i
  · subst e
    exact Int32.toInt_inj.mp (f1.trans hx)
  · exact (f2 _ (by omega)).trans (h.1 j (by omega))
theorem W2.two {P Q Q' : mP} {E : Nat → Prop} {u v i k k' n : Nat} {F G : Nat → Int32} {x : Int} (h : W2 P Q E u v F G i k) (hk : k' = k + 1) (hn : n = v + k) (f1 : (fv Q' 302 n).toInt = x) (hx : x = (G k).toInt) (f2 : ∀ j : Nat, ¬ j = n → fv Q' 302 j = fv Q 302 j) (hd : v + k < u ∨ u + i ≤ v) : W2 P Q' E u v F G i k' := by
  subst hk hn
  refine ⟨fun j hj => (f2 _ (by omega)).trans (h.1 j hj), fun j hj => ?_, fun j h0 h1 h2 => (f2 _ (by omega)).trans (h.2.2 j h0 h1 (by omega))⟩
  by_cases e : j = k
  · subst e
    exact Int32.toInt_inj.mp (f1.trans hx)
  · exact (f2 _ (by omega)).trans (h.2.1 j (by omega))
theorem W2.fin {P Q : mP} {E : Nat → Prop} {u v i k i' k' : Nat} {F G : Nat → Int32} (h : W2 P Q E u v F G i k) (e : i = i') (e2 : k = k') : W2 P Q E u v F G i' k' := by
  subst e e2
  exact h
/-- the index of a rotated corner -/
def RTX (a n : Int) (j : Nat) : Nat := ((a + j) % n).toNat
theorem RTX.of {z x y a n : Int} {j : Nat} (h : z = x % y) (hx : x = a + j) (hy : y = n) : z.toNat = RTX a n j := by
  subst h hx hy
  rfl
theorem nmF.step2 {f : Nat → Int32} {v w x u : Int32} {i j : Nat} (h : v = nmF f i) (hj : j = i + 1) (hx : x.toInt = (f i).toInt) (hu : 10 * v = u) (hz : u + x = w) : w = nmF f j := nmF.step h hj hx (by rw [Int32.mul_comm]; exact hu) hz
theorem nmF_congr {f g : Nat → Int32} {n : Nat} (h : ∀ j : Nat, j < n → f j = g j) : nmF f n = nmF g n := by
  induction n with
  | zero => rfl
  | succ n ih =>
    show nmF f n * 10 + f n = nmF g n * 10 + g n
    rw [ih (fun j hj => h j (by omega)), h n (by omega)]
theorem flM.zero {x : Int32} {v : Int} (h : x.toInt = 0) (hv : v = 0) : v = (flM x).toInt := by
  unfold flM
  rw [if_pos h, hv]
  rfl
theorem flM.ne {x y z : Int32} (h : x.toInt = y.toInt) (hn : ¬ x.toInt = 0) (hz : 3 - x = z) : z.toInt = (flM y).toInt := by
  have e : x = y := Int32.toInt_inj.mp h
  subst e
  unfold flM
  rw [if_neg hn, hz]
/-! reducing a piece -/
abbrev RS : Type := Bool × Nat × (Nat → Int32) × (Nat → Int32)
abbrev RS.st (R : RS) : Bool := R.1
abbrev RS.n (R : RS) : Nat := R.2.1
abbrev RS.f (R : RS) : Nat → Int32 := R.2.2.1
abbrev RS.g (R : RS) : Nat → Int32 := R.2.2.2
def tm (st : Bool) (n : Nat) (f g : Nat → Int32) : RS := (st, n, fun j => if j < n then f j else 0, fun j => if j < n ∧ (st = true → 1 ≤ j) then g j else 0)
theorem tm_eq {st st' : Bool} {n n' : Nat} {f g f' g' : Nat → Int32} (hs : st = st') (hn : n = n') (hf : ∀ j : Nat, j < n → f j = f' j) (hg : ∀ j : Nat, j < n → (st = true → 1 ≤ j) → g j = g' j) : tm st n f g = tm st' n' f' g' := by
  subst hs hn
  have e1 : (fun j => if j < n then f j else 0) = fun j => if j < n then f' j else 0 := by
    funext j
    by_cases e : j < n
    · rw [if_pos e, if_pos e, hf j e]
    · rw [if_neg e, if_neg e]
  have e2 : (fun j => if j < n ∧ (st = true → 1 ≤ j) then g j else 0) = fun j => if j < n ∧ (st = true → 1 ≤ j) then g' j else 0 := by
    funext j
    by_cases e : j < n ∧ (st = true → 1 ≤ j)
    · rw [if_pos e, if_pos e, hg j e.1 e.2]
    · rw [if_neg e, if_neg e]
  unfold tm
  rw [e1, e2]
theorem tm_f {st : Bool} {n j : Nat} {f g : Nat → Int32} (h : j < n) : (tm st n f g).f j = f j := if_pos h
theorem tm_g {st : Bool} {n j : Nat} {f g : Nat → Int32} (h : j < n) (h1 : st = true → 1 ≤ j) : (tm st n f g).g j = g j := if_pos ⟨h, h1⟩
/-- the class's reducer, the reference's -/
def rC (P : mP) : RS := tm (decide ((fv P 291 0).toInt = 0)) (fv P 291 1).toInt.toNat (fun j => fv P 292 j) (fun j => fv P 293 j)
def rM (P : mP) : RS := tm (decide ((fv P 301 14).toInt = 0)) (fv P 301 13).toInt.toNat (fun j => fv P 308 j) (fun j => if (fv P 301 14).toInt = 0 then fv P 309 (j - 1) else fv P 309 j)
/-- a piece as it is laid for reducing -/
def pcR (kd n : Int) (f g : Nat → Int32) : RS := tm (decide (kd = 0)) n.toNat f (fun j => if kd = 0 then g (j - 1) else g j)
def tk (a : Nat) (f : Nat → Int32) : Nat → Int32 := fun j => if j < a then f j else f (j + 1)
def up (l : Nat) (v : Int32) (f : Nat → Int32) : Nat → Int32 := fun j => if j = l then v else f j
def prI (n i : Nat) : Nat := if 0 < i then i - 1 else n - 1
def nxI (n i : Nat) : Nat := if i + 1 < n then i + 1 else 0
theorem tk_eq {a n : Nat} {f f' : Nat → Int32} (h : ∀ j : Nat, j < n → f j = f' j) (j : Nat) (hj : j + 1 < n) : tk a f j = tk a f' j := by
  unfold tk
  split
  · exact h j (by omega)
  · exact h (j + 1) hj
def CRf (c : Int32 → Int32 → Prop) (n : Nat) (f g : Nat → Int32) (i : Nat) : Prop := (f i).toInt ≤ (f (prI n i)).toInt ∧ (f i).toInt ≤ (f (nxI n i)).toInt ∧ c (g i) (g (nxI n i))
def loI (st : Bool) : Nat := if st = true then 1 else 0
def hiI (st : Bool) (n : Nat) : Nat := if st = true then n - 1 else n
/-- the first step is x -/
def FSf (c : Int32 → Int32 → Prop) (st : Bool) (n : Nat) (f g : Nat → Int32) (x : Int) : Prop :=
  ((n < 2 ∨ (n = 2 ∧ st = false)) ∧ x = 0) ∨ (2 ≤ n ∧ st = true ∧ (f 0).toInt ≤ (f 1).toInt ∧ x = 1) ∨ (2 ≤ n ∧ st = true ∧ ¬ (f 0).toInt ≤ (f 1).toInt ∧ (f (n - 1)).toInt ≤ (f (n - 2)).toInt ∧ x = 2) ∨
  (((st = true ∧ 2 ≤ n ∧ ¬ (f 0).toInt ≤ (f 1).toInt ∧ ¬ (f (n - 1)).toInt ≤ (f (n - 2)).toInt) ∨ (st = false ∧ 3 ≤ n)) ∧ ((∃ i : Nat, loI st ≤ i ∧ i < hiI st n ∧ CRf c n f g i ∧ (∀ j : Nat, loI st ≤ j → j < i → ¬ CRf c n f g j) ∧ x = 10 + (i : Int)) ∨ ((∀ j : Nat, loI st ≤ j → j < hiI st n → ¬ CRf c n f g j) ∧ x = 0)))
def FS (c : Int32 → Int32 → Prop) (R : RS) (x : Int) : Prop := FSf c R.st R.n R.f R.g x
theorem FSf.uniq {c : Int32 → Int32 → Prop} {st : Bool} {n : Nat} {f g : Nat → Int32} {x y : Int} (h : FSf c st n f g x) (k : FSf c st n f g y) : x = y := by
  rcases h with ⟨h1, h2⟩ | ⟨h1, h2, h3, h4⟩ | ⟨h1, h2, h3, h4, h5⟩ | ⟨h1, ⟨i, h2, h3, h4, h5, h6⟩ | ⟨h2, h3⟩⟩ <;> rcases k with ⟨k1, k2⟩ | ⟨k1, k2, k3, k4⟩ | ⟨k1, k2, k3, k4, k5⟩ | ⟨k1, ⟨l, k2, k3, k4, k5, k6⟩ | ⟨k2, k3⟩⟩
  all_goals try (cases st <;> simp_all <;> done)
  all_goals try omega
  all_goals try (cases st <;> simp_all <;> omega)
  · have : i = l := by
      rcases Nat.lt_trichotomy i l with e | e | e
      · exact absurd h4 (k5 i h2 e)
      · exact e
      · exact absurd k4 (h5 l k2 e)
    omega
theorem FS.uniq {c : Int32 → Int32 → Prop} {R : RS} {x y : Int} (h : FS c R x) (k : FS c R y) : x = y := FSf.uniq h k
theorem prI_lt {n i : Nat} (h : i < n) : prI n i < n := by
  unfold prI
  split <;> omega
theorem nxI_lt {n i : Nat} (h : i < n) : nxI n i < n := by
  unfold nxI
  split <;> omega
/-- a crease behind a size of a strip that isn't the last one is told -/
theorem nxI_ge {n i : Nat} (h : i + 1 < n) : 1 ≤ nxI n i := by
  unfold nxI
  rw [if_pos h]
  omega
theorem CRf.congr {c : Int32 → Int32 → Prop} {st : Bool} {n i : Nat} {f g f' g' : Nat → Int32} (hf : ∀ j : Nat, j < n → f j = f' j) (hg : ∀ j : Nat, j < n → (st = true → 1 ≤ j) → g j = g' j) (h1 : loI st ≤ i) (h2 : i < hiI st n) : CRf c n f g i ↔ CRf c n f' g' i := by
  have hn : i < n := by unfold hiI at h2; split at h2 <;> omega
  have e1 := hf i hn
  have e2 := hf _ (prI_lt hn)
  have e3 := hf _ (nxI_lt hn)
  have e4 := hg i hn (fun e => by unfold loI at h1; rw [if_pos e] at h1; exact h1)
  have e5 := hg _ (nxI_lt hn) (fun e => nxI_ge (by unfold hiI at h2; rw [if_pos e] at h2; omega))
  unfold CRf
  rw [e1, e2, e3, e4, e5]
theorem FSf.congr {c : Int32 → Int32 → Prop} {st : Bool} {n : Nat} {f g f' g' : Nat → Int32} {x : Int} (hf : ∀ j : Nat, j < n → f j = f' j) (hg : ∀ j : Nat, j < n → (st = true → 1 ≤ j) → g j = g' j) (h : FSf c st n f g x) : FSf c st n f' g' x := by
  rcases h with h | ⟨h1, h2, h3, h4⟩ | ⟨h1, h2, h3, h4, h5⟩ | ⟨h1, h⟩
  · exact Or.inl h
  · exact Or.inr (Or.inl ⟨h1, h2, by rw [← hf 0 (by omega), ← hf 1 (by omega)]; exact h3, h4⟩)
  · exact Or.inr (Or.inr (Or.inl ⟨h1, h2, by rw [← hf 0 (by omega), ← hf 1 (by omega)]; exact h3, by rw [← hf _ (by omega), ← hf (n - 2) (by omega)]; exact h4, h5⟩))
  · refine Or.inr (Or.inr (Or.inr ⟨?_, ?_⟩))
    · rcases h1 with ⟨a, b, d, e⟩ | h1
      · exact Or.inl ⟨a, b, by rw [← hf 0 (by omega), ← hf 1 (by omega)]; exact d, by rw [← hf _ (by omega), ← hf (n - 2) (by omega)]; exact e⟩
      · exact Or.inr h1
    · rcases h with ⟨i, a, b, d, e, k⟩ | ⟨a, b⟩
      · have hb : i < n := by unfold hiI at b; split at b <;> omega
        exact Or.inl ⟨i, a, b, (CRf.congr hf hg a b).mp d, fun j h2 h3 => fun h4 => e j h2 h3 ((CRf.congr hf hg h2 (by omega)).mpr h4), k⟩
      · exact Or.inr ⟨fun j h2 h3 => fun h4 => a j h2 h3 ((CRf.congr hf hg h2 h3).mpr h4), b⟩
/-- a step is made -/
def mkF (R : RS) (x : Int) : RS := if x = 2 then tm R.st (R.n - 1) R.f R.g else if x = 1 then tm R.st (R.n - 1) (tk 0 R.f) (tk 0 R.g) else
  tm R.st (R.n - 2) (tk (min (x - 10).toNat (nxI R.n (x - 10).toNat)) (tk (max (x - 10).toNat (nxI R.n (x - 10).toNat)) (up (prI R.n (x - 10).toNat) (R.f (prI R.n (x - 10).toNat) + R.f (nxI R.n (x - 10).toNat) - R.f (x - 10).toNat) R.f))) (tk (min (x - 10).toNat (nxI R.n (x - 10).toNat)) (tk (max (x - 10).toNat (nxI R.n (x - 10).toNat)) R.g))
theorem up_eq {l n : Nat} {v v' : Int32} {f f' : Nat → Int32} (hv : v = v') (h : ∀ j : Nat, j < n → f j = f' j) (j : Nat) (hj : j < n) : up l v f j = up l v' f' j := by
  subst hv
  unfold up
  split
  · rfl
  · exact h j hj
/-- out of rows whose live part is that of R -/
theorem mkF.two {st : Bool} {n m : Nat} {f g f' g' : Nat → Int32} {x : Int} (hx : x = 2) (hm : m + 1 = n) (hf : ∀ j : Nat, j < m → f' j = f j) (hg : ∀ j : Nat, j < m → (st = true → 1 ≤ j) → g' j = g j) : tm st m f' g' = mkF (tm st n f g) x := by
  unfold mkF
  rw [if_pos hx]
  refine tm_eq rfl (by show m = n - 1; omega) (fun j hj => ?_) (fun j hj h1 => ?_)
  · rw [hf j hj, tm_f (by omega)]
  · rw [hg j hj h1, tm_g (by omega) h1]
theorem mkF.one {st : Bool} {n m : Nat} {f g f' g' : Nat → Int32} {x : Int} (hx : x = 1) (hm : m + 1 = n) (hf : ∀ j : Nat, j < m → f' j = f (j + 1)) (hg : ∀ j : Nat, j < m → (st = true → 1 ≤ j) → g' j = g (j + 1)) : tm st m f' g' = mkF (tm st n f g) x := by
  unfold mkF
  rw [if_neg (by omega), if_pos hx]
  refine tm_eq rfl (by show m = n - 1; omega) (fun j hj => ?_) (fun j hj h1 => ?_)
  · show f' j = tk 0 (tm st n f g).f j
    unfold tk
    rw [hf j hj, if_neg (by omega), tm_f (by omega)]
  · show g' j = tk 0 (tm st n f g).g j
    unfold tk
    rw [hg j hj h1, if_neg (by omega), tm_g (by omega) (fun _ => by omega)]
theorem mkF.crimp {st : Bool} {n m i l r a b : Nat} {f g f' g' : Nat → Int32} {v : Int32} {x : Int} (hx : x = 10 + (i : Int)) (hm : m + 2 = n) (h1 : loI st ≤ i) (h2 : i < hiI st n) (hl : l = prI n i) (hr : r = nxI n i) (ha : a = max i r) (hb : b = min i r) (hv : v = f l + f r - f i) (hf : ∀ j : Nat, j < m → f' j = tk b (tk a (up l v f)) j) (hg : ∀ j : Nat, j < m → (st = true → 1 ≤ j) → g' j = tk b (tk a g) j) : tm st m f' g' = mkF (tm st n f g) x := by
  have hn : i < n := by unfold hiI at h2; split at h2 <;> omega
  have hL := prI_lt hn
  have hR := nxI_lt hn
  have ei : (x - 10).toNat = i := by omega
  unfold mkF
  rw [if_neg (by omega), if_neg (by omega), ei]
  subst hl hr ha hb
  have key : ∀ j : Nat, j < n → f j = (tm st n f g).f j := fun j hj => (tm_f hj).symm
  refine tm_eq rfl (by show m = n - 2; omega) (fun j hj => ?_) (fun j hj h1' => ?_)
  · rw [hf j hj]
    show _ = tk (min i (nxI n i)) (tk (max i (nxI n i)) (up (prI n i) ((tm st n f g).f (prI n i) + (tm st n f g).f (nxI n i) - (tm st n f g).f i) (tm st n f g).f)) j
    refine tk_eq (n := n - 1) (fun j hj => tk_eq (n := n) (fun j hj => up_eq ?_ key j hj) j (by omega)) j (by omega)
    rw [hv, key _ hL, key _ hR, key _ hn]
  · rw [hg j hj h1']
    show _ = tk (min i (nxI n i)) (tk (max i (nxI n i)) (tm st n f g).g) j
    have g1 : ∀ k : Nat, k < n → (st = true → 1 ≤ k) → g k = (tm st n f g).g k := fun k hk hk1 => (tm_g hk hk1).symm
    have t1 : ∀ k : Nat, k + 1 < n → (st = true → 1 ≤ k) → tk (max i (nxI n i)) g k = tk (max i (nxI n i)) (tm st n f g).g k := by
      intro k hk hk1
      unfold tk
      split
      · exact g1 k (by omega) hk1
      · exact g1 (k + 1) (by omega) (fun _ => by omega)
    show (if j < min i (nxI n i) then _ else _) = if j < min i (nxI n i) then _ else _
    split
    · exact t1 j (by omega) h1'
    · exact t1 (j + 1) (by omega) (fun _ => by omega)
/-- all steps are made: k of them -/
def RDn (c : Int32 → Int32 → Prop) : Nat → RS → RS → Prop
  | 0 => fun R R' => FS c R 0 ∧ R = R'
  | k + 1 => fun R R' => ∃ x : Int, FS c R x ∧ ¬ x = 0 ∧ RDn c k (mkF R x) R'
def RD (c : Int32 → Int32 → Prop) (R : RS) (k : Nat) (R' : RS) : Prop := RDn c k R R'
theorem RD.uniq {c : Int32 → Int32 → Prop} {k l : Nat} : ∀ {R R' R'' : RS}, RD c R k R' → RD c R l R'' → k = l ∧ R' = R'' := by
  induction k generalizing l with
  | zero =>
    intro R R' R'' h g
    cases l with
    | zero => exact ⟨rfl, h.2.symm.trans g.2⟩
    | succ l =>
      obtain ⟨x, g1, g2, _⟩ := g
      exact absurd (FS.uniq g1 h.1) g2
  | succ k ih =>
    intro R R' R'' h g
    obtain ⟨x, h1, h2, h3⟩ := h
    cases l with
    | zero => exact absurd (FS.uniq h1 g.1) h2
    | succ l =>
      obtain ⟨y, g1, g2, g3⟩ := g
      have e := FS.uniq h1 g1
      subst e
      have := ih h3 g3
      exact ⟨by omega, this.2⟩
/-- m steps, none of them 0 -/
def RPn (c : Int32 → Int32 → Prop) : Nat → RS → RS → Prop
  | 0 => fun R R' => R = R'
  | m + 1 => fun R R' => ∃ (R1 : RS) (x : Int), RPn c m R R1 ∧ FS c R1 x ∧ ¬ x = 0 ∧ R' = mkF R1 x
def RP (c : Int32 → Int32 → Prop) (R : RS) (m : Nat) (R' : RS) : Prop := RPn c m R R'
theorem RP.rd {c : Int32 → Int32 → Prop} {m : Nat} : ∀ {R R' R'' : RS} {k : Nat}, RP c R m R' → RD c R' k R'' → RD c R (m + k) R'' := by
  induction m with
  | zero =>
    intro R R' R'' k h g
    have h : R = R' := h
    subst h
    rw [Nat.zero_add]
    exact g
  | succ m ih =>
    intro R R' R'' k h g
    obtain ⟨R1, x, h1, h2, h3, h4⟩ := h
    subst h4
    rw [Nat.add_assoc, Nat.add_comm 1 k]
    exact ih h1 (show RD c R1 (k + 1) R'' from ⟨x, h2, h3, g⟩)
theorem RP.fin {c : Int32 → Int32 → Prop} {R R' : RS} {m : Nat} {x : Int} (h : RP c R m R') (g : FS c R' x) (hx : x = 0) : RD c R m R' := by
  subst hx
  exact h.rd (k := 0) ⟨g, rfl⟩
theorem RP.snoc' {c : Int32 → Int32 → Prop} {R R' Q : RS} {m m' : Nat} {x : Int} (h : RP c R m R') (g : FS c R' x) (hx : ¬ x = 0) (e : Q = mkF R' x) (hm : m' = m + 1) : RP c R m' Q := by
  subst e hm
  exact ⟨R', x, h, g, hx, rfl⟩
/-- a step says how many sizes there are -/
theorem FS.two {c : Int32 → Int32 → Prop} {R : RS} {x : Int} (h : FS c R x) (hx : ¬ x = 0) : 2 ≤ R.n := by
  rcases h with ⟨_, h2⟩ | ⟨h1, h2, h3, h4⟩ | ⟨h1, h2, h3, h4, h5⟩ | ⟨h1, h⟩
  · exact absurd h2 hx
  · exact h1
  · exact h1
  · rcases h1 with h1 | h1 <;> omega
theorem mkF_n {R : RS} {x : Int} : (mkF R x).n ≤ R.n - 1 := by
  unfold mkF
  split
  · exact Nat.le_refl _
  · split
    · exact Nat.le_refl _
    · show R.n - 2 ≤ R.n - 1
      omega
theorem RP.le {c : Int32 → Int32 → Prop} {m : Nat} : ∀ {R R' : RS}, RP c R m R' → R'.n + m ≤ R.n := by
  induction m with
  | zero =>
    intro R R' h
    have h : R = R' := h
    subst h
    exact Nat.le_refl _
  | succ m ih =>
    intro R R' h
    obtain ⟨R1, x, h1, h2, h3, h4⟩ := h
    subst h4
    have := ih h1
    have h5 := FS.two h2 h3
    exact Nat.le_trans (Nat.add_le_add_right mkF_n _) (by omega)
def cC (x y : Int32) : Prop := ¬ x.toInt = y.toInt
def cM (x y : Int32) : Prop := (x + y).toInt = 3 ∧ ¬ x.toInt = y.toInt ∧ ¬ x.toInt = 0 ∧ ¬ y.toInt = 0
def isRf (e : Int32 → Prop) (R : RS) : Prop := (R.st = true ∧ R.n = 1) ∨ (R.st = false ∧ R.n = 2 ∧ (R.f 0).toInt = (R.f 1).toInt ∧ (R.g 0).toInt = (R.g 1).toInt ∧ e (R.g 0))
def eC (_ : Int32) : Prop := True
def eM (x : Int32) : Prop := ¬ x.toInt = 0
theorem isR_t {e : Int32 → Prop} {n : Nat} {f g : Nat → Int32} : isRf e (tm true n f g) ↔ n = 1 := by
  constructor
  · rintro (⟨_, h⟩ | ⟨h, _⟩)
    · exact h
    · exact absurd (show true = false from h) (by decide)
  · exact fun h => Or.inl ⟨rfl, h⟩
theorem isR_f {e : Int32 → Prop} {n : Nat} {f g : Nat → Int32} : isRf e (tm false n f g) ↔ (n = 2 ∧ (f 0).toInt = (f 1).toInt ∧ (g 0).toInt = (g 1).toInt ∧ e (g 0)) := by
  have key : n = 2 → (tm false n f g).f 0 = f 0 ∧ (tm false n f g).f 1 = f 1 ∧ (tm false n f g).g 0 = g 0 ∧ (tm false n f g).g 1 = g 1 := fun h => ⟨tm_f (by omega), tm_f (by omega), tm_g (by omega) (fun h => by cases h), tm_g (by omega) (fun h => by cases h)⟩
  constructor
  · rintro (⟨h, _⟩ | ⟨_, h1, h2⟩)
    · exact absurd (show false = true from h) (by decide)
    · obtain ⟨k1, k2, k3, k4⟩ := key h1
      rw [k1, k2, k3, k4] at h2
      exact ⟨h1, h2⟩
  · rintro ⟨h1, h2⟩
    obtain ⟨k1, k2, k3, k4⟩ := key h1
    refine Or.inr ⟨rfl, h1, ?_⟩
    rw [k1, k2, k3, k4]
    exact h2
theorem FS_tm {c : Int32 → Int32 → Prop} {st : Bool} {n : Nat} {f g : Nat → Int32} {x : Int} (h : FSf c st n f g x) : FS c (tm st n f g) x := FSf.congr (fun j hj => (tm_f hj).symm) (fun j hj h1 => (tm_g hj h1).symm) h
theorem FS_crimp {c : Int32 → Int32 → Prop} {st : Bool} {n : Nat} {f g : Nat → Int32} {x : Int} (h : FS c (tm st n f g) x) (h0 : ¬ x = 0) (h1 : ¬ x = 1) (h2 : ¬ x = 2) : ∃ i : Nat, x = 10 + (i : Int) ∧ loI st ≤ i ∧ i < hiI st n := by
  rcases h with ⟨_, e⟩ | ⟨_, _, _, e⟩ | ⟨_, _, _, _, e⟩ | ⟨_, ⟨i, a, b, _, _, e⟩ | ⟨_, e⟩⟩
  · exact absurd e h0
  · exact absurd e h1
  · exact absurd e h2
  · exact ⟨i, e, a, b⟩
  · exact absurd e h0
theorem hiI_le {st : Bool} {n i : Nat} (h : i < hiI st n) : i < n := by
  unfold hiI at h
  split at h <;> omega
def evF (f : Nat → Int32) : Nat → Int32
  | 0 => 0
  | n + 1 => if n % 2 = 0 then evF f n + f n else evF f n
theorem evF.step {f : Nat → Int32} {v w x : Int32} {i j : Nat} (h : v = evF f i) (he : i % 2 = 0) (hj : j = i + 2) (hx : x.toInt = (f i).toInt) (hz : v + x = w) : w = evF f j := by
  subst hj
  have e : x = f i := Int32.toInt_inj.mp hx
  show w = if (i + 1) % 2 = 0 then _ else (if i % 2 = 0 then evF f i + f i else _)
  rw [if_neg (by omega), if_pos he, ← hz, h, e]
theorem evF.fin {f : Nat → Int32} {v : Int32} {i n : Nat} (h : v = evF f i) (he : i % 2 = 0) (h1 : n ≤ i) (h2 : i ≤ n + 1) : v = evF f n := by
  by_cases e : i = n
  · subst e
    exact h
  · have e2 : i = n + 1 := by omega
    subst e2
    rw [h]
    show (if n % 2 = 0 then _ else evF f n) = _
    rw [if_neg (by omega)]
theorem evF.congr {f g : Nat → Int32} {n : Nat} (h : ∀ j : Nat, j < n → f j = g j) : evF f n = evF g n := by
  induction n with
  | zero => rfl
  | succ n ih =>
    show (if n % 2 = 0 then _ else _) = if n % 2 = 0 then _ else _
    rw [ih (fun j hj => h j (by omega)), h n (by omega)]
def SHp (n : Nat) (f g : Nat → Int32) (i : Nat) : Prop := (f i).toInt < (f (prI n i)).toInt ∧ (f i).toInt < (f (nxI n i)).toInt ∧ (g i).toInt = (g (nxI n i)).toInt
def SHf (n : Nat) (f g : Nat → Int32) : Prop := ∃ i : Nat, i < n ∧ SHp n f g i
theorem SHf.congr {n : Nat} {f g f' g' : Nat → Int32} (hf : ∀ j : Nat, j < n → f j = f' j) (hg : ∀ j : Nat, j < n → g j = g' j) (h : SHf n f g) : SHf n f' g' := by
  obtain ⟨i, h1, h2⟩ := h
  refine ⟨i, h1, ?_⟩
  unfold SHp at h2 ⊢
  rw [← hf i h1, ← hf _ (prI_lt h1), ← hf _ (nxI_lt h1), ← hg i h1, ← hg _ (nxI_lt h1)]
  exact h2
def WYe (c : Int32 → Int32 → Prop) (e : Int32 → Prop) (R : RS) (x : Int) : Prop := ∃ k R', RD c R k R' ∧ ((isRf e R' ∧ x = 0) ∨ (¬ isRf e R' ∧ x = 5))
/-- what stands in the way of folding -/
def WYf (c : Int32 → Int32 → Prop) (e : Int32 → Prop) (kd n : Int) (f g : Nat → Int32) (x : Int) : Prop :=
  (0 < cntF g 0 (nC kd n) ∧ x = 4) ∨ (¬ 0 < cntF g 0 (nC kd n) ∧ kd = 1 ∧ ¬ (evF f n.toNat).toInt = 12 ∧ x = 1) ∨
  (¬ 0 < cntF g 0 (nC kd n) ∧ kd = 1 ∧ (evF f n.toNat).toInt = 12 ∧ ¬ (cntF g 1 (nC kd n) - cntF g 2 (nC kd n) = 2 ∨ cntF g 1 (nC kd n) - cntF g 2 (nC kd n) = -2) ∧ x = 2) ∨
  (¬ 0 < cntF g 0 (nC kd n) ∧ kd = 1 ∧ (evF f n.toNat).toInt = 12 ∧ (cntF g 1 (nC kd n) - cntF g 2 (nC kd n) = 2 ∨ cntF g 1 (nC kd n) - cntF g 2 (nC kd n) = -2) ∧ SHf n.toNat f g ∧ x = 3) ∨
  (¬ 0 < cntF g 0 (nC kd n) ∧ (¬ kd = 1 ∨ ((evF f n.toNat).toInt = 12 ∧ (cntF g 1 (nC kd n) - cntF g 2 (nC kd n) = 2 ∨ cntF g 1 (nC kd n) - cntF g 2 (nC kd n) = -2) ∧ ¬ SHf n.toNat f g)) ∧ WYe c e (pcR kd n f g) x)
/-- a number taken out of a row -/
def TKL (P Q : mP) (a t i : Nat) : Prop := ∀ j : Nat, fv Q a j = if t ≤ j ∧ j < i then fv P a (j + 1) else fv P a j
theorem TKL.start {P : mP} {a t i : Nat} (h : i = t) : TKL P P a t i := fun j => by rw [if_neg (by omega)]
theorem TKL.step {P Q Q' : mP} {a t i i' n m : Nat} (h : TKL P Q a t i) (hi : i' = i + 1 ∧ t ≤ i) (hn : n = i) (hm : m = i + 1) (f1 : fv Q' a n = fv Q a m) (f2 : ∀ j : Nat, ¬ j = n → fv Q' a j = fv Q a j) : TKL P Q' a t i' := by
  obtain ⟨rfl, ht⟩ := hi
  subst hn hm
  intro j
  by_cases e : j = n
  · subst e
    rw [f1, h (j + 1), if_neg (by omega), if_pos (by omega)]
  · rw [f2 j e, h j]
    by_cases c : t ≤ j ∧ j < n
    · rw [if_pos c, if_pos (by omega)]
    · rw [if_neg c, if_neg (by omega)]
theorem TKL.fin {P Q : mP} {a t i : Nat} (h : TKL P Q a t i) (hi : 7 ≤ i) : ∀ j : Nat, j < 7 → fv Q a j = tk t (fun j : Nat => fv P a j) j := by
  intro j hj
  unfold tk
  rw [h j]
  by_cases c : t ≤ j
  · rw [if_pos (by omega), if_neg (by omega)]
  · rw [if_neg (by omega), if_pos (by omega)]
theorem tk2 {a b : Nat} {F0 F1 F2 F3 : Nat → Int32} (h0 : ∀ j : Nat, F1 j = F0 j) (h1 : ∀ j : Nat, j < 7 → F2 j = tk a F1 j) (h2 : ∀ j : Nat, j < 7 → F3 j = tk b F2 j) : ∀ j : Nat, j < 6 → F3 j = tk b (tk a F0) j := by
  intro j hj
  have e : F1 = F0 := funext h0
  subst e
  rw [h2 j (by omega)]
  exact tk_eq (n := 7) (fun k hk => h1 k hk) j (by omega)
theorem rC_load {P Q : mP} {b : Nat} (h0 : fv Q 291 0 = fv P b 0) (h1 : fv Q 291 1 = fv P b 1) (h2 : ∀ j : Nat, j < 8 → fv Q 292 j = fv P (b + 1) j) (h3 : ∀ j : Nat, j < nC (fv P b 0).toInt (fv P b 1).toInt → fv Q 293 (if (fv P b 0).toInt = 0 then j + 1 else j) = fv P (b + 2) j) (h8 : (fv P b 1).toInt ≤ 8) : rC Q = pcR (fv P b 0).toInt (fv P b 1).toInt (fun j => fv P (b + 1) j) (fun j => fv P (b + 2) j) := by
  unfold rC pcR
  rw [h0, h1]
  refine tm_eq rfl rfl (fun j hj => h2 j (by omega)) (fun j hj hs => ?_)
  by_cases e : (fv P b 0).toInt = 0
  · have h1j := hs (decide_eq_true e)
    have q := h3 (j - 1) (by unfold nC; rw [if_pos e]; omega)
    rw [if_pos e, show j - 1 + 1 = j by omega] at q
    show _ = if (fv P b 0).toInt = 0 then _ else _
    rw [if_pos e]
    exact q
  · have q := h3 j (by unfold nC; rw [if_neg e]; exact hj)
    rw [if_neg e] at q
    show _ = if (fv P b 0).toInt = 0 then _ else _
    rw [if_neg e]
    exact q
theorem ti_abs {x z : Int32} (h : (if 0 ≤ x then x else 0 - x) = z) (hx : -2147483648 < x.toInt) : (0 ≤ x.toInt ∧ z.toInt = x.toInt) ∨ (x.toInt < 0 ∧ z.toInt = -x.toInt) := by
  by_cases c : 0 ≤ x
  · rw [if_pos c] at h
    have := ti_le c
    subst h
    exact Or.inl ⟨this, rfl⟩
  · rw [if_neg c] at h
    have c2 := ti_le_n c
    have c3 : x.toInt < 0 := c2
    have f := ti_full x
    have q : z.toInt = 0 - x.toInt := ti_subz h rfl rfl (by omega) (by omega)
    exact Or.inr ⟨c3, by omega⟩
/-! the reference's reducing -/
theorem pr_mod {n k z y : Int} (h0 : 0 ≤ k) (h1 : k < n) (hy : y = k + n - 1) (h : z = y % n) : z.toNat = prI n.toNat k.toNat := by
  subst hy h
  unfold prI
  split
  · rw [show k + n - 1 = (k - 1) + n by omega, Int.add_emod_right, Int.emod_eq_of_lt (by omega) (by omega)]
    omega
  · rw [show k + n - 1 = n - 1 by omega, Int.emod_eq_of_lt (by omega) (by omega)]
    omega
theorem nx_mod {n k z y : Int} (h0 : 0 ≤ k) (h1 : k < n) (hy : y = k + 1) (h : z = y % n) : z.toNat = nxI n.toNat k.toNat := by
  subst hy h
  unfold nxI
  split
  · rw [Int.emod_eq_of_lt (by omega) (by omega)]
    omega
  · rw [show k + 1 = n by omega, Int.emod_self]
    rfl
def GM (P : mP) : Nat → Int32 := fun j => if (fv P 301 14).toInt = 0 then fv P 309 (j - 1) else fv P 309 j
def CPM (st : Bool) (n : Nat) (f g : Nat → Int32) (x : Int) : Prop := (st = false ∧ n ≤ 2 ∧ x = -1) ∨ (¬ (st = false ∧ n ≤ 2) ∧ ((∃ i : Nat, loI st ≤ i ∧ i < hiI st n ∧ CRf cM n f g i ∧ (∀ j : Nat, loI st ≤ j → j < i → ¬ CRf cM n f g j) ∧ x = (i : Int)) ∨ ((∀ j : Nat, loI st ≤ j → j < hiI st n → ¬ CRf cM n f g j) ∧ x = -1)))
theorem rM_eq {P : mP} : rM P = tm (decide ((fv P 301 14).toInt = 0)) (fv P 301 13).toInt.toNat (fun j => fv P 308 j) (GM P) := rfl
/-- the first step out of the first crimp -/
theorem FSf.of_strip {n : Nat} {f g : Nat → Int32} {x y : Int} (h : CPM true n f g x) (h1 : n < 2 ∨ (¬ (f 0).toInt ≤ (f 1).toInt ∧ ¬ (f (n - 1)).toInt ≤ (f (n - 2)).toInt)) (hy : (x < 0 ∧ y = 0) ∨ (¬ x < 0 ∧ y = 10 + x)) : FSf cM true n f g y := by
  rcases h with ⟨h, _⟩ | ⟨_, h⟩
  · exact absurd h (by decide)
  by_cases e : n < 2
  · refine Or.inl ⟨Or.inl e, ?_⟩
    rcases h with ⟨i, a, b, _, _, _⟩ | ⟨_, h⟩
    · have a : 1 ≤ i := a
      have b : i < n - 1 := b
      omega
    · omega
  · have h1 := h1.resolve_left e
    refine Or.inr (Or.inr (Or.inr ⟨Or.inl ⟨rfl, by omega, h1⟩, ?_⟩))
    rcases h with ⟨i, a, b, c, d, e⟩ | ⟨a, b⟩
    · exact Or.inl ⟨i, a, b, c, d, by omega⟩
    · exact Or.inr ⟨a, by omega⟩
theorem FSf.of_corner {n : Nat} {f g : Nat → Int32} {x y : Int} (h : CPM false n f g x) (hy : (x < 0 ∧ y = 0) ∨ (¬ x < 0 ∧ y = 10 + x)) : FSf cM false n f g y := by
  rcases h with ⟨_, h, hx⟩ | ⟨h1, h⟩
  · refine Or.inl ⟨?_, by omega⟩
    rcases Nat.lt_or_ge n 2 with e | e
    · exact Or.inl e
    · exact Or.inr ⟨by omega, rfl⟩
  · have hn : 3 ≤ n := by
      rcases Nat.lt_or_ge n 3 with e | e
      · exact absurd ⟨rfl, by omega⟩ h1
      · exact e
    refine Or.inr (Or.inr (Or.inr ⟨Or.inr ⟨rfl, hn⟩, ?_⟩))
    rcases h with ⟨i, a, b, c, d, e⟩ | ⟨a, b⟩
    · exact Or.inl ⟨i, a, b, c, d, by omega⟩
    · exact Or.inr ⟨a, by omega⟩
theorem tk_tk {k : Nat} {f : Nat → Int32} (j : Nat) : tk k (tk k f) j = tk k (tk (k + 1) f) j := by
  unfold tk
  by_cases h : j < k
  · rw [if_pos h, if_pos h, if_pos h, if_pos (by omega)]
  · rw [if_neg h, if_neg h, if_neg (by omega), if_neg (by omega)]
/-- two sizes are dropped, the first one while there are n of them -/
theorem ds2 {a b n : Nat} {F0 F1 F2 F3 : Nat → Int32} (h0 : ∀ j : Nat, F1 j = F0 j) (h1 : ∀ j : Nat, j + 1 < n → F2 j = tk a F1 j) (h2 : ∀ j : Nat, j + 2 < n → F3 j = tk b F2 j) : ∀ j : Nat, j + 2 < n → F3 j = tk b (tk a F0) j := by
  intro j hj
  have e : F1 = F0 := funext h0
  subst e
  rw [h2 j hj]
  exact tk_eq (n := n - 1) (fun k hk => h1 k (by omega)) j (by omega)
theorem rM_load {Q : mP} {kd n : Int} {f g : Nat → Int32} (h0 : (fv Q 301 14).toInt = kd) (h1 : (fv Q 301 13).toInt = n) (h2 : ∀ j : Nat, j < 8 → fv Q 308 j = f j) (h3 : ∀ j : Nat, j < 8 → fv Q 309 j = g j) (h8 : n ≤ 8) : rM Q = pcR kd n f g := by
  subst h0 h1
  refine tm_eq rfl rfl (fun j hj => h2 j (by omega)) (fun j hj hs => ?_)
  by_cases e : (fv Q 301 14).toInt = 0
  · have h1j := hs (decide_eq_true e)
    show (if (fv Q 301 14).toInt = 0 then _ else _) = if (fv Q 301 14).toInt = 0 then _ else _
    rw [if_pos e, if_pos e]
    exact h3 _ (by omega)
  · show (if (fv Q 301 14).toInt = 0 then _ else _) = if (fv Q 301 14).toInt = 0 then _ else _
    rw [if_neg e, if_neg e]
    exact h3 _ (by omega)
theorem TKL.upto {P Q : mP} {a t i j : Nat} (h : TKL P Q a t i) (hj : j < i ∨ j < t) : fv Q a j = tk t (fun j : Nat => fv P a j) j := by
  unfold tk
  rw [h j]
  by_cases c : t ≤ j
  · rw [if_pos (by omega), if_neg (by omega)]
  · rw [if_neg (by omega), if_pos (by omega)]
theorem plF_congr {f g : Nat → Int32} {n : Nat} (h : ∀ j : Nat, j < n → f j = g j) : plF f n = plF g n := by
  induction n with
  | zero => rfl
  | succ n ih =>
    show (if n % 2 = 0 then _ else _) = if n % 2 = 0 then _ else _
    rw [ih (fun j hj => h j (by omega)), h n (by omega)]
theorem mxF_congr {f g : Nat → Int32} {n : Nat} (h : ∀ j : Nat, j < n → f j = g j) : mxF f n = mxF g n := by
  induction n with
  | zero => rfl
  | succ n ih =>
    show mxI _ _ = mxI _ _
    rw [ih (fun j hj => h j (by omega)), h n (by omega)]
theorem hiF_congr {f g : Nat → Int32} {n : Nat} (h : ∀ j : Nat, j < n → f j = g j) : hiF f n = hiF g n := by
  induction n with
  | zero => rfl
  | succ n ih =>
    show mxI _ _ = mxI _ _
    rw [ih (fun j hj => h j (by omega)), plF_congr h]
theorem loF_congr {f g : Nat → Int32} {n : Nat} (h : ∀ j : Nat, j < n → f j = g j) : loF f n = loF g n := by
  induction n with
  | zero => rfl
  | succ n ih =>
    show mnI _ _ = mnI _ _
    rw [ih (fun j hj => h j (by omega)), plF_congr h]
theorem wdF_congr {kd kd' : Int} {f g : Nat → Int32} {n n' : Nat} (hk : kd = kd') (hn : n = n') (h : ∀ j : Nat, j < n → f j = g j) : wdF kd f n = wdF kd' g n' := by
  subst hk hn
  unfold wdF
  rw [mxF_congr h, hiF_congr h, loF_congr h]
/-! sums over the pieces, as integers -/
def siF (f : Nat → Int) : Nat → Int
  | 0 => 0
  | n + 1 => siF f n + f n
theorem siF.step {f : Nat → Int} {v w d : Int} {i j : Nat} (h : v = siF f i) (hj : j = i + 1) (hx : f i = d) (hw : w = v + d) : w = siF f j := by
  subst hj
  rw [hw, h, ← hx]
  rfl
theorem siF_congr {f g : Nat → Int} {n : Nat} (h : ∀ j : Nat, j < n → f j = g j) : siF f n = siF g n := by
  induction n with
  | zero => rfl
  | succ n ih =>
    show siF f n + f n = siF g n + g n
    rw [ih (fun j hj => h j (by omega)), h n (by omega)]
def isI (x y : Int) : Int := if x = y then 1 else 0
theorem isI.yes {x y : Int} (h : x = y) : isI x y = 1 := if_pos h
theorem isI.no {x y : Int} (h : ¬ x = y) : isI x y = 0 := if_neg h
def pnI (k n : Int) : Int := if k = 0 then n else 0
theorem pnI.yes {k n : Int} (h : k = 0) : pnI k n = n := if_pos h
theorem pnI.no {k n : Int} (h : ¬ k = 0) : pnI k n = 0 := if_neg h
/-- the direction after the creases -/
def rfF (f : Nat → Int32) : Nat → Int
  | 0 => 0
  | n + 1 => ((2 * smF f n - Int32.ofInt (rfF f n) : Int32)).toInt % 24
theorem rfF_rng {f : Nat → Int32} {n : Nat} : 0 ≤ rfF f n ∧ rfF f n ≤ 23 := by
  cases n with
  | zero => exact ⟨Int.le_refl 0, by show (0 : Int) ≤ 23; decide⟩
  | succ n =>
    have h1 := Int.emod_nonneg ((2 * smF f n - Int32.ofInt (rfF f n) : Int32)).toInt (show (24 : Int) ≠ 0 by decide)
    have h2 := Int.emod_lt_of_pos ((2 * smF f n - Int32.ofInt (rfF f n) : Int32)).toInt (show (0 : Int) < 24 by decide)
    exact ⟨h1, by show ((2 * smF f n - Int32.ofInt (rfF f n) : Int32)).toInt % 24 ≤ 23; omega⟩
theorem rfF.step {f : Nat → Int32} {d c a b : Int32} {w : Int} {i j : Nat} (h : d.toInt = rfF f i) (hc : c = smF f i) (ha : 2 * c = a) (hb : a - d = b) (hj : j = i + 1) (hw : w = b.toInt % 24) : w = rfF f j := by
  subst hj ha hb hc
  have e : d = Int32.ofInt (rfF f i) := by
    apply Int32.toInt_inj.mp
    have r := rfF_rng (f := f) (n := i)
    rw [Int32.toInt_ofInt, ti_bm (by omega) (by omega)]
    exact h
  rw [hw, e]
  rfl
theorem rfF_congr {f g : Nat → Int32} {n : Nat} (h : ∀ j : Nat, j < n → f j = g j) : rfF f n = rfF g n := by
  induction n with
  | zero => rfl
  | succ n ih =>
    show ((2 * smF f n - Int32.ofInt (rfF f n) : Int32)).toInt % 24 = ((2 * smF g n - Int32.ofInt (rfF g n) : Int32)).toInt % 24
    rw [ih (fun j hj => h j (by omega)), smF_congr (fun j hj => h j (by omega))]
/-- remainders of any number by 24, as the machine takes them -/
theorem ti_rem24 {x z : Int32} (h : x - x / 24 * 24 = z) : (z.toInt = x.toInt % 24 ∧ 0 ≤ x.toInt) ∨ (x.toInt < 0 ∧ -24 < z.toInt ∧ z.toInt ≤ 0 ∧ (z.toInt - x.toInt) % 24 = 0) := by
  have fx := ti_full x
  have e24 : (24 : Int32).toInt = 24 := rfl
  by_cases c : 0 ≤ x.toInt
  · exact Or.inl ⟨ti_remx (y := 24) h c (by decide), c⟩
  · have h1 : (x / 24).toInt = Int.tdiv x.toInt 24 := by
      rw [Int32.toInt_div, e24]
      have hd : Int.tdiv x.toInt 24 = -(-x.toInt / 24) := by
        rw [← Int.tdiv_eq_ediv_of_nonneg (by omega), Int.neg_tdiv, Int.neg_neg]
      rw [hd, ti_bm (by omega) (by omega)]
    have hd : Int.tdiv x.toInt 24 = -(-x.toInt / 24) := by
      rw [← Int.tdiv_eq_ediv_of_nonneg (by omega), Int.neg_tdiv, Int.neg_neg]
    have h5 : (x / 24 * 24).toInt = (x / 24).toInt * 24 := ti_mul rfl rfl (by omega) (by omega)
    have h6 : (x - x / 24 * 24).toInt = x.toInt - (x / 24).toInt * 24 := ti_sub rfl h5 (by omega) (by omega)
    have h7 : z.toInt = x.toInt - (x / 24).toInt * 24 := by rw [← h]; exact h6
    refine Or.inr ⟨by omega, by omega, by omega, by omega⟩
theorem xor24 {x z : Int32} (h : x ^^^ 24 = z) : z.toInt < 0 ↔ x.toInt < 0 := by
  have e : z.toBitVec.msb = x.toBitVec.msb := by
    rw [← h]
    show (x.toBitVec ^^^ (24 : Int32).toBitVec).msb = _
    rw [BitVec.msb_xor, show (24 : Int32).toBitVec.msb = false from by decide, Bool.xor_false]
  rw [BitVec.msb_eq_toInt, BitVec.msb_eq_toInt] at e
  exact decide_eq_decide.mp e
def crI (k n : Int) : Int := if k = 1 then n else n - 1
/-! what stands in the way, on both sides -/
def DEC (R : RS) : Prop := ∀ j : Nat, j < R.n → (R.st = true → 1 ≤ j) → (R.g j).toInt = 1 ∨ (R.g j).toInt = 2
theorem c_eq {x y : Int32} (hx : x.toInt = 1 ∨ x.toInt = 2) (hy : y.toInt = 1 ∨ y.toInt = 2) : cC x y ↔ cM x y := by
  have e : (x + y).toInt = x.toInt + y.toInt := ti_add rfl rfl (by omega) (by omega)
  unfold cC cM
  omega
theorem CRf.conv {st : Bool} {n i : Nat} {f g : Nat → Int32} (hd : ∀ j : Nat, j < n → (st = true → 1 ≤ j) → (g j).toInt = 1 ∨ (g j).toInt = 2) (h1 : loI st ≤ i) (h2 : i < hiI st n) : CRf cC n f g i ↔ CRf cM n f g i := by
  have hn : i < n := hiI_le h2
  have e4 := hd i hn (fun e => by unfold loI at h1; rw [if_pos e] at h1; exact h1)
  have e5 := hd _ (nxI_lt hn) (fun e => nxI_ge (by unfold hiI at h2; rw [if_pos e] at h2; omega))
  unfold CRf
  rw [c_eq e4 e5]
theorem FS.conv {R : RS} {x : Int} (hd : DEC R) (h : FS cC R x) : FS cM R x := by
  rcases h with h | h | h | ⟨h1, h⟩
  · exact Or.inl h
  · exact Or.inr (Or.inl h)
  · exact Or.inr (Or.inr (Or.inl h))
  · refine Or.inr (Or.inr (Or.inr ⟨h1, ?_⟩))
    rcases h with ⟨i, a, b, c, d, e⟩ | ⟨a, b⟩
    · exact Or.inl ⟨i, a, b, (CRf.conv hd a b).mp c, fun j h2 h3 h4 => d j h2 h3 ((CRf.conv hd h2 (by omega)).mpr h4), e⟩
    · exact Or.inr ⟨fun j h2 h3 h4 => a j h2 h3 ((CRf.conv hd h2 h3).mpr h4), b⟩
theorem DEC.ofg {st : Bool} {n : Nat} {f g : Nat → Int32} (h : ∀ j : Nat, j < n → (st = true → 1 ≤ j) → (g j).toInt = 1 ∨ (g j).toInt = 2) : DEC (tm st n f g) := by
  intro j hj h1
  rw [tm_g (st := st) (n := n) (f := f) (g := g) hj h1]
  exact h j hj h1
theorem DEC.mk {R : RS} {x : Int} (hd : DEC R) (h : FS cC R x) (hx : ¬ x = 0) : DEC (mkF R x) := by
  have h2 := FS.two h hx
  unfold mkF
  split
  · exact DEC.ofg (fun j hj h1 => hd j (by omega) h1)
  · split
    · refine DEC.ofg (fun j hj h1 => ?_)
      unfold tk
      rw [if_neg (by omega)]
      exact hd (j + 1) (by omega) (fun _ => by omega)
    · refine DEC.ofg (fun j hj h1 => ?_)
      have key : ∀ a k : Nat, k + 1 < R.n → (R.st = true → 1 ≤ k) → (tk a R.g k).toInt = 1 ∨ (tk a R.g k).toInt = 2 := by
        intro a k hk hk1
        unfold tk
        split
        · exact hd k (by omega) hk1
        · exact hd (k + 1) (by omega) (fun _ => by omega)
      generalize max (x - 10).toNat (nxI R.n (x - 10).toNat) = a
      generalize min (x - 10).toNat (nxI R.n (x - 10).toNat) = b
      show (if j < b then _ else _ : Int32).toInt = 1 ∨ (if j < b then _ else _ : Int32).toInt = 2
      split
      · exact key a j (by omega) h1
      · exact key a (j + 1) (by omega) (fun _ => by omega)
theorem RD.conv {k : Nat} : ∀ {R R' : RS}, DEC R → RD cC R k R' → RD cM R k R' ∧ DEC R' := by
  induction k with
  | zero =>
    intro R R' hd h
    obtain ⟨h1, h2⟩ := h
    subst h2
    exact ⟨⟨FS.conv hd h1, rfl⟩, hd⟩
  | succ k ih =>
    intro R R' hd h
    obtain ⟨x, h1, h2, h3⟩ := h
    have := ih (hd.mk h1 h2) h3
    exact ⟨⟨x, FS.conv hd h1, h2, this.1⟩, this.2⟩
theorem isR_conv {R : RS} (hd : DEC R) : isRf eC R ↔ isRf eM R := by
  constructor
  · rintro (h | ⟨h1, h2, h3, h4, h5⟩)
    · exact Or.inl h
    · exact Or.inr ⟨h1, h2, h3, h4, by have := hd 0 (by omega) (fun e => by rw [h1] at e; cases e); unfold eM; omega⟩
  · rintro (h | ⟨h1, h2, h3, h4, h5⟩)
    · exact Or.inl h
    · exact Or.inr ⟨h1, h2, h3, h4, trivial⟩
theorem pcR.congr {kd n : Int} {f g f' g' : Nat → Int32} (hf : ∀ j : Nat, (j : Int) < n → f j = f' j) (hg : ∀ j : Nat, j < nC kd n → g j = g' j) : pcR kd n f g = pcR kd n f' g' := by
  unfold pcR
  refine tm_eq rfl rfl (fun j hj => hf j (by omega)) (fun j hj h1 => ?_)
  by_cases e : kd = 0
  · have h1 := h1 (decide_eq_true e)
    show (if kd = 0 then _ else _) = if kd = 0 then _ else _
    rw [if_pos e, if_pos e]
    exact hg _ (by unfold nC; rw [if_pos e]; omega)
  · show (if kd = 0 then _ else _) = if kd = 0 then _ else _
    rw [if_neg e, if_neg e]
    exact hg _ (by unfold nC; rw [if_neg e]; exact hj)
theorem pcR.dec {kd n : Int} {f g : Nat → Int32} (hd : ∀ j : Nat, j < nC kd n → (g j).toInt = 1 ∨ (g j).toInt = 2) : DEC (pcR kd n f g) := by
  refine DEC.ofg (fun j hj h1 => ?_)
  by_cases e : kd = 0
  · have h1 := h1 (decide_eq_true e)
    have := hd (j - 1) (by unfold nC; rw [if_pos e]; omega)
    show (if kd = 0 then g (j - 1) else g j).toInt = 1 ∨ (if kd = 0 then g (j - 1) else g j).toInt = 2
    rw [if_pos e]
    exact this
  · have := hd j (by unfold nC; rw [if_neg e]; exact hj)
    show (if kd = 0 then g (j - 1) else g j).toInt = 1 ∨ (if kd = 0 then g (j - 1) else g j).toInt = 2
    rw [if_neg e]
    exact this
/-! creases told by the bits of a number -/
theorem nI_ti {i : Int32} (h : 0 ≤ i.toInt) : nI i.toInt.toNat = i := by
  have f := ti_full i
  apply Int32.toInt_inj.mp
  have e : (nI i.toInt.toNat).toInt = i.toInt.toNat := Int32.toInt_ofNat_of_lt (by omega)
  omega
theorem and1 {x z : Int32} (h : x &&& 1 = z) : z.toInt = 0 ∨ z.toInt = 1 := by
  obtain ⟨j, hj, e⟩ := pk_andE x (m := 1) 1 (by decide)
  rw [h] at e
  subst e
  have hj : j = 0 ∨ j = 1 := by omega
  rcases hj with rfl | rfl
  · exact Or.inl rfl
  · exact Or.inr rfl
def kB (v i : Int32) : Int := if (v >>> (i &&& 31)) &&& 1 = 0 then 1 else 2
theorem kB.one {v i a b : Int32} (h1 : v >>> (i &&& 31) = a) (h2 : a &&& 1 = b) (hb : b.toInt = 0) : kB v i = 1 := by
  have e : b = 0 := Int32.toInt_inj.mp hb
  unfold kB
  rw [h1, h2]
  exact if_pos e
theorem kB.two {v i a b : Int32} (h1 : v >>> (i &&& 31) = a) (h2 : a &&& 1 = b) (hb : ¬ b.toInt = 0) : kB v i = 2 := by
  unfold kB
  rw [h1, h2]
  exact if_neg (fun e => hb (by rw [e]; rfl))
theorem kB_rng {v i : Int32} : kB v i = 1 ∨ kB v i = 2 := by
  unfold kB
  split
  · exact Or.inl rfl
  · exact Or.inr rfl
def kN (v : Int32) (j : Nat) : Int := kB v (nI j)
theorem kN_of {v i : Int32} (h : 0 ≤ i.toInt) : kN v i.toInt.toNat = kB v i := by
  unfold kN
  rw [nI_ti h]
def kS (v : Int32) (j : Nat) : Int32 := Int32.ofInt (kN v j)
theorem kS_ti {v : Int32} {j : Nat} : (kS v j).toInt = kN v j := by
  unfold kS
  rw [Int32.toInt_ofInt]
  rcases kB_rng (v := v) (i := nI j) with e | e
  · exact ti_bm (by show _ ≤ kB v (nI j); omega) (by show kB v (nI j) ≤ _; omega)
  · exact ti_bm (by show _ ≤ kB v (nI j); omega) (by show kB v (nI j) ≤ _; omega)
theorem kS_of {v x : Int32} {j : Nat} (h : x.toInt = kN v j) : x = kS v j := Int32.toInt_inj.mp (h.trans kS_ti.symm)
def chF (g : Nat → Int32) (v : Int32) : Nat → Int
  | 0 => 0
  | n + 1 => if ¬ (g n).toInt = 0 ∧ ¬ (g n).toInt = kN v n then chF g v n + 1 else chF g v n
theorem chF.yes {g : Nat → Int32} {v : Int32} {a b : Int} {i j : Nat} (h : a = chF g v i) (hj : j = i + 1) (h0 : ¬ (g i).toInt = 0) (h1 : ¬ (g i).toInt = kN v i) (hb : b = a + 1) : b = chF g v j := by
  subst hj
  rw [hb, h]
  show _ = if _ then _ else _
  rw [if_pos ⟨h0, h1⟩]
theorem chF.no {g : Nat → Int32} {v : Int32} {a b : Int} {i j : Nat} (h : a = chF g v i) (hj : j = i + 1) (h0 : (g i).toInt = 0 ∨ (g i).toInt = kN v i) (hb : b = a) : b = chF g v j := by
  subst hj
  rw [hb, h]
  show _ = if _ then _ else _
  rw [if_neg (fun e => h0.elim e.1 e.2)]
theorem chF_congr {f g : Nat → Int32} {v : Int32} {n : Nat} (h : ∀ j : Nat, j < n → f j = g j) : chF f v n = chF g v n := by
  induction n with
  | zero => rfl
  | succ n ih =>
    show (if ¬ (f n).toInt = 0 ∧ ¬ (f n).toInt = kN v n then chF f v n + 1 else chF f v n) = if ¬ (g n).toInt = 0 ∧ ¬ (g n).toInt = kN v n then chF g v n + 1 else chF g v n
    rw [ih (fun j hj => h j (by omega)), h n (by omega)]
def FWf (c : Int32 → Int32 → Prop) (e : Int32 → Prop) (kd n : Int) (f : Nat → Int32) (v : Int32) : Prop := ∃ (k : Nat) (R2 : RS), RD c (pcR kd n f (kS v)) k R2 ∧ isRf e R2
theorem FWf.ofM {kd n x : Int} {f : Nat → Int32} {v : Int32} {k : Nat} {R2 : RS} (h : RD cM (pcR kd n f (kS v)) k R2) (hx : (x = 1 ∧ isRf eM R2) ∨ (x = 0 ∧ ¬ isRf eM R2)) : (x = 1 ∧ FWf cM eM kd n f v) ∨ (x = 0 ∧ ¬ FWf cM eM kd n f v) := by
  rcases hx with ⟨a, b⟩ | ⟨a, b⟩
  · exact Or.inl ⟨a, k, R2, h, b⟩
  · refine Or.inr ⟨a, fun ⟨l, R3, g1, g2⟩ => b ?_⟩
    rw [(RD.uniq h g1).2]
    exact g2
theorem FWf.ofC {kd n x : Int} {f : Nat → Int32} {v : Int32} {k : Nat} {R2 : RS} (h : RD cC (pcR kd n f (kS v)) k R2) (hx : (x = 1 ∧ isRf eC R2) ∨ (x = 0 ∧ ¬ isRf eC R2)) : (x = 1 ∧ FWf cM eM kd n f v) ∨ (x = 0 ∧ ¬ FWf cM eM kd n f v) := by
  obtain ⟨h1, hd⟩ := RD.conv (pcR.dec (fun j _ => by rw [kS_ti]; exact kB_rng)) h
  rw [isR_conv hd] at hx
  exact FWf.ofM h1 hx
def KSET (P : mP) (kd : Int) (v : Int32) (n : Nat) : Prop := ∀ j : Nat, j < n → (fv P 293 (if kd = 0 then j + 1 else j)).toInt = kN v j
theorem KSET.step {P Q : mP} {kd kd' a k : Int} {v : Int32} {n m : Nat} (h : KSET P kd v n) (he : kd' = kd) (hm : m = n + 1) (ha : a = n) (hk : k = kN v n) (h7 : (kd = 0 ∧ n + 1 < 8) ∨ (¬ kd = 0 ∧ n < 8)) (f1 : ∀ j : Nat, ((kd' = 0 ∧ (j : Int) = a + 1) ∨ (kd' ≠ 0 ∧ (j : Int) = a)) → j < 8 → (fv Q 293 j).toInt = k) (f2 : ∀ x j : Nat, ¬ (x = 293 ∧ ((kd' = 0 ∧ (j : Int) = a + 1) ∨ (kd' ≠ 0 ∧ (j : Int) = a))) → fv Q x j = fv P x j) : KSET Q kd v m := by
  subst he hm ha
  intro j hj
  by_cases e : j = n
  · subst e
    rw [← hk]
    split
    · rename_i z
      exact f1 _ (Or.inl ⟨z, by omega⟩) (by omega)
    · rename_i z
      exact f1 _ (Or.inr ⟨z, rfl⟩) (by omega)
  · have q := h j (by omega)
    split
    · rename_i z
      rw [if_pos z] at q
      rw [f2 293 (j + 1) (by omega)]
      exact q
    · rename_i z
      rw [if_neg z] at q
      rw [f2 293 j (by omega)]
      exact q
theorem rC_with {Q : mP} {kd n : Int} {f : Nat → Int32} {v : Int32} (h0 : (fv Q 291 0).toInt = kd) (h1 : (fv Q 291 1).toInt = n) (h2 : ∀ j : Nat, j < 8 → fv Q 292 j = f j) (h3 : KSET Q kd v (nC kd n)) (h8 : n ≤ 8) : rC Q = pcR kd n f (kS v) := by
  unfold rC pcR
  rw [h0, h1]
  refine tm_eq rfl rfl (fun j hj => h2 j (by omega)) (fun j hj hs => ?_)
  by_cases e : kd = 0
  · have h1j := hs (decide_eq_true e)
    have q := h3 (j - 1) (by unfold nC; rw [if_pos e]; omega)
    rw [if_pos e, show j - 1 + 1 = j by omega] at q
    show _ = if kd = 0 then _ else _
    rw [if_pos e]
    exact kS_of q
  · have q := h3 j (by unfold nC; rw [if_neg e]; exact hj)
    rw [if_neg e] at q
    show _ = if kd = 0 then _ else _
    rw [if_neg e]
    exact kS_of q
theorem rM_with {Q : mP} {kd n : Int} {f : Nat → Int32} {v : Int32} (h0 : (fv Q 301 14).toInt = kd) (h1 : (fv Q 301 13).toInt = n) (h2 : ∀ j : Nat, j < 8 → fv Q 308 j = f j) (h3 : ∀ j : Nat, j < nC kd n → (fv Q 309 j).toInt = kN v j) (h8 : n ≤ 8) : rM Q = pcR kd n f (kS v) := by
  subst h0 h1
  refine tm_eq rfl rfl (fun j hj => h2 j (by omega)) (fun j hj hs => ?_)
  by_cases e : (fv Q 301 14).toInt = 0
  · have h1j := hs (decide_eq_true e)
    show (if (fv Q 301 14).toInt = 0 then _ else _) = if (fv Q 301 14).toInt = 0 then _ else _
    rw [if_pos e, if_pos e]
    exact kS_of (h3 _ (by unfold nC; rw [if_pos e]; omega))
  · show (if (fv Q 301 14).toInt = 0 then _ else _) = if (fv Q 301 14).toInt = 0 then _ else _
    rw [if_neg e, if_neg e]
    exact kS_of (h3 _ (by unfold nC; rw [if_neg e]; exact hj))
def cI (kd n : Int) : Int := if kd = 0 then n - 1 else n
def shN (c : Int) : Nat := ((1 : Int32) <<< (Int32.ofInt c &&& 31)).toInt.toNat
theorem shN_of {x z : Int32} {c : Int} (h : 1 <<< (x &&& 31) = z) (hx : x.toInt = c) : shN c = z.toInt.toNat := by
  subst hx
  unfold shN
  rw [Int32.ofInt_toInt, h]
def CNr (A : Int32 → Prop) : Nat → Int → Prop
  | 0 => fun c => c = 0
  | n + 1 => fun c => (A (nI n) ∧ CNr A n (c - 1)) ∨ (¬ A (nI n) ∧ CNr A n c)
theorem CNr.yes {A : Int32 → Prop} {i j : Nat} {c d : Int} {w : Int32} (h : CNr A i c) (hw : 0 ≤ w.toInt) (hi : i = w.toInt.toNat) (hj : j = i + 1) (ha : A w) (hd : d = c + 1) : CNr A j d := by
  subst hi hj hd
  exact Or.inl ⟨by rw [nI_ti hw]; exact ha, by rw [Int.add_sub_cancel]; exact h⟩
theorem CNr.no {A : Int32 → Prop} {i j : Nat} {c d : Int} {w : Int32} (h : CNr A i c) (hw : 0 ≤ w.toInt) (hi : i = w.toInt.toNat) (hj : j = i + 1) (ha : ¬ A w) (hd : d = c) : CNr A j d := by
  subst hi hj hd
  exact Or.inr ⟨by rw [nI_ti hw]; exact ha, h⟩
theorem CNr.uniq {A : Int32 → Prop} {n : Nat} : ∀ {c d : Int}, CNr A n c → CNr A n d → c = d := by
  induction n with
  | zero =>
    intro c d h g
    exact (show c = 0 from h).trans (show d = 0 from g).symm
  | succ n ih =>
    intro c d h g
    rcases h with ⟨h1, h2⟩ | ⟨h1, h2⟩ <;> rcases g with ⟨g1, g2⟩ | ⟨g1, g2⟩
    · have := ih h2 g2
      omega
    · exact absurd h1 g1
    · exact absurd g1 h1
    · exact ih h2 g2
def WAYp (c : Int32 → Int32 → Prop) (e : Int32 → Prop) (kd n : Int) (f g : Nat → Int32) (v : Int32) : Prop := chF g v (nC kd n) = 0 ∧ FWf c e kd n f v
def FEr (ch : Int32 → Int) (p : Int32 → Prop) : Nat → Int → Prop
  | 0 => fun c => c = -1004
  | n + 1 => fun c => ∃ b : Int, FEr ch p n b ∧ (((b = -1004 ∨ ch (nI n) < b) ∧ p (nI n) ∧ c = ch (nI n)) ∨ ((¬ (b = -1004 ∨ ch (nI n) < b) ∨ ¬ p (nI n)) ∧ c = b))
theorem FEr.yes {ch : Int32 → Int} {p : Int32 → Prop} {i j : Nat} {b c x : Int} {w : Int32} (h : FEr ch p i b) (hw : 0 ≤ w.toInt) (hi : i = w.toInt.toNat) (hj : j = i + 1) (hx : x = ch w) (hb : b = -1004 ∨ x < b) (hp : p w) (hc : c = x) : FEr ch p j c := by
  subst hi hj hx hc
  exact ⟨b, h, Or.inl ⟨by rw [nI_ti hw]; exact hb, by rw [nI_ti hw]; exact hp, by rw [nI_ti hw]⟩⟩
theorem FEr.no {ch : Int32 → Int} {p : Int32 → Prop} {i j : Nat} {b c x : Int} {w : Int32} (h : FEr ch p i b) (hw : 0 ≤ w.toInt) (hi : i = w.toInt.toNat) (hj : j = i + 1) (hx : x = ch w) (hp : ¬ (b = -1004 ∨ x < b) ∨ ¬ p w) (hc : c = b) : FEr ch p j c := by
  subst hi hj hx hc
  exact ⟨c, h, Or.inr ⟨by rw [nI_ti hw]; exact hp, rfl⟩⟩
theorem FEr.uniq {ch : Int32 → Int} {p : Int32 → Prop} {n : Nat} : ∀ {c d : Int}, FEr ch p n c → FEr ch p n d → c = d := by
  induction n with
  | zero =>
    intro c d h g
    exact (show c = -1004 from h).trans (show d = -1004 from g).symm
  | succ n ih =>
    intro c d h g
    obtain ⟨b, h1, h2⟩ := h
    obtain ⟨b', g1, g2⟩ := g
    have e := ih h1 g1
    subst e
    rcases h2 with ⟨x1, x2, x3⟩ | ⟨x1, x2⟩ <;> rcases g2 with ⟨y1, y2, y3⟩ | ⟨y1, y2⟩
    · omega
    · exact (y1.elim (fun z => z x1) (fun z => z x2)).elim
    · exact (x1.elim (fun z => z y1) (fun z => z y2)).elim
    · omega
/-! how many panels lie over a place -/
def lfF (f : Nat → Int32) (i : Nat) : Int := min (plF f i).toInt (plF f (i + 1)).toInt
def rgF (f : Nat → Int32) (i : Nat) : Int := max (plF f i).toInt (plF f (i + 1)).toInt
def pbF (f : Nat → Int32) (p : Int) : Nat → Int
  | 0 => 0
  | n + 1 => if lfF f n ≤ p ∧ p < rgF f n then pbF f p n + 1 else pbF f p n
theorem pbF.yes {f : Nat → Int32} {p a b : Int} {i j : Nat} (h : a = pbF f p i) (hj : j = i + 1) (h0 : lfF f i ≤ p ∧ p < rgF f i) (hb : b = a + 1) : b = pbF f p j := by
  subst hj
  rw [hb, h]
  show _ = if _ then _ else _
  rw [if_pos h0]
theorem pbF.no {f : Nat → Int32} {p a b : Int} {i j : Nat} (h : a = pbF f p i) (hj : j = i + 1) (h0 : ¬ (lfF f i ≤ p ∧ p < rgF f i)) (hb : b = a) : b = pbF f p j := by
  subst hj
  rw [hb, h]
  show _ = if _ then _ else _
  rw [if_neg h0]
/-- the class's way: behind the left ends -/
def thF (f : Nat → Int32) (m : Nat) : Nat → Int
  | 0 => 0
  | n + 1 => max (thF f m n) (pbF f (lfF f n) m)
theorem thF.step {f : Nat → Int32} {m i j : Nat} {a b : Int} (h : a = thF f m i) (hj : j = i + 1) (hb : b = max a (pbF f (lfF f i) m)) : b = thF f m j := by
  subst hj
  rw [hb, h]
  rfl
/-- the reference's: c places from p on -/
def mxR (f : Nat → Int32) (m : Nat) (p a : Int) : Nat → Int
  | 0 => a
  | c + 1 => max (mxR f m p a c) (pbF f (p + c) m)
theorem mxR.step {f : Nat → Int32} {m i j : Nat} {p q a b c : Int} (h : b = mxR f m p a i) (hj : j = i + 1) (hq : q = p + (i : Int)) (hc : c = max b (pbF f q m)) : c = mxR f m p a j := by
  subst hj hq
  rw [hc, h]
  rfl
def tmF (f : Nat → Int32) (m : Nat) : Nat → Int
  | 0 => 0
  | n + 1 => mxR f m (lfF f n) (tmF f m n) (rgF f n - lfF f n).toNat
theorem tmF.step {f : Nat → Int32} {m i j k : Nat} {a : Int} (h : a = mxR f m (lfF f i) (tmF f m i) k) (hk : k = (rgF f i - lfF f i).toNat) (hj : j = i + 1) : a = tmF f m j := by
  subst hj hk
  exact h
theorem pl_1 {f : Nat → Int32} {x : Int} {i : Nat} (h : x = (plF f i).toInt) : x = (plF f i).toInt := h
/-! the bits of a share -/
def fz (x y : UInt32) : Int := (Op.cmpValue (FP.fcmp x y) .g).toInt
def fl (x y : UInt32) : Int := (Op.cmpValue (FP.fcmp x y) .l).toInt
def boL : Nat → UInt32 → Int32 → UInt32 × Int32
  | 0 => fun y e => (y, e)
  | n + 1 => fun y e => if fz y FP.fconst1 < 0 then boL n (FP.fmul y FP.fconst2) (e + -1) else (y, e)
theorem boL.step {n m : Nat} {u w : UInt32} {v x : Int32} {r : UInt32 × Int32} (h : boL n u v = r) (hn : n = m + 1) (hc : fz u FP.fconst1 < 0) (hu : FP.fmul u FP.fconst2 = w) (hv : v + (-1) = x) : boL m w x = r := by
  subst hn hu hv
  rw [← h]
  show _ = if _ then _ else _
  rw [if_pos hc]
theorem boL.fin {n : Nat} {u : UInt32} {v : Int32} {r : UInt32 × Int32} (h : boL n u v = r) (hc : n = 0 ∨ ¬ fz u FP.fconst1 < 0) : r = (u, v) := by
  rw [← h]
  cases n with
  | zero => rfl
  | succ n =>
    show (if fz u FP.fconst1 < 0 then _ else (u, v)) = _
    rw [if_neg (hc.resolve_left (Nat.succ_ne_zero n))]
def boX (y : UInt32) (e : Int32) : Int32 := (e <<< (23 &&& 31)) + FP.f2i (FP.fmul (FP.fsub y FP.fconst1) 1258291200)
def boF (y : UInt32) : Int32 := if fz y FP.fconst0 ≤ 0 then 0 else boX (boL 126 y 127).1 (boL 126 y 127).2
theorem boF.of {n : Nat} {t u y1 y2 : UInt32} {v z1 z2 z3 : Int32} (h2 : ¬ fz t FP.fconst0 ≤ 0) (h1 : boL n u v = boL 126 t 127) (hc : n = 0 ∨ ¬ fz u FP.fconst1 < 0) (e1 : v <<< (23 &&& 31) = z1) (e2 : FP.fsub u FP.fconst1 = y1) (e3 : FP.fmul y1 1258291200 = y2) (e4 : FP.f2i y2 = z2) (e5 : z1 + z2 = z3) : z3.toInt = (boF t).toInt := by
  subst e5 e4 e3 e2 e1
  unfold boF
  rw [if_neg h2, boL.fin h1 hc]
  rfl
/-! searching: a recursion over prefixes, over any sum (op, unit, what an edge adds, what a node adds) -/
abbrev SYM (A : Type) : Type := (A → A → A) × A × A × A
def updO (o : Nat → Int) (p : Nat) (l : Int) : Nat → Int := fun j => if j = p then l else o j
theorem updO_at {o : Nat → Int} {p : Nat} {l : Int} : updO o p l p = l := if_pos rfl
theorem updO_ne {o : Nat → Int} {p j : Nat} {l : Int} (h : ¬ j = p) : updO o p l j = o j := if_neg h
noncomputable def selO {A : Type} (p : Prop) (x y : A) : A := @ite A p (Classical.propDecidable p) x y
theorem selO.yes {A : Type} {p : Prop} {x y : A} (h : p) : selO p x y = x := by
  unfold selO
  exact if_pos h
theorem selO.no {A : Type} {p : Prop} {x y : A} (h : ¬ p) : selO p x y = y := by
  unfold selO
  exact if_neg h
def prtO {A : Type} (op : A → A → A) (u : A) (F : Int → A) : Nat → Int → A
  | 0 => fun _ => u
  | k + 1 => fun c => op (F c) (prtO op u F k (c + 1))
def LAW {A : Type} (W : SYM A) : Prop := (∀ a : A, W.1 W.2.1 a = a) ∧ (∀ a : A, W.1 a W.2.1 = a) ∧ ∀ a b c : A, W.1 (W.1 a b) c = W.1 a (W.1 b c)
noncomputable def hO {A : Type} (W : SYM A) (ok : (Nat → Int) → Nat → Int → Prop) (o : Nat → Int) (p : Nat) (G : (Nat → Int) → A) (l : Int) : A := selO (ok o p l) (W.1 W.2.2.1 (G (updO o p l))) W.2.1
noncomputable def gO {A : Type} (W : SYM A) (n : Nat) (ok : (Nat → Int) → Nat → Int → Prop) (leaf : (Nat → Int) → A) : Nat → (Nat → Int) → A
  | 0 => leaf
  | r + 1 => fun o => W.1 (prtO W.1 W.2.1 (hO W ok o (n - (r + 1)) (gO W n ok leaf r)) n 0) W.2.2.2
noncomputable def restO {A : Type} (W : SYM A) (n : Nat) (ok : (Nat → Int) → Nat → Int → Prop) (leaf : (Nat → Int) → A) (q : Nat) (o : Nat → Int) : A := W.1 (prtO W.1 W.2.1 (hO W ok o q (gO W n ok leaf (n - (q + 1)))) ((n : Int) - 1 - o q).toNat (o q + 1)) W.2.2.2
noncomputable def accO {A : Type} (W : SYM A) (n : Nat) (ok : (Nat → Int) → Nat → Int → Prop) (leaf : (Nat → Int) → A) : Nat → (Nat → Int) → A
  | 0 => fun _ => W.2.1
  | q + 1 => fun o => W.1 (restO W n ok leaf q o) (accO W n ok leaf q o)
noncomputable def remO {A : Type} (W : SYM A) (n : Nat) (ok : (Nat → Int) → Nat → Int → Prop) (leaf : (Nat → Int) → A) (p : Int) (o : Nat → Int) : A := if p = n then W.1 (leaf o) (accO W n ok leaf n o) else accO W n ok leaf (p + 1).toNat o
/-- what is allowed at a place hangs on what stands ahead of it alone -/
def PRE (ok : (Nat → Int) → Nat → Int → Prop) : Prop := ∀ (o o' : Nat → Int) (p : Nat) (l : Int), (∀ j : Nat, j < p → o j = o' j) → (ok o p l ↔ ok o' p l)
def PRL {A : Type} (n : Nat) (leaf : (Nat → Int) → A) : Prop := ∀ o o' : Nat → Int, (∀ j : Nat, j < n → o j = o' j) → leaf o = leaf o'
theorem updO_pre {o o' : Nat → Int} {p : Nat} {l : Int} (h : ∀ j : Nat, j < p → o j = o' j) : ∀ j : Nat, j < p + 1 → updO o p l j = updO o' p l j := by
  intro j hj
  by_cases e : j = p
  · subst e
    rw [updO_at, updO_at]
  · rw [updO_ne e, updO_ne e]
    exact h j (by omega)
theorem gO_congr {A : Type} {W : SYM A} {n : Nat} {ok : (Nat → Int) → Nat → Int → Prop} {leaf : (Nat → Int) → A} (hk : PRE ok) (hl : PRL n leaf) : ∀ (r : Nat) (o o' : Nat → Int), r ≤ n → (∀ j : Nat, j < n - r → o j = o' j) → gO W n ok leaf r o = gO W n ok leaf r o' := by
  intro r
  induction r with
  | zero => exact fun o o' _ h => hl o o' h
  | succ r ih =>
    intro o o' hr h
    have e : hO W ok o (n - (r + 1)) (gO W n ok leaf r) = hO W ok o' (n - (r + 1)) (gO W n ok leaf r) := by
      funext l
      unfold hO
      rw [propext (hk o o' (n - (r + 1)) l h), ih (updO o (n - (r + 1)) l) (updO o' (n - (r + 1)) l) (by omega) (fun j hj => updO_pre h j (by omega))]
    show W.1 (prtO W.1 W.2.1 (hO W ok o (n - (r + 1)) (gO W n ok leaf r)) n 0) W.2.2.2 = W.1 (prtO W.1 W.2.1 (hO W ok o' (n - (r + 1)) (gO W n ok leaf r)) n 0) W.2.2.2
    rw [e]
theorem hO_congr {A : Type} {W : SYM A} {n p : Nat} {ok : (Nat → Int) → Nat → Int → Prop} {leaf : (Nat → Int) → A} (hk : PRE ok) (hl : PRL n leaf) (hp : p < n) {o o' : Nat → Int} (h : ∀ j : Nat, j < p → o j = o' j) : hO W ok o p (gO W n ok leaf (n - (p + 1))) = hO W ok o' p (gO W n ok leaf (n - (p + 1))) := by
  funext l
  unfold hO
  rw [propext (hk o o' p l h), gO_congr hk hl (n - (p + 1)) (updO o p l) (updO o' p l) (by omega) (fun j hj => updO_pre h j (by omega))]
theorem restO_congr {A : Type} {W : SYM A} {n q : Nat} {ok : (Nat → Int) → Nat → Int → Prop} {leaf : (Nat → Int) → A} (hk : PRE ok) (hl : PRL n leaf) (hq : q < n) {o o' : Nat → Int} (h : ∀ j : Nat, j < q + 1 → o j = o' j) : restO W n ok leaf q o = restO W n ok leaf q o' := by
  unfold restO
  rw [hO_congr hk hl hq (fun j hj => h j (by omega)), h q (by omega)]
theorem accO_congr {A : Type} {W : SYM A} {n : Nat} {ok : (Nat → Int) → Nat → Int → Prop} {leaf : (Nat → Int) → A} (hk : PRE ok) (hl : PRL n leaf) : ∀ (q : Nat) (o o' : Nat → Int), q ≤ n → (∀ j : Nat, j < q → o j = o' j) → accO W n ok leaf q o = accO W n ok leaf q o' := by
  intro q
  induction q with
  | zero => exact fun _ _ _ _ => rfl
  | succ q ih =>
    intro o o' hq h
    show W.1 (restO W n ok leaf q o) (accO W n ok leaf q o) = W.1 (restO W n ok leaf q o') (accO W n ok leaf q o')
    rw [restO_congr hk hl (by omega) h, ih o o' (by omega) (fun j hj => h j (by omega))]
theorem prtO_skip {A : Type} {W : SYM A} (hW : LAW W) {F : Int → A} : ∀ (d k : Nat) (c : Int), (∀ m : Int, c ≤ m → m < c + d → F m = W.2.1) → prtO W.1 W.2.1 F (d + k) c = prtO W.1 W.2.1 F k (c + d) := by
  intro d
  induction d with
  | zero =>
    intro k c _
    rw [Nat.zero_add]
    exact congrArg (prtO W.1 W.2.1 F k) (by omega)
  | succ d ih =>
    intro k c h
    rw [show d + 1 + k = (d + k) + 1 by omega]
    show W.1 (F c) (prtO W.1 W.2.1 F (d + k) (c + 1)) = _
    rw [h c (Int.le_refl c) (by omega), hW.1, ih k (c + 1) (fun m h1 h2 => h m (by omega) (by omega))]
    exact congrArg (prtO W.1 W.2.1 F k) (by omega)
theorem prtO_none {A : Type} {W : SYM A} (hW : LAW W) {F : Int → A} {k : Nat} {c : Int} (h : ∀ m : Int, c ≤ m → m < c + k → F m = W.2.1) : prtO W.1 W.2.1 F k c = W.2.1 := by
  have e := prtO_skip hW (F := F) k 0 c h
  rw [Nat.add_zero] at e
  rw [e]
  rfl
theorem prtO_snoc {A : Type} {W : SYM A} (hW : LAW W) {F : Int → A} : ∀ (k : Nat) (c : Int), prtO W.1 W.2.1 F (k + 1) c = W.1 (prtO W.1 W.2.1 F k c) (F (c + k)) := by
  intro k
  induction k with
  | zero =>
    intro c
    show W.1 (F c) W.2.1 = W.1 W.2.1 (F (c + 0))
    rw [hW.1, hW.2.1, Int.add_zero]
  | succ k ih =>
    intro c
    show W.1 (F c) (prtO W.1 W.2.1 F (k + 1) (c + 1)) = W.1 (W.1 (F c) (prtO W.1 W.2.1 F k (c + 1))) (F (c + ((k + 1 : Nat) : Int)))
    rw [ih (c + 1), hW.2.2, show c + 1 + (k : Int) = c + ((k + 1 : Nat) : Int) by omega]
theorem remO_nn {A : Type} {W : SYM A} {n : Nat} {ok : (Nat → Int) → Nat → Int → Prop} {leaf : (Nat → Int) → A} {o : Nat → Int} : remO W n ok leaf n o = W.1 (leaf o) (accO W n ok leaf n o) := if_pos rfl
theorem remO_lt {A : Type} {W : SYM A} {n q : Nat} {p : Int} {ok : (Nat → Int) → Nat → Int → Prop} {leaf : (Nat → Int) → A} {o : Nat → Int} (h : p + 1 = q) (hq : q ≤ n) : remO W n ok leaf p o = accO W n ok leaf q o := by
  unfold remO
  rw [if_neg (by omega), show (p + 1).toNat = q by omega]
/-- a layer is given -/
theorem remO.down {A : Type} {W : SYM A} (hW : LAW W) {n p : Nat} {ok : (Nat → Int) → Nat → Int → Prop} {leaf : (Nat → Int) → A} (hk : PRE ok) (hl : PRL n leaf) {o o' : Nat → Int} {l : Int} (hp : p < n) (h0 : -1 ≤ o p) (h1 : o p < l) (h2 : l < n) (hok : ok o p l) (hno : ∀ m : Int, o p < m → m < l → ¬ ok o p m) (e0 : ∀ j : Nat, j < p → o' j = o j) (e1 : o' p = l) (e2 : p + 1 < n → o' (p + 1) = -1) : remO W n ok leaf p o = W.1 W.2.2.1 (remO W n ok leaf (p + 1) o') := by
  have ea : accO W n ok leaf p o' = accO W n ok leaf p o := accO_congr hk hl p o' o (by omega) e0
  have eh : hO W ok o' p (gO W n ok leaf (n - (p + 1))) = hO W ok o p (gO W n ok leaf (n - (p + 1))) := hO_congr hk hl hp e0
  have er : restO W n ok leaf p o = W.1 (W.1 (W.1 W.2.2.1 (gO W n ok leaf (n - (p + 1)) (updO o p l))) (prtO W.1 W.2.1 (hO W ok o p (gO W n ok leaf (n - (p + 1)))) ((n : Int) - 1 - l).toNat (l + 1))) W.2.2.2 := by
    unfold restO
    rw [show ((n : Int) - 1 - o p).toNat = (l - o p - 1).toNat + (((n : Int) - 1 - l).toNat + 1) by omega, prtO_skip hW _ _ _ (fun m m1 m2 => by unfold hO; exact selO.no (hno m (by omega) (by omega)))]
    rw [show o p + 1 + ((l - o p - 1).toNat : Int) = l by omega]
    show W.1 (W.1 (hO W ok o p (gO W n ok leaf (n - (p + 1))) l) _) _ = _
    rw [show hO W ok o p (gO W n ok leaf (n - (p + 1))) l = W.1 W.2.2.1 (gO W n ok leaf (n - (p + 1)) (updO o p l)) from selO.yes hok]
  have er' : restO W n ok leaf p o' = W.1 (prtO W.1 W.2.1 (hO W ok o p (gO W n ok leaf (n - (p + 1)))) ((n : Int) - 1 - l).toNat (l + 1)) W.2.2.2 := by
    unfold restO
    rw [eh, e1]
  have eu : ∀ j : Nat, j < p + 1 → o' j = updO o p l j := by
    intro j hj
    by_cases e : j = p
    · subst e
      rw [e1, updO_at]
    · rw [updO_ne e]
      exact e0 j (by omega)
  have ec : accO W n ok leaf (p + 1) o' = W.1 (W.1 (prtO W.1 W.2.1 (hO W ok o p (gO W n ok leaf (n - (p + 1)))) ((n : Int) - 1 - l).toNat (l + 1)) W.2.2.2) (accO W n ok leaf p o) := by
    show W.1 (restO W n ok leaf p o') (accO W n ok leaf p o') = _
    rw [er', ea]
  have ef : remO W n ok leaf ((p : Int) + 1) o' = W.1 (gO W n ok leaf (n - (p + 1)) (updO o p l)) (accO W n ok leaf (p + 1) o') := by
    by_cases e : p + 1 = n
    · have g0 : gO W n ok leaf (n - (p + 1)) (updO o p l) = leaf o' := by
        rw [show n - (p + 1) = 0 by omega]
        exact hl _ _ (fun j hj => (eu j (by omega)).symm)
      rw [g0, show ((p : Int) + 1) = (n : Int) by omega, remO_nn, e]
    · rw [remO_lt (q := p + 2) (by omega) (by omega)]
      show W.1 (restO W n ok leaf (p + 1) o') (accO W n ok leaf (p + 1) o') = _
      have g1 : restO W n ok leaf (p + 1) o' = gO W n ok leaf (n - (p + 1)) (updO o p l) := by
        rw [← gO_congr hk hl (n - (p + 1)) o' (updO o p l) (by omega) (fun j hj => eu j (by omega))]
        unfold restO
        rw [e2 (by omega), show ((n : Int) - 1 - -1).toNat = n by omega, show n - (p + 1) = (n - (p + 1 + 1)) + 1 by omega]
        show _ = W.1 (prtO W.1 W.2.1 (hO W ok o' (n - (n - (p + 1 + 1) + 1)) (gO W n ok leaf (n - (p + 1 + 1)))) n 0) W.2.2.2
        rw [show n - (n - (p + 1 + 1) + 1) = p + 1 by omega]
        rfl
      rw [g1]
  rw [remO_lt (q := p + 1) (by omega) (by omega), ef, ec]
  show W.1 (restO W n ok leaf p o) (accO W n ok leaf p o) = _
  rw [er]
  simp only [hW.2.2]
/-- none is left at this panel -/
theorem remO.up {A : Type} {W : SYM A} (hW : LAW W) {n p : Nat} {ok : (Nat → Int) → Nat → Int → Prop} {leaf : (Nat → Int) → A} {o : Nat → Int} (hp : p < n) (h0 : -1 ≤ o p) (hno : ∀ m : Int, o p < m → m < n → ¬ ok o p m) : remO W n ok leaf p o = W.1 W.2.2.2 (remO W n ok leaf ((p : Int) - 1) o) := by
  rw [remO_lt (q := p + 1) (by omega) (by omega), remO_lt (q := p) (by omega) (by omega)]
  show W.1 (restO W n ok leaf p o) (accO W n ok leaf p o) = _
  unfold restO
  rw [prtO_none hW (fun m m1 m2 => by unfold hO; exact selO.no (hno m (by omega) (by omega))), hW.1]
theorem remO.leaf {A : Type} {W : SYM A} {n : Nat} {ok : (Nat → Int) → Nat → Int → Prop} {leaf : (Nat → Int) → A} {o : Nat → Int} : remO W n ok leaf n o = W.1 (leaf o) (remO W n ok leaf ((n : Int) - 1) o) := by
  rw [remO_nn, remO_lt (q := n) (by omega) (Nat.le_refl n)]
theorem remO.start {A : Type} {W : SYM A} (hW : LAW W) {n : Nat} {ok : (Nat → Int) → Nat → Int → Prop} {leaf : (Nat → Int) → A} (hk : PRE ok) (hl : PRL n leaf) {o o' : Nat → Int} (h0 : o 0 = -1) : remO W n ok leaf 0 o = gO W n ok leaf n o' := by
  by_cases hn : n = 0
  · subst hn
    exact (remO_nn (n := 0)).trans ((hW.2.1 _).trans (hl o o' (fun j hj => absurd hj (Nat.not_lt_zero j))))
  rw [remO_lt (q := 1) (by omega) (by omega)]
  show W.1 (restO W n ok leaf 0 o) W.2.1 = _
  rw [hW.2.1, ← gO_congr hk hl n o o' (Nat.le_refl n) (fun j hj => by omega)]
  unfold restO
  rw [h0, show ((n : Int) - 1 - -1).toNat = n by omega]
  have e : n = (n - 1) + 1 := by omega
  show W.1 (prtO W.1 W.2.1 (hO W ok o 0 (gO W n ok leaf (n - (0 + 1)))) n (-1 + 1)) W.2.2.2 = gO W n ok leaf n o
  have e2 : gO W n ok leaf ((n - 1) + 1) o = W.1 (prtO W.1 W.2.1 (hO W ok o (n - ((n - 1) + 1)) (gO W n ok leaf (n - 1))) n 0) W.2.2.2 := rfl
  rw [← e, show n - n = 0 by omega] at e2
  rw [e2]
  rfl
theorem remO.stop {A : Type} {W : SYM A} {n : Nat} {ok : (Nat → Int) → Nat → Int → Prop} {leaf : (Nat → Int) → A} {o : Nat → Int} : remO W n ok leaf (-1) o = W.2.1 := remO_lt (q := 0) (by omega) (Nat.zero_le n)
/-! the three sums: how many, how many turns, the first one -/
def Wc : SYM Int := (fun a b => a + b, 0, 0, 0)
def Wt : SYM Int := (fun a b => a + b, 0, 1, 1)
def orE {A : Type} (a b : Option A) : Option A := match a with
  | none => b
  | some x => some x
def Wf : SYM (Option (Nat → Int)) := (orE, none, none, none)
theorem LAW.c : LAW Wc := ⟨fun a => Int.zero_add a, fun a => Int.add_zero a, fun a b c => Int.add_assoc a b c⟩
theorem LAW.t : LAW Wt := ⟨fun a => Int.zero_add a, fun a => Int.add_zero a, fun a b c => Int.add_assoc a b c⟩
theorem LAW.f : LAW Wf := ⟨fun a => rfl, fun a => by cases a <;> rfl, fun a b c => by cases a <;> rfl⟩
noncomputable def lfC (ps : (Nat → Int) → Prop) (o : Nat → Int) : Int := selO (ps o) 1 0
def lfT (_ : Nat → Int) : Int := 1
def trO (n : Nat) (o : Nat → Int) : Nat → Int := fun j => if j < n then o j else 0
noncomputable def lfF1 (n : Nat) (ps : (Nat → Int) → Prop) (o : Nat → Int) : Option (Nat → Int) := selO (ps o) (some (trO n o)) none
def PRP (n : Nat) (ps : (Nat → Int) → Prop) : Prop := ∀ o o' : Nat → Int, (∀ j : Nat, j < n → o j = o' j) → (ps o ↔ ps o')
theorem PRL.c {n : Nat} {ps : (Nat → Int) → Prop} (h : PRP n ps) : PRL n (lfC ps) := fun o o' e => by
  unfold lfC
  rw [propext (h o o' e)]
theorem PRL.t {n : Nat} : PRL n lfT := fun _ _ _ => rfl
theorem PRL.f {n : Nat} {ps : (Nat → Int) → Prop} (h : PRP n ps) : PRL n (lfF1 n ps) := fun o o' e => by
  have t : trO n o = trO n o' := by
    funext j
    unfold trO
    by_cases c : j < n
    · rw [if_pos c, if_pos c, e j c]
    · rw [if_neg c, if_neg c]
  unfold lfF1
  rw [propext (h o o' e), t]
theorem prtO_nonneg {F : Int → Int} : ∀ (k : Nat) (c : Int), (∀ m : Int, 0 ≤ F m) → 0 ≤ prtO (fun a b : Int => a + b) 0 F k c := by
  intro k
  induction k with
  | zero => exact fun _ _ => Int.le_refl 0
  | succ k ih =>
    intro c h
    have h1 := ih (c + 1) h
    have h2 := h c
    show 0 ≤ F c + prtO (fun a b : Int => a + b) 0 F k (c + 1)
    omega
theorem prtO_le {F : Int → Int} {M : Int} : ∀ (k : Nat) (c : Int), (∀ m : Int, c ≤ m → m < c + k → F m ≤ M) → prtO (fun a b : Int => a + b) 0 F k c ≤ (k : Int) * M := by
  intro k
  induction k with
  | zero =>
    intro c _
    have e : ((0 : Nat) : Int) * M = 0 := Int.zero_mul M
    rw [e]
    exact Int.le_refl 0
  | succ k ih =>
    intro c h
    have h1 := ih (c + 1) (fun m a b => h m (by omega) (by omega))
    have h2 := h c (Int.le_refl c) (by omega)
    show F c + prtO (fun a b : Int => a + b) 0 F k (c + 1) ≤ ((k + 1 : Nat) : Int) * M
    have e0 : ((k + 1 : Nat) : Int) = (k : Int) + 1 := by omega
    have e : ((k + 1 : Nat) : Int) * M = (k : Int) * M + M := by rw [e0, Int.add_mul, Int.one_mul]
    omega
/-- one of them is 0 -/
theorem prtO_le1 {F : Int → Int} {M : Int} (hM : 0 ≤ M) : ∀ (k : Nat) (c z : Int), (∀ m : Int, c ≤ m → m < c + k → F m ≤ M) → c ≤ z → z < c + k → F z = 0 → prtO (fun a b : Int => a + b) 0 F k c + M ≤ (k : Int) * M := by
  intro k
  induction k with
  | zero =>
    intro c z _ h1 h2
    omega
  | succ k ih =>
    intro c z h h1 h2 hz
    show F c + prtO (fun a b : Int => a + b) 0 F k (c + 1) + M ≤ ((k + 1 : Nat) : Int) * M
    have e0 : ((k + 1 : Nat) : Int) = (k : Int) + 1 := by omega
    have e : ((k + 1 : Nat) : Int) * M = (k : Int) * M + M := by rw [e0, Int.add_mul, Int.one_mul]
    by_cases c1 : z = c
    · subst c1
      have h3 := prtO_le (F := F) (M := M) k (z + 1) (fun m a b => h m (by omega) (by omega))
      omega
    · have h3 := ih (c + 1) z (fun m a b => h m (by omega) (by omega)) (by omega) (by omega) hz
      have h4 := h c (Int.le_refl c) (by omega)
      omega
theorem gO_nonneg {n : Nat} {ok : (Nat → Int) → Nat → Int → Prop} {leaf : (Nat → Int) → Int} {W : SYM Int} (hw : W.1 = fun a b : Int => a + b) (h0 : W.2.1 = 0) (he : 0 ≤ W.2.2.1) (hv : 0 ≤ W.2.2.2) (hl : ∀ o : Nat → Int, 0 ≤ leaf o) : ∀ (r : Nat) (o : Nat → Int), 0 ≤ gO W n ok leaf r o := by
  intro r
  induction r with
  | zero => exact hl
  | succ r ih =>
    intro o
    have h1 := prtO_nonneg (F := hO W ok o (n - (r + 1)) (gO W n ok leaf r)) n 0 (fun m => by
      unfold hO
      by_cases c : ok o (n - (r + 1)) m
      · rw [selO.yes c, hw]
        have := ih (updO o (n - (r + 1)) m)
        show 0 ≤ W.2.2.1 + gO W n ok leaf r (updO o (n - (r + 1)) m)
        omega
      · rw [selO.no c, h0]
        exact Int.le_refl 0)
    show 0 ≤ W.1 (prtO W.1 W.2.1 (hO W ok o (n - (r + 1)) (gO W n ok leaf r)) n 0) W.2.2.2
    rw [hw, h0]
    show 0 ≤ prtO (fun a b : Int => a + b) 0 (hO W ok o (n - (r + 1)) (gO W n ok leaf r)) n 0 + W.2.2.2
    omega
theorem accO_nonneg {n : Nat} {ok : (Nat → Int) → Nat → Int → Prop} {leaf : (Nat → Int) → Int} {W : SYM Int} (hw : W.1 = fun a b : Int => a + b) (h0 : W.2.1 = 0) (he : 0 ≤ W.2.2.1) (hv : 0 ≤ W.2.2.2) (hl : ∀ o : Nat → Int, 0 ≤ leaf o) : ∀ (q : Nat) (o : Nat → Int), 0 ≤ accO W n ok leaf q o := by
  intro q
  induction q with
  | zero =>
    intro o
    show 0 ≤ W.2.1
    rw [h0]
    exact Int.le_refl 0
  | succ q ih =>
    intro o
    have h2 := ih o
    have h1 := prtO_nonneg (F := hO W ok o q (gO W n ok leaf (n - (q + 1)))) ((n : Int) - 1 - o q).toNat (o q + 1) (fun m => by
      unfold hO
      by_cases c : ok o q m
      · rw [selO.yes c, hw]
        have := gO_nonneg (n := n) hw h0 he hv hl (n - (q + 1)) (updO o q m) (ok := ok)
        show 0 ≤ W.2.2.1 + gO W n ok leaf (n - (q + 1)) (updO o q m)
        omega
      · rw [selO.no c, h0]
        exact Int.le_refl 0)
    show 0 ≤ W.1 (restO W n ok leaf q o) (accO W n ok leaf q o)
    unfold restO
    rw [hw, h0]
    show 0 ≤ prtO (fun a b : Int => a + b) 0 (hO W ok o q (gO W n ok leaf (n - (q + 1)))) ((n : Int) - 1 - o q).toNat (o q + 1) + W.2.2.2 + accO W n ok leaf q o
    omega
def tB : Nat → Int
  | 0 => 1
  | r + 1 => 6 * (1 + tB r) + 1
theorem tB_pos (r : Nat) : 1 ≤ tB r := by
  induction r with
  | zero => exact Int.le_refl 1
  | succ r ih =>
    show 1 ≤ 6 * (1 + tB r) + 1
    omega
/-- how many turns at most: a panel hasn't the layer of the one ahead of it -/
theorem turns_le {n : Nat} {ok : (Nat → Int) → Nat → Int → Prop} (h7 : n ≤ 7) (hd : ∀ (o : Nat → Int) (p : Nat) (l : Int), 0 < p → ok o p l → ¬ l = o (p - 1)) : ∀ (r : Nat) (o : Nat → Int), r < n → (∀ j : Nat, j < n - r → 0 ≤ o j ∧ o j < n) → gO Wt n ok lfT r o ≤ tB r := by
  intro r
  induction r with
  | zero => exact fun o _ _ => Int.le_refl 1
  | succ r ih =>
    intro o hr h
    have hp := tB_pos r
    have z := h (n - (r + 1) - 1) (by omega)
    have key := prtO_le1 (F := hO Wt ok o (n - (r + 1)) (gO Wt n ok lfT r)) (M := 1 + tB r) (by omega) n 0 (o (n - (r + 1) - 1)) (fun m m1 m2 => by
      unfold hO
      by_cases c : ok o (n - (r + 1)) m
      · rw [selO.yes c]
        have := ih (updO o (n - (r + 1)) m) (by omega) (fun j hj => by
          by_cases e : j = n - (r + 1)
          · subst e
            rw [updO_at]
            omega
          · rw [updO_ne e]
            exact h j (by omega))
        show 1 + gO Wt n ok lfT r (updO o (n - (r + 1)) m) ≤ 1 + tB r
        omega
      · rw [selO.no c]
        show (0 : Int) ≤ 1 + tB r
        omega) z.1 (by omega) (by
      unfold hO
      exact selO.no (fun c => hd o (n - (r + 1)) _ (by omega) c rfl))
    have k7 : (n : Int) * (1 + tB r) ≤ 7 * (1 + tB r) := Int.mul_le_mul_of_nonneg_right (by omega) (by omega)
    show prtO (fun a b : Int => a + b) 0 (hO Wt ok o (n - (r + 1)) (gO Wt n ok lfT r)) n 0 + 1 ≤ 6 * (1 + tB r) + 1
    omega
theorem tB_6 {r : Nat} (h : r ≤ 6) : tB r ≤ 111973 := by
  have k : r = 0 ∨ r = 1 ∨ r = 2 ∨ r = 3 ∨ r = 4 ∨ r = 5 ∨ r = 6 := by omega
  rcases k with rfl | rfl | rfl | rfl | rfl | rfl | rfl <;> decide
theorem turns_all {n : Nat} {ok : (Nat → Int) → Nat → Int → Prop} (h7 : n ≤ 7) (hd : ∀ (o : Nat → Int) (p : Nat) (l : Int), 0 < p → ok o p l → ¬ l = o (p - 1)) (o : Nat → Int) : gO Wt n ok lfT n o ≤ 783819 := by
  by_cases hn : n = 0
  · subst hn
    show (1 : Int) ≤ 783819
    decide
  have e : n = (n - 1) + 1 := by omega
  have hb := tB_6 (r := n - 1) (by omega)
  have key := prtO_le (F := hO Wt ok o 0 (gO Wt n ok lfT (n - 1))) (M := 111974) n 0 (fun m m1 m2 => by
    unfold hO
    by_cases c : ok o 0 m
    · rw [selO.yes c]
      have := turns_le h7 hd (n - 1) (updO o 0 m) (by omega) (fun j hj => by
        have e0 : j = 0 := by omega
        subst e0
        rw [updO_at]
        omega)
      show 1 + gO Wt n ok lfT (n - 1) (updO o 0 m) ≤ 111974
      omega
    · rw [selO.no c]
      show (0 : Int) ≤ 111974
      omega)
  have e2 : gO Wt n ok lfT ((n - 1) + 1) o = prtO (fun a b : Int => a + b) 0 (hO Wt ok o (n - ((n - 1) + 1)) (gO Wt n ok lfT (n - 1))) n 0 + 1 := rfl
  rw [← e, show n - n = 0 by omega] at e2
  rw [e2]
  omega
/-- none, or one, and which is the first -/
def CF1 (c : Int) (f : Option (Nat → Int)) : Prop := (c = 0 ∧ f = none) ∨ (1 ≤ c ∧ ∃ o : Nat → Int, f = some o)
theorem CF1.add {c d : Int} {f g : Option (Nat → Int)} (h : CF1 c f) (k : CF1 d g) : CF1 (c + d) (orE f g) := by
  rcases h with ⟨h1, h2⟩ | ⟨h1, o, h2⟩
  · subst h1 h2
    rw [Int.zero_add]
    exact k
  · subst h2
    refine Or.inr ⟨?_, o, rfl⟩
    rcases k with ⟨k1, -⟩ | ⟨k1, -⟩ <;> omega
theorem CF1.prt {F : Int → Int} {G : Int → Option (Nat → Int)} : ∀ (k : Nat) (c : Int), (∀ m : Int, CF1 (F m) (G m)) → CF1 (prtO Wc.1 Wc.2.1 F k c) (prtO Wf.1 Wf.2.1 G k c) := by
  intro k
  induction k with
  | zero => exact fun _ _ => Or.inl ⟨rfl, rfl⟩
  | succ k ih => exact fun c h => CF1.add (h c) (ih (c + 1) h)
theorem CF1.g {n : Nat} {ok : (Nat → Int) → Nat → Int → Prop} {ps : (Nat → Int) → Prop} : ∀ (r : Nat) (o : Nat → Int), CF1 (gO Wc n ok (lfC ps) r o) (gO Wf n ok (lfF1 n ps) r o) := by
  intro r
  induction r with
  | zero =>
    intro o
    show CF1 (lfC ps o) (lfF1 n ps o)
    unfold lfC lfF1
    by_cases c : ps o
    · rw [selO.yes c, selO.yes c]
      exact Or.inr ⟨Int.le_refl 1, _, rfl⟩
    · rw [selO.no c, selO.no c]
      exact Or.inl ⟨rfl, rfl⟩
  | succ r ih =>
    intro o
    have h := CF1.prt (F := hO Wc ok o (n - (r + 1)) (gO Wc n ok (lfC ps) r)) (G := hO Wf ok o (n - (r + 1)) (gO Wf n ok (lfF1 n ps) r)) n 0 (fun m => by
      unfold hO
      by_cases c : ok o (n - (r + 1)) m
      · rw [selO.yes c, selO.yes c]
        have := CF1.add (c := 0) (f := none) (Or.inl ⟨rfl, rfl⟩) (ih (updO o (n - (r + 1)) m))
        exact this
      · rw [selO.no c, selO.no c]
        exact Or.inl ⟨rfl, rfl⟩)
    exact CF1.add h (Or.inl ⟨rfl, rfl⟩)
theorem prtO_mono {F G : Int → Int} : ∀ (k : Nat) (c : Int), (∀ m : Int, F m ≤ G m) → prtO (fun a b : Int => a + b) 0 F k c ≤ prtO (fun a b : Int => a + b) 0 G k c := by
  intro k
  induction k with
  | zero => exact fun _ _ => Int.le_refl 0
  | succ k ih =>
    intro c h
    have h1 := ih (c + 1) h
    have h2 := h c
    show F c + prtO (fun a b : Int => a + b) 0 F k (c + 1) ≤ G c + prtO (fun a b : Int => a + b) 0 G k (c + 1)
    omega
theorem cnt_turns {n : Nat} {ok : (Nat → Int) → Nat → Int → Prop} {ps : (Nat → Int) → Prop} : ∀ (r : Nat) (o : Nat → Int), gO Wc n ok (lfC ps) r o ≤ gO Wt n ok lfT r o := by
  intro r
  induction r with
  | zero =>
    intro o
    show lfC ps o ≤ 1
    unfold lfC
    by_cases c : ps o
    · rw [selO.yes c]
      decide
    · rw [selO.no c]
      decide
  | succ r ih =>
    intro o
    have h := prtO_mono (F := hO Wc ok o (n - (r + 1)) (gO Wc n ok (lfC ps) r)) (G := hO Wt ok o (n - (r + 1)) (gO Wt n ok lfT r)) n 0 (fun m => by
      unfold hO
      by_cases c : ok o (n - (r + 1)) m
      · rw [selO.yes c, selO.yes c]
        have := ih (updO o (n - (r + 1)) m)
        show 0 + gO Wc n ok (lfC ps) r (updO o (n - (r + 1)) m) ≤ 1 + gO Wt n ok lfT r (updO o (n - (r + 1)) m)
        omega
      · rw [selO.no c, selO.no c]
        exact Int.le_refl 0)
    show prtO (fun a b : Int => a + b) 0 (hO Wc ok o (n - (r + 1)) (gO Wc n ok (lfC ps) r)) n 0 + 0 ≤ prtO (fun a b : Int => a + b) 0 (hO Wt ok o (n - (r + 1)) (gO Wt n ok lfT r)) n 0 + 1
    omega
/-! layers of a strip: what is allowed, what is possible -/
def abv (cr : Nat → Int32) (c : Nat) : Prop := (cr c).toInt = 2 ↔ c % 2 = 0
def okO (cr : Nat → Int32) (o : Nat → Int) (p : Nat) (l : Int) : Prop := (∀ j : Nat, j < p → ¬ o j = l) ∧ (p = 0 ∨ (o (p - 1) < l ↔ abv cr (p - 1)))
theorem okO.pre {cr : Nat → Int32} : PRE (okO cr) := by
  intro o o' p l h
  unfold okO
  have e1 : (∀ j : Nat, j < p → ¬ o j = l) ↔ ∀ j : Nat, j < p → ¬ o' j = l := ⟨fun k j hj => by rw [← h j hj]; exact k j hj, fun k j hj => by rw [h j hj]; exact k j hj⟩
  by_cases z : p = 0
  · exact ⟨fun k => ⟨e1.mp k.1, Or.inl z⟩, fun k => ⟨e1.mpr k.1, Or.inl z⟩⟩
  · rw [e1, h (p - 1) (by omega)]
theorem okO.ne {cr : Nat → Int32} (o : Nat → Int) (p : Nat) (l : Int) (hp : 0 < p) (h : okO cr o p l) : ¬ l = o (p - 1) := fun e => h.1 (p - 1) (by omega) e.symm
theorem okO.crs {cr cr' : Nat → Int32} {o : Nat → Int} {p : Nat} {l : Int} (h : 0 < p → cr (p - 1) = cr' (p - 1)) : okO cr o p l ↔ okO cr' o p l := by
  unfold okO abv
  by_cases z : p = 0
  · exact ⟨fun k => ⟨k.1, Or.inl z⟩, fun k => ⟨k.1, Or.inl z⟩⟩
  · rw [h (by omega)]
def BT (o : Nat → Int) (i c : Nat) : Prop := min (o c) (o (c + 1)) < o i ∧ o i < max (o c) (o (c + 1))
def PI1 (pl o : Nat → Int) (c i : Nat) : Prop := min (pl i) (pl (i + 1)) < pl (c + 1) ∧ pl (c + 1) < max (pl i) (pl (i + 1)) ∧ BT o i c
def CR1 (pl o : Nat → Int) (c i : Nat) : Prop := pl (i + 1) = pl (c + 1) ∧ ¬ (BT o i c ↔ BT o (i + 1) c)
def PIc (n : Nat) (pl o : Nat → Int) (c : Nat) : Prop := ∃ i : Nat, i < n ∧ PI1 pl o c i
def CRc (n : Nat) (pl o : Nat → Int) (c : Nat) : Prop := ∃ i : Nat, c + 2 ≤ i ∧ (i - c) % 2 = 0 ∧ i + 1 < n ∧ CR1 pl o c i
def PSc (n : Nat) (pl o : Nat → Int) : Prop := ∀ c : Nat, c + 1 < n → ¬ PIc n pl o c ∧ ¬ CRc n pl o c
def PIm (n : Nat) (pl o : Nat → Int) (c : Nat) : Prop := ∃ i : Nat, i < n ∧ ¬ i = c ∧ ¬ i = c + 1 ∧ PI1 pl o c i
def CRm (n : Nat) (pl o : Nat → Int) (c : Nat) : Prop := ∃ i : Nat, i % 2 = c % 2 ∧ ¬ i = c ∧ i + 1 < n ∧ CR1 pl o c i
def PSm (n : Nat) (pl o : Nat → Int) : Prop := ∀ c : Nat, c + 1 < n → ¬ (PIm n pl o c ∨ CRm n pl o c)
theorem BT.eq {n : Nat} {o o' : Nat → Int} (h : ∀ j : Nat, j < n → o j = o' j) {i c : Nat} (hi : i < n) (hc : c + 1 < n) : BT o i c ↔ BT o' i c := by
  unfold BT
  rw [h i hi, h c (by omega), h (c + 1) hc]
theorem PI1.eq {n : Nat} {pl pl' o o' : Nat → Int} (h : ∀ j : Nat, j < n → o j = o' j) (hp : ∀ j : Nat, j ≤ n → pl j = pl' j) {i c : Nat} (hi : i < n) (hc : c + 1 < n) : PI1 pl o c i ↔ PI1 pl' o' c i := by
  unfold PI1
  rw [BT.eq h hi hc, hp i (by omega), hp (i + 1) (by omega), hp (c + 1) (by omega)]
theorem CR1.eq {n : Nat} {pl pl' o o' : Nat → Int} (h : ∀ j : Nat, j < n → o j = o' j) (hp : ∀ j : Nat, j ≤ n → pl j = pl' j) {i c : Nat} (hi : i + 1 < n) (hc : c + 1 < n) : CR1 pl o c i ↔ CR1 pl' o' c i := by
  unfold CR1
  rw [BT.eq h (show i < n by omega) hc, BT.eq h hi hc, hp (i + 1) (by omega), hp (c + 1) (by omega)]
theorem PSc.imp {n : Nat} {pl pl' o o' : Nat → Int} (h : ∀ j : Nat, j < n → o j = o' j) (hp : ∀ j : Nat, j ≤ n → pl j = pl' j) (k : PSc n pl o) : PSc n pl' o' := fun c hc => ⟨fun ⟨i, a, b⟩ => (k c hc).1 ⟨i, a, (PI1.eq h hp a hc).mpr b⟩, fun ⟨i, a, b, d, e⟩ => (k c hc).2 ⟨i, a, b, d, (CR1.eq h hp d hc).mpr e⟩⟩
theorem PSc.eq {n : Nat} {pl pl' o o' : Nat → Int} (h : ∀ j : Nat, j < n → o j = o' j) (hp : ∀ j : Nat, j ≤ n → pl j = pl' j) : PSc n pl o ↔ PSc n pl' o' := ⟨fun k => k.imp h hp, fun k => k.imp (fun j hj => (h j hj).symm) (fun j hj => (hp j hj).symm)⟩
theorem PSc.prp {n : Nat} {pl : Nat → Int} : PRP n (PSc n pl) := fun _ _ h => PSc.eq h (fun _ _ => rfl)
theorem PSm.imp {n : Nat} {pl pl' o o' : Nat → Int} (h : ∀ j : Nat, j < n → o j = o' j) (hp : ∀ j : Nat, j ≤ n → pl j = pl' j) (k : PSm n pl o) : PSm n pl' o' := by
  intro c hc q
  rcases q with ⟨i, a, b, d, e⟩ | ⟨i, a, b, d, e⟩
  · exact k c hc (Or.inl ⟨i, a, b, d, (PI1.eq h hp a hc).mpr e⟩)
  · exact k c hc (Or.inr ⟨i, a, b, d, (CR1.eq h hp d hc).mpr e⟩)
theorem PSm.eq {n : Nat} {pl pl' o o' : Nat → Int} (h : ∀ j : Nat, j < n → o j = o' j) (hp : ∀ j : Nat, j ≤ n → pl j = pl' j) : PSm n pl o ↔ PSm n pl' o' := ⟨fun k => k.imp h hp, fun k => k.imp (fun j hj => (h j hj).symm) (fun j hj => (hp j hj).symm)⟩
theorem PSm.prp {n : Nat} {pl : Nat → Int} : PRP n (PSm n pl) := fun _ _ h => PSm.eq h (fun _ _ => rfl)
theorem bt_sym {a b x y : Int} (h1 : ¬ a = b) (h2 : ¬ a = x) (h3 : ¬ a = y) (h4 : ¬ b = x) (h5 : ¬ b = y) (h6 : ¬ x = y) (h : ¬ ((min a b < x ∧ x < max a b) ↔ (min a b < y ∧ y < max a b))) : ¬ ((min x y < a ∧ a < max x y) ↔ (min x y < b ∧ b < max x y)) := by
  intro k
  apply h
  have m1 : (min a b = a ∧ max a b = b) ∨ (min a b = b ∧ max a b = a) := by omega
  have m2 : (min x y = x ∧ max x y = y) ∨ (min x y = y ∧ max x y = x) := by omega
  rcases m1 with ⟨p, q⟩ | ⟨p, q⟩ <;> rcases m2 with ⟨r, s⟩ | ⟨r, s⟩ <;> rw [p, q] <;> rw [r, s] at k <;> omega
def DIS (m : Nat) (o : Nat → Int) : Prop := ∀ i j : Nat, i < m → j < m → ¬ i = j → ¬ o i = o j
theorem PS_eq {n : Nat} {pl o : Nat → Int} (hd : DIS n o) : PSc n pl o ↔ PSm n pl o := by
  constructor
  · intro k c hc q
    rcases q with ⟨i, a, b, d, e⟩ | ⟨i, a, b, d, e⟩
    · exact (k c hc).1 ⟨i, a, e⟩
    · by_cases hlt : c < i
      · exact (k c hc).2 ⟨i, by omega, by omega, d, e⟩
      · refine (k i d).2 ⟨c, by omega, by omega, hc, e.1.symm, ?_⟩
        exact bt_sym (hd c (c + 1) (by omega) hc (by omega)) (hd c i (by omega) (by omega) (by omega)) (hd c (i + 1) (by omega) d (by omega)) (hd (c + 1) i hc (by omega) (by omega)) (hd (c + 1) (i + 1) hc d (by omega)) (hd i (i + 1) (by omega) d (by omega)) e.2
  · intro k c hc
    refine ⟨fun ⟨i, a, e⟩ => ?_, fun ⟨i, a, b, d, e⟩ => k c hc (Or.inr ⟨i, by omega, by omega, d, e⟩)⟩
    have e3 := e.2.2
    by_cases c1 : i = c
    · subst c1
      unfold BT at e3
      omega
    · by_cases c2 : i = c + 1
      · subst c2
        unfold BT at e3
        omega
      · exact k c hc (Or.inl ⟨i, a, c1, c2, e⟩)
theorem DIS.upd {cr : Nat → Int32} {o : Nat → Int} {p : Nat} {l : Int} (h : DIS p o) (hk : okO cr o p l) : DIS (p + 1) (updO o p l) := by
  intro i j hi hj hn
  by_cases e1 : i = p
  · subst e1
    rw [updO_at, updO_ne (fun q => hn q.symm)]
    exact fun q => hk.1 j (by omega) q.symm
  · by_cases e2 : j = p
    · subst e2
      rw [updO_at, updO_ne e1]
      exact hk.1 i (by omega)
    · rw [updO_ne e1, updO_ne e2]
      exact h i j (by omega) (by omega) hn
theorem gO_ps {A : Type} {W : SYM A} {n : Nat} {cr : Nat → Int32} {leaf leaf' : (Nat → Int) → A} (h : ∀ o : Nat → Int, DIS n o → leaf o = leaf' o) : ∀ (r : Nat) (o : Nat → Int), r ≤ n → DIS (n - r) o → gO W n (okO cr) leaf r o = gO W n (okO cr) leaf' r o := by
  intro r
  induction r with
  | zero => exact fun o _ hd => h o hd
  | succ r ih =>
    intro o hr hd
    have e : hO W (okO cr) o (n - (r + 1)) (gO W n (okO cr) leaf r) = hO W (okO cr) o (n - (r + 1)) (gO W n (okO cr) leaf' r) := by
      funext l
      unfold hO
      by_cases c : okO cr o (n - (r + 1)) l
      · rw [selO.yes c, selO.yes c, ih (updO o (n - (r + 1)) l) (by omega) (by
          have q := hd.upd c
          rw [show n - (r + 1) + 1 = n - r by omega] at q
          exact q)]
      · rw [selO.no c, selO.no c]
    show W.1 (prtO W.1 W.2.1 (hO W (okO cr) o (n - (r + 1)) (gO W n (okO cr) leaf r)) n 0) W.2.2.2 = W.1 (prtO W.1 W.2.1 (hO W (okO cr) o (n - (r + 1)) (gO W n (okO cr) leaf' r)) n 0) W.2.2.2
    rw [e]
theorem gO_eq {A : Type} {W : SYM A} {n : Nat} {cr cr' : Nat → Int32} {leaf leaf' : (Nat → Int) → A} (hc : ∀ j : Nat, j + 1 < n → cr j = cr' j) (h : ∀ o : Nat → Int, leaf o = leaf' o) : ∀ (r : Nat) (o : Nat → Int), r ≤ n → gO W n (okO cr) leaf r o = gO W n (okO cr') leaf' r o := by
  intro r
  induction r with
  | zero => exact fun o _ => h o
  | succ r ih =>
    intro o hr
    have e : hO W (okO cr) o (n - (r + 1)) (gO W n (okO cr) leaf r) = hO W (okO cr') o (n - (r + 1)) (gO W n (okO cr') leaf' r) := by
      funext l
      unfold hO
      rw [propext (okO.crs (o := o) (l := l) (fun hp => hc (n - (r + 1) - 1) (by omega))), ih (updO o (n - (r + 1)) l) (by omega)]
    show W.1 (prtO W.1 W.2.1 (hO W (okO cr) o (n - (r + 1)) (gO W n (okO cr) leaf r)) n 0) W.2.2.2 = W.1 (prtO W.1 W.2.1 (hO W (okO cr') o (n - (r + 1)) (gO W n (okO cr') leaf' r)) n 0) W.2.2.2
    rw [e]
/-! the search by turns: what has been found and what remains -/
noncomputable def sT (n : Nat) (cr : Nat → Int32) (ps : (Nat → Int) → Prop) : Int := gO Wc n (okO cr) (lfC ps) n (fun _ => 0)
noncomputable def sF (n : Nat) (cr : Nat → Int32) (ps : (Nat → Int) → Prop) : Option (Nat → Int) := gO Wf n (okO cr) (lfF1 n ps) n (fun _ => 0)
def SST (n : Nat) (cr : Nat → Int32) (ps : (Nat → Int) → Prop) (found i p : Int) (o : Nat → Int) : Prop := found + remO Wc n (okO cr) (lfC ps) p o = sT n cr ps ∧ i + remO Wt n (okO cr) lfT p o = gO Wt n (okO cr) lfT n (fun _ => 0) ∧ (found = 0 → remO Wf n (okO cr) (lfF1 n ps) p o = sF n cr ps)
theorem SST.start {n : Nat} {cr : Nat → Int32} {ps : (Nat → Int) → Prop} {o : Nat → Int} {f i p : Int} (hps : PRP n ps) (h0 : o 0 = -1) (hf : f = 0) (hi : i = 0) (hp : p = 0) : SST n cr ps f i p o := by
  subst hf hi hp
  have e1 := remO.start LAW.c (ok := okO cr) okO.pre (PRL.c hps) (o' := fun _ => 0) h0
  have e2 := remO.start LAW.t (ok := okO cr) okO.pre (PRL.t (n := n)) (o' := fun _ => 0) h0
  have e3 := remO.start LAW.f (ok := okO cr) okO.pre (PRL.f hps) (o' := fun _ => 0) h0
  refine ⟨?_, ?_, fun _ => e3⟩
  · rw [e1, Int.zero_add]
    rfl
  · rw [e2, Int.zero_add]
theorem SST.down {n p : Nat} {cr : Nat → Int32} {ps : (Nat → Int) → Prop} {f f' i i' q q' l : Int} {o o' : Nat → Int} (h : SST n cr ps f i q o) (hps : PRP n ps) (hq : q = p) (hp : p < n) (h0 : -1 ≤ o p) (h1 : o p < l) (h2 : l < n) (hok : okO cr o p l) (hno : ∀ m : Int, o p < m → m < l → ¬ okO cr o p m) (e0 : ∀ j : Nat, j < p → o' j = o j) (e1 : o' p = l) (e2 : p + 1 < n → o' (p + 1) = -1) (hf : f' = f) (hi : i' = i + 1) (hq' : q' = q + 1) : SST n cr ps f' i' q' o' := by
  subst hf hi hq' hq
  obtain ⟨a, b, c⟩ := h
  have d1 := remO.down LAW.c okO.pre (PRL.c hps) hp h0 h1 h2 hok hno e0 e1 e2
  have d2 := remO.down LAW.t okO.pre (PRL.t (n := n)) hp h0 h1 h2 hok hno e0 e1 e2
  have d3 := remO.down LAW.f okO.pre (PRL.f hps) hp h0 h1 h2 hok hno e0 e1 e2
  refine ⟨?_, ?_, fun z => ?_⟩
  · rw [← a, d1]
    show _ = f' + (0 + remO Wc n (okO cr) (lfC ps) ((p : Int) + 1) o')
    omega
  · rw [← b, d2]
    show _ = i + (1 + remO Wt n (okO cr) lfT ((p : Int) + 1) o')
    omega
  · rw [← c z, d3]
    rfl
theorem SST.up {n p : Nat} {cr : Nat → Int32} {ps : (Nat → Int) → Prop} {f f' i i' q q' : Int} {o : Nat → Int} (h : SST n cr ps f i q o) (hq : q = p) (hp : p < n) (h0 : -1 ≤ o p) (hno : ∀ m : Int, o p < m → m < n → ¬ okO cr o p m) (hf : f' = f) (hi : i' = i + 1) (hq' : q' = q - 1) : SST n cr ps f' i' q' o := by
  subst hf hi hq' hq
  obtain ⟨a, b, c⟩ := h
  have d1 := remO.up LAW.c (leaf := lfC ps) hp h0 hno
  have d2 := remO.up LAW.t (leaf := lfT) hp h0 hno
  have d3 := remO.up LAW.f (leaf := lfF1 n ps) hp h0 hno
  refine ⟨?_, ?_, fun z => ?_⟩
  · rw [← a, d1]
    show _ = f' + (0 + remO Wc n (okO cr) (lfC ps) ((p : Int) - 1) o)
    omega
  · rw [← b, d2]
    show _ = i + (1 + remO Wt n (okO cr) lfT ((p : Int) - 1) o)
    omega
  · rw [← c z, d3]
    rfl
theorem SST.no {n : Nat} {cr : Nat → Int32} {ps : (Nat → Int) → Prop} {f f' i i' q q' : Int} {o : Nat → Int} (h : SST n cr ps f i q o) (hq : q = n) (hps : ¬ ps o) (hf : f' = f) (hi : i' = i + 1) (hq' : q' = q - 1) : SST n cr ps f' i' q' o := by
  subst hf hi hq' hq
  obtain ⟨a, b, c⟩ := h
  refine ⟨?_, ?_, fun z => ?_⟩
  · rw [← a, remO.leaf, show lfC ps o = 0 from selO.no hps]
    show _ = f' + (0 + remO Wc n (okO cr) (lfC ps) ((n : Int) - 1) o)
    omega
  · rw [← b, remO.leaf]
    show _ = i + (1 + remO Wt n (okO cr) lfT ((n : Int) - 1) o)
    omega
  · rw [← c z, remO.leaf, show lfF1 n ps o = none from selO.no hps]
    rfl
theorem SST.yes {n : Nat} {cr : Nat → Int32} {ps : (Nat → Int) → Prop} {f f' i i' q q' : Int} {o : Nat → Int} (h : SST n cr ps f i q o) (hq : q = n) (hps : ps o) (h0 : 0 ≤ f) (hf : f' = f + 1) (hi : i' = i + 1) (hq' : q' = q - 1) : SST n cr ps f' i' q' o := by
  subst hf hi hq' hq
  obtain ⟨a, b, c⟩ := h
  refine ⟨?_, ?_, fun z => by omega⟩
  · rw [← a, remO.leaf, show lfC ps o = 1 from selO.yes hps]
    show _ = f + (1 + remO Wc n (okO cr) (lfC ps) ((n : Int) - 1) o)
    omega
  · rw [← b, remO.leaf]
    show _ = i + (1 + remO Wt n (okO cr) lfT ((n : Int) - 1) o)
    omega
theorem SST.fin {n : Nat} {cr : Nat → Int32} {ps : (Nat → Int) → Prop} {f i q : Int} {o : Nat → Int} (h : SST n cr ps f i q o) (hq : q = -1) : f = sT n cr ps := by
  subst hq
  have a := h.1
  rw [remO.stop] at a
  have a : f + 0 = sT n cr ps := a
  omega
theorem lfC_nn {ps : (Nat → Int) → Prop} (o : Nat → Int) : 0 ≤ lfC ps o := by
  unfold lfC
  by_cases c : ps o
  · rw [selO.yes c]
    decide
  · rw [selO.no c]
    decide
theorem SST.hit {n : Nat} {cr : Nat → Int32} {ps : (Nat → Int) → Prop} {f i q : Int} {o : Nat → Int} (h : SST n cr ps f i q o) (hq : q = n) (hps : ps o) : f + 1 ≤ sT n cr ps ∧ (f = 0 → sF n cr ps = some (trO n o)) := by
  subst hq
  obtain ⟨a, b, c⟩ := h
  constructor
  · rw [remO_nn, show lfC ps o = 1 from selO.yes hps] at a
    have a : f + (1 + accO Wc n (okO cr) (lfC ps) n o) = sT n cr ps := a
    have nn := accO_nonneg (W := Wc) (ok := okO cr) (leaf := lfC ps) (n := n) rfl rfl (by decide) (by decide) lfC_nn n o
    omega
  · intro z
    rw [← c z, remO_nn, show lfF1 n ps o = some (trO n o) from selO.yes hps]
    rfl
theorem SST.bnd {n : Nat} {cr : Nat → Int32} {ps : (Nat → Int) → Prop} {f i q : Int} {o : Nat → Int} (h : SST n cr ps f i q o) (h7 : n ≤ 7) : i ≤ 783819 := by
  have b := h.2.1
  have t := turns_all (ok := okO cr) h7 okO.ne (fun _ => 0)
  have nn : 0 ≤ remO Wt n (okO cr) lfT q o := by
    unfold remO
    split
    · have := accO_nonneg (W := Wt) (ok := okO cr) (leaf := lfT) (n := n) rfl rfl (by decide) (by decide) (fun _ => by show (0 : Int) ≤ 1; decide) n o
      show 0 ≤ 1 + accO Wt n (okO cr) lfT n o
      omega
    · exact accO_nonneg (W := Wt) (ok := okO cr) (leaf := lfT) (n := n) rfl rfl (by decide) (by decide) (fun _ => by show (0 : Int) ≤ 1; decide) _ o
  omega
theorem sT_le {n : Nat} {cr : Nat → Int32} {ps : (Nat → Int) → Prop} (h7 : n ≤ 7) : sT n cr ps ≤ 783819 := Int.le_trans (cnt_turns n _) (turns_all h7 okO.ne _)
theorem sT_nn {n : Nat} {cr : Nat → Int32} {ps : (Nat → Int) → Prop} : 0 ≤ sT n cr ps := gO_nonneg (W := Wc) rfl rfl (by decide) (by decide) lfC_nn n _
/-- the class's layers, the reference's -/
abbrev oL (P : mP) : Nat → Int := fun j => (fv P 295 j).toInt
abbrev pL (P : mP) : Nat → Int := fun j => (fv P 296 j).toInt
abbrev cL (P : mP) : Nat → Int32 := fun j => fv P 297 j
abbrev nL (P : mP) : Nat := (fv P 294 0).toInt.toNat
def NXL (P : mP) (p : Nat) (x : Int) : Prop := (x = -1 ∧ ∀ l : Int, oL P p < l → l < nL P → ¬ okO (cL P) (oL P) p l) ∨ (oL P p < x ∧ x < nL P ∧ okO (cL P) (oL P) p x ∧ ∀ l : Int, oL P p < l → l < x → ¬ okO (cL P) (oL P) p l)
theorem bt_iff {x y : Int} {p q : Prop} (h : (x = 1 ∧ p) ∨ (x = 0 ∧ ¬ p)) (k : (y = 1 ∧ q) ∨ (y = 0 ∧ ¬ q)) (e : x = y) : p ↔ q := by
  rcases h with ⟨a, b⟩ | ⟨a, b⟩ <;> rcases k with ⟨c, d⟩ | ⟨c, d⟩
  · exact ⟨fun _ => d, fun _ => b⟩
  · omega
  · omega
  · exact ⟨fun z => absurd z b, fun z => absurd z d⟩
theorem bt_niff {x y : Int} {p q : Prop} (h : (x = 1 ∧ p) ∨ (x = 0 ∧ ¬ p)) (k : (y = 1 ∧ q) ∨ (y = 0 ∧ ¬ q)) (e : ¬ x = y) : ¬ (p ↔ q) := by
  rcases h with ⟨a, b⟩ | ⟨a, b⟩ <;> rcases k with ⟨c, d⟩ | ⟨c, d⟩
  · omega
  · exact fun z => d (z.mp b)
  · exact fun z => b (z.mpr d)
  · omega
/-- the piece at b as a strip whose layers are searched -/
abbrev nP (P : mP) (b : Nat) : Nat := (min (fv P b 1).toInt 7).toNat
abbrev cP (P : mP) (b : Nat) : Nat → Int32 := fun j => fv P (b + 2) j
abbrev pP (P : mP) (b : Nat) : Nat → Int := fun j => (plF (fun j : Nat => fv P (b + 1) j) j).toInt
abbrev psP (P : mP) (b : Nat) : (Nat → Int) → Prop := PSc (nP P b) (pP P b)
def SRC (P Q : mP) (b : Nat) (lim x : Int) : Prop := (x < lim ∧ x = sT (nP P b) (cP P b) (psP P b) ∧ 0 ≤ x) ∨ (x = lim ∧ lim ≤ sT (nP P b) (cP P b) (psP P b) ∧ (lim = 1 → ∃ f : Nat → Int, sF (nP P b) (cP P b) (psP P b) = some f ∧ ∀ j : Nat, j < nP P b → (fv Q 295 j).toInt = f j))
abbrev oM (P : mP) : Nat → Int := fun j => (fv P 310 j).toInt
abbrev pM (P : mP) : Nat → Int := fun j => (fv P 312 j).toInt
abbrev nM (P : mP) : Nat := (fv P 301 20).toInt.toNat
abbrev crM (P : mP) : Nat → Int32 := fun j => fv P 302 (14 + 19 * (fv P 301 19).toInt.toNat + j)
abbrev psM (P : mP) : (Nat → Int) → Prop := PSm (nM P) (pM P)
def TKN (P : mP) (p : Nat) : Prop := ∀ l : Nat, l < 7 → ((fv P 313 l).toInt = 1 ↔ ∃ j : Nat, j < p ∧ (fv P 310 j).toInt = l)
/-- the first one found is kept -/
def FLr (f0 : Int) (F : Option (Nat → Int)) (n : Nat) (A B : Nat → Int32) : Prop := (f0 = 0 ∧ ∃ f : Nat → Int, F = some f ∧ ∀ j : Nat, j < n → (B j).toInt = f j) ∨ ((¬ f0 = 0 ∨ F = none) ∧ ∀ j : Nat, B j = A j)
theorem FLr.refl {f0 : Int} {n : Nat} {A : Nat → Int32} : FLr f0 none n A A := Or.inr ⟨Or.inr rfl, fun _ => rfl⟩
theorem FLr.trans {f0 f1 c : Int} {F G : Option (Nat → Int)} {n : Nat} {A B C : Nat → Int32} (h : FLr f0 F n A B) (k : FLr f1 G n B C) (e : f1 = f0 + c) (h0 : 0 ≤ f0) (hc : CF1 c F) : FLr f0 (orE F G) n A C := by
  rcases h with ⟨a, f, b, d⟩ | ⟨a, b⟩
  · subst b
    refine Or.inl ⟨a, f, rfl, fun j hj => ?_⟩
    have c1 : ¬ f1 = 0 := by
      rcases hc with ⟨q, z⟩ | ⟨q, -⟩
      · cases z
      · omega
    rcases k with ⟨k1, -⟩ | ⟨-, k2⟩
    · exact absurd k1 c1
    · rw [k2 j]
      exact d j hj
  · by_cases z : f0 = 0
    · have hF : F = none := a.resolve_left (fun q => q z)
      subst hF
      have c0 : c = 0 := by
        rcases hc with ⟨q, -⟩ | ⟨-, o, q⟩
        · exact q
        · cases q
      have f10 : f1 = 0 := by omega
      rcases k with ⟨k1, f, k2, k3⟩ | ⟨k1, k2⟩
      · exact Or.inl ⟨z, f, k2, k3⟩
      · exact Or.inr ⟨Or.inr (k1.resolve_left (fun q => q f10)), fun j => (k2 j).trans (b j)⟩
    · have f10 : ¬ f1 = 0 := by
        rcases hc with ⟨q, -⟩ | ⟨q, -⟩ <;> omega
      rcases k with ⟨k1, -⟩ | ⟨-, k2⟩
      · exact absurd k1 f10
      · exact Or.inr ⟨Or.inl z, fun j => (k2 j).trans (b j)⟩
noncomputable def gMc (P : mP) (r : Nat) (o : Nat → Int) : Int := gO Wc (nM P) (okO (crM P)) (lfC (psM P)) r o
noncomputable def gMf (P : mP) (r : Nat) (o : Nat → Int) : Option (Nat → Int) := gO Wf (nM P) (okO (crM P)) (lfF1 (nM P) (psM P)) r o
theorem gMc.nn {P : mP} {r : Nat} {o : Nat → Int} : 0 ≤ gMc P r o := gO_nonneg (W := Wc) rfl rfl (by decide) (by decide) lfC_nn r o
/-- what gives does from panel p on, r panels being left -/
def GVP (P Q : mP) (p r : Nat) : Prop := (fv Q 301 21).toInt = (fv P 301 21).toInt + gMc P r (oM P) ∧ (∀ j : Nat, j < p → fv Q 310 j = fv P 310 j) ∧ (∀ l : Nat, l < 7 → fv Q 313 l = fv P 313 l) ∧ FLr (fv P 301 21).toInt (gMf P r (oM P)) (nM P) (fun j => fv P 311 j) (fun j => fv Q 311 j)
/-- the same pieces, places and panels -/
def SMV (P Q : mP) : Prop := (fv Q 301 19).toInt = (fv P 301 19).toInt ∧ (fv Q 301 20).toInt = (fv P 301 20).toInt ∧ (∀ j : Nat, fv Q 302 j = fv P 302 j) ∧ ∀ j : Nat, fv Q 312 j = fv P 312 j
theorem SMV.fns {P Q : mP} (h : SMV P Q) : nM Q = nM P ∧ crM Q = crM P ∧ pM Q = pM P := by
  obtain ⟨a, b, c, d⟩ := h
  refine ⟨?_, ?_, ?_⟩
  · show (fv Q 301 20).toInt.toNat = (fv P 301 20).toInt.toNat
    rw [b]
  · funext j
    show fv Q 302 (14 + 19 * (fv Q 301 19).toInt.toNat + j) = fv P 302 (14 + 19 * (fv P 301 19).toInt.toNat + j)
    rw [a, c]
  · funext j
    show (fv Q 312 j).toInt = (fv P 312 j).toInt
    rw [d]
theorem SMV.g {P Q : mP} (h : SMV P Q) {r : Nat} {o o' : Nat → Int} (hr : r ≤ nM P) (e : ∀ j : Nat, j < nM P - r → o j = o' j) : gMc Q r o = gMc P r o' ∧ gMf Q r o = gMf P r o' := by
  obtain ⟨a, b, c⟩ := h.fns
  have e1 : gMc Q r o = gMc P r o := by
    unfold gMc psM
    rw [a, b, c]
  have e2 : gMf Q r o = gMf P r o := by
    unfold gMf psM
    rw [a, b, c]
  rw [e1, e2]
  exact ⟨gO_congr okO.pre (PRL.c PSm.prp) r o o' hr e, gO_congr okO.pre (PRL.f PSm.prp) r o o' hr e⟩
theorem TKN.same {P Q : mP} {p : Nat} (h : TKN P p) (a : ∀ j : Nat, j < p → fv Q 310 j = fv P 310 j) (b : ∀ l : Nat, l < 7 → fv Q 313 l = fv P 313 l) : TKN Q p := by
  intro l hl
  rw [b l hl, h l hl]
  exact ⟨fun ⟨j, h1, h2⟩ => ⟨j, h1, by rw [a j h1]; exact h2⟩, fun ⟨j, h1, h2⟩ => ⟨j, h1, by rw [← a j h1]; exact h2⟩⟩
theorem TKN.add {P Q : mP} {p a : Nat} (h : TKN P p) (t1 : (fv Q 313 a).toInt = 1) (t2 : ∀ l : Nat, ¬ l = a → fv Q 313 l = fv P 313 l) (o1 : (fv Q 310 p).toInt = a) (o2 : ∀ j : Nat, ¬ j = p → fv Q 310 j = fv P 310 j) : TKN Q (p + 1) := by
  intro l hl
  by_cases e : l = a
  · subst e
    exact ⟨fun _ => ⟨p, by omega, o1⟩, fun _ => t1⟩
  · rw [t2 l e, h l hl]
    constructor
    · rintro ⟨j, h1, h2⟩
      exact ⟨j, by omega, by rw [o2 j (by omega)]; exact h2⟩
    · rintro ⟨j, h1, h2⟩
      by_cases ej : j = p
      · subst ej
        omega
      · exact ⟨j, by omega, by rw [← o2 j ej]; exact h2⟩
noncomputable def hMc (P : mP) (p r : Nat) : Int → Int := hO Wc (okO (crM P)) (oM P) p (gO Wc (nM P) (okO (crM P)) (lfC (psM P)) r)
noncomputable def hMf (P : mP) (p r : Nat) : Int → Option (Nat → Int) := hO Wf (okO (crM P)) (oM P) p (gO Wf (nM P) (okO (crM P)) (lfF1 (nM P) (psM P)) r)
theorem hMc.nn {P : mP} {p r : Nat} (m : Int) : 0 ≤ hMc P p r m := by
  unfold hMc hO
  by_cases c : okO (crM P) (oM P) p m
  · rw [selO.yes c]
    have := gMc.nn (P := P) (r := r) (o := updO (oM P) p m)
    show 0 ≤ 0 + gMc P r (updO (oM P) p m)
    omega
  · rw [selO.no c]
    exact Int.le_refl 0
theorem hM.cf {P : mP} {p r : Nat} (m : Int) : CF1 (hMc P p r m) (hMf P p r m) := by
  unfold hMc hMf hO
  by_cases c : okO (crM P) (oM P) p m
  · rw [selO.yes c, selO.yes c]
    exact CF1.add (c := 0) (f := none) (Or.inl ⟨rfl, rfl⟩) (CF1.g r (updO (oM P) p m))
  · rw [selO.no c, selO.no c]
    exact Or.inl ⟨rfl, rfl⟩
theorem prt_part {F : Int → Int} (hF : ∀ m : Int, 0 ≤ F m) {k n : Nat} (h : k ≤ n) : prtO Wc.1 Wc.2.1 F k 0 ≤ prtO Wc.1 Wc.2.1 F n 0 := by
  induction n with
  | zero =>
    rw [show k = 0 by omega]
    exact Int.le_refl _
  | succ n ih =>
    by_cases e : k = n + 1
    · rw [e]
      exact Int.le_refl _
    · have h1 := ih (by omega)
      rw [prtO_snoc LAW.c n 0]
      have h2 := hF (0 + n)
      show _ ≤ prtO Wc.1 Wc.2.1 F n 0 + F (0 + n)
      omega
/-- the loop over a panel's layers: k of them are done -/
def GI (Po P : mP) (p r k : Nat) : Prop := (fv P 301 21).toInt = (fv Po 301 21).toInt + prtO Wc.1 Wc.2.1 (hMc Po p r) k 0 ∧ (∀ j : Nat, j < p → fv P 310 j = fv Po 310 j) ∧ (∀ l : Nat, l < 7 → fv P 313 l = fv Po 313 l) ∧ FLr (fv Po 301 21).toInt (prtO Wf.1 Wf.2.1 (hMf Po p r) k 0) (nM Po) (fun j => fv Po 311 j) (fun j => fv P 311 j) ∧ SMV Po P
theorem SMV.refl {P : mP} : SMV P P := ⟨rfl, rfl, fun _ => rfl, fun _ => rfl⟩
theorem SMV.trans {P Q R : mP} (h : SMV P Q) (k : SMV Q R) : SMV P R := ⟨k.1.trans h.1, k.2.1.trans h.2.1, fun j => (k.2.2.1 j).trans (h.2.2.1 j), fun j => (k.2.2.2 j).trans (h.2.2.2 j)⟩
theorem GI.start {Po : mP} {p r k : Nat} (hk : k = 0) : GI Po Po p r k := by
  subst hk
  exact ⟨(Int.add_zero _).symm, fun _ _ => rfl, fun _ _ => rfl, FLr.refl, SMV.refl⟩
theorem GI.skip {Po P : mP} {p r k j : Nat} (h : GI Po P p r k) (hn : ¬ okO (crM Po) (oM Po) p (k : Int)) (hj : j = k + 1) : GI Po P p r j := by
  subst hj
  obtain ⟨a, b, c, d, e⟩ := h
  have h1 : hMc Po p r (0 + k) = 0 := by
    rw [Int.zero_add]
    exact selO.no hn
  have h2 : hMf Po p r (0 + k) = none := by
    rw [Int.zero_add]
    exact selO.no hn
  refine ⟨?_, b, c, ?_, e⟩
  · rw [a, prtO_snoc LAW.c k 0, h1]
    show _ = _ + (prtO Wc.1 Wc.2.1 (hMc Po p r) k 0 + 0)
    omega
  · rw [prtO_snoc LAW.f k 0, h2]
    rw [show Wf.1 (prtO Wf.1 Wf.2.1 (hMf Po p r) k 0) none = prtO Wf.1 Wf.2.1 (hMf Po p r) k 0 from LAW.f.2.1 _]
    exact d
theorem GI.val {Po : mP} {p r k : Nat} (hok : okO (crM Po) (oM Po) p (k : Int)) : hMc Po p r (0 + k) = gMc Po r (updO (oM Po) p k) ∧ hMf Po p r (0 + k) = gMf Po r (updO (oM Po) p k) := by
  rw [Int.zero_add]
  constructor
  · rw [show hMc Po p r (k : Int) = 0 + gMc Po r (updO (oM Po) p k) from selO.yes hok]
    omega
  · rw [show hMf Po p r (k : Int) = gMf Po r (updO (oM Po) p k) from selO.yes hok]
theorem GI.g2 {Po P P2 : mP} {p r k : Nat} (h : GI Po P p r k) (hp : p + 1 + r = nM Po) (o1 : (fv P2 310 p).toInt = k) (o2 : ∀ j : Nat, ¬ j = p → fv P2 310 j = fv P 310 j) (s2 : SMV P P2) : gMc P2 r (oM P2) = gMc Po r (updO (oM Po) p k) ∧ gMf P2 r (oM P2) = gMf Po r (updO (oM Po) p k) := by
  refine (h.2.2.2.2.trans s2).g (by omega) (fun j hj => ?_)
  by_cases e : j = p
  · subst e
    rw [updO_at]
    exact o1
  · rw [updO_ne e]
    show (fv P2 310 j).toInt = (fv Po 310 j).toInt
    rw [o2 j e, h.2.1 j (by omega)]
theorem GI.full {Po : mP} {p r : Nat} (hp : p + 1 + r = nM Po) : gMc Po (r + 1) (oM Po) = prtO Wc.1 Wc.2.1 (hMc Po p r) (nM Po) 0 ∧ gMf Po (r + 1) (oM Po) = prtO Wf.1 Wf.2.1 (hMf Po p r) (nM Po) 0 := by
  have e : nM Po - (r + 1) = p := by omega
  constructor
  · show prtO Wc.1 Wc.2.1 (hO Wc (okO (crM Po)) (oM Po) (nM Po - (r + 1)) (gO Wc (nM Po) (okO (crM Po)) (lfC (psM Po)) r)) (nM Po) 0 + 0 = _
    rw [e, Int.add_zero]
    rfl
  · show Wf.1 (prtO Wf.1 Wf.2.1 (hO Wf (okO (crM Po)) (oM Po) (nM Po - (r + 1)) (gO Wf (nM Po) (okO (crM Po)) (lfF1 (nM Po) (psM Po)) r)) (nM Po) 0) Wf.2.1 = _
    rw [LAW.f.2.1, e]
    rfl
theorem GI.bnd {Po P P2 : mP} {p r k : Nat} (h : GI Po P p r k) (hok : okO (crM Po) (oM Po) p (k : Int)) (hk : k < nM Po) (hp : p + 1 + r = nM Po) (o1 : (fv P2 310 p).toInt = k) (o2 : ∀ j : Nat, ¬ j = p → fv P2 310 j = fv P 310 j) (s2 : SMV P P2) (f2 : (fv P2 301 21).toInt = (fv P 301 21).toInt) : 0 ≤ (fv P 301 21).toInt - (fv Po 301 21).toInt ∧ (fv P2 301 21).toInt + gMc P2 r (oM P2) ≤ (fv Po 301 21).toInt + gMc Po (r + 1) (oM Po) := by
  have h1 := prt_part (F := hMc Po p r) hMc.nn (show k + 1 ≤ nM Po by omega)
  have h0 := prt_part (F := hMc Po p r) hMc.nn (Nat.zero_le k)
  have h0 : (0 : Int) ≤ prtO Wc.1 Wc.2.1 (hMc Po p r) k 0 := h0
  rw [prtO_snoc LAW.c k 0, (GI.val hok).1] at h1
  have h1 : prtO Wc.1 Wc.2.1 (hMc Po p r) k 0 + gMc Po r (updO (oM Po) p k) ≤ prtO Wc.1 Wc.2.1 (hMc Po p r) (nM Po) 0 := h1
  rw [(h.g2 hp o1 o2 s2).1, (GI.full hp).1]
  have a := h.1
  omega
theorem GI.go {Po P P2 P3 P4 : mP} {p r k j : Nat} (h : GI Po P p r k) (hok : okO (crM Po) (oM Po) p (k : Int)) (hp : p + 1 + r = nM Po) (h0 : 0 ≤ (fv Po 301 21).toInt) (o1 : (fv P2 310 p).toInt = k) (o2 : ∀ j : Nat, ¬ j = p → fv P2 310 j = fv P 310 j) (s2 : SMV P P2) (f2 : (fv P2 301 21).toInt = (fv P 301 21).toInt) (u2 : ∀ j : Nat, fv P2 311 j = fv P 311 j) (t2 : ∀ l : Nat, ¬ l = k → fv P2 313 l = fv P 313 l)
    (g : GVP P2 P3 (p + 1) r) (s3 : SMV P2 P3) (f4 : (fv P4 301 21).toInt = (fv P3 301 21).toInt) (o4 : ∀ j : Nat, fv P4 310 j = fv P3 310 j) (u4 : ∀ j : Nat, fv P4 311 j = fv P3 311 j) (t4 : ∀ l : Nat, ¬ l = k → fv P4 313 l = fv P3 313 l) (t5 : fv P4 313 k = fv Po 313 k) (s4 : SMV P3 P4) (hj : j = k + 1) : GI Po P4 p r j := by
  subst hj
  have e2 := h.g2 hp o1 o2 s2
  have ev := GI.val (r := r) hok
  have sn := (h.2.2.2.2.trans s2).fns
  obtain ⟨a, b, c, d, e⟩ := h
  obtain ⟨g1, g2, g3, g4⟩ := g
  rw [e2.1] at g1
  rw [e2.2, sn.1] at g4
  refine ⟨?_, fun j hj => ?_, fun l hl => ?_, ?_, ((e.trans s2).trans s3).trans s4⟩
  · rw [prtO_snoc LAW.c k 0, ev.1]
    show _ = _ + (prtO Wc.1 Wc.2.1 (hMc Po p r) k 0 + gMc Po r (updO (oM Po) p k))
    omega
  · rw [o4, g2 j (by omega), o2 j (by omega), b j hj]
  · by_cases el : l = k
    · subst el
      exact t5
    · rw [t4 l el, g3 l hl, t2 l el, c l hl]
  · rw [prtO_snoc LAW.f k 0, ev.2]
    have g4' : FLr (fv P 301 21).toInt (gMf Po r (updO (oM Po) p k)) (nM Po) (fun j => fv P 311 j) (fun j => fv P4 311 j) := by
      rw [← f2, show (fun j => fv P 311 j) = fun j => fv P2 311 j from funext (fun j => (u2 j).symm), show (fun j => fv P4 311 j) = fun j => fv P3 311 j from funext u4]
      exact g4
    exact d.trans g4' a h0 (CF1.prt k 0 hM.cf)
theorem GI.fin {Po P : mP} {p r k : Nat} (h : GI Po P p r k) (hk : k = nM Po) (hp : p + 1 + r = nM Po) : GVP Po P p (r + 1) := by
  subst hk
  obtain ⟨a, b, c, d, e⟩ := h
  refine ⟨?_, b, c, ?_⟩
  · rw [(GI.full hp).1]
    exact a
  · rw [(GI.full hp).2]
    exact d
theorem GVP.leaf0 {P : mP} {p : Nat} (h : ¬ psM P (oM P)) : GVP P P p 0 := by
  refine ⟨?_, fun _ _ => rfl, fun _ _ => rfl, ?_⟩
  · rw [show gMc P 0 (oM P) = 0 from selO.no h]
    omega
  · rw [show gMf P 0 (oM P) = none from selO.no h]
    exact FLr.refl
theorem GVP.leaf1 {P Q : mP} {p : Nat} (h : psM P (oM P)) (f : (fv Q 301 21).toInt = (fv P 301 21).toInt + 1) (o : ∀ j : Nat, fv Q 310 j = fv P 310 j) (t : ∀ l : Nat, fv Q 313 l = fv P 313 l) (u : ((fv P 301 21).toInt = 0 ∧ ∀ j : Nat, j < nM P → fv Q 311 j = fv P 310 j) ∨ (¬ (fv P 301 21).toInt = 0 ∧ ∀ j : Nat, fv Q 311 j = fv P 311 j)) : GVP P Q p 0 := by
  refine ⟨?_, fun j _ => o j, fun l _ => t l, ?_⟩
  · rw [show gMc P 0 (oM P) = 1 from selO.yes h]
    exact f
  · rw [show gMf P 0 (oM P) = some (trO (nM P) (oM P)) from selO.yes h]
    rcases u with ⟨a, b⟩ | ⟨a, b⟩
    · refine Or.inl ⟨a, _, rfl, fun j hj => ?_⟩
      show (fv Q 311 j).toInt = _
      rw [b j hj]
      exact (if_pos hj).symm
    · exact Or.inr ⟨Or.inl a, b⟩
/-- what the reference says of the orders of piece p -/
def ORD (P Q : mP) (p : Nat) (x : Int) : Prop := x = sT (fv P 302 (4 + 19 * p)).toInt.toNat (fun j => fv P 302 (14 + 19 * p + j)) (PSm (fv P 302 (4 + 19 * p)).toInt.toNat (fun j => (plF (fun j : Nat => fv P 302 (6 + 19 * p + j)) j).toInt)) ∧ (∀ l : Nat, l < 7 → fv Q 313 l = fv P 313 l) ∧ (1 ≤ x → ∃ f : Nat → Int, sF (fv P 302 (4 + 19 * p)).toInt.toNat (fun j => fv P 302 (14 + 19 * p + j)) (PSm (fv P 302 (4 + 19 * p)).toInt.toNat (fun j => (plF (fun j : Nat => fv P 302 (6 + 19 * p + j)) j).toInt)) = some f ∧ ∀ j : Nat, j < (fv P 302 (4 + 19 * p)).toInt.toNat → (fv Q 311 j).toInt = f j)
theorem ORD.of {Po P Q : mP} {p n : Nat} (hn : n = (fv Po 302 (4 + 19 * p)).toInt.toNat) (h20 : (fv P 301 20).toInt.toNat = n) (h19 : (fv P 301 19).toInt.toNat = p) (h302 : ∀ j : Nat, fv P 302 j = fv Po 302 j) (h312 : ∀ j : Nat, j ≤ n → (fv P 312 j).toInt = (plF (fun j : Nat => fv Po 302 (6 + 19 * p + j)) j).toInt) (h21 : (fv P 301 21).toInt = 0) (t : ∀ l : Nat, l < 7 → fv P 313 l = fv Po 313 l) (g : GVP P Q 0 n) : ORD Po Q p (fv Q 301 21).toInt := by
  obtain ⟨g1, g2, g3, g4⟩ := g
  have enM : nM P = n := h20
  have ec : ∀ j : Nat, j + 1 < n → crM P j = fv Po 302 (14 + 19 * p + j) := fun j _ => by
    show fv P 302 (14 + 19 * (fv P 301 19).toInt.toNat + j) = _
    rw [h19, h302]
  have eps : ∀ o : Nat → Int, psM P o ↔ PSm n (fun j => (plF (fun j : Nat => fv Po 302 (6 + 19 * p + j)) j).toInt) o := fun o => by
    show PSm (nM P) (pM P) o ↔ _
    rw [enM]
    exact PSm.eq (fun _ _ => rfl) h312
  have e1 : gMc P n (oM P) = sT n (fun j => fv Po 302 (14 + 19 * p + j)) (PSm n (fun j => (plF (fun j : Nat => fv Po 302 (6 + 19 * p + j)) j).toInt)) := by
    unfold gMc sT
    rw [enM, gO_congr okO.pre (PRL.c (fun o o' h => by rw [eps, eps]; exact PSm.prp o o' h)) n (oM P) (fun _ => 0) (Nat.le_refl n) (fun j hj => by omega)]
    exact gO_eq ec (fun o => by unfold lfC; rw [propext (eps o)]) n _ (Nat.le_refl n)
  have e2 : gMf P n (oM P) = sF n (fun j => fv Po 302 (14 + 19 * p + j)) (PSm n (fun j => (plF (fun j : Nat => fv Po 302 (6 + 19 * p + j)) j).toInt)) := by
    unfold gMf sF
    rw [enM, gO_congr okO.pre (PRL.f (fun o o' h => by rw [eps, eps]; exact PSm.prp o o' h)) n (oM P) (fun _ => 0) (Nat.le_refl n) (fun j hj => by omega)]
    exact gO_eq ec (fun o => by unfold lfF1; rw [propext (eps o)]) n _ (Nat.le_refl n)
  subst hn
  refine ⟨by rw [g1, h21, e1, Int.zero_add], fun l hl => (g3 l hl).trans (t l hl), fun hx => ?_⟩
  rw [h21, e2, enM] at g4
  rcases g4 with ⟨-, f, a, b⟩ | ⟨a, -⟩
  · exact ⟨f, a, b⟩
  · have a := a.resolve_left (fun q => q rfl)
    have cf := CF1.g (n := (fv Po 302 (4 + 19 * p)).toInt.toNat) (ok := okO (fun j => fv Po 302 (14 + 19 * p + j))) (ps := PSm (fv Po 302 (4 + 19 * p)).toInt.toNat (fun j => (plF (fun j : Nat => fv Po 302 (6 + 19 * p + j)) j).toInt)) (fv Po 302 (4 + 19 * p)).toInt.toNat (fun _ => 0)
    rcases cf with ⟨c1, -⟩ | ⟨-, o, c2⟩
    · have g1 : (fv Q 301 21).toInt = 0 + 0 := by
        rw [g1, h21, e1]
        exact congrArg (fun z : Int => 0 + z) c1
      omega
    · exact absurd ((show sF _ _ _ = some o from c2).symm.trans a) (by intro z; cases z)
theorem gM_le {P : mP} {n : Nat} (h7 : n ≤ 7) (h20 : (fv P 301 20).toInt.toNat = n) : gMc P n (oM P) ≤ 783819 := by
  have enM : nM P = n := h20
  unfold gMc
  rw [enM]
  exact Int.le_trans (cnt_turns n _) (turns_all h7 okO.ne _)
def stagesM (s s' : Nat → Int32) (X a1 : Int) : Prop := (X = -1002 ∧ (a1 < 1 ∨ 99 < a1) ∧ (∀ j : Nat, s' j = s j)) ∨ (X = -1003 ∧ (1 ≤ a1 ∧ a1 ≤ 99) ∧ a1 < (smF (fun k : Nat => wpM s k) ((s (0)).toInt).toNat).toInt ∧ (∀ j : Nat, s' j = s j)) ∨ ((1 ≤ a1 ∧ a1 ≤ 99) ∧ (smF (fun k : Nat => wpM s k) ((s (0)).toInt).toNat).toInt ≤ a1 ∧ X = (s (1)).toInt ∧ (s' (1)).toInt = a1 ∧ (∀ j : Nat, ¬ j = 1 → s' j = s j))
def unfoldsM (s s' : Nat → Int32) (X a1 : Int) : Prop := (X = -1001 ∧ (a1 < 0 ∨ (s (0)).toInt ≤ a1) ∧ (∀ j : Nat, s' j = s j)) ∨ (X = -1003 ∧ (0 ≤ a1 ∧ a1 + 1 ≤ (s (0)).toInt ∧ a1 ≤ 7) ∧ ¬ (s (5 + 19 * a1.toNat)).toInt = 1 ∧ (∀ j : Nat, s' j = s j)) ∨ ((0 ≤ a1 ∧ a1 + 1 ≤ (s (0)).toInt ∧ a1 ≤ 7) ∧ (s (5 + 19 * a1.toNat)).toInt = 1 ∧ X = (s 1 - smF (fun k : Nat => wpM s' k) ((s (0)).toInt).toNat).toInt ∧ (s' (5 + 19 * a1.toNat)).toInt = 0 ∧ (∀ j : Nat, ¬ j = 5 + 19 * a1.toNat → s' j = s j))
def marksM (s s' : Nat → Int32) (X a1 a2 a3 : Int) : Prop := (X = -1001 ∧ ((a1 < 0 ∨ (s (0)).toInt ≤ a1) ∨ ((0 ≤ a1 ∧ a1 + 1 ≤ (s (0)).toInt ∧ a1 ≤ 7) ∧ (a2 < 0 ∨ ((s (3 + 19 * a1.toNat)).toInt = 1 ∧ (s (4 + 19 * a1.toNat)).toInt ≤ a2) ∨ ((s (3 + 19 * a1.toNat)).toInt = 0 ∧ (s (4 + 19 * a1.toNat)).toInt - 1 ≤ a2)))) ∧ (∀ j : Nat, s' j = s j)) ∨ (X = -1002 ∧ (0 ≤ a1 ∧ a1 + 1 ≤ (s (0)).toInt ∧ a1 ≤ 7) ∧ (0 ≤ a2 ∧ a2 ≤ 7 ∧ (((s (3 + 19 * a1.toNat)).toInt = 1 ∧ a2 < (s (4 + 19 * a1.toNat)).toInt) ∨ ((s (3 + 19 * a1.toNat)).toInt = 0 ∧ a2 < (s (4 + 19 * a1.toNat)).toInt - 1))) ∧ (a3 < 0 ∨ 2 < a3) ∧ (∀ j : Nat, s' j = s j)) ∨ (X = -1003 ∧ (0 ≤ a1 ∧ a1 + 1 ≤ (s (0)).toInt ∧ a1 ≤ 7) ∧ (0 ≤ a2 ∧ a2 ≤ 7 ∧ (((s (3 + 19 * a1.toNat)).toInt = 1 ∧ a2 < (s (4 + 19 * a1.toNat)).toInt) ∨ ((s (3 + 19 * a1.toNat)).toInt = 0 ∧ a2 < (s (4 + 19 * a1.toNat)).toInt - 1))) ∧ (0 ≤ a3 ∧ a3 ≤ 2) ∧ (s (5 + 19 * a1.toNat)).toInt = 1 ∧ (∀ j : Nat, s' j = s j)) ∨ ((0 ≤ a1 ∧ a1 + 1 ≤ (s (0)).toInt ∧ a1 ≤ 7) ∧ (0 ≤ a2 ∧ a2 ≤ 7 ∧ (((s (3 + 19 * a1.toNat)).toInt = 1 ∧ a2 < (s (4 + 19 * a1.toNat)).toInt) ∨ ((s (3 + 19 * a1.toNat)).toInt = 0 ∧ a2 < (s (4 + 19 * a1.toNat)).toInt - 1))) ∧ (0 ≤ a3 ∧ a3 ≤ 2) ∧ ¬ (s (5 + 19 * a1.toNat)).toInt = 1 ∧ X = (s (14 + 19 * a1.toNat + a2.toNat)).toInt ∧ (s' (14 + 19 * a1.toNat + a2.toNat)).toInt = a3 ∧ (∀ j : Nat, ¬ j = 14 + 19 * a1.toNat + a2.toNat → s' j = s j))
def dropsM (s s' : Nat → Int32) (X a1 : Int) : Prop := (X = -1001 ∧ (a1 < 0 ∨ (s (0)).toInt ≤ a1) ∧ (∀ j : Nat, s' j = s j)) ∨ ((0 ≤ a1 ∧ a1 + 1 ≤ (s (0)).toInt ∧ a1 ≤ 7) ∧ X = (s (0)).toInt - 1 ∧ (s' (0)).toInt = (s (0)).toInt - 1 ∧ (∀ j : Nat, 1 ≤ j → s' j = if 3 + 19 * a1.toNat ≤ j ∧ j < 3 + 19 * ((s (0)).toInt - 1).toNat then s (j + 19) else s j))
def turnsM (s s' : Nat → Int32) (X a1 : Int) : Prop := (X = -1001 ∧ (a1 < 0 ∨ (s (0)).toInt ≤ a1) ∧ (∀ j : Nat, s' j = s j)) ∨ (X = -1003 ∧ (0 ≤ a1 ∧ a1 + 1 ≤ (s (0)).toInt ∧ a1 ≤ 7) ∧ (s (5 + 19 * a1.toNat)).toInt = 1 ∧ (∀ j : Nat, s' j = s j)) ∨ ((0 ≤ a1 ∧ a1 + 1 ≤ (s (0)).toInt ∧ a1 ≤ 7) ∧ ¬ (s (5 + 19 * a1.toNat)).toInt = 1 ∧ X = (if (s (3 + 19 * a1.toNat)).toInt = 0 then (s (4 + 19 * a1.toNat)).toInt - 1 else (s (4 + 19 * a1.toNat)).toInt) - cntF (fun j : Nat => s' (14 + 19 * a1.toNat + j)) 0 (nC ((s (3 + 19 * a1.toNat)).toInt) ((s (4 + 19 * a1.toNat)).toInt)) ∧ (∀ j : Nat, j < nC ((s (3 + 19 * a1.toNat)).toInt) ((s (4 + 19 * a1.toNat)).toInt) → s' (14 + 19 * a1.toNat + j) = flM (s (14 + 19 * a1.toNat + j))) ∧ (∀ j : Nat, ¬ (14 + 19 * a1.toNat ≤ j ∧ j < 14 + 19 * a1.toNat + nC ((s (3 + 19 * a1.toNat)).toInt) ((s (4 + 19 * a1.toNat)).toInt)) → s' j = s j))
def addsM (s s' : Nat → Int32) (f g : Nat → Int32) (X a1 a2 : Int) : Prop := (X = -1003 ∧ 8 ≤ (s (0)).toInt ∧ (∀ j : Nat, s' j = s j)) ∨ ((s (0)).toInt ≤ 7 ∧ X = (s (0)).toInt ∧ (s' (0)).toInt = (s (0)).toInt + 1 ∧ (s' (3 + 19 * ((s (0)).toInt).toNat)).toInt = a1 ∧ (s' (4 + 19 * ((s (0)).toInt).toNat)).toInt = a2 ∧ (s' (5 + 19 * ((s (0)).toInt).toNat)).toInt = 0 ∧ (∀ k : Nat, k < 8 → (k : Int) < a2 → s' (6 + 19 * ((s (0)).toInt).toNat + k) = f k) ∧ (∀ k : Nat, k < 8 → k < nC a1 a2 → s' (14 + 19 * ((s (0)).toInt).toNat + k) = g k) ∧ (∀ j : Nat, ¬ j = 0 → (j < 3 + 19 * ((s (0)).toInt).toNat ∨ 22 + 19 * ((s (0)).toInt).toNat ≤ j) → s' j = s j))
def addsToldM (s s' : Nat → Int32) (X a1 a2 a3 : Int) : Prop := (X = -1002 ∧ (∀ c : Nat, ¬ (okSz a1 a2 c ∧ okCr a3 (nC a1 c))) ∧ (∀ j : Nat, s' j = s j)) ∨ (X = -1003 ∧ (∃ c : Nat, okSz a1 a2 c ∧ okCr a3 (nC a1 c)) ∧ 8 ≤ (s (0)).toInt ∧ (∀ j : Nat, s' j = s j)) ∨ ((s (0)).toInt ≤ 7 ∧ X = (s (0)).toInt ∧ (s' (0)).toInt = (s (0)).toInt + 1 ∧ (∃ c : Nat, okSz a1 a2 c ∧ okCr a3 (nC a1 c) ∧ (s' (3 + 19 * ((s (0)).toInt).toNat)).toInt = a1 ∧ (s' (4 + 19 * ((s (0)).toInt).toNat)).toInt = (c : Int) ∧ (s' (5 + 19 * ((s (0)).toInt).toNat)).toInt = 0 ∧ (∀ k : Nat, k < c → s' (6 + 19 * ((s (0)).toInt).toNat + k) = dgI a2 c k) ∧ ∀ k : Nat, k < nC a1 c → s' (14 + 19 * ((s (0)).toInt).toNat + k) = dgI a3 (nC a1 c) k) ∧ (∀ j : Nat, ¬ j = 0 → (j < 3 + 19 * ((s (0)).toInt).toNat ∨ 22 + 19 * ((s (0)).toInt).toNat ≤ j) → s' j = s j))
def rotatesM (s s' : Nat → Int32) (X a1 a2 : Int) : Prop := (X = -1001 ∧ ((a1 < 0 ∨ (s (0)).toInt ≤ a1) ∨ ((0 ≤ a1 ∧ a1 + 1 ≤ (s (0)).toInt ∧ a1 ≤ 7) ∧ (a2 < 0 ∨ ((s (3 + 19 * a1.toNat)).toInt = 1 ∧ (s (4 + 19 * a1.toNat)).toInt ≤ a2) ∨ ((s (3 + 19 * a1.toNat)).toInt = 0 ∧ (s (4 + 19 * a1.toNat)).toInt - 1 ≤ a2)))) ∧ (∀ j : Nat, s' j = s j)) ∨ (X = -1003 ∧ (0 ≤ a1 ∧ a1 + 1 ≤ (s (0)).toInt ∧ a1 ≤ 7) ∧ (0 ≤ a2 ∧ a2 ≤ 7 ∧ (((s (3 + 19 * a1.toNat)).toInt = 1 ∧ a2 < (s (4 + 19 * a1.toNat)).toInt) ∨ ((s (3 + 19 * a1.toNat)).toInt = 0 ∧ a2 < (s (4 + 19 * a1.toNat)).toInt - 1))) ∧ ((s (5 + 19 * a1.toNat)).toInt = 1 ∨ ¬ (s (3 + 19 * a1.toNat)).toInt = 1) ∧ (∀ j : Nat, s' j = s j)) ∨ ((0 ≤ a1 ∧ a1 + 1 ≤ (s (0)).toInt ∧ a1 ≤ 7) ∧ (0 ≤ a2 ∧ a2 ≤ 7 ∧ (((s (3 + 19 * a1.toNat)).toInt = 1 ∧ a2 < (s (4 + 19 * a1.toNat)).toInt) ∨ ((s (3 + 19 * a1.toNat)).toInt = 0 ∧ a2 < (s (4 + 19 * a1.toNat)).toInt - 1))) ∧ ¬ (s (5 + 19 * a1.toNat)).toInt = 1 ∧ (s (3 + 19 * a1.toNat)).toInt = 1 ∧ X = (nmF (fun j : Nat => s (6 + 19 * a1.toNat + RTX a2 ((s (4 + 19 * a1.toNat)).toInt) j)) ((s (4 + 19 * a1.toNat)).toInt).toNat).toInt ∧ (∀ j : Nat, j < ((s (4 + 19 * a1.toNat)).toInt).toNat → s' (6 + 19 * a1.toNat + j) = s (6 + 19 * a1.toNat + RTX a2 ((s (4 + 19 * a1.toNat)).toInt) j)) ∧ (∀ j : Nat, j < ((s (4 + 19 * a1.toNat)).toInt).toNat → s' (14 + 19 * a1.toNat + j) = s (14 + 19 * a1.toNat + RTX a2 ((s (4 + 19 * a1.toNat)).toInt) j)) ∧ (∀ j : Nat, ¬ (6 + 19 * a1.toNat ≤ j ∧ j < 14 + 19 * a1.toNat) → ¬ (14 + 19 * a1.toNat ≤ j ∧ j < 22 + 19 * a1.toNat) → s' j = s j))
def joinsM (s s' : Nat → Int32) (X a1 a2 a3 : Int) : Prop := (X = -1001 ∧ ((a1 < 0 ∨ (s (0)).toInt ≤ a1) ∨ (a2 < 0 ∨ (s (0)).toInt ≤ a2) ∨ a1 = a2) ∧ (∀ j : Nat, s' j = s j)) ∨ (X = -1002 ∧ (0 ≤ a1 ∧ a1 + 1 ≤ (s (0)).toInt ∧ a1 ≤ 7) ∧ (0 ≤ a2 ∧ a2 + 1 ≤ (s (0)).toInt ∧ a2 ≤ 7) ∧ ¬ a1 = a2 ∧ (a3 < 0 ∨ 2 < a3) ∧ (∀ j : Nat, s' j = s j)) ∨ (X = -1003 ∧ (0 ≤ a1 ∧ a1 + 1 ≤ (s (0)).toInt ∧ a1 ≤ 7) ∧ (0 ≤ a2 ∧ a2 + 1 ≤ (s (0)).toInt ∧ a2 ≤ 7) ∧ ¬ a1 = a2 ∧ (0 ≤ a3 ∧ a3 ≤ 2) ∧ ((s (5 + 19 * a1.toNat)).toInt = 1 ∨ (s (5 + 19 * a2.toNat)).toInt = 1 ∨ (s (3 + 19 * a1.toNat)).toInt = 1 ∨ (s (3 + 19 * a2.toNat)).toInt = 1 ∨ 7 < (s (4 + 19 * a1.toNat)).toInt + (s (4 + 19 * a2.toNat)).toInt) ∧ (∀ j : Nat, s' j = s j)) ∨ ((0 ≤ a1 ∧ a1 + 1 ≤ (s (0)).toInt ∧ a1 ≤ 7) ∧ (0 ≤ a2 ∧ a2 + 1 ≤ (s (0)).toInt ∧ a2 ≤ 7) ∧ ¬ a1 = a2 ∧ (0 ≤ a3 ∧ a3 ≤ 2) ∧ (¬ (s (5 + 19 * a1.toNat)).toInt = 1 ∧ ¬ (s (5 + 19 * a2.toNat)).toInt = 1 ∧ (s (3 + 19 * a1.toNat)).toInt = 0 ∧ (s (3 + 19 * a2.toNat)).toInt = 0 ∧ (s (4 + 19 * a1.toNat)).toInt + (s (4 + 19 * a2.toNat)).toInt ≤ 7) ∧ X = (s (4 + 19 * a1.toNat)).toInt + (s (4 + 19 * a2.toNat)).toInt ∧ (s' (0)).toInt = (s (0)).toInt - 1 ∧ (∃ m : Nat → Int32, (∀ j : Nat, j < ((s (4 + 19 * a2.toNat)).toInt).toNat → m (6 + 19 * a1.toNat + ((s (4 + 19 * a1.toNat)).toInt).toNat + j) = s (6 + 19 * a2.toNat + j)) ∧ (m (13 + 19 * a1.toNat + ((s (4 + 19 * a1.toNat)).toInt).toNat)).toInt = a3 ∧ (∀ j : Nat, 1 ≤ j → j < ((s (4 + 19 * a2.toNat)).toInt).toNat → m (13 + 19 * a1.toNat + ((s (4 + 19 * a1.toNat)).toInt).toNat + j) = s (13 + 19 * a2.toNat + j)) ∧ (m (4 + 19 * a1.toNat)).toInt = (s (4 + 19 * a1.toNat)).toInt + (s (4 + 19 * a2.toNat)).toInt ∧ (∀ j : Nat, ¬ j = 4 + 19 * a1.toNat → ¬ (6 + 19 * a1.toNat + ((s (4 + 19 * a1.toNat)).toInt).toNat ≤ j ∧ j < 6 + 19 * a1.toNat + ((s (4 + 19 * a1.toNat)).toInt).toNat + ((s (4 + 19 * a2.toNat)).toInt).toNat) → ¬ (13 + 19 * a1.toNat + ((s (4 + 19 * a1.toNat)).toInt).toNat ≤ j ∧ j < 13 + 19 * a1.toNat + ((s (4 + 19 * a1.toNat)).toInt).toNat + ((s (4 + 19 * a2.toNat)).toInt).toNat) → m j = s j) ∧ ∀ j : Nat, 1 ≤ j → s' j = if 3 + 19 * a2.toNat ≤ j ∧ j < 3 + 19 * ((s (0)).toInt - 1).toNat then m (j + 19) else m j))
def cutsM (s s' : Nat → Int32) (X a1 a2 : Int) : Prop := (X = -1001 ∧ ((a1 < 0 ∨ (s (0)).toInt ≤ a1) ∨ ((0 ≤ a1 ∧ a1 + 1 ≤ (s (0)).toInt ∧ a1 ≤ 7) ∧ (a2 < 0 ∨ ((s (3 + 19 * a1.toNat)).toInt = 1 ∧ (s (4 + 19 * a1.toNat)).toInt ≤ a2) ∨ ((s (3 + 19 * a1.toNat)).toInt = 0 ∧ (s (4 + 19 * a1.toNat)).toInt - 1 ≤ a2)))) ∧ (∀ j : Nat, s' j = s j)) ∨ (X = -1003 ∧ (0 ≤ a1 ∧ a1 + 1 ≤ (s (0)).toInt ∧ a1 ≤ 7) ∧ (0 ≤ a2 ∧ a2 ≤ 7 ∧ (((s (3 + 19 * a1.toNat)).toInt = 1 ∧ a2 < (s (4 + 19 * a1.toNat)).toInt) ∨ ((s (3 + 19 * a1.toNat)).toInt = 0 ∧ a2 < (s (4 + 19 * a1.toNat)).toInt - 1))) ∧ (8 ≤ (s (0)).toInt ∨ (s (5 + 19 * a1.toNat)).toInt = 1 ∨ (s (3 + 19 * a1.toNat)).toInt = 1 ∨ a2 + 1 < 2 ∨ (s (4 + 19 * a1.toNat)).toInt - (a2 + 1) < 2) ∧ (∀ j : Nat, s' j = s j)) ∨ ((0 ≤ a1 ∧ a1 + 1 ≤ (s (0)).toInt ∧ a1 ≤ 7) ∧ (0 ≤ a2 ∧ a2 ≤ 7 ∧ (((s (3 + 19 * a1.toNat)).toInt = 1 ∧ a2 < (s (4 + 19 * a1.toNat)).toInt) ∨ ((s (3 + 19 * a1.toNat)).toInt = 0 ∧ a2 < (s (4 + 19 * a1.toNat)).toInt - 1))) ∧ ((s (0)).toInt ≤ 7 ∧ ¬ (s (5 + 19 * a1.toNat)).toInt = 1 ∧ (s (3 + 19 * a1.toNat)).toInt = 0 ∧ 2 ≤ a2 + 1 ∧ 2 ≤ (s (4 + 19 * a1.toNat)).toInt - (a2 + 1)) ∧ X = (s (0)).toInt ∧ (s' (0)).toInt = (s (0)).toInt + 1 ∧ (s' (4 + 19 * a1.toNat)).toInt = a2 + 1 ∧ (s' (3 + 19 * ((s (0)).toInt).toNat)).toInt = 0 ∧ (s' (4 + 19 * ((s (0)).toInt).toNat)).toInt = (s (4 + 19 * a1.toNat)).toInt - (a2 + 1) ∧ (s' (5 + 19 * ((s (0)).toInt).toNat)).toInt = 0 ∧ (∀ k : Nat, k < 8 → (k : Int) < (s (4 + 19 * a1.toNat)).toInt - (a2 + 1) → s' (6 + 19 * ((s (0)).toInt).toNat + k) = s (6 + 19 * a1.toNat + (a2 + 1).toNat + k)) ∧ (∀ k : Nat, k < 8 → (k : Int) + 1 < (s (4 + 19 * a1.toNat)).toInt - (a2 + 1) → s' (14 + 19 * ((s (0)).toInt).toNat + k) = s (14 + 19 * a1.toNat + (a2 + 1).toNat + k)) ∧ (∀ j : Nat, ¬ j = 0 → ¬ j = 4 + 19 * a1.toNat → (j < 3 + 19 * ((s (0)).toInt).toNat ∨ 22 + 19 * ((s (0)).toInt).toNat ≤ j) → s' j = s j))
def foldsM (s s' : Nat → Int32) (X a1 : Int) : Prop := (X = -1001 ∧ (a1 < 0 ∨ (s (0)).toInt ≤ a1) ∧ (∀ j : Nat, s' j = s j)) ∨ (X = -1003 ∧ (0 ≤ a1 ∧ a1 + 1 ≤ (s (0)).toInt ∧ a1 ≤ 7) ∧ ((s (5 + 19 * a1.toNat)).toInt = 1 ∨ (∃ w : Int, WYf cM eM ((s (3 + 19 * a1.toNat)).toInt) ((s (4 + 19 * a1.toNat)).toInt) (fun j : Nat => s (6 + 19 * a1.toNat + j)) (fun j : Nat => s (14 + 19 * a1.toNat + j)) w ∧ ¬ w = 0) ∨ (WYf cM eM ((s (3 + 19 * a1.toNat)).toInt) ((s (4 + 19 * a1.toNat)).toInt) (fun j : Nat => s (6 + 19 * a1.toNat + j)) (fun j : Nat => s (14 + 19 * a1.toNat + j)) 0 ∧ 0 < (smF (fun k : Nat => wpM s k) ((s (0)).toInt).toNat + wdF ((s (3 + 19 * a1.toNat)).toInt) (fun j : Nat => s (6 + 19 * a1.toNat + j)) ((s (4 + 19 * a1.toNat)).toInt).toNat - s 1).toInt)) ∧ (∀ j : Nat, s' j = s j)) ∨ ((0 ≤ a1 ∧ a1 + 1 ≤ (s (0)).toInt ∧ a1 ≤ 7) ∧ ¬ (s (5 + 19 * a1.toNat)).toInt = 1 ∧ WYf cM eM ((s (3 + 19 * a1.toNat)).toInt) ((s (4 + 19 * a1.toNat)).toInt) (fun j : Nat => s (6 + 19 * a1.toNat + j)) (fun j : Nat => s (14 + 19 * a1.toNat + j)) 0 ∧ (smF (fun k : Nat => wpM s k) ((s (0)).toInt).toNat + wdF ((s (3 + 19 * a1.toNat)).toInt) (fun j : Nat => s (6 + 19 * a1.toNat + j)) ((s (4 + 19 * a1.toNat)).toInt).toNat - s 1).toInt ≤ 0 ∧ X = (wdF ((s (3 + 19 * a1.toNat)).toInt) (fun j : Nat => s (6 + 19 * a1.toNat + j)) ((s (4 + 19 * a1.toNat)).toInt).toNat).toInt ∧ (s' (5 + 19 * a1.toNat)).toInt = 1 ∧ s' 2 = s 2 + 1 ∧ (∀ j : Nat, ¬ j = 5 + 19 * a1.toNat → ¬ j = 2 → s' j = s j))
def sizeM (s : Nat → Int32) (X a1 a2 : Int) : Prop := (X = -1001 ∧ ((a1 < 0 ∨ (s (0)).toInt ≤ a1) ∨ ((0 ≤ a1 ∧ a1 + 1 ≤ (s (0)).toInt ∧ a1 ≤ 7) ∧ (a2 < 0 ∨ (s (4 + 19 * a1.toNat)).toInt ≤ a2)))) ∨ ((0 ≤ a1 ∧ a1 + 1 ≤ (s (0)).toInt ∧ a1 ≤ 7) ∧ (0 ≤ a2 ∧ a2 < (s (4 + 19 * a1.toNat)).toInt) ∧ X = (s (6 + 19 * a1.toNat + a2.toNat)).toInt)
def creaseM (s : Nat → Int32) (X a1 a2 : Int) : Prop := (X = -1001 ∧ ((a1 < 0 ∨ (s (0)).toInt ≤ a1) ∨ ((0 ≤ a1 ∧ a1 + 1 ≤ (s (0)).toInt ∧ a1 ≤ 7) ∧ (a2 < 0 ∨ ((s (3 + 19 * a1.toNat)).toInt = 1 ∧ (s (4 + 19 * a1.toNat)).toInt ≤ a2) ∨ ((s (3 + 19 * a1.toNat)).toInt = 0 ∧ (s (4 + 19 * a1.toNat)).toInt - 1 ≤ a2))))) ∨ ((0 ≤ a1 ∧ a1 + 1 ≤ (s (0)).toInt ∧ a1 ≤ 7) ∧ (0 ≤ a2 ∧ a2 ≤ 7 ∧ (((s (3 + 19 * a1.toNat)).toInt = 1 ∧ a2 < (s (4 + 19 * a1.toNat)).toInt) ∨ ((s (3 + 19 * a1.toNat)).toInt = 0 ∧ a2 < (s (4 + 19 * a1.toNat)).toInt - 1))) ∧ X = (s (14 + 19 * a1.toNat + a2.toNat)).toInt)
def pieceM (s : Nat → Int32) (X a1 a2 : Int) : Prop := (X = -1001 ∧ (a1 < 0 ∨ (s (0)).toInt ≤ a1)) ∨ ((0 ≤ a1 ∧ a1 + 1 ≤ (s (0)).toInt ∧ a1 ≤ 7) ∧ a2 = 0 ∧ X = (s (3 + 19 * a1.toNat)).toInt) ∨ ((0 ≤ a1 ∧ a1 + 1 ≤ (s (0)).toInt ∧ a1 ≤ 7) ∧ a2 = 1 ∧ X = (s (4 + 19 * a1.toNat)).toInt) ∨ ((0 ≤ a1 ∧ a1 + 1 ≤ (s (0)).toInt ∧ a1 ≤ 7) ∧ a2 = 2 ∧ (((s (3 + 19 * a1.toNat)).toInt = 1 ∧ X = (s (4 + 19 * a1.toNat)).toInt) ∨ ((s (3 + 19 * a1.toNat)).toInt = 0 ∧ X = (s (4 + 19 * a1.toNat)).toInt - 1))) ∨ ((0 ≤ a1 ∧ a1 + 1 ≤ (s (0)).toInt ∧ a1 ≤ 7) ∧ a2 = 3 ∧ X = cntF (fun j : Nat => s (14 + 19 * a1.toNat + j)) 1 (nC (s (3 + 19 * a1.toNat)).toInt (s (4 + 19 * a1.toNat)).toInt)) ∨ ((0 ≤ a1 ∧ a1 + 1 ≤ (s (0)).toInt ∧ a1 ≤ 7) ∧ a2 = 4 ∧ X = cntF (fun j : Nat => s (14 + 19 * a1.toNat + j)) 2 (nC (s (3 + 19 * a1.toNat)).toInt (s (4 + 19 * a1.toNat)).toInt)) ∨ ((0 ≤ a1 ∧ a1 + 1 ≤ (s (0)).toInt ∧ a1 ≤ 7) ∧ a2 = 5 ∧ X = cntF (fun j : Nat => s (14 + 19 * a1.toNat + j)) 0 (nC (s (3 + 19 * a1.toNat)).toInt (s (4 + 19 * a1.toNat)).toInt)) ∨ ((0 ≤ a1 ∧ a1 + 1 ≤ (s (0)).toInt ∧ a1 ≤ 7) ∧ a2 = 6 ∧ X = (smF (fun j : Nat => s (6 + 19 * a1.toNat + j)) (s (4 + 19 * a1.toNat)).toInt.toNat).toInt) ∨ ((0 ≤ a1 ∧ a1 + 1 ≤ (s (0)).toInt ∧ a1 ≤ 7) ∧ a2 = 7 ∧ X = (s (5 + 19 * a1.toNat)).toInt) ∨ ((0 ≤ a1 ∧ a1 + 1 ≤ (s (0)).toInt ∧ a1 ≤ 7) ∧ a2 = 8 ∧ X = (wdF (s (3 + 19 * a1.toNat)).toInt (fun j : Nat => s (6 + 19 * a1.toNat + j)) (s (4 + 19 * a1.toNat)).toInt.toNat).toInt) ∨ ((0 ≤ a1 ∧ a1 + 1 ≤ (s (0)).toInt ∧ a1 ≤ 7) ∧ (a2 < 0 ∨ 8 < a2) ∧ X = -1002)
def whyM (s : Nat → Int32) (X a1 : Int) : Prop := (X = -1001 ∧ (a1 < 0 ∨ (s (0)).toInt ≤ a1)) ∨ ((0 ≤ a1 ∧ a1 + 1 ≤ (s (0)).toInt ∧ a1 ≤ 7) ∧ WYf cM eM (s (3 + 19 * a1.toNat)).toInt (s (4 + 19 * a1.toNat)).toInt (fun j : Nat => s (6 + 19 * a1.toNat + j)) (fun j : Nat => s (14 + 19 * a1.toNat + j)) X)
def stepM (s : Nat → Int32) (X a1 : Int) : Prop := (X = -1001 ∧ (a1 < 0 ∨ (s (0)).toInt ≤ a1)) ∨ ((0 ≤ a1 ∧ a1 + 1 ≤ (s (0)).toInt ∧ a1 ≤ 7) ∧ 1 ≤ cntF (fun j : Nat => s (14 + 19 * a1.toNat + j)) 0 (nC (s (3 + 19 * a1.toNat)).toInt (s (4 + 19 * a1.toNat)).toInt) ∧ X = -1004) ∨ ((0 ≤ a1 ∧ a1 + 1 ≤ (s (0)).toInt ∧ a1 ≤ 7) ∧ cntF (fun j : Nat => s (14 + 19 * a1.toNat + j)) 0 (nC (s (3 + 19 * a1.toNat)).toInt (s (4 + 19 * a1.toNat)).toInt) = 0 ∧ (∃ y : Int, FS cM (pcR (s (3 + 19 * a1.toNat)).toInt (s (4 + 19 * a1.toNat)).toInt (fun j : Nat => s (6 + 19 * a1.toNat + j)) (fun j : Nat => s (14 + 19 * a1.toNat + j))) y ∧ ((y = 0 ∧ X = -1004) ∨ (¬ y = 0 ∧ X = y))))
def stepsM (s : Nat → Int32) (X a1 : Int) : Prop := (X = -1001 ∧ (a1 < 0 ∨ (s (0)).toInt ≤ a1)) ∨ ((0 ≤ a1 ∧ a1 + 1 ≤ (s (0)).toInt ∧ a1 ≤ 7) ∧ 1 ≤ cntF (fun j : Nat => s (14 + 19 * a1.toNat + j)) 0 (nC (s (3 + 19 * a1.toNat)).toInt (s (4 + 19 * a1.toNat)).toInt) ∧ X = -1004) ∨ ((0 ≤ a1 ∧ a1 + 1 ≤ (s (0)).toInt ∧ a1 ≤ 7) ∧ cntF (fun j : Nat => s (14 + 19 * a1.toNat + j)) 0 (nC (s (3 + 19 * a1.toNat)).toInt (s (4 + 19 * a1.toNat)).toInt) = 0 ∧ 0 ≤ X ∧ (∃ R2 : RS, RD cM (pcR (s (3 + 19 * a1.toNat)).toInt (s (4 + 19 * a1.toNat)).toInt (fun j : Nat => s (6 + 19 * a1.toNat + j)) (fun j : Nat => s (14 + 19 * a1.toNat + j))) X.toNat R2))
def placeM (s : Nat → Int32) (X a1 a2 : Int) : Prop := (X = -1001 ∧ ((a1 < 0 ∨ (s (0)).toInt ≤ a1) ∨ ((0 ≤ a1 ∧ a1 + 1 ≤ (s (0)).toInt ∧ a1 ≤ 7) ∧ (s (3 + 19 * a1.toNat)).toInt = 0 ∧ (a2 < 0 ∨ (s (4 + 19 * a1.toNat)).toInt < a2)))) ∨ ((0 ≤ a1 ∧ a1 + 1 ≤ (s (0)).toInt ∧ a1 ≤ 7) ∧ (s (3 + 19 * a1.toNat)).toInt = 1 ∧ X = -1002) ∨ ((0 ≤ a1 ∧ a1 + 1 ≤ (s (0)).toInt ∧ a1 ≤ 7) ∧ (s (3 + 19 * a1.toNat)).toInt = 0 ∧ (0 ≤ a2 ∧ a2 ≤ (s (4 + 19 * a1.toNat)).toInt) ∧ X = (plF (fun j : Nat => s (6 + 19 * a1.toNat + j)) a2.toNat).toInt)
def reflectedM (s : Nat → Int32) (X a1 : Int) : Prop := (X = -1001 ∧ (a1 < 0 ∨ (s (0)).toInt ≤ a1)) ∨ ((0 ≤ a1 ∧ a1 + 1 ≤ (s (0)).toInt ∧ a1 ≤ 7) ∧ (s (3 + 19 * a1.toNat)).toInt = 0 ∧ X = -1002) ∨ ((0 ≤ a1 ∧ a1 + 1 ≤ (s (0)).toInt ∧ a1 ≤ 7) ∧ (s (3 + 19 * a1.toNat)).toInt = 1 ∧ X = rfF (fun j : Nat => s (6 + 19 * a1.toNat + j)) (s (4 + 19 * a1.toNat)).toInt.toNat)
def waysM (s : Nat → Int32) (X a1 : Int) : Prop := (X = -1001 ∧ (a1 < 0 ∨ (s (0)).toInt ≤ a1)) ∨ ((0 ≤ a1 ∧ a1 + 1 ≤ (s (0)).toInt ∧ a1 ≤ 7) ∧ CNr (WAYp cM eM (s (3 + 19 * a1.toNat)).toInt (s (4 + 19 * a1.toNat)).toInt (fun j : Nat => s (6 + 19 * a1.toNat + j)) (fun j : Nat => s (14 + 19 * a1.toNat + j))) (shN (cI (s (3 + 19 * a1.toNat)).toInt (s (4 + 19 * a1.toNat)).toInt)) X)
def fewestM (s : Nat → Int32) (X a1 : Int) : Prop := (X = -1001 ∧ (a1 < 0 ∨ (s (0)).toInt ≤ a1)) ∨ ((0 ≤ a1 ∧ a1 + 1 ≤ (s (0)).toInt ∧ a1 ≤ 7) ∧ FEr (fun v : Int32 => chF (fun j : Nat => s (14 + 19 * a1.toNat + j)) v (nC (s (3 + 19 * a1.toNat)).toInt (s (4 + 19 * a1.toNat)).toInt)) (FWf cM eM (s (3 + 19 * a1.toNat)).toInt (s (4 + 19 * a1.toNat)).toInt (fun j : Nat => s (6 + 19 * a1.toNat + j))) (shN (cI (s (3 + 19 * a1.toNat)).toInt (s (4 + 19 * a1.toNat)).toInt)) X)
def thickestM (s : Nat → Int32) (X a1 : Int) : Prop := (X = -1001 ∧ (a1 < 0 ∨ (s (0)).toInt ≤ a1)) ∨ ((0 ≤ a1 ∧ a1 + 1 ≤ (s (0)).toInt ∧ a1 ≤ 7) ∧ (s (3 + 19 * a1.toNat)).toInt = 1 ∧ X = -1002) ∨ ((0 ≤ a1 ∧ a1 + 1 ≤ (s (0)).toInt ∧ a1 ≤ 7) ∧ (s (3 + 19 * a1.toNat)).toInt = 0 ∧ X = tmF (fun j : Nat => s (6 + 19 * a1.toNat + j)) (s (4 + 19 * a1.toNat)).toInt.toNat (s (4 + 19 * a1.toNat)).toInt.toNat)
def foldsAgainM (s : Nat → Int32) (X a1 : Int) : Prop := (((X = -1001 ∧ (a1 < 0 ∨ (s (0)).toInt ≤ a1)) ∨ ((0 ≤ a1 ∧ a1 + 1 ≤ (s (0)).toInt ∧ a1 ≤ 7) ∧ (((s (3 + 19 * a1.toNat)).toInt = 1 ∧ X = -1002) ∨ ((s (3 + 19 * a1.toNat)).toInt = 0 ∧ 1 ≤ cntF (fun j : Nat => s (14 + 19 * a1.toNat + j)) 0 (nC (s (3 + 19 * a1.toNat)).toInt (s (4 + 19 * a1.toNat)).toInt) ∧ X = -1004))))) ∨ ((0 ≤ a1 ∧ a1 + 1 ≤ (s (0)).toInt ∧ a1 ≤ 7) ∧ (s (3 + 19 * a1.toNat)).toInt = 0 ∧ cntF (fun j : Nat => s (14 + 19 * a1.toNat + j)) 0 (nC (s (3 + 19 * a1.toNat)).toInt (s (4 + 19 * a1.toNat)).toInt) = 0 ∧ ((X = 0 ∧ (sT (s (4 + 19 * a1.toNat)).toInt.toNat (fun j : Nat => s (14 + 19 * a1.toNat + j)) (PSm (s (4 + 19 * a1.toNat)).toInt.toNat (fun j : Nat => (plF (fun j : Nat => s (6 + 19 * a1.toNat + j)) j).toInt))) = 0) ∨ (X = 1 ∧ 1 ≤ (sT (s (4 + 19 * a1.toNat)).toInt.toNat (fun j : Nat => s (14 + 19 * a1.toNat + j)) (PSm (s (4 + 19 * a1.toNat)).toInt.toNat (fun j : Nat => (plF (fun j : Nat => s (6 + 19 * a1.toNat + j)) j).toInt))))))
def ordersM (s : Nat → Int32) (X a1 : Int) : Prop := (((X = -1001 ∧ (a1 < 0 ∨ (s (0)).toInt ≤ a1)) ∨ ((0 ≤ a1 ∧ a1 + 1 ≤ (s (0)).toInt ∧ a1 ≤ 7) ∧ (((s (3 + 19 * a1.toNat)).toInt = 1 ∧ X = -1002) ∨ ((s (3 + 19 * a1.toNat)).toInt = 0 ∧ 1 ≤ cntF (fun j : Nat => s (14 + 19 * a1.toNat + j)) 0 (nC (s (3 + 19 * a1.toNat)).toInt (s (4 + 19 * a1.toNat)).toInt) ∧ X = -1004))))) ∨ ((0 ≤ a1 ∧ a1 + 1 ≤ (s (0)).toInt ∧ a1 ≤ 7) ∧ (s (3 + 19 * a1.toNat)).toInt = 0 ∧ cntF (fun j : Nat => s (14 + 19 * a1.toNat + j)) 0 (nC (s (3 + 19 * a1.toNat)).toInt (s (4 + 19 * a1.toNat)).toInt) = 0 ∧ X = (sT (s (4 + 19 * a1.toNat)).toInt.toNat (fun j : Nat => s (14 + 19 * a1.toNat + j)) (PSm (s (4 + 19 * a1.toNat)).toInt.toNat (fun j : Nat => (plF (fun j : Nat => s (6 + 19 * a1.toNat + j)) j).toInt))))
def layerM (s : Nat → Int32) (X a1 a2 : Int) : Prop := (X = -1001 ∧ ((a1 < 0 ∨ (s (0)).toInt ≤ a1) ∨ ((0 ≤ a1 ∧ a1 + 1 ≤ (s (0)).toInt ∧ a1 ≤ 7) ∧ (s (3 + 19 * a1.toNat)).toInt = 0 ∧ (a2 < 0 ∨ (s (4 + 19 * a1.toNat)).toInt ≤ a2)))) ∨ ((0 ≤ a1 ∧ a1 + 1 ≤ (s (0)).toInt ∧ a1 ≤ 7) ∧ ((s (3 + 19 * a1.toNat)).toInt = 1 ∨ (0 ≤ a2 ∧ a2 < (s (4 + 19 * a1.toNat)).toInt)) ∧ (((s (3 + 19 * a1.toNat)).toInt = 1 ∧ X = -1002) ∨ ((s (3 + 19 * a1.toNat)).toInt = 0 ∧ 1 ≤ cntF (fun j : Nat => s (14 + 19 * a1.toNat + j)) 0 (nC (s (3 + 19 * a1.toNat)).toInt (s (4 + 19 * a1.toNat)).toInt) ∧ X = -1004))) ∨ ((0 ≤ a1 ∧ a1 + 1 ≤ (s (0)).toInt ∧ a1 ≤ 7) ∧ (s (3 + 19 * a1.toNat)).toInt = 0 ∧ (0 ≤ a2 ∧ a2 < (s (4 + 19 * a1.toNat)).toInt) ∧ cntF (fun j : Nat => s (14 + 19 * a1.toNat + j)) 0 (nC (s (3 + 19 * a1.toNat)).toInt (s (4 + 19 * a1.toNat)).toInt) = 0 ∧ (sT (s (4 + 19 * a1.toNat)).toInt.toNat (fun j : Nat => s (14 + 19 * a1.toNat + j)) (PSm (s (4 + 19 * a1.toNat)).toInt.toNat (fun j : Nat => (plF (fun j : Nat => s (6 + 19 * a1.toNat + j)) j).toInt))) = 0 ∧ X = -1004) ∨ ((0 ≤ a1 ∧ a1 + 1 ≤ (s (0)).toInt ∧ a1 ≤ 7) ∧ (s (3 + 19 * a1.toNat)).toInt = 0 ∧ (0 ≤ a2 ∧ a2 < (s (4 + 19 * a1.toNat)).toInt) ∧ cntF (fun j : Nat => s (14 + 19 * a1.toNat + j)) 0 (nC (s (3 + 19 * a1.toNat)).toInt (s (4 + 19 * a1.toNat)).toInt) = 0 ∧ 1 ≤ (sT (s (4 + 19 * a1.toNat)).toInt.toNat (fun j : Nat => s (14 + 19 * a1.toNat + j)) (PSm (s (4 + 19 * a1.toNat)).toInt.toNat (fun j : Nat => (plF (fun j : Nat => s (6 + 19 * a1.toNat + j)) j).toInt))) ∧ (∃ f : Nat → Int, (sF (s (4 + 19 * a1.toNat)).toInt.toNat (fun j : Nat => s (14 + 19 * a1.toNat + j)) (PSm (s (4 + 19 * a1.toNat)).toInt.toNat (fun j : Nat => (plF (fun j : Nat => s (6 + 19 * a1.toNat + j)) j).toInt))) = some f ∧ X = f a2.toNat))
/-! a call of the reference: what it had been is kept if it is a change -/
def TOPM (P Q : mP) (x : Int) : Prop := fv Q 301 8 = fv P 301 8 ∧ (∀ j : Nat, fv Q 304 j = fv P 304 j) ∧ (∀ j : Nat, fv Q 314 j = fv P 314 j) ∧ fv Q 301 23 = fv P 301 23 ∧ ((-1004 ≤ x ∧ x ≤ -1001 ∧ fv Q 301 4 = fv P 301 4 ∧ ∀ j : Nat, fv Q 305 j = fv P 305 j) ∨ (¬ (-1004 ≤ x ∧ x ≤ -1001) ∧ (((fv P 301 4).toInt < 8 ∧ (fv Q 301 4).toInt = (fv P 301 4).toInt + 1) ∨ ((fv P 301 4).toInt = 8 ∧ (fv Q 301 4).toInt = 8)) ∧ ∀ c j : Nat, c < 8 → j < 155 → fv Q 305 (155 * c + j) = if (fv P 301 4).toInt.toNat = 8 then (if c < 7 then fv P 305 (155 * (c + 1) + j) else fv P 302 j) else (if c = (fv P 301 4).toInt.toNat then fv P 302 j else fv P 305 (155 * c + j))))
theorem TOPM.mk {P A B Q : mP} {x : Int} (hk : CPY P A 302 0 303 0 155) (c303 : ∀ j : Nat, fv B 303 j = fv A 303 j) (c304 : ∀ j : Nat, fv B 304 j = fv A 304 j) (c305 : ∀ j : Nat, fv B 305 j = fv A 305 j) (c314 : ∀ j : Nat, fv B 314 j = fv A 314 j) (c8 : fv B 301 8 = fv A 301 8) (c4 : fv B 301 4 = fv A 301 4) (c23 : fv B 301 23 = fv A 301 23)
    (h0 : (-1004 ≤ x ∧ x ≤ -1001) ∨ (PUP B Q (fv B 301 4).toInt.toNat ∧ (((fv B 301 4).toInt < 8 ∧ (fv Q 301 4).toInt = (fv B 301 4).toInt + 1) ∨ ((fv B 301 4).toInt = 8 ∧ (fv Q 301 4).toInt = 8)))) (h1 : (x < -1004 ∨ -1001 < x) ∨ ∀ y j : Nat, ¬ (y = 301 ∧ j = 7) → fv Q y j = fv B y j) (h2 : ∀ y j : Nat, ¬ y = 305 → ¬ (y = 301 ∧ j = 4) → ¬ (y = 301 ∧ j = 7) → fv Q y j = fv B y j) : TOPM P Q x := by
  have k : ∀ y j : Nat, ¬ y = 303 → fv A y j = fv P y j := fun y j hy => hk.2 y j (fun e => hy e.1)
  have k3 : ∀ j : Nat, j < 155 → fv B 303 j = fv P 302 j := fun j hj => (c303 j).trans (by have := hk.1 j hj; rwa [Nat.zero_add] at this)
  have e4 : fv B 301 4 = fv P 301 4 := c4.trans (k _ _ (by decide))
  refine ⟨(h2 _ _ (by decide) (by omega) (by omega)).trans (c8.trans (k _ _ (by decide))), fun j => (h2 _ _ (by decide) (by omega) (by omega)).trans ((c304 j).trans (k _ _ (by decide))), fun j => (h2 _ _ (by decide) (by omega) (by omega)).trans ((c314 j).trans (k _ _ (by decide))), (h2 _ _ (by decide) (by omega) (by omega)).trans (c23.trans (k _ _ (by decide))), ?_⟩
  by_cases e : -1004 ≤ x ∧ x ≤ -1001
  · have h1 := h1.resolve_left (by omega)
    exact Or.inl ⟨e.1, e.2, (h1 _ _ (by omega)).trans e4, fun j => (h1 _ _ (by omega)).trans ((c305 j).trans (k _ _ (by decide)))⟩
  · obtain ⟨g1, g2⟩ := h0.resolve_left e
    rw [e4] at g1 g2
    refine Or.inr ⟨e, g2, fun c j hc hj => ?_⟩
    rw [g1 c j hc hj, k3 j hj, c305, c305, k _ _ (by decide), k _ _ (by decide)]
/-! the text of commands -/
def ch (t : Nat → Int32) (L : Int) (i : Int) : Int32 := if 0 ≤ i ∧ i < L then t i.toNat else -1
def chC (P : mP) : Int → Int32 := ch (fun j => fv P 290 j) (fv P 289 1).toInt
def chM (P : mP) : Int → Int32 := ch (fun j => fv P 314 j) (fv P 301 23).toInt
theorem ch_in {t : Nat → Int32} {L i : Int} (h : 0 ≤ i ∧ i < L) : ch t L i = t i.toNat := if_pos h
theorem ch_out {t : Nat → Int32} {L i : Int} (h : L ≤ i) : ch t L i = -1 := if_neg (by omega)
theorem ch_lt {t : Nat → Int32} {L i : Int} (h : ¬ (ch t L i).toInt = -1) : 0 ≤ i ∧ i < L := by
  by_cases e : 0 ≤ i ∧ i < L
  · exact e
  · exact absurd (by rw [show ch t L i = -1 from if_neg e]; rfl) h
theorem chC_eq {P Q : mP} (h1 : ∀ j : Nat, fv Q 290 j = fv P 290 j) (h2 : fv Q 289 1 = fv P 289 1) : chC Q = chC P := by
  unfold chC
  rw [h2, show (fun j => fv Q 290 j) = (fun j => fv P 290 j) from funext h1]
theorem chM_eq {P Q : mP} (h1 : ∀ j : Nat, fv Q 314 j = fv P 314 j) (h2 : fv Q 301 23 = fv P 301 23) : chM Q = chM P := by
  unfold chM
  rw [h2, show (fun j => fv Q 314 j) = (fun j => fv P 314 j) from funext h1]
abbrev D0 (c : Int) : Prop := 48 ≤ c ∧ c ≤ 57
abbrev D1 (c : Int) : Prop := 49 ≤ c ∧ c ≤ 57
abbrev KK (c : Int) : Prop := c = 111 ∨ c = 109 ∨ c = 118
def kn (c : Int) : Int32 := if c = 111 then 0 else if c = 109 then 1 else 2
/-- how many characters of a kind follow, at most 8 -/
def RUN (p : Int → Prop) (c : Int → Int32) (i : Int) (k : Nat) : Prop := k ≤ 8 ∧ (∀ j : Nat, j < k → p (c (i + j)).toInt) ∧ (k < 8 → ¬ p (c (i + k)).toInt)
theorem RUN.uniq {p : Int → Prop} {c : Int → Int32} {i : Int} {k l : Nat} (h : RUN p c i k) (g : RUN p c i l) : k = l := by
  rcases Nat.lt_trichotomy k l with e | e | e
  · exact absurd (g.2.1 k e) (h.2.2 (by have := g.1; omega))
  · exact e
  · exact absurd (h.2.1 l e) (g.2.2 (by have := h.1; omega))
theorem RUN.grow {p : Int → Prop} {c : Int → Int32} {i : Int} {k l : Nat} {j : Int} (h : ∀ j : Nat, j < k → p (c (i + j)).toInt) (hj : j = i + k) (hp : p (c j).toInt) (hl : l = k + 1) : ∀ j : Nat, j < l → p (c (i + j)).toInt := by
  subst hl hj
  intro m hm
  by_cases e : m = k
  · subst e
    exact hp
  · exact h m (by omega)
def szI (c : Int → Int32) (i : Int) : Nat → Int32
  | 0 => 0
  | k + 1 => szI c i k * 10 + c (i + k) - 48
theorem szI.step {c : Int → Int32} {i p : Int} {k l : Nat} {v x z1 z2 z3 : Int32} (h : v = szI c i k) (hl : l = k + 1) (hp : p = i + k) (hx : x.toInt = (c p).toInt) (h1 : v * 10 = z1) (h2 : z1 + x = z2) (h3 : z2 - 48 = z3) : z3 = szI c i l := by
  subst hl hp
  have e : x = c (i + k) := Int32.toInt_inj.mp hx
  rw [← h3, ← h2, ← h1, h, e]
  rfl
def knV (c : Int → Int32) (i : Int) : Nat → Int32
  | 0 => 0
  | k + 1 => knV c i k * 10 + kn (c (i + k)).toInt
theorem knV.step {c : Int → Int32} {i p : Int} {k l : Nat} {v x z1 z2 : Int32} (h : v = knV c i k) (hl : l = k + 1) (hp : p = i + k) (hx : x.toInt = (kn (c p).toInt).toInt) (h1 : v * 10 = z1) (h2 : z1 + x = z2) : z2 = knV c i l := by
  subst hl hp
  have e : x = kn (c (i + k)).toInt := Int32.toInt_inj.mp hx
  rw [← h2, ← h1, h, e]
  rfl
theorem kn_o {c v : Int} (h : c = 111) (hv : v = 0) : v = (kn c).toInt := by
  unfold kn
  rw [if_pos h, hv]
  rfl
theorem kn_m {c v : Int} (h : c = 109) (hv : v = 1) : v = (kn c).toInt := by
  unfold kn
  rw [if_neg (by omega), if_pos h, hv]
  rfl
theorem kn_v {c v : Int} (h : c = 118) (hv : v = 2) : v = (kn c).toInt := by
  unfold kn
  rw [if_neg (by omega), if_neg (by omega), hv]
  rfl
def pwT : Nat → Int
  | 0 => 1
  | n + 1 => 10 * pwT n
theorem pwT_le {n : Nat} (h : n ≤ 8) : 1 ≤ pwT n ∧ pwT n ≤ 100000000 := by
  have := (show (List.range 9).all (fun n => decide (1 ≤ pwT n ∧ pwT n ≤ 100000000)) = true by decide)
  exact of_decide_eq_true (List.all_eq_true.mp this n (List.mem_range.mpr (by omega)))
theorem szI_bnd {c : Int → Int32} {i : Int} {k : Nat} (h8 : k ≤ 8) (h : ∀ j : Nat, j < k → D1 (c (i + j)).toInt) : 0 ≤ (szI c i k).toInt ∧ (szI c i k).toInt + 1 ≤ pwT k ∧ (1 ≤ k → 0 < (szI c i k).toInt) := by
  induction k with
  | zero => exact ⟨Int.le_refl _, Int.le_refl _, fun h => by omega⟩
  | succ k ih =>
    have a := ih (by omega) (fun j hj => h j (by omega))
    have b := h k (by omega)
    have p := pwT_le (n := k) (by omega)
    have h10 : (10 : Int32).toInt = 10 := by decide
    have h48 : (48 : Int32).toInt = 48 := by decide
    have e1 : (szI c i k * 10).toInt = (szI c i k).toInt * 10 := ti_mul rfl h10 (by omega) (by omega)
    have e2 : (szI c i k * 10 + c (i + k)).toInt = (szI c i k).toInt * 10 + (c (i + k)).toInt := ti_add e1 rfl (by omega) (by omega)
    have e3 : (szI c i k * 10 + c (i + k) - 48).toInt = (szI c i k).toInt * 10 + (c (i + k)).toInt - 48 := ti_sub e2 h48 (by omega) (by omega)
    show 0 ≤ (szI c i k * 10 + c (i + k) - 48).toInt ∧ (szI c i k * 10 + c (i + k) - 48).toInt + 1 ≤ 10 * pwT k ∧ (_ → 0 < (szI c i k * 10 + c (i + k) - 48).toInt)
    refine ⟨by omega, by omega, fun _ => by omega⟩
/-- a command stands from i on -/
def CMD (c : Int → Int32) (i i' l a b n s : Int) : Prop := l = (c i).toInt ∧ (((l = 115 ∨ l = 99) ∧ ∃ k m : Nat, 1 ≤ k ∧ 1 ≤ m ∧ RUN D1 c (i + 1) k ∧ (c (i + 1 + k)).toInt = 58 ∧ RUN KK c (i + 2 + k) m ∧ i' = i + 2 + k + m ∧ a = (szI c (i + 1) k).toInt ∧ b = (knV c (i + 2 + k) m).toInt ∧ n = m) ∨
  (l = 109 ∧ D0 (c (i + 1)).toInt ∧ (c (i + 2)).toInt = 46 ∧ D0 (c (i + 3)).toInt ∧ (c (i + 4)).toInt = 61 ∧ KK (c (i + 5)).toInt ∧ i' = i + 6 ∧ a = (c (i + 1)).toInt - 48 ∧ b = (c (i + 3)).toInt - 48 ∧ s = (kn (c (i + 5)).toInt).toInt) ∨
  ((l = 116 ∨ l = 102 ∨ l = 117 ∨ l = 120) ∧ D0 (c (i + 1)).toInt ∧ i' = i + 2 ∧ a = (c (i + 1)).toInt - 48))
def CMO (c : Int → Int32) (i : Int) : Prop := ∃ i' l a b n s : Int, CMD c i i' l a b n s
theorem CMD.uniq {c : Int → Int32} {i i' l a b n s j' m d e o t : Int} (h : CMD c i i' l a b n s) (g : CMD c i j' m d e o t) : i' = j' ∧ l = m ∧ a = d ∧ ((l = 115 ∨ l = 99) → b = e ∧ n = o) ∧ (l = 109 → b = e ∧ s = t) := by
  obtain ⟨h1, h⟩ := h
  obtain ⟨g1, g⟩ := g
  have el : l = m := h1.trans g1.symm
  subst el
  rcases h with ⟨h2, k, m, h3, h4, h5, h6, h7, h8, h9, h10, h11⟩ | ⟨h2, h3, h4, h5, h6, h7, h8, h9, h10, h11⟩ | ⟨h2, h3, h4, h5⟩ <;> rcases g with ⟨g2, k', m', g3, g4, g5, g6, g7, g8, g9, g10, g11⟩ | ⟨g2, g3, g4, g5, g6, g7, g8, g9, g10, g11⟩ | ⟨g2, g3, g4, g5⟩
  all_goals try (exfalso; omega)
  · have e1 := h5.uniq g5
    subst e1
    have e2 := h7.uniq g7
    subst e2
    exact ⟨by omega, rfl, by omega, fun _ => ⟨by omega, by omega⟩, fun q => by omega⟩
  · exact ⟨by omega, rfl, by omega, fun q => by omega, fun _ => ⟨by omega, by omega⟩⟩
  · exact ⟨by omega, rfl, by omega, fun q => by omega, fun q => by omega⟩
theorem CMD.adv {c : Int → Int32} {i i' l a b n s : Int} (h : CMD c i i' l a b n s) : i + 2 ≤ i' := by
  obtain ⟨_, ⟨_, k, m, h3, h4, _, _, _, h8, _⟩ | ⟨_, _, _, _, _, _, h8, _⟩ | ⟨_, _, h8, _⟩⟩ := h <;> omega
/-- where a command ends there was text -/
theorem CMD.len {t : Nat → Int32} {L i i' l a b n s : Int} (h : CMD (ch t L) i i' l a b n s) : i' ≤ L ∧ 0 ≤ i ∧ i < L := by
  obtain ⟨h0, h⟩ := h
  have hi : 0 ≤ i ∧ i < L := ch_lt (t := t) (by rcases h with ⟨h2, _⟩ | ⟨h2, _⟩ | ⟨h2, _⟩ <;> omega)
  rcases h with ⟨_, k, m, h3, h4, h5, h6, h7, h8, _⟩ | ⟨_, _, _, _, _, h7, h8, _⟩ | ⟨_, h7, h8, _⟩
  · have q := h7.2.1 (m - 1) (by omega)
    have := ch_lt (t := t) (L := L) (i := i + 2 + k + ((m - 1 : Nat) : Int)) (by rcases q with q | q | q <;> rw [q] <;> decide)
    omega
  · have := ch_lt (t := t) (L := L) (i := i + 5) (by rcases h7 with q | q | q <;> rw [q] <;> decide)
    omega
  · have := ch_lt (t := t) (L := L) (i := i + 1) (by omega)
    omega
/-- a right text from i on: n commands, with signs between them -/
def TKn (c : Int → Int32) (L : Int) : Nat → Int → Prop
  | 0 => fun _ => False
  | n + 1 => fun i => ∃ i' l a b k s : Int, CMD c i i' l a b k s ∧ (i' = L ∨ ((c i').toInt = 59 ∧ TKn c L n (i' + 1)))
def TKT (c : Int → Int32) (L i : Int) : Prop := ∃ n : Nat, TKn c L n i
theorem TKT.no {c : Int → Int32} {L i : Int} (h : ¬ CMO c i) : ¬ TKT c L i := by
  rintro ⟨n, hn⟩
  cases n with
  | zero => exact hn
  | succ n =>
    obtain ⟨i', l, a, b, k, s, q, _⟩ := hn
    exact h ⟨i', l, a, b, k, s, q⟩
theorem TKT.at {t : Nat → Int32} {L i i' l a b k s : Int} (h : CMD (ch t L) i i' l a b k s) : TKT (ch t L) L i ↔ (i' = L ∨ ((ch t L i').toInt = 59 ∧ TKT (ch t L) L (i' + 1))) := by
  constructor
  · rintro ⟨n, hn⟩
    cases n with
    | zero => exact absurd hn id
    | succ n =>
      obtain ⟨j', m, a', b', k', s', q, r⟩ := hn
      have e := (h.uniq q).1
      subst e
      rcases r with r | ⟨r1, r2⟩
      · exact Or.inl r
      · exact Or.inr ⟨r1, n, r2⟩
  · rintro (r | ⟨r1, n, r2⟩)
    · exact ⟨1, i', l, a, b, k, s, h, Or.inl r⟩
    · exact ⟨n + 1, i', l, a, b, k, s, h, Or.inr ⟨r1, r2⟩⟩
theorem occ_congr {P Q : mP} {n m : Nat} (hT : Typ P) (h : NCH P Q) (hn : n ≤ 8) (e : m = n) : smF (fun k => wpC Q (rv Q 2 k)) m = smF (fun k => wpC P (rv P 2 k)) n := by
  subst e
  refine smF_congr (fun k hk => ?_)
  have r := (rv_np hT k (by omega)).2
  show wpC Q (rv Q 2 k) = wpC P (rv P 2 k)
  rw [h.2 k]
  unfold wpC
  rw [h.1 _ 0 (by omega) (by omega), h.1 _ 1 (by omega) (by omega), h.1 _ 2 (by omega) (by omega), show (fun j => fv Q (rv P 2 k + 1) j) = (fun j => fv P (rv P 2 k + 1) j) from funext (fun j => h.1 _ _ (by omega) (by omega))]
theorem wd_congr {P Q : mP} {b : Nat} (h : NCH P Q) (hb : 1 ≤ b ∧ b < 25) : wdF (fv Q b 0).toInt (fun j => fv Q (b + 1) j) (fv Q b 1).toInt.toNat = wdF (fv P b 0).toInt (fun j => fv P (b + 1) j) (fv P b 1).toInt.toNat := by
  rw [h.1 _ 0 (by omega) (by omega), h.1 _ 1 (by omega) (by omega), show (fun j => fv Q (b + 1) j) = (fun j => fv P (b + 1) j) from funext (fun j => h.1 _ _ (by omega) (by omega))]
def markC (P Q : mP) (X a1 a2 a3 : Int) : Prop := (X = -1001 ∧ ((a1 < 0 ∨ (fv P 1 1).toInt ≤ a1 ∨ 8 ≤ a1) ∨ ((0 ≤ a1 ∧ a1 + 1 ≤ (fv P 1 1).toInt ∧ a1 ≤ 7) ∧ (a2 < 0 ∨ ((fv P (rv P 2 a1.toNat) 0).toInt = 0 ∧ (fv P (rv P 2 a1.toNat) 1).toInt - 1 ≤ a2) ∨ ((fv P (rv P 2 a1.toNat) 0).toInt ≠ 0 ∧ (fv P (rv P 2 a1.toNat) 1).toInt ≤ a2)))) ∧ NCH P Q) ∨ (X = -1002 ∧ (0 ≤ a1 ∧ a1 + 1 ≤ (fv P 1 1).toInt ∧ a1 ≤ 7) ∧ (0 ≤ a2 ∧ (((fv P (rv P 2 a1.toNat) 0).toInt = 0 ∧ a2 < (fv P (rv P 2 a1.toNat) 1).toInt - 1) ∨ ((fv P (rv P 2 a1.toNat) 0).toInt ≠ 0 ∧ a2 < (fv P (rv P 2 a1.toNat) 1).toInt))) ∧ (a3 < 0 ∨ 2 < a3) ∧ NCH P Q) ∨ (X = -1003 ∧ (0 ≤ a1 ∧ a1 + 1 ≤ (fv P 1 1).toInt ∧ a1 ≤ 7) ∧ (0 ≤ a2 ∧ (((fv P (rv P 2 a1.toNat) 0).toInt = 0 ∧ a2 < (fv P (rv P 2 a1.toNat) 1).toInt - 1) ∨ ((fv P (rv P 2 a1.toNat) 0).toInt ≠ 0 ∧ a2 < (fv P (rv P 2 a1.toNat) 1).toInt))) ∧ (0 ≤ a3 ∧ a3 ≤ 2) ∧ (fv P (rv P 2 a1.toNat) 2).toInt = 1 ∧ NCH P Q) ∨ ((0 ≤ a1 ∧ a1 + 1 ≤ (fv P 1 1).toInt ∧ a1 ≤ 7) ∧ (0 ≤ a2 ∧ (((fv P (rv P 2 a1.toNat) 0).toInt = 0 ∧ a2 < (fv P (rv P 2 a1.toNat) 1).toInt - 1) ∨ ((fv P (rv P 2 a1.toNat) 0).toInt ≠ 0 ∧ a2 < (fv P (rv P 2 a1.toNat) 1).toInt))) ∧ (0 ≤ a3 ∧ a3 ≤ 2) ∧ (fv P (rv P 2 a1.toNat) 2).toInt = 0 ∧ X = (fv P ((rv P 2 a1.toNat) + 2) a2.toNat).toInt ∧ PSH P Q ∧ (fv Q ((rv P 2 a1.toNat) + 2) a2.toNat).toInt = a3 ∧ (∀ x j : Nat, 1 ≤ x → x < 27 → ¬ (x = ((rv P 2 a1.toNat) + 2) ∧ j = a2.toNat) → fv Q x j = fv P x j) ∧ ∀ k : Nat, rv Q 2 k = rv P 2 k)
def turnC (P Q : mP) (X a1 : Int) : Prop := (X = -1001 ∧ (a1 < 0 ∨ (fv P 1 1).toInt ≤ a1 ∨ 8 ≤ a1) ∧ NCH P Q) ∨ (X = -1003 ∧ (0 ≤ a1 ∧ a1 + 1 ≤ (fv P 1 1).toInt ∧ a1 ≤ 7) ∧ (fv P (rv P 2 a1.toNat) 2).toInt = 1 ∧ NCH P Q) ∨ ((0 ≤ a1 ∧ a1 + 1 ≤ (fv P 1 1).toInt ∧ a1 ≤ 7) ∧ (fv P (rv P 2 a1.toNat) 2).toInt = 0 ∧ X = (if (fv P (rv P 2 a1.toNat) 0).toInt = 0 then (fv P (rv P 2 a1.toNat) 1).toInt - 1 else (fv P (rv P 2 a1.toNat) 1).toInt) - cntF (fun j : Nat => fv Q ((rv P 2 a1.toNat) + 2) j) 0 (nC (fv P (rv P 2 a1.toNat) 0).toInt (fv P (rv P 2 a1.toNat) 1).toInt) ∧ PSH P Q ∧ ROW P Q ((rv P 2 a1.toNat) + 2) (fun j : Nat => flI (fv P ((rv P 2 a1.toNat) + 2) j)) (nC (fv P (rv P 2 a1.toNat) 0).toInt (fv P (rv P 2 a1.toNat) 1).toInt) ∧ (∀ x j : Nat, 1 ≤ x → x < 27 → ¬ x = (rv P 2 a1.toNat) + 2 → fv Q x j = fv P x j) ∧ ∀ k : Nat, rv Q 2 k = rv P 2 k)
def rotateC (P Q : mP) (X a1 a2 : Int) : Prop := (X = -1001 ∧ ((a1 < 0 ∨ (fv P 1 1).toInt ≤ a1 ∨ 8 ≤ a1) ∨ ((0 ≤ a1 ∧ a1 + 1 ≤ (fv P 1 1).toInt ∧ a1 ≤ 7) ∧ (a2 < 0 ∨ ((fv P (rv P 2 a1.toNat) 0).toInt = 0 ∧ (fv P (rv P 2 a1.toNat) 1).toInt - 1 ≤ a2) ∨ ((fv P (rv P 2 a1.toNat) 0).toInt ≠ 0 ∧ (fv P (rv P 2 a1.toNat) 1).toInt ≤ a2)))) ∧ NCH P Q) ∨ (X = -1003 ∧ (0 ≤ a1 ∧ a1 + 1 ≤ (fv P 1 1).toInt ∧ a1 ≤ 7) ∧ (0 ≤ a2 ∧ (((fv P (rv P 2 a1.toNat) 0).toInt = 0 ∧ a2 < (fv P (rv P 2 a1.toNat) 1).toInt - 1) ∨ ((fv P (rv P 2 a1.toNat) 0).toInt ≠ 0 ∧ a2 < (fv P (rv P 2 a1.toNat) 1).toInt))) ∧ ((fv P (rv P 2 a1.toNat) 2).toInt = 1 ∨ ¬ (fv P (rv P 2 a1.toNat) 0).toInt = 1) ∧ NCH P Q) ∨ ((0 ≤ a1 ∧ a1 + 1 ≤ (fv P 1 1).toInt ∧ a1 ≤ 7) ∧ (0 ≤ a2 ∧ (((fv P (rv P 2 a1.toNat) 0).toInt = 0 ∧ a2 < (fv P (rv P 2 a1.toNat) 1).toInt - 1) ∨ ((fv P (rv P 2 a1.toNat) 0).toInt ≠ 0 ∧ a2 < (fv P (rv P 2 a1.toNat) 1).toInt))) ∧ (fv P (rv P 2 a1.toNat) 2).toInt = 0 ∧ (fv P (rv P 2 a1.toNat) 0).toInt = 1 ∧ X = (nmF (fun j : Nat => fv Q ((rv P 2 a1.toNat) + 1) j) (fv P (rv P 2 a1.toNat) 1).toInt.toNat).toInt ∧ PSH P Q ∧ ROW P Q ((rv P 2 a1.toNat) + 1) (fun j : Nat => fv P ((rv P 2 a1.toNat) + 1) (if a2.toNat + j < (fv P (rv P 2 a1.toNat) 1).toInt.toNat then a2.toNat + j else a2.toNat + j - (fv P (rv P 2 a1.toNat) 1).toInt.toNat)) (fv P (rv P 2 a1.toNat) 1).toInt.toNat ∧ ROW P Q ((rv P 2 a1.toNat) + 2) (fun j : Nat => fv P ((rv P 2 a1.toNat) + 2) (if a2.toNat + j < (fv P (rv P 2 a1.toNat) 1).toInt.toNat then a2.toNat + j else a2.toNat + j - (fv P (rv P 2 a1.toNat) 1).toInt.toNat)) (fv P (rv P 2 a1.toNat) 1).toInt.toNat ∧ (∀ x j : Nat, 1 ≤ x → x < 27 → ¬ x = (rv P 2 a1.toNat) + 1 → ¬ x = (rv P 2 a1.toNat) + 2 → fv Q x j = fv P x j) ∧ ∀ k : Nat, rv Q 2 k = rv P 2 k)
def dropC (P Q : mP) (X a1 : Int) : Prop := (X = -1001 ∧ (a1 < 0 ∨ (fv P 1 1).toInt ≤ a1 ∨ 8 ≤ a1) ∧ NCH P Q) ∨ ((0 ≤ a1 ∧ a1 + 1 ≤ (fv P 1 1).toInt ∧ a1 ≤ 7) ∧ X = (fv P 1 1).toInt - 1 ∧ PSH P Q ∧ (fv Q 1 1).toInt = (fv P 1 1).toInt - 1 ∧ RMf P Q a1.toNat ((fv P 1 1).toInt - 1).toNat ∧ (∀ x j : Nat, 1 ≤ x → x < 27 → ¬ (x = 1 ∧ j = 1) → fv Q x j = fv P x j))
def unfoldC (P Q : mP) (X a1 : Int) : Prop := (X = -1001 ∧ (a1 < 0 ∨ (fv P 1 1).toInt ≤ a1 ∨ 8 ≤ a1) ∧ NCH P Q) ∨ (X = -1003 ∧ (0 ≤ a1 ∧ a1 + 1 ≤ (fv P 1 1).toInt ∧ a1 ≤ 7) ∧ (fv P (rv P 2 a1.toNat) 2).toInt = 0 ∧ NCH P Q) ∨ ((0 ≤ a1 ∧ a1 + 1 ≤ (fv P 1 1).toInt ∧ a1 ≤ 7) ∧ (fv P (rv P 2 a1.toNat) 2).toInt = 1 ∧ X = (fv P 1 2 - (smF (fun k : Nat => wpC Q (rv Q 2 k)) (fv P 1 1).toInt.toNat)).toInt ∧ PSH P Q ∧ (fv Q (rv P 2 a1.toNat) 2).toInt = 0 ∧ (∀ x j : Nat, 1 ≤ x → x < 27 → ¬ (x = (rv P 2 a1.toNat) ∧ j = 2) → fv Q x j = fv P x j) ∧ ∀ k : Nat, rv Q 2 k = rv P 2 k)
def stageC (P Q : mP) (X a1 : Int) (r1 : Int32) : Prop := (X = -1002 ∧ (a1 < 1 ∨ 99 < a1) ∧ NCH P Q) ∨ (X = -1003 ∧ (1 ≤ a1 ∧ a1 ≤ 99) ∧ 0 < ((smF (fun k : Nat => wpC P (rv P 2 k)) (fv P 1 1).toInt.toNat) - r1).toInt ∧ NCH P Q) ∨ ((1 ≤ a1 ∧ a1 ≤ 99) ∧ ((smF (fun k : Nat => wpC P (rv P 2 k)) (fv P 1 1).toInt.toNat) - r1).toInt ≤ 0 ∧ X = (fv P 1 2).toInt ∧ PSH P Q ∧ (fv Q 1 2).toInt = a1 ∧ (∀ x j : Nat, 1 ≤ x → x < 27 → ¬ (x = 1 ∧ j = 2) → fv Q x j = fv P x j) ∧ ∀ k : Nat, rv Q 2 k = rv P 2 k)
def joinC (P Q : mP) (X a1 a2 a3 : Int) : Prop := (X = -1001 ∧ ((a1 < 0 ∨ (fv P 1 1).toInt ≤ a1 ∨ 8 ≤ a1) ∨ (a2 < 0 ∨ (fv P 1 1).toInt ≤ a2 ∨ 8 ≤ a2) ∨ a1 = a2) ∧ NCH P Q) ∨ (X = -1002 ∧ (0 ≤ a1 ∧ a1 + 1 ≤ (fv P 1 1).toInt ∧ a1 ≤ 7) ∧ (0 ≤ a2 ∧ a2 + 1 ≤ (fv P 1 1).toInt ∧ a2 ≤ 7) ∧ ¬ a1 = a2 ∧ (a3 < 0 ∨ 2 < a3) ∧ NCH P Q) ∨ (X = -1003 ∧ (0 ≤ a1 ∧ a1 + 1 ≤ (fv P 1 1).toInt ∧ a1 ≤ 7) ∧ (0 ≤ a2 ∧ a2 + 1 ≤ (fv P 1 1).toInt ∧ a2 ≤ 7) ∧ ¬ a1 = a2 ∧ (0 ≤ a3 ∧ a3 ≤ 2) ∧ ((fv P (rv P 2 a1.toNat) 2).toInt = 1 ∨ (fv P (rv P 2 a2.toNat) 2).toInt = 1 ∨ ¬ (fv P (rv P 2 a1.toNat) 0).toInt = 0 ∨ ¬ (fv P (rv P 2 a2.toNat) 0).toInt = 0 ∨ 7 < (fv P (rv P 2 a1.toNat) 1).toInt + (fv P (rv P 2 a2.toNat) 1).toInt) ∧ NCH P Q) ∨ ((0 ≤ a1 ∧ a1 + 1 ≤ (fv P 1 1).toInt ∧ a1 ≤ 7) ∧ (0 ≤ a2 ∧ a2 + 1 ≤ (fv P 1 1).toInt ∧ a2 ≤ 7) ∧ ¬ a1 = a2 ∧ (0 ≤ a3 ∧ a3 ≤ 2) ∧ ((fv P (rv P 2 a1.toNat) 2).toInt = 0 ∧ (fv P (rv P 2 a2.toNat) 2).toInt = 0 ∧ (fv P (rv P 2 a1.toNat) 0).toInt = 0 ∧ (fv P (rv P 2 a2.toNat) 0).toInt = 0 ∧ (fv P (rv P 2 a1.toNat) 1).toInt + (fv P (rv P 2 a2.toNat) 1).toInt ≤ 7) ∧ X = (fv P (rv P 2 a1.toNat) 1).toInt + (fv P (rv P 2 a2.toNat) 1).toInt ∧ PSH P Q ∧ (fv Q (rv P 2 a1.toNat) 1).toInt = (fv P (rv P 2 a1.toNat) 1).toInt + (fv P (rv P 2 a2.toNat) 1).toInt ∧ fv Q (rv P 2 a1.toNat) 0 = fv P (rv P 2 a1.toNat) 0 ∧ fv Q (rv P 2 a1.toNat) 2 = fv P (rv P 2 a1.toNat) 2 ∧ LB P Q (rv P 2 a1.toNat) (rv P 2 a2.toNat) (fv P (rv P 2 a1.toNat) 1).toInt.toNat (fv P (rv P 2 a2.toNat) 1).toInt.toNat a3 ∧ (fv Q 1 1).toInt = (fv P 1 1).toInt - 1 ∧ RMf P Q a2.toNat ((fv P 1 1).toInt - 1).toNat ∧ (∀ x j : Nat, 1 ≤ x → x < 27 → ¬ (x = 1 ∧ j = 1) → ¬ ((rv P 2 a1.toNat) ≤ x ∧ x < (rv P 2 a1.toNat) + 3) → fv Q x j = fv P x j))
def cutC (P Q : mP) (X a1 a2 : Int) : Prop := (X = -1001 ∧ ((a1 < 0 ∨ (fv P 1 1).toInt ≤ a1 ∨ 8 ≤ a1) ∨ ((0 ≤ a1 ∧ a1 + 1 ≤ (fv P 1 1).toInt ∧ a1 ≤ 7) ∧ (a2 < 0 ∨ ((fv P (rv P 2 a1.toNat) 0).toInt = 0 ∧ (fv P (rv P 2 a1.toNat) 1).toInt - 1 ≤ a2) ∨ ((fv P (rv P 2 a1.toNat) 0).toInt ≠ 0 ∧ (fv P (rv P 2 a1.toNat) 1).toInt ≤ a2)))) ∧ NCH P Q) ∨ (X = -1003 ∧ (0 ≤ a1 ∧ a1 + 1 ≤ (fv P 1 1).toInt ∧ a1 ≤ 7) ∧ (0 ≤ a2 ∧ (((fv P (rv P 2 a1.toNat) 0).toInt = 0 ∧ a2 < (fv P (rv P 2 a1.toNat) 1).toInt - 1) ∨ ((fv P (rv P 2 a1.toNat) 0).toInt ≠ 0 ∧ a2 < (fv P (rv P 2 a1.toNat) 1).toInt))) ∧ (8 ≤ (fv P 1 1).toInt ∨ (fv P (rv P 2 a1.toNat) 2).toInt = 1 ∨ ¬ (fv P (rv P 2 a1.toNat) 0).toInt = 0 ∨ a2 + 1 < 2 ∨ (fv P (rv P 2 a1.toNat) 1).toInt - (a2 + 1) < 2) ∧ NCH P Q) ∨ ((0 ≤ a1 ∧ a1 + 1 ≤ (fv P 1 1).toInt ∧ a1 ≤ 7) ∧ (0 ≤ a2 ∧ (((fv P (rv P 2 a1.toNat) 0).toInt = 0 ∧ a2 < (fv P (rv P 2 a1.toNat) 1).toInt - 1) ∨ ((fv P (rv P 2 a1.toNat) 0).toInt ≠ 0 ∧ a2 < (fv P (rv P 2 a1.toNat) 1).toInt))) ∧ ((fv P 1 1).toInt ≤ 7 ∧ (fv P (rv P 2 a1.toNat) 2).toInt = 0 ∧ (fv P (rv P 2 a1.toNat) 0).toInt = 0 ∧ 2 ≤ a2 + 1 ∧ 2 ≤ (fv P (rv P 2 a1.toNat) 1).toInt - (a2 + 1)) ∧ X = (fv P 1 1).toInt ∧ PSH P Q ∧ (fv Q 1 1).toInt = (fv P 1 1).toInt + 1 ∧ (fv Q 1 2).toInt = (fv P 1 2).toInt ∧ (fv Q 1 3).toInt = (fv P 1 3).toInt ∧ (fv Q (rv P 2 a1.toNat) 1).toInt = a2 + 1 ∧ (fv Q (rv P 2 (fv P 1 1).toInt.toNat) 0).toInt = 0 ∧ (fv Q (rv P 2 (fv P 1 1).toInt.toNat) 2).toInt = 0 ∧ (fv Q (rv P 2 (fv P 1 1).toInt.toNat) 1).toInt = (fv P (rv P 2 a1.toNat) 1).toInt - (a2 + 1) ∧ (∀ j : Nat, j < 8 → (j : Int) < (fv P (rv P 2 a1.toNat) 1).toInt - (a2 + 1) → fv Q ((rv P 2 (fv P 1 1).toInt.toNat) + 1) j = fv P ((rv P 2 a1.toNat) + 1) ((a2 + 1).toNat + j)) ∧ (∀ j : Nat, j < 8 → (j : Int) < (fv P (rv P 2 a1.toNat) 1).toInt - (a2 + 1) → fv Q ((rv P 2 (fv P 1 1).toInt.toNat) + 2) j = fv P ((rv P 2 a1.toNat) + 2) ((a2 + 1).toNat + j)) ∧ (∀ k : Nat, k < 8 → ¬ (k : Int) = (fv P 1 1).toInt → PEx Q P (rv P 2 k) (rv P 2 a1.toNat)) ∧ ∀ k : Nat, rv Q 2 k = rv P 2 k)
def addC (P Q : mP) (X a1 a2 a3 : Int) : Prop := (X = -1002 ∧ (∀ c : Nat, ¬ (okSz a1 a2 c ∧ okCr a3 (nC a1 c))) ∧ NCH P Q) ∨ (X = -1003 ∧ (∃ c : Nat, okSz a1 a2 c ∧ okCr a3 (nC a1 c)) ∧ 8 ≤ (fv P 1 1).toInt ∧ NCH P Q) ∨ ((fv P 1 1).toInt ≤ 7 ∧ X = (fv P 1 1).toInt ∧ PSH P Q ∧ (fv Q 1 1).toInt = (fv P 1 1).toInt + 1 ∧ (fv Q 1 2).toInt = (fv P 1 2).toInt ∧ (fv Q 1 3).toInt = (fv P 1 3).toInt ∧ (∃ c : Nat, okSz a1 a2 c ∧ okCr a3 (nC a1 c) ∧ (fv Q (rv P 2 (fv P 1 1).toInt.toNat) 0).toInt = a1 ∧ (fv Q (rv P 2 (fv P 1 1).toInt.toNat) 2).toInt = 0 ∧ (fv Q (rv P 2 (fv P 1 1).toInt.toNat) 1).toInt = (c : Int) ∧ (∀ j : Nat, j < c → fv Q ((rv P 2 (fv P 1 1).toInt.toNat) + 1) j = dgI a2 c j) ∧ ∀ j : Nat, j < nC a1 c → fv Q ((rv P 2 (fv P 1 1).toInt.toNat) + 2) j = dgI a3 (nC a1 c) j) ∧ (∀ k : Nat, k < 8 → ¬ (k : Int) = (fv P 1 1).toInt → PEx Q P (rv P 2 k) 0) ∧ ∀ k : Nat, rv Q 2 k = rv P 2 k)
def foldC (P Q : mP) (X a1 : Int) : Prop := (X = -1001 ∧ (a1 < 0 ∨ (fv P 1 1).toInt ≤ a1 ∨ 8 ≤ a1) ∧ NCH P Q) ∨ (X = -1003 ∧ (0 ≤ a1 ∧ a1 + 1 ≤ (fv P 1 1).toInt ∧ a1 ≤ 7) ∧ ((fv P (rv P 2 a1.toNat) 2).toInt = 1 ∨ (∃ w : Int, WYf cC eC (fv P (rv P 2 a1.toNat) 0).toInt (fv P (rv P 2 a1.toNat) 1).toInt (fun j : Nat => fv P ((rv P 2 a1.toNat) + 1) j) (fun j : Nat => fv P ((rv P 2 a1.toNat) + 2) j) w ∧ ¬ w = 0) ∨ (WYf cC eC (fv P (rv P 2 a1.toNat) 0).toInt (fv P (rv P 2 a1.toNat) 1).toInt (fun j : Nat => fv P ((rv P 2 a1.toNat) + 1) j) (fun j : Nat => fv P ((rv P 2 a1.toNat) + 2) j) 0 ∧ 0 < ((smF (fun k : Nat => wpC P (rv P 2 k)) (fv P 1 1).toInt.toNat) + wdF (fv P (rv P 2 a1.toNat) 0).toInt (fun j : Nat => fv P ((rv P 2 a1.toNat) + 1) j) (fv P (rv P 2 a1.toNat) 1).toInt.toNat - fv P 1 2).toInt)) ∧ NCH P Q) ∨ ((0 ≤ a1 ∧ a1 + 1 ≤ (fv P 1 1).toInt ∧ a1 ≤ 7) ∧ (fv P (rv P 2 a1.toNat) 2).toInt = 0 ∧ WYf cC eC (fv P (rv P 2 a1.toNat) 0).toInt (fv P (rv P 2 a1.toNat) 1).toInt (fun j : Nat => fv P ((rv P 2 a1.toNat) + 1) j) (fun j : Nat => fv P ((rv P 2 a1.toNat) + 2) j) 0 ∧ ((smF (fun k : Nat => wpC P (rv P 2 k)) (fv P 1 1).toInt.toNat) + wdF (fv P (rv P 2 a1.toNat) 0).toInt (fun j : Nat => fv P ((rv P 2 a1.toNat) + 1) j) (fv P (rv P 2 a1.toNat) 1).toInt.toNat - fv P 1 2).toInt ≤ 0 ∧ X = (wdF (fv P (rv P 2 a1.toNat) 0).toInt (fun j : Nat => fv P ((rv P 2 a1.toNat) + 1) j) (fv P (rv P 2 a1.toNat) 1).toInt.toNat).toInt ∧ PSH P Q ∧ (fv Q (rv P 2 a1.toNat) 2).toInt = 1 ∧ fv Q 1 3 = fv P 1 3 + 1 ∧ (∀ x j : Nat, 1 ≤ x → x < 27 → ¬ (x = (rv P 2 a1.toNat) ∧ j = 2) → ¬ (x = 1 ∧ j = 3) → fv Q x j = fv P x j) ∧ ∀ k : Nat, rv Q 2 k = rv P 2 k)
def sizeC (P : mP) (X a1 a2 : Int) : Prop := (X = -1001 ∧ ((a1 < 0 ∨ (fv P 1 1).toInt ≤ a1 ∨ 8 ≤ a1) ∨ ((0 ≤ a1 ∧ a1 + 1 ≤ (fv P 1 1).toInt ∧ a1 ≤ 7) ∧ (a2 < 0 ∨ (fv P (rv P 2 a1.toNat) 1).toInt ≤ a2)))) ∨ ((0 ≤ a1 ∧ a1 + 1 ≤ (fv P 1 1).toInt ∧ a1 ≤ 7) ∧ (0 ≤ a2 ∧ a2 < (fv P (rv P 2 a1.toNat) 1).toInt) ∧ X = (fv P ((rv P 2 a1.toNat) + 1) a2.toNat).toInt)
def creaseC (P : mP) (X a1 a2 : Int) : Prop := (X = -1001 ∧ ((a1 < 0 ∨ (fv P 1 1).toInt ≤ a1 ∨ 8 ≤ a1) ∨ ((0 ≤ a1 ∧ a1 + 1 ≤ (fv P 1 1).toInt ∧ a1 ≤ 7) ∧ (a2 < 0 ∨ ((fv P (rv P 2 a1.toNat) 0).toInt = 0 ∧ (fv P (rv P 2 a1.toNat) 1).toInt - 1 ≤ a2) ∨ ((fv P (rv P 2 a1.toNat) 0).toInt ≠ 0 ∧ (fv P (rv P 2 a1.toNat) 1).toInt ≤ a2))))) ∨ ((0 ≤ a1 ∧ a1 + 1 ≤ (fv P 1 1).toInt ∧ a1 ≤ 7) ∧ (0 ≤ a2 ∧ (((fv P (rv P 2 a1.toNat) 0).toInt = 0 ∧ a2 < (fv P (rv P 2 a1.toNat) 1).toInt - 1) ∨ ((fv P (rv P 2 a1.toNat) 0).toInt ≠ 0 ∧ a2 < (fv P (rv P 2 a1.toNat) 1).toInt))) ∧ X = (fv P ((rv P 2 a1.toNat) + 2) a2.toNat).toInt)
def pieceC (P : mP) (X a1 a2 : Int) : Prop := (X = -1001 ∧ (a1 < 0 ∨ (fv P 1 1).toInt ≤ a1 ∨ 8 ≤ a1)) ∨ ((0 ≤ a1 ∧ a1 + 1 ≤ (fv P 1 1).toInt ∧ a1 ≤ 7) ∧ a2 = 0 ∧ X = (fv P (rv P 2 a1.toNat) 0).toInt) ∨ ((0 ≤ a1 ∧ a1 + 1 ≤ (fv P 1 1).toInt ∧ a1 ≤ 7) ∧ a2 = 1 ∧ X = (fv P (rv P 2 a1.toNat) 1).toInt) ∨ ((0 ≤ a1 ∧ a1 + 1 ≤ (fv P 1 1).toInt ∧ a1 ≤ 7) ∧ a2 = 2 ∧ (((fv P (rv P 2 a1.toNat) 0).toInt = 0 ∧ X = (fv P (rv P 2 a1.toNat) 1).toInt - 1) ∨ ((fv P (rv P 2 a1.toNat) 0).toInt ≠ 0 ∧ X = (fv P (rv P 2 a1.toNat) 1).toInt))) ∨ ((0 ≤ a1 ∧ a1 + 1 ≤ (fv P 1 1).toInt ∧ a1 ≤ 7) ∧ a2 = 3 ∧ X = cntF (fun j : Nat => fv P ((rv P 2 a1.toNat) + 2) j) 1 (nC (fv P (rv P 2 a1.toNat) 0).toInt (fv P (rv P 2 a1.toNat) 1).toInt)) ∨ ((0 ≤ a1 ∧ a1 + 1 ≤ (fv P 1 1).toInt ∧ a1 ≤ 7) ∧ a2 = 4 ∧ X = cntF (fun j : Nat => fv P ((rv P 2 a1.toNat) + 2) j) 2 (nC (fv P (rv P 2 a1.toNat) 0).toInt (fv P (rv P 2 a1.toNat) 1).toInt)) ∨ ((0 ≤ a1 ∧ a1 + 1 ≤ (fv P 1 1).toInt ∧ a1 ≤ 7) ∧ a2 = 5 ∧ X = cntF (fun j : Nat => fv P ((rv P 2 a1.toNat) + 2) j) 0 (nC (fv P (rv P 2 a1.toNat) 0).toInt (fv P (rv P 2 a1.toNat) 1).toInt)) ∨ ((0 ≤ a1 ∧ a1 + 1 ≤ (fv P 1 1).toInt ∧ a1 ≤ 7) ∧ a2 = 6 ∧ X = (smF (fun j : Nat => fv P ((rv P 2 a1.toNat) + 1) j) (fv P (rv P 2 a1.toNat) 1).toInt.toNat).toInt) ∨ ((0 ≤ a1 ∧ a1 + 1 ≤ (fv P 1 1).toInt ∧ a1 ≤ 7) ∧ a2 = 7 ∧ X = (fv P (rv P 2 a1.toNat) 2).toInt) ∨ ((0 ≤ a1 ∧ a1 + 1 ≤ (fv P 1 1).toInt ∧ a1 ≤ 7) ∧ a2 = 8 ∧ X = (wdF (fv P (rv P 2 a1.toNat) 0).toInt (fun j : Nat => fv P ((rv P 2 a1.toNat) + 1) j) (fv P (rv P 2 a1.toNat) 1).toInt.toNat).toInt) ∨ ((0 ≤ a1 ∧ a1 + 1 ≤ (fv P 1 1).toInt ∧ a1 ≤ 7) ∧ (a2 < 0 ∨ 8 < a2) ∧ X = -1002)
def whyC (P : mP) (X a1 : Int) : Prop := (X = -1001 ∧ (a1 < 0 ∨ (fv P 1 1).toInt ≤ a1 ∨ 8 ≤ a1)) ∨ ((0 ≤ a1 ∧ a1 + 1 ≤ (fv P 1 1).toInt ∧ a1 ≤ 7) ∧ WYf cC eC (fv P (rv P 2 a1.toNat) 0).toInt (fv P (rv P 2 a1.toNat) 1).toInt (fun j : Nat => fv P ((rv P 2 a1.toNat) + 1) j) (fun j : Nat => fv P ((rv P 2 a1.toNat) + 2) j) X)
def stepC (P : mP) (X a1 : Int) : Prop := (X = -1001 ∧ (a1 < 0 ∨ (fv P 1 1).toInt ≤ a1 ∨ 8 ≤ a1)) ∨ ((0 ≤ a1 ∧ a1 + 1 ≤ (fv P 1 1).toInt ∧ a1 ≤ 7) ∧ 1 ≤ cntF (fun j : Nat => fv P ((rv P 2 a1.toNat) + 2) j) 0 (nC (fv P (rv P 2 a1.toNat) 0).toInt (fv P (rv P 2 a1.toNat) 1).toInt) ∧ X = -1004) ∨ ((0 ≤ a1 ∧ a1 + 1 ≤ (fv P 1 1).toInt ∧ a1 ≤ 7) ∧ cntF (fun j : Nat => fv P ((rv P 2 a1.toNat) + 2) j) 0 (nC (fv P (rv P 2 a1.toNat) 0).toInt (fv P (rv P 2 a1.toNat) 1).toInt) = 0 ∧ (∃ y : Int, FS cC (pcR (fv P (rv P 2 a1.toNat) 0).toInt (fv P (rv P 2 a1.toNat) 1).toInt (fun j : Nat => fv P ((rv P 2 a1.toNat) + 1) j) (fun j : Nat => fv P ((rv P 2 a1.toNat) + 2) j)) y ∧ ((y = 0 ∧ X = -1004) ∨ (¬ y = 0 ∧ X = y))))
def stepsC (P : mP) (X a1 : Int) : Prop := (X = -1001 ∧ (a1 < 0 ∨ (fv P 1 1).toInt ≤ a1 ∨ 8 ≤ a1)) ∨ ((0 ≤ a1 ∧ a1 + 1 ≤ (fv P 1 1).toInt ∧ a1 ≤ 7) ∧ 1 ≤ cntF (fun j : Nat => fv P ((rv P 2 a1.toNat) + 2) j) 0 (nC (fv P (rv P 2 a1.toNat) 0).toInt (fv P (rv P 2 a1.toNat) 1).toInt) ∧ X = -1004) ∨ ((0 ≤ a1 ∧ a1 + 1 ≤ (fv P 1 1).toInt ∧ a1 ≤ 7) ∧ cntF (fun j : Nat => fv P ((rv P 2 a1.toNat) + 2) j) 0 (nC (fv P (rv P 2 a1.toNat) 0).toInt (fv P (rv P 2 a1.toNat) 1).toInt) = 0 ∧ 0 ≤ X ∧ (∃ R2 : RS, RD cC (pcR (fv P (rv P 2 a1.toNat) 0).toInt (fv P (rv P 2 a1.toNat) 1).toInt (fun j : Nat => fv P ((rv P 2 a1.toNat) + 1) j) (fun j : Nat => fv P ((rv P 2 a1.toNat) + 2) j)) X.toNat R2))
def placeC (P : mP) (X a1 a2 : Int) : Prop := (X = -1001 ∧ (a1 < 0 ∨ (fv P 1 1).toInt ≤ a1 ∨ 8 ≤ a1)) ∨ ((0 ≤ a1 ∧ a1 + 1 ≤ (fv P 1 1).toInt ∧ a1 ≤ 7) ∧ ¬ (fv P (rv P 2 a1.toNat) 0).toInt = 0 ∧ X = -1002) ∨ ((0 ≤ a1 ∧ a1 + 1 ≤ (fv P 1 1).toInt ∧ a1 ≤ 7) ∧ (fv P (rv P 2 a1.toNat) 0).toInt = 0 ∧ (a2 < 0 ∨ (fv P (rv P 2 a1.toNat) 1).toInt < a2) ∧ X = -1001) ∨ ((0 ≤ a1 ∧ a1 + 1 ≤ (fv P 1 1).toInt ∧ a1 ≤ 7) ∧ (fv P (rv P 2 a1.toNat) 0).toInt = 0 ∧ (0 ≤ a2 ∧ a2 ≤ (fv P (rv P 2 a1.toNat) 1).toInt) ∧ X = (plF (fun j : Nat => fv P ((rv P 2 a1.toNat) + 1) j) a2.toNat).toInt)
def accountC (P : mP) (X a1 : Int) : Prop := (a1 = 0 ∧ X = (fv P 1 1).toInt) ∨ (a1 = 1 ∧ X = siF (fun k : Nat => isI (fv P (rv P 2 k) 0).toInt 0) (fv P 1 1).toInt.toNat) ∨ (a1 = 2 ∧ X = siF (fun k : Nat => isI (fv P (rv P 2 k) 0).toInt 1) (fv P 1 1).toInt.toNat) ∨ (a1 = 3 ∧ X = siF (fun k : Nat => isI (fv P (rv P 2 k) 2).toInt 1) (fv P 1 1).toInt.toNat) ∨ (a1 = 4 ∧ X = (fv P 1 2).toInt) ∨ (a1 = 5 ∧ X = (fv P 1 2 - smF (fun k : Nat => wpC P (rv P 2 k)) (fv P 1 1).toInt.toNat).toInt) ∨ (a1 = 6 ∧ X = siF (fun k : Nat => pnI (fv P (rv P 2 k) 0).toInt (fv P (rv P 2 k) 1).toInt) (fv P 1 1).toInt.toNat) ∨ (a1 = 7 ∧ X = siF (fun k : Nat => cntF (fun j : Nat => fv P (rv P 2 k + 2) j) 1 (nC (fv P (rv P 2 k) 0).toInt (fv P (rv P 2 k) 1).toInt)) (fv P 1 1).toInt.toNat) ∨ (a1 = 8 ∧ X = siF (fun k : Nat => cntF (fun j : Nat => fv P (rv P 2 k + 2) j) 2 (nC (fv P (rv P 2 k) 0).toInt (fv P (rv P 2 k) 1).toInt)) (fv P 1 1).toInt.toNat) ∨ (a1 = 9 ∧ X = siF (fun k : Nat => cntF (fun j : Nat => fv P (rv P 2 k + 2) j) 0 (nC (fv P (rv P 2 k) 0).toInt (fv P (rv P 2 k) 1).toInt)) (fv P 1 1).toInt.toNat) ∨ (a1 = 10 ∧ X = (fv P 1 3).toInt) ∨ (a1 = 11 ∧ X = (fv P 289 1).toInt) ∨ (a1 = 12 ∧ X = (fv P 79 2).toInt) ∨ ((a1 < 0 ∨ 12 < a1) ∧ X = -1002)
def accountmC (P : mP) (X a1 : Int) : Prop := (a1 = 0 ∧ X = (fv P 302 0).toInt) ∨ (a1 = 1 ∧ X = (fv P 302 0).toInt - siF (fun k : Nat => (fv P 302 (3 + 19 * k)).toInt) (fv P 302 0).toInt.toNat) ∨ (a1 = 2 ∧ X = siF (fun k : Nat => (fv P 302 (3 + 19 * k)).toInt) (fv P 302 0).toInt.toNat) ∨ (a1 = 3 ∧ X = (smF (fun k : Nat => fv P 302 (5 + 19 * k)) (fv P 302 0).toInt.toNat).toInt) ∨ (a1 = 4 ∧ X = (fv P 302 1).toInt) ∨ (a1 = 5 ∧ X = (fv P 302 1 - smF (fun k : Nat => wpM (sr P) k) (fv P 302 0).toInt.toNat).toInt) ∨ (a1 = 6 ∧ X = siF (fun k : Nat => pnI (fv P 302 (3 + 19 * k)).toInt (fv P 302 (4 + 19 * k)).toInt) (fv P 302 0).toInt.toNat) ∨ (a1 = 7 ∧ X = siF (fun k : Nat => cntF (fun j : Nat => fv P 302 (14 + 19 * k + j)) 1 (nC (fv P 302 (3 + 19 * k)).toInt (fv P 302 (4 + 19 * k)).toInt)) (fv P 302 0).toInt.toNat) ∨ (a1 = 8 ∧ X = siF (fun k : Nat => cntF (fun j : Nat => fv P 302 (14 + 19 * k + j)) 2 (nC (fv P 302 (3 + 19 * k)).toInt (fv P 302 (4 + 19 * k)).toInt)) (fv P 302 0).toInt.toNat) ∨ (a1 = 9 ∧ X = siF (fun k : Nat => cntF (fun j : Nat => fv P 302 (14 + 19 * k + j)) 0 (nC (fv P 302 (3 + 19 * k)).toInt (fv P 302 (4 + 19 * k)).toInt)) (fv P 302 0).toInt.toNat) ∨ (a1 = 10 ∧ X = (fv P 302 2).toInt) ∨ (a1 = 11 ∧ X = (fv P 301 23).toInt) ∨ (a1 = 12 ∧ X = (fv P 301 4).toInt) ∨ ((a1 < 0 ∨ 12 < a1) ∧ X = -1002)
def reflectedC (P : mP) (X a1 : Int) : Prop := (X = -1001 ∧ (a1 < 0 ∨ (fv P 1 1).toInt ≤ a1 ∨ 8 ≤ a1)) ∨ ((0 ≤ a1 ∧ a1 + 1 ≤ (fv P 1 1).toInt ∧ a1 ≤ 7) ∧ ¬ (fv P (rv P 2 a1.toNat) 0).toInt = 1 ∧ X = -1002) ∨ ((0 ≤ a1 ∧ a1 + 1 ≤ (fv P 1 1).toInt ∧ a1 ≤ 7) ∧ (fv P (rv P 2 a1.toNat) 0).toInt = 1 ∧ X = rfF (fun j : Nat => fv P ((rv P 2 a1.toNat) + 1) j) (fv P (rv P 2 a1.toNat) 1).toInt.toNat)
def waysC (P : mP) (X a1 : Int) : Prop := (X = -1001 ∧ (a1 < 0 ∨ (fv P 1 1).toInt ≤ a1 ∨ 8 ≤ a1)) ∨ ((0 ≤ a1 ∧ a1 + 1 ≤ (fv P 1 1).toInt ∧ a1 ≤ 7) ∧ CNr (WAYp cM eM (fv P (rv P 2 a1.toNat) 0).toInt (fv P (rv P 2 a1.toNat) 1).toInt (fun j : Nat => fv P ((rv P 2 a1.toNat) + 1) j) (fun j : Nat => fv P ((rv P 2 a1.toNat) + 2) j)) (shN (cI (fv P (rv P 2 a1.toNat) 0).toInt (fv P (rv P 2 a1.toNat) 1).toInt)) X)
def fewestC (P : mP) (X a1 : Int) : Prop := (X = -1001 ∧ (a1 < 0 ∨ (fv P 1 1).toInt ≤ a1 ∨ 8 ≤ a1)) ∨ ((0 ≤ a1 ∧ a1 + 1 ≤ (fv P 1 1).toInt ∧ a1 ≤ 7) ∧ FEr (fun v : Int32 => chF (fun j : Nat => fv P ((rv P 2 a1.toNat) + 2) j) v (nC (fv P (rv P 2 a1.toNat) 0).toInt (fv P (rv P 2 a1.toNat) 1).toInt)) (FWf cM eM (fv P (rv P 2 a1.toNat) 0).toInt (fv P (rv P 2 a1.toNat) 1).toInt (fun j : Nat => fv P ((rv P 2 a1.toNat) + 1) j)) (shN (cI (fv P (rv P 2 a1.toNat) 0).toInt (fv P (rv P 2 a1.toNat) 1).toInt)) X)
def thickestC (P : mP) (X a1 : Int) : Prop := (X = -1001 ∧ (a1 < 0 ∨ (fv P 1 1).toInt ≤ a1 ∨ 8 ≤ a1)) ∨ ((0 ≤ a1 ∧ a1 + 1 ≤ (fv P 1 1).toInt ∧ a1 ≤ 7) ∧ ¬ (fv P (rv P 2 a1.toNat) 0).toInt = 0 ∧ X = -1002) ∨ ((0 ≤ a1 ∧ a1 + 1 ≤ (fv P 1 1).toInt ∧ a1 ≤ 7) ∧ (fv P (rv P 2 a1.toNat) 0).toInt = 0 ∧ X = thF (fun j : Nat => fv P ((rv P 2 a1.toNat) + 1) j) (fv P (rv P 2 a1.toNat) 1).toInt.toNat (fv P (rv P 2 a1.toNat) 1).toInt.toNat)
def shareC (P : mP) (X : Int) : Prop := ((∃ D A : Int32, D.toInt = siF (fun k : Nat => cntF (fun j : Nat => fv P (rv P 2 k + 2) j) 1 (nC (fv P (rv P 2 k) 0).toInt (fv P (rv P 2 k) 1).toInt)) (fv P 1 1).toInt.toNat + siF (fun k : Nat => cntF (fun j : Nat => fv P (rv P 2 k + 2) j) 2 (nC (fv P (rv P 2 k) 0).toInt (fv P (rv P 2 k) 1).toInt)) (fv P 1 1).toInt.toNat ∧ A.toInt = siF (fun k : Nat => cntF (fun j : Nat => fv P (rv P 2 k + 2) j) 1 (nC (fv P (rv P 2 k) 0).toInt (fv P (rv P 2 k) 1).toInt)) (fv P 1 1).toInt.toNat + siF (fun k : Nat => cntF (fun j : Nat => fv P (rv P 2 k + 2) j) 2 (nC (fv P (rv P 2 k) 0).toInt (fv P (rv P 2 k) 1).toInt)) (fv P 1 1).toInt.toNat + siF (fun k : Nat => cntF (fun j : Nat => fv P (rv P 2 k + 2) j) 0 (nC (fv P (rv P 2 k) 0).toInt (fv P (rv P 2 k) 1).toInt)) (fv P 1 1).toInt.toNat ∧ ((A.toInt ≤ 0 ∧ X = -1004) ∨ (0 < A.toInt ∧ X = (boF (FP.fdiv (FP.i2f D) (FP.i2f A))).toInt))))
def sharemC (P : mP) (X : Int) : Prop := ((fv P 302 0).toInt = 0 ∧ X = -1004) ∨ (¬ (fv P 302 0).toInt = 0 ∧ (∃ D A : Int32, D.toInt = siF (fun k : Nat => cntF (fun j : Nat => fv P 302 (14 + 19 * k + j)) 1 (nC (fv P 302 (3 + 19 * k)).toInt (fv P 302 (4 + 19 * k)).toInt)) (fv P 302 0).toInt.toNat + siF (fun k : Nat => cntF (fun j : Nat => fv P 302 (14 + 19 * k + j)) 2 (nC (fv P 302 (3 + 19 * k)).toInt (fv P 302 (4 + 19 * k)).toInt)) (fv P 302 0).toInt.toNat ∧ A.toInt = siF (fun k : Nat => crI (fv P 302 (3 + 19 * k)).toInt (fv P 302 (4 + 19 * k)).toInt) (fv P 302 0).toInt.toNat ∧ ((fl (FP.fdiv (FP.i2f D) (FP.i2f A)) (FP.fdiv (FP.i2f D) (FP.i2f A)) = 0 ∧ X = (UInt32.toInt32 (FP.fdiv (FP.i2f D) (FP.i2f A))).toInt) ∨ (¬ fl (FP.fdiv (FP.i2f D) (FP.i2f A)) (FP.fdiv (FP.i2f D) (FP.i2f A)) = 0 ∧ X = 2143289344))))
def foldsAgainC (P : mP) (X a1 : Int) : Prop := (X = -1001 ∧ (a1 < 0 ∨ (fv P 1 1).toInt ≤ a1 ∨ 8 ≤ a1)) ∨ ((0 ≤ a1 ∧ a1 + 1 ≤ (fv P 1 1).toInt ∧ a1 ≤ 7) ∧ ((¬ (fv P (rv P 2 a1.toNat) 0).toInt = 0 ∧ X = -1002) ∨ ((fv P (rv P 2 a1.toNat) 0).toInt = 0 ∧ 1 ≤ cntF (fun j : Nat => fv P ((rv P 2 a1.toNat) + 2) j) 0 (nC (fv P (rv P 2 a1.toNat) 0).toInt (fv P (rv P 2 a1.toNat) 1).toInt) ∧ X = -1004))) ∨ ((0 ≤ a1 ∧ a1 + 1 ≤ (fv P 1 1).toInt ∧ a1 ≤ 7) ∧ (fv P (rv P 2 a1.toNat) 0).toInt = 0 ∧ cntF (fun j : Nat => fv P ((rv P 2 a1.toNat) + 2) j) 0 (nC (fv P (rv P 2 a1.toNat) 0).toInt (fv P (rv P 2 a1.toNat) 1).toInt) = 0 ∧ ((X = 0 ∧ (sT (nP P (rv P 2 a1.toNat)) (cP P (rv P 2 a1.toNat)) (psP P (rv P 2 a1.toNat))) = 0) ∨ (X = 1 ∧ 1 ≤ (sT (nP P (rv P 2 a1.toNat)) (cP P (rv P 2 a1.toNat)) (psP P (rv P 2 a1.toNat))))))
def ordersC (P : mP) (X a1 : Int) : Prop := (X = -1001 ∧ (a1 < 0 ∨ (fv P 1 1).toInt ≤ a1 ∨ 8 ≤ a1)) ∨ ((0 ≤ a1 ∧ a1 + 1 ≤ (fv P 1 1).toInt ∧ a1 ≤ 7) ∧ ((¬ (fv P (rv P 2 a1.toNat) 0).toInt = 0 ∧ X = -1002) ∨ ((fv P (rv P 2 a1.toNat) 0).toInt = 0 ∧ 1 ≤ cntF (fun j : Nat => fv P ((rv P 2 a1.toNat) + 2) j) 0 (nC (fv P (rv P 2 a1.toNat) 0).toInt (fv P (rv P 2 a1.toNat) 1).toInt) ∧ X = -1004))) ∨ ((0 ≤ a1 ∧ a1 + 1 ≤ (fv P 1 1).toInt ∧ a1 ≤ 7) ∧ (fv P (rv P 2 a1.toNat) 0).toInt = 0 ∧ cntF (fun j : Nat => fv P ((rv P 2 a1.toNat) + 2) j) 0 (nC (fv P (rv P 2 a1.toNat) 0).toInt (fv P (rv P 2 a1.toNat) 1).toInt) = 0 ∧ X = (sT (nP P (rv P 2 a1.toNat)) (cP P (rv P 2 a1.toNat)) (psP P (rv P 2 a1.toNat))))
def layerC (P : mP) (X a1 a2 : Int) : Prop := (X = -1001 ∧ (a1 < 0 ∨ (fv P 1 1).toInt ≤ a1 ∨ 8 ≤ a1)) ∨ ((0 ≤ a1 ∧ a1 + 1 ≤ (fv P 1 1).toInt ∧ a1 ≤ 7) ∧ (fv P (rv P 2 a1.toNat) 0).toInt = 0 ∧ (a2 < 0 ∨ (fv P (rv P 2 a1.toNat) 1).toInt ≤ a2) ∧ X = -1001) ∨ ((0 ≤ a1 ∧ a1 + 1 ≤ (fv P 1 1).toInt ∧ a1 ≤ 7) ∧ (¬ (fv P (rv P 2 a1.toNat) 0).toInt = 0 ∨ (0 ≤ a2 ∧ a2 < (fv P (rv P 2 a1.toNat) 1).toInt)) ∧ ((¬ (fv P (rv P 2 a1.toNat) 0).toInt = 0 ∧ X = -1002) ∨ ((fv P (rv P 2 a1.toNat) 0).toInt = 0 ∧ 1 ≤ cntF (fun j : Nat => fv P ((rv P 2 a1.toNat) + 2) j) 0 (nC (fv P (rv P 2 a1.toNat) 0).toInt (fv P (rv P 2 a1.toNat) 1).toInt) ∧ X = -1004))) ∨ ((0 ≤ a1 ∧ a1 + 1 ≤ (fv P 1 1).toInt ∧ a1 ≤ 7) ∧ (fv P (rv P 2 a1.toNat) 0).toInt = 0 ∧ (0 ≤ a2 ∧ a2 < (fv P (rv P 2 a1.toNat) 1).toInt) ∧ cntF (fun j : Nat => fv P ((rv P 2 a1.toNat) + 2) j) 0 (nC (fv P (rv P 2 a1.toNat) 0).toInt (fv P (rv P 2 a1.toNat) 1).toInt) = 0 ∧ (sT (nP P (rv P 2 a1.toNat)) (cP P (rv P 2 a1.toNat)) (psP P (rv P 2 a1.toNat))) = 0 ∧ X = -1004) ∨ ((0 ≤ a1 ∧ a1 + 1 ≤ (fv P 1 1).toInt ∧ a1 ≤ 7) ∧ (fv P (rv P 2 a1.toNat) 0).toInt = 0 ∧ (0 ≤ a2 ∧ a2 < (fv P (rv P 2 a1.toNat) 1).toInt) ∧ cntF (fun j : Nat => fv P ((rv P 2 a1.toNat) + 2) j) 0 (nC (fv P (rv P 2 a1.toNat) 0).toInt (fv P (rv P 2 a1.toNat) 1).toInt) = 0 ∧ 1 ≤ (sT (nP P (rv P 2 a1.toNat)) (cP P (rv P 2 a1.toNat)) (psP P (rv P 2 a1.toNat))) ∧ (∃ f : Nat → Int, (sF (nP P (rv P 2 a1.toNat)) (cP P (rv P 2 a1.toNat)) (psP P (rv P 2 a1.toNat))) = some f ∧ (a2.toNat < nP P (rv P 2 a1.toNat) → X = f a2.toNat)))
/-! a command is carried out -/
def ccQ (P : mP) (b : Nat) : Int := if (fv P b 0).toInt = 0 then (fv P b 1).toInt - 1 else (fv P b 1).toInt
/-- a piece is added, with as many creases as were told -/
def WCT (P Q : mP) (x k a b n : Int) : Prop := ∃ y : Int, addC P Q y k a b ∧ (((y < 0 ∨ (fv Q 1 1).toInt ≤ y ∨ 8 ≤ y) ∧ x = y) ∨ ((0 ≤ y ∧ y + 1 ≤ (fv Q 1 1).toInt ∧ y ≤ 7) ∧ ccQ Q (rv Q 2 y.toNat) = n ∧ x = y) ∨ ((0 ≤ y ∧ y + 1 ≤ (fv Q 1 1).toInt ∧ y ≤ 7) ∧ ¬ ccQ Q (rv Q 2 y.toNat) = n ∧ x = -1002))
def PFC (P Q : mP) (x l a b n s : Int) : Prop := (l = 115 ∧ WCT P Q x 0 a b n) ∨ (l = 99 ∧ WCT P Q x 1 a b n) ∨ (l = 109 ∧ markC P Q x a b s) ∨ (l = 116 ∧ turnC P Q x a) ∨ (l = 102 ∧ foldC P Q x a) ∨ (l = 117 ∧ unfoldC P Q x a) ∨ (l = 120 ∧ dropC P Q x a) ∨ (¬ (l = 115 ∨ l = 99 ∨ l = 109 ∨ l = 116 ∨ l = 102 ∨ l = 117 ∨ l = 120) ∧ x = -1002)
def ASM (s s' : Nat → Int32) (y k a b n : Int) : Prop := (y = -1002 ∧ (∀ c : Nat, okSz k a c → ¬ n = (c : Int) - 1 + k) ∧ ∀ j : Nat, s' j = s j) ∨ (∃ c : Nat, okSz k a c ∧ n = (c : Int) - 1 + k ∧ addsToldM s s' y k a b)
def DSM (s s' : Nat → Int32) (y l a b n k : Int) : Prop := (l = 109 ∧ marksM s s' y a b k) ∨ (l = 116 ∧ turnsM s s' y a) ∨ (l = 102 ∧ foldsM s s' y a) ∨ (l = 117 ∧ unfoldsM s s' y a) ∨ (l = 120 ∧ dropsM s s' y a) ∨ (¬ (l = 109 ∨ l = 116 ∨ l = 102 ∨ l = 117 ∨ l = 120) ∧ ASM s s' y (if l = 115 then 0 else 1) a b n)
/-- the reference carries out the commands from i on -/
def TRM (c : Int → Int32) (L : Int) : Nat → Int → (Nat → Int32) → (Nat → Int32) → Int → Prop
  | 0 => fun i s s' y => L ≤ i ∧ (∀ j : Nat, s' j = s j) ∧ 0 ≤ y
  | n + 1 => fun i s s' y => i < L ∧ ∃ (i' l a b m k v : Int) (s1 : Nat → Int32), CMD c i i' l a b m k ∧ DSM s s1 v l a b m k ∧ (((-1004 ≤ v ∧ v ≤ -1001) ∧ y < 0) ∨ (¬ (-1004 ≤ v ∧ v ≤ -1001) ∧ TRM c L n (i' + 1) s1 s' y))
def TRX (c : Int → Int32) (L i : Int) (s s' : Nat → Int32) (y : Int) : Prop := ∃ n : Nat, TRM c L n i s s' y
/-- the reference's read: the text is wrong; or its commands are carried out, and what was is kept; or one of them is an error, and all is as before -/
def RDM (P Q : mP) : Prop := (fv Q 301 23).toInt = 0 ∧ fv Q 301 8 = fv P 301 8 ∧ (∀ j : Nat, fv Q 304 j = fv P 304 j) ∧ ((¬ TKT (chM P) (fv P 301 23).toInt 0 ∧ (∀ j : Nat, fv Q 302 j = fv P 302 j) ∧ fv Q 301 4 = fv P 301 4 ∧ ∀ j : Nat, fv Q 305 j = fv P 305 j) ∨ (TKT (chM P) (fv P 301 23).toInt 0 ∧ ∃ (s2 : Nat → Int32) (y : Int), TRX (chM P) (fv P 301 23).toInt 0 (sr P) s2 y ∧
  ((y < 0 ∧ (∀ j : Nat, j < 155 → fv Q 302 j = fv P 302 j) ∧ fv Q 301 4 = fv P 301 4 ∧ ∀ j : Nat, fv Q 305 j = fv P 305 j) ∨ (0 ≤ y ∧ (∀ j : Nat, fv Q 302 j = s2 j) ∧ (((fv P 301 4).toInt < 8 ∧ (fv Q 301 4).toInt = (fv P 301 4).toInt + 1) ∨ ((fv P 301 4).toInt = 8 ∧ (fv Q 301 4).toInt = 8)) ∧ ∀ c j : Nat, c < 8 → j < 155 → fv Q 305 (155 * c + j) = if (fv P 301 4).toInt.toNat = 8 then (if c < 7 then fv P 305 (155 * (c + 1) + j) else fv P 302 j) else (if c = (fv P 301 4).toInt.toNat then fv P 302 j else fv P 305 (155 * c + j))))))
def LET (l : Int) : Prop := l = 115 ∨ l = 99 ∨ l = 109 ∨ l = 116 ∨ l = 102 ∨ l = 117 ∨ l = 120
theorem CMD.let {c : Int → Int32} {i i' l a b n s : Int} (h : CMD c i i' l a b n s) : LET l := by
  obtain ⟨_, ⟨h, _⟩ | ⟨h, _⟩ | ⟨h, _⟩⟩ := h <;> unfold LET <;> omega
def HST (P Q : mP) : Prop := ∀ y j : Nat, 79 ≤ y → y < 289 → fv Q y j = fv P y j
theorem HST.n {P Q : mP} (h : NCH P Q) : HST P Q := fun y j h1 h2 => h.1 y j (by omega) (by omega)
theorem HST.p {P Q : mP} (h : PSH P Q) (hp : (fv P 79 3).toInt = 1) : HST P Q := by
  rcases h.2 with h | h
  · exact fun y j h1 h2 => h.2 y j h1 h2
  · omega
theorem addC.hist {P Q : mP} {x a b c : Int} (h : addC P Q x a b c) (hp : (fv P 79 3).toInt = 1) : HST P Q := by
  rcases h with ⟨_, _, h⟩ | ⟨_, _, _, h⟩ | ⟨_, _, h, _⟩
  · exact HST.n h
  · exact HST.n h
  · exact HST.p h hp
theorem PFC.hist {P Q : mP} {x l a b n s : Int} (h : PFC P Q x l a b n s) (hl : LET l) (hp : (fv P 79 3).toInt = 1) : HST P Q := by
  rcases h with ⟨_, y, h, _⟩ | ⟨_, y, h, _⟩ | ⟨_, h⟩ | ⟨_, h⟩ | ⟨_, h⟩ | ⟨_, h⟩ | ⟨_, h⟩ | ⟨h, _⟩
  · exact h.hist hp
  · exact h.hist hp
  · rcases h with ⟨_, _, h⟩ | ⟨_, _, _, _, h⟩ | ⟨_, _, _, _, _, h⟩ | ⟨_, _, _, _, _, h, _⟩
    · exact HST.n h
    · exact HST.n h
    · exact HST.n h
    · exact HST.p h hp
  · rcases h with ⟨_, _, h⟩ | ⟨_, _, _, h⟩ | ⟨_, _, _, h, _⟩
    · exact HST.n h
    · exact HST.n h
    · exact HST.p h hp
  · rcases h with ⟨_, _, h⟩ | ⟨_, _, _, h⟩ | ⟨_, _, _, _, _, h, _⟩
    · exact HST.n h
    · exact HST.n h
    · exact HST.p h hp
  · rcases h with ⟨_, _, h⟩ | ⟨_, _, _, h⟩ | ⟨_, _, _, h, _⟩
    · exact HST.n h
    · exact HST.n h
    · exact HST.p h hp
  · rcases h with ⟨_, _, h⟩ | ⟨_, _, h, _⟩
    · exact HST.n h
    · exact HST.p h hp
  · exact absurd hl h
def SMC (P Q : mP) : Prop := (∀ x j : Nat, 1 ≤ x → x < 27 → fv Q x j = fv P x j) ∧ ∀ k : Nat, rv Q 2 k = rv P 2 k
/-- the class carries out the commands from i on -/
def TRC (c : Int → Int32) (L : Int) : Nat → Int → mP → mP → Int → Prop
  | 0 => fun i P Q a => L ≤ i ∧ SMC P Q ∧ 0 ≤ a
  | n + 1 => fun i P Q a => i < L ∧ ∃ (i' l a' b m k v : Int) (P0 P1 P2 : mP), CMD c i i' l a' b m k ∧ SMC P P0 ∧ Typ P0 ∧ Inj P0 ∧ PFC P0 P1 v l a' b m k ∧ Typ P1 ∧ ((v < 0 ∧ a < 0) ∨ (0 ≤ v ∧ SMC P1 P2 ∧ Typ P2 ∧ TRC c L n (i' + 1) P2 Q a))
def TRD (c : Int → Int32) (L i : Int) (P Q : mP) (a : Int) : Prop := ∃ n : Nat, TRC c L n i P Q a
theorem TRC.fin {c : Int → Int32} {L i j : Int} {n : Nat} {P Q : mP} {a : Int} (h1 : L ≤ i) (h2 : L ≤ j) (h : TRC c L n i P Q a) : TRC c L n j P Q a := by
  cases n with
  | zero => exact ⟨h2, h.2⟩
  | succ n =>
    obtain ⟨g, _⟩ := h
    omega
theorem SCn.cong {P Q Q' : mP} (h : SCn Q 27 P) (f : ∀ y j : Nat, 27 ≤ y → y < 53 → fv Q' y j = fv Q y j) : SCn Q' 27 P := by
  refine ⟨(f _ _ (by omega) (by omega)).trans h.1, (f _ _ (by omega) (by omega)).trans h.2.1, (f _ _ (by omega) (by omega)).trans h.2.2.1, fun k hk hz => ?_⟩
  have q := h.2.2.2 k hk hz
  exact ⟨(f _ _ (by omega) (by omega)).trans q.1, (f _ _ (by omega) (by omega)).trans q.2.1, (f _ _ (by omega) (by omega)).trans q.2.2.1, fun j hj => (f _ _ (by omega) (by omega)).trans (q.2.2.2.1 j hj), fun j hj => (f _ _ (by omega) (by omega)).trans (q.2.2.2.2 j hj)⟩
theorem SMC.trans {P Q R : mP} (h : SMC P Q) (g : SMC Q R) : SMC P R := ⟨fun x j h1 h2 => (g.1 x j h1 h2).trans (h.1 x j h1 h2), fun k => (g.2 k).trans (h.2 k)⟩
/-- a run begins as well where the stage's own state was the same -/
theorem TRC.from {c : Int → Int32} {L i : Int} {n : Nat} {P P' Q : mP} {a : Int} (h : SMC P P') (_ : Typ P) (g : TRC c L n i P' Q a) : TRC c L n i P Q a := by
  cases n with
  | zero => exact ⟨g.1, h.trans g.2.1, g.2.2⟩
  | succ n =>
    obtain ⟨g1, i', l, a', b, m, k, v, P0, P1, P2, g2, g3, g4⟩ := g
    exact ⟨g1, i', l, a', b, m, k, v, P0, P1, P2, g2, h.trans g3, g4⟩
theorem PE.trans {R Q P : mP} {a b c : Nat} (h : PE R a Q b) (g : PE Q b P c) : PE R a P c := ⟨h.1.trans g.1, h.2.1.trans g.2.1, h.2.2.1.trans g.2.2.1, fun j hj => (h.2.2.2.1 j hj).trans (g.2.2.2.1 j hj), fun j hj => (h.2.2.2.2 j hj).trans (g.2.2.2.2 j hj)⟩
theorem SCs.trans {R Q P : mP} {A : Nat} (h : SCs R A Q 27) (g : SCn Q 27 P) : SCn R A P := ⟨h.1.trans g.1, h.2.1.trans g.2.1, h.2.2.1.trans g.2.2.1, fun k hk hz => (h.2.2.2 k hk (by rw [g.1]; exact hz)).trans (g.2.2.2 k hk hz)⟩
/-- the class's read: the text is wrong; or one of its commands is an error, and the state is as before; or all are carried out, and the state that was is kept -/
def RDC (P Q : mP) : Prop := fv Q 0 8 = fv P 0 8 ∧ (∀ x j : Nat, 53 ≤ x → x < 79 → fv Q x j = fv P x j) ∧ ((¬ TKT (chC P) (fv P 289 1).toInt 0 ∧ (∀ x j : Nat, 1 ≤ x → x < 289 → fv Q x j = fv P x j) ∧ ∀ k : Nat, rv Q 2 k = rv P 2 k) ∨ (TKT (chC P) (fv P 289 1).toInt 0 ∧ (fv Q 79 3).toInt = 0 ∧ ∃ (R : mP) (a : Int), TRD (chC P) (fv P 289 1).toInt 0 P R a ∧ Typ R ∧
  ((a < 0 ∧ (fv Q 1 1 = fv P 1 1 ∧ fv Q 1 2 = fv P 1 2 ∧ fv Q 1 3 = fv P 1 3 ∧ ∀ k : Nat, k < 8 → (k : Int) < (fv P 1 1).toInt → PE Q (rv Q 2 k) P (rv P 2 k)) ∧ (∀ x j : Nat, 80 ≤ x → x < 289 → fv Q x j = fv P x j) ∧ fv Q 79 1 = fv P 79 1 ∧ fv Q 79 2 = fv P 79 2) ∨
   (0 ≤ a ∧ SMC R Q ∧ (((fv P 79 1).toInt < 7 ∧ (fv Q 79 1).toInt = (fv P 79 1).toInt + 1) ∨ ((fv P 79 1).toInt = 7 ∧ (fv Q 79 1).toInt = 0)) ∧ (((fv P 79 2).toInt < 8 ∧ (fv Q 79 2).toInt = (fv P 79 2).toInt + 1) ∨ ((fv P 79 2).toInt = 8 ∧ (fv Q 79 2).toInt = 8)) ∧ SCn Q (81 + 26 * (fv P 79 1).toInt.toNat) P ∧ ∀ x j : Nat, 81 ≤ x → x < 289 → (x < 81 + 26 * (fv P 79 1).toInt.toNat ∨ 81 + 26 * (fv P 79 1).toInt.toNat + 26 ≤ x) → fv Q x j = fv P x j))))
/-! the reference's numbers of a piece -/
theorem pieceM.k0 {s : Nat → Int32} {x a : Int} (h : pieceM s x a 0) (h0 : 0 ≤ a) (h1 : a + 1 ≤ (s 0).toInt) : x = (s (3 + 19 * a.toNat)).toInt := by
  unfold pieceM at h
  omega
theorem pieceM.k2 {s : Nat → Int32} {x a : Int} (h : pieceM s x a 2) (h0 : 0 ≤ a) (h1 : a + 1 ≤ (s 0).toInt) : x = crI (s (3 + 19 * a.toNat)).toInt (s (4 + 19 * a.toNat)).toInt := by
  unfold pieceM at h
  unfold crI; split <;> omega
theorem pieceM.k7 {s : Nat → Int32} {x a : Int} (h : pieceM s x a 7) (h0 : 0 ≤ a) (h1 : a + 1 ≤ (s 0).toInt) : x = (s (5 + 19 * a.toNat)).toInt := by
  unfold pieceM at h
  omega
theorem pieceM.k3 {s : Nat → Int32} {x a : Int} (h : pieceM s x a 3) (h0 : 0 ≤ a) (h1 : a + 1 ≤ (s 0).toInt) : x = cntF (fun j : Nat => s (14 + 19 * a.toNat + j)) 1 (nC (s (3 + 19 * a.toNat)).toInt (s (4 + 19 * a.toNat)).toInt) := by
  unfold pieceM at h
  omega
theorem pieceM.k4 {s : Nat → Int32} {x a : Int} (h : pieceM s x a 4) (h0 : 0 ≤ a) (h1 : a + 1 ≤ (s 0).toInt) : x = cntF (fun j : Nat => s (14 + 19 * a.toNat + j)) 2 (nC (s (3 + 19 * a.toNat)).toInt (s (4 + 19 * a.toNat)).toInt) := by
  unfold pieceM at h
  omega
theorem pieceM.k5 {s : Nat → Int32} {x a : Int} (h : pieceM s x a 5) (h0 : 0 ≤ a) (h1 : a + 1 ≤ (s 0).toInt) : x = cntF (fun j : Nat => s (14 + 19 * a.toNat + j)) 0 (nC (s (3 + 19 * a.toNat)).toInt (s (4 + 19 * a.toNat)).toInt) := by
  unfold pieceM at h
  omega
