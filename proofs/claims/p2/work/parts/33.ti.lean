/-! what the rows over typed pools need of Int32 -/
theorem ti_full (x : Int32) : (-2147483648 : Int) ≤ x.toInt ∧ x.toInt ≤ 2147483647 := ⟨Int32.le_toInt x, by have := Int32.toInt_lt x; omega⟩
theorem ti_lt {x y : Int32} {a b : Int} (h : x < y) (ha : x.toInt = a := by rfl) (hb : y.toInt = b := by rfl) : a < b := by
  subst ha; subst hb; exact Int32.lt_iff_toInt_lt.mp h
theorem ti_lt_n {x y : Int32} {a b : Int} (h : ¬ x < y) (ha : x.toInt = a := by rfl) (hb : y.toInt = b := by rfl) : a ≥ b := by
  subst ha; subst hb
  rw [Int32.lt_iff_toInt_lt] at h
  omega
theorem ti_le {x y : Int32} {a b : Int} (h : x ≤ y) (ha : x.toInt = a := by rfl) (hb : y.toInt = b := by rfl) : a ≤ b := by
  subst ha; subst hb; exact Int32.le_iff_toInt_le.mp h
theorem ti_le_n {x y : Int32} {a b : Int} (h : ¬ x ≤ y) (ha : x.toInt = a := by rfl) (hb : y.toInt = b := by rfl) : a > b := by
  subst ha; subst hb
  rw [Int32.le_iff_toInt_le] at h
  omega
theorem ti_ge {x y : Int32} {a b : Int} (h : y ≤ x) (ha : x.toInt = a := by rfl) (hb : y.toInt = b := by rfl) : a ≥ b := ti_le h hb ha
theorem ti_ge_n {x y : Int32} {a b : Int} (h : ¬ y ≤ x) (ha : x.toInt = a := by rfl) (hb : y.toInt = b := by rfl) : a < b := ti_le_n h hb ha
theorem ti_gt {x y : Int32} {a b : Int} (h : y < x) (ha : x.toInt = a := by rfl) (hb : y.toInt = b := by rfl) : a > b := ti_lt h hb ha
theorem ti_gt_n {x y : Int32} {a b : Int} (h : ¬ y < x) (ha : x.toInt = a := by rfl) (hb : y.toInt = b := by rfl) : a ≤ b := ti_lt_n h hb ha
theorem ti_eq {x y : Int32} {a b : Int} (h : x = y) (ha : x.toInt = a := by rfl) (hb : y.toInt = b := by rfl) : a = b := by
  subst ha; subst hb; rw [h]
theorem ti_eq_n {x y : Int32} {a b : Int} (h : ¬ x = y) (ha : x.toInt = a := by rfl) (hb : y.toInt = b := by rfl) : a ≠ b := by
  subst ha; subst hb; exact fun e => h (Int32.toInt_inj.mp e)
theorem ti_ne {x y : Int32} {a b : Int} (h : ¬ x = y) (ha : x.toInt = a := by rfl) (hb : y.toInt = b := by rfl) : a ≠ b := ti_eq_n h ha hb
theorem ti_ne_n {x y : Int32} {a b : Int} (h : ¬ ¬ x = y) (ha : x.toInt = a := by rfl) (hb : y.toInt = b := by rfl) : a = b := ti_eq (Decidable.not_not.mp h) ha hb
theorem ti_01 {x : Int32} (h : x.toInt = 0 ∨ x.toInt = 1) : x = 0 ∨ x = 1 := h.elim (fun e => Or.inl (Int32.toInt_inj.mp e)) (fun e => Or.inr (Int32.toInt_inj.mp e))
theorem ti_bm {x : Int} (h1 : -2147483648 ≤ x) (h2 : x ≤ 2147483647) : x.bmod (2 ^ 32) = x := by
  rw [Int.bmod_def]
  split <;> omega
theorem ti_add {x y : Int32} {a b : Int} (ha : x.toInt = a) (hb : y.toInt = b) (h1 : -2147483648 ≤ a + b) (h2 : a + b ≤ 2147483647) : (x + y).toInt = a + b := by
  rw [Int32.toInt_add, ha, hb, ti_bm h1 h2]
theorem ti_sub {x y : Int32} {a b : Int} (ha : x.toInt = a) (hb : y.toInt = b) (h1 : -2147483648 ≤ a - b) (h2 : a - b ≤ 2147483647) : (x - y).toInt = a - b := by
  rw [Int32.toInt_sub, ha, hb, ti_bm h1 h2]
theorem ti_mul {x y : Int32} {a b : Int} (ha : x.toInt = a) (hb : y.toInt = b) (h1 : -2147483648 ≤ a * b) (h2 : a * b ≤ 2147483647) : (x * y).toInt = a * b := by
  rw [Int32.toInt_mul, ha, hb, ti_bm h1 h2]
theorem ti_fit {x : Int32} (h : x.toInt = 0 ∨ x.toInt = 1) : mfit .boolean (.int x) = true := by
  rcases ti_01 h with rfl | rfl <;> rfl
theorem ti_mm7 {x y z : Int32} (h : (if (7 : Nat) = 7 then (if x < y then y else x) else (if y < x then y else x)) = z) : z.toInt = max x.toInt y.toInt := by
  rw [if_pos rfl] at h
  subst h
  split
  · rename_i h
    have := Int32.lt_iff_toInt_lt.mp h
    omega
  · rename_i h
    rw [Int32.lt_iff_toInt_lt] at h
    omega
theorem ti_mm8 {x y z : Int32} (h : (if (8 : Nat) = 7 then (if x < y then y else x) else (if y < x then y else x)) = z) : z.toInt = min x.toInt y.toInt := by
  rw [if_neg (by decide)] at h
  subst h
  split
  · rename_i h
    have := Int32.lt_iff_toInt_lt.mp h
    omega
  · rename_i h
    rw [Int32.lt_iff_toInt_lt] at h
    omega
theorem ti_n0 {y : Int32} (h : ¬ y.toInt = 0) : ¬ y = 0 := fun e => h (by rw [e]; rfl)
theorem ti_div {x y z : Int32} (h : x / y = z) (hx : 0 ≤ x.toInt) (hy : 0 < y.toInt) : z.toInt = x.toInt / y.toInt := by
  subst h
  have w := ti_full x
  rw [Int32.toInt_div, Int.tdiv_eq_ediv_of_nonneg hx]
  have h1 : 0 ≤ x.toInt / y.toInt := Int.ediv_nonneg hx (by omega)
  have h2 : x.toInt / y.toInt ≤ x.toInt := Int.ediv_le_self _ hx
  exact ti_bm (by omega) (by omega)
theorem ti_rem {x y z : Int32} (h : x - x / y * y = z) (hx : 0 ≤ x.toInt) (hy : 0 < y.toInt) : 0 ≤ z.toInt ∧ z.toInt < y.toInt := by
  have w := ti_full x
  have d := ti_div (x := x) (y := y) rfl hx hy
  have h1 : 0 ≤ x.toInt / y.toInt := Int.ediv_nonneg hx (by omega)
  have h3 := Int.emod_nonneg x.toInt (b := y.toInt) (by omega)
  have h4 := Int.emod_lt_of_pos x.toInt hy
  have h5 := Int.mul_ediv_add_emod x.toInt y.toInt
  have h6 : x.toInt / y.toInt * y.toInt = y.toInt * (x.toInt / y.toInt) := Int.mul_comm _ _
  have h7 : 0 ≤ y.toInt * (x.toInt / y.toInt) := Int.mul_nonneg (by omega) h1
  have m := ti_mul (y := y) (b := y.toInt) d rfl (by omega) (by omega)
  have s := ti_sub (x := x) (y := x / y * y) (a := x.toInt) rfl m (by omega) (by omega)
  subst h
  omega
theorem np_ar {b : Nat} (h : rl b = 33) : b % 3 = 0 ∧ 3 ≤ b ∧ b ≤ 24 := by
  have h1 := rl_lt h (by decide)
  have h2 : (List.range 315).all (fun b => !(rl b == 33) || (b % 3 == 0 && (decide (3 ≤ b) && decide (b ≤ 24)))) = true := by decide +kernel
  have h3 := List.all_eq_true.mp h2 b (List.mem_range.mpr h1)
  rw [h] at h3
  simpa using h3
theorem ar_all {t : Nat} {f : Nat → Bool} (h2 : (List.range 315).all (fun b => !(rl b == t) || f b) = true) {b : Nat} (h : rl b = t) (ht : t ≠ 99) : f b = true := by
  have h3 := List.all_eq_true.mp h2 b (List.mem_range.mpr (rl_lt h ht))
  rw [h] at h3
  simpa using h3
theorem pc_ar {b : Nat} (h : rl b = 3) : 29 ≤ b ∧ b ≤ 298 ∧ (b ≤ 286 ∨ b = 298) := by
  have := ar_all (f := fun b => decide (29 ≤ b ∧ b ≤ 298 ∧ (b ≤ 286 ∨ b = 298))) (by decide +kernel) h (by decide)
  exact of_decide_eq_true this
theorem st_ar {b : Nat} (h : rl b = 1) : 27 ≤ b ∧ b ≤ 263 := by
  have := ar_all (f := fun b => decide (27 ≤ b ∧ b ≤ 263)) (by decide +kernel) h (by decide)
  exact of_decide_eq_true this
/-- the stage's own pieces are eight -/
def Inj (P : mP) : Prop := ∀ i j : Nat, i < 8 → j < 8 → rv P 2 i = rv P 2 j → i = j
theorem Inj.st {P P' : mP} (h : Inj P) (g : ∀ b j : Nat, rv P' b j = rv P b j) : Inj P' := fun i j hi hj e => h i j hi hj (by rw [g, g] at e; exact e)
theorem Inj.kw {W : List Nat} {P P' : mP} (h : Inj P) (g : KW W P P') (hw : W.contains 2048 = false) : Inj P' := fun i j hi hj e => h i j hi hj (by rw [g.2.2 hw, g.2.2 hw] at e; exact e)
/-- cells below lo and from hi on are as they were -/
def KI (lo hi : Nat) (P P' : mP) : Prop := ∀ x j : Nat, x < lo ∨ hi ≤ x → fv P' x j = fv P x j
/-- the order of the pieces while one is taken out -/
def RMv (P Q : mP) (t i : Nat) : Prop := ∀ k : Nat, rv Q 2 k = if t ≤ k ∧ k + 1 < i then rv P 2 (k + 1) else rv P 2 k
def RMf (P Q : mP) (t l : Nat) : Prop := ∀ k : Nat, rv Q 2 k = if t ≤ k ∧ k < l then rv P 2 (k + 1) else if k = l then rv P 2 t else rv P 2 k
theorem RMv.start {P : mP} {t i : Nat} (h : i = t + 1) : RMv P P t i := fun k => by rw [if_neg (by omega)]
theorem RMv.step {P Q Q' : mP} {t i i' n m b : Nat} (h : RMv P Q t i) (f1 : rv Q' 2 n = b) (f2 : ∀ x j : Nat, ¬ (x = 2 ∧ j = n) → rv Q' x j = rv Q x j) (hb : rv Q 2 m = b) (hi : i' = i + 1 ∧ t < i) (hn : n + 1 = i) (hm : m = i) : RMv P Q' t i' := by
  intro k
  obtain ⟨rfl, hi⟩ := hi
  by_cases e : k = n
  · subst e
    rw [f1, ← hb, h m, if_neg (by omega), if_pos (by omega), hm, ← hn]
  · rw [f2 2 k (fun g => e g.2), h k]
    by_cases c : t ≤ k ∧ k + 1 < i
    · rw [if_pos c, if_pos (by omega)]
    · rw [if_neg c, if_neg (by omega)]
theorem RMv.fin {P Q Q' : mP} {t i n b l : Nat} (h : RMv P Q t i) (f1 : rv Q' 2 n = b) (f2 : ∀ x j : Nat, ¬ (x = 2 ∧ j = n) → rv Q' x j = rv Q x j) (hb : rv P 2 t = b) (hn : n + 1 = i) (hl : l = n) (ht : t < i) (_hk : t ≤ n) : RMf P Q' t l := by
  intro k
  subst hl
  by_cases e : k = l
  · subst e
    rw [f1, if_neg (by omega), if_pos rfl, hb]
  · rw [f2 2 k (fun g => e g.2), h k]
    by_cases c : t ≤ k ∧ k + 1 < i
    · rw [if_pos c, if_pos (by omega)]
    · rw [if_neg c, if_neg (by omega), if_neg e]
theorem RMf.inj {P Q : mP} {t l : Nat} (h : RMf P Q t l) (hi : Inj P) (ht : t ≤ l) (hl : l < 8) (_h0 : t < 8) : Inj Q := by
  have key : ∀ k : Nat, k < 8 → ∃ k', k' < 8 ∧ rv Q 2 k = rv P 2 k' ∧ k' = (if t ≤ k ∧ k < l then k + 1 else if k = l then t else k) := by
    intro k hk
    refine ⟨_, ?_, ?_, rfl⟩
    · split
      · omega
      · split <;> omega
    · rw [h k]
      split
      · rfl
      · split <;> rfl
  intro a b ha hb e
  obtain ⟨a', ha1, ha2, ha3⟩ := key a ha
  obtain ⟨b', hb1, hb2, hb3⟩ := key b hb
  have := hi a' b' ha1 hb1 (by rw [← ha2, ← hb2, e])
  rw [ha3, hb3] at this
  split at this <;> split at this <;> first | omega | (split at this <;> first | omega | (split at this <;> omega))
/-- the refs in the row of the stage's pieces -/
theorem rv_np {P : mP} (h : Typ P) (k : Nat) (hk : k < 8) : rl (rv P 2 k) = 33 ∧ rv P 2 k % 3 = 0 ∧ 3 ≤ rv P 2 k ∧ rv P 2 k ≤ 24 := by
  obtain ⟨-, -, -, -, h4⟩ := h.ref (a := 2) (r := 32) (j := k) (t := 33) (lo := 0) (hi := 0) rl_2 (by decide) hk rfl
  exact ⟨h4, np_ar h4⟩
theorem np_dis {P : mP} {b i k : Nat} (h : Inj P) (hT : Typ P) (hk : k < 8) (hi : i < 8) (hn : ¬ k = i) (hb : rv P 2 i = b) : rv P 2 k + 3 ≤ b ∨ b + 3 ≤ rv P 2 k := by
  have h1 := (rv_np hT k hk).2.1
  have h2 := (rv_np hT i hi).2.1
  have h3 : ¬ rv P 2 k = rv P 2 i := fun e => hn (h k i hk hi e)
  omega
theorem KI.refl {lo hi : Nat} {P : mP} : KI lo hi P P := fun _ _ _ => rfl
theorem KI.trans {lo hi lo2 hi2 : Nat} {P P1 P2 : mP} (h : KI lo hi P P1) (g : KI lo2 hi2 P1 P2) (hs : lo ≤ lo2 ∧ hi2 ≤ hi) : KI lo hi P P2 := fun x j hx => (g x j (by omega)).trans (h x j hx)
/-- the piece at b of Q is that at c of P -/
def PE (Q : mP) (b : Nat) (P : mP) (c : Nat) : Prop := fv Q b 0 = fv P c 0 ∧ fv Q b 1 = fv P c 1 ∧ fv Q b 2 = fv P c 2 ∧ (∀ j : Nat, j < 8 → fv Q (b + 1) j = fv P (c + 1) j) ∧ ∀ j : Nat, j < 8 → fv Q (b + 2) j = fv P (c + 2) j
theorem PE.keep {P Q R : mP} {b c lo hi : Nat} (h : PE Q b P c) (g : KI lo hi Q R) (hd : b + 3 ≤ lo ∨ hi ≤ b) : PE R b P c := ⟨(g b 0 (by omega)).trans h.1, (g b 1 (by omega)).trans h.2.1, (g b 2 (by omega)).trans h.2.2.1, fun j hj => (g (b + 1) j (by omega)).trans (h.2.2.2.1 j hj), fun j hj => (g (b + 2) j (by omega)).trans (h.2.2.2.2 j hj)⟩
theorem np_dis0 {b c : Nat} (h : ¬ b = c) (hb : b % 3 = 0) (hc : c % 3 = 0) : b + 3 ≤ c ∨ c + 3 ≤ b := by omega
theorem PE.refl (P : mP) (b : Nat) : PE P b P b := ⟨rfl, rfl, rfl, fun _ _ => rfl, fun _ _ => rfl⟩
/-- a copy of the stage's own state at A; of the state at B; the stage's own as the state at B -/
def SCn (Q : mP) (A : Nat) (P : mP) : Prop := fv Q A 1 = fv P 1 1 ∧ fv Q A 2 = fv P 1 2 ∧ fv Q A 3 = fv P 1 3 ∧ ∀ k : Nat, k < 8 → (k : Int) < (fv P 1 1).toInt → PE Q (A + 2 + 3 * k) P (rv P 2 k)
def SCs (Q : mP) (A : Nat) (P : mP) (B : Nat) : Prop := fv Q A 1 = fv P B 1 ∧ fv Q A 2 = fv P B 2 ∧ fv Q A 3 = fv P B 3 ∧ ∀ k : Nat, k < 8 → (k : Int) < (fv P B 1).toInt → PE Q (A + 2 + 3 * k) P (B + 2 + 3 * k)
theorem SCn.keep {P Q R : mP} {A lo hi : Nat} (h : SCn Q A P) (g : KI lo hi Q R) (hd : A + 26 ≤ lo ∨ hi ≤ A) : SCn R A P := ⟨(g A 1 (by omega)).trans h.1, (g A 2 (by omega)).trans h.2.1, (g A 3 (by omega)).trans h.2.2.1, fun k hk h2 => (h.2.2.2 k hk h2).keep g (by omega)⟩
theorem SCs.keep {P Q R : mP} {A B lo hi : Nat} (h : SCs Q A P B) (g : KI lo hi Q R) (hd : A + 26 ≤ lo ∨ hi ≤ A) : SCs R A P B := ⟨(g A 1 (by omega)).trans h.1, (g A 2 (by omega)).trans h.2.1, (g A 3 (by omega)).trans h.2.2.1, fun k hk h2 => (h.2.2.2 k hk h2).keep g (by omega)⟩
def SCi (Q : mP) (P : mP) (B : Nat) : Prop := fv Q 1 1 = fv P B 1 ∧ fv Q 1 2 = fv P B 2 ∧ fv Q 1 3 = fv P B 3 ∧ ∀ k : Nat, k < 8 → (k : Int) < (fv P B 1).toInt → PE Q (rv P 2 k) P (B + 2 + 3 * k)
theorem PE.src {P0 P Q : mP} {b c lo hi : Nat} (h : PE Q b P c) (g : KI lo hi P0 P) (hd : c + 3 ≤ lo ∨ hi ≤ c) : PE Q b P0 c := ⟨h.1.trans (g c 0 (by omega)), h.2.1.trans (g c 1 (by omega)), h.2.2.1.trans (g c 2 (by omega)), fun j hj => (h.2.2.2.1 j hj).trans (g (c + 1) j (by omega)), fun j hj => (h.2.2.2.2 j hj).trans (g (c + 2) j (by omega))⟩
theorem pe_back {Po P Q : mP} (da sa : Nat → Nat) {v z : Int} {b c lo hi : Nat} (h : ∀ k : Nat, k < 8 → (k : Int) < v → PE P (da k) Po (sa k)) (hz : z = v + 1) (hv : 0 ≤ v) (hb : da v.toNat = b) (hc : sa v.toNat = c) (pe : PE Q b P c) (k0 : KI lo hi Po P) (hcs : c + 3 ≤ lo ∨ hi ≤ c) (ki : KI b (b + 3) P Q) (hd : ∀ k : Nat, k < 8 → ¬ k = v.toNat → da k + 3 ≤ b ∨ b + 3 ≤ da k) : ∀ k : Nat, k < 8 → (k : Int) < z → PE Q (da k) Po (sa k) := by
  intro k hk hkz
  by_cases e : k = v.toNat
  · subst e
    rw [hb, hc]
    exact pe.src k0 hcs
  · exact (h k hk (by omega)).keep ki (hd k hk e)
theorem ti_addz {x y z : Int32} {a b : Int} (h : x + y = z) (ha : x.toInt = a) (hb : y.toInt = b) (h1 : -2147483648 ≤ a + b) (h2 : a + b ≤ 2147483647) : z.toInt = a + b := h ▸ ti_add ha hb h1 h2
theorem ti_subz {x y z : Int32} {a b : Int} (h : x - y = z) (ha : x.toInt = a) (hb : y.toInt = b) (h1 : -2147483648 ≤ a - b) (h2 : a - b ≤ 2147483647) : z.toInt = a - b := h ▸ ti_sub ha hb h1 h2
theorem ti_mulz {x y z : Int32} {a b : Int} (h : x * y = z) (ha : x.toInt = a) (hb : y.toInt = b) (h1 : -2147483648 ≤ a * b) (h2 : a * b ≤ 2147483647) : z.toInt = a * b := h ▸ ti_mul ha hb h1 h2
theorem ti_ex (e : Int32) : ∃ z : Int32, e = z := ⟨e, rfl⟩
theorem Typ.rng {P : mP} {a r k : Nat} {lo hi : Int} (h : Typ P) (hr : rl a = r) (hn : r ≠ 99) (hl : k < (rsp r).2.1) (hs : (rsp r).2.2 k = (0, lo, hi)) : lo ≤ (fv P a k).toInt ∧ (fv P a k).toInt ≤ hi := by
  obtain ⟨_, -, -, -, h1, h2⟩ := h.int hr hn hl hs
  exact ⟨h1, h2⟩
theorem ssp_0 (j : Nat) : (ssp j).1 = 0 := by
  unfold ssp
  split
  · rfl
  · split
    · rfl
    · split
      · rfl
      · split <;> rfl
theorem okS_mk {i x : Int32} (h3 : 3 ≤ i.toInt) (g1 : (i.toInt - 3) % 19 = 0 → 0 ≤ x.toInt ∧ x.toInt ≤ 1) (g2 : (i.toInt - 3) % 19 = 1 → 0 ≤ x.toInt ∧ x.toInt ≤ 8) : okV (ssp i.toInt.toNat) (.int x) := by
  unfold ssp
  rw [if_neg (by omega), if_neg (by omega)]
  split
  · rename_i h
    exact ⟨rfl, g1 (by omega)⟩
  · split
    · rename_i h
      exact ⟨rfl, g2 (by omega)⟩
    · exact ⟨rfl, ti_full x⟩
theorem okS_get0 {i x : Int32} (h : okV (ssp i.toInt.toNat) (.int x)) (h3 : 3 ≤ i.toInt) (h0 : (i.toInt - 3) % 19 = 0) : 0 ≤ x.toInt ∧ x.toInt ≤ 1 := by
  unfold ssp at h
  rw [if_neg (by omega), if_neg (by omega), if_pos (by omega)] at h
  exact h.2
theorem okS_get1 {i x : Int32} (h : okV (ssp i.toInt.toNat) (.int x)) (h3 : 3 ≤ i.toInt) (h0 : (i.toInt - 3) % 19 = 1) : 0 ≤ x.toInt ∧ x.toInt ≤ 8 := by
  unfold ssp at h
  rw [if_neg (by omega), if_neg (by omega), if_neg (by omega), if_pos (by omega)] at h
  exact h.2
theorem mp_abs {d : Nat} {scr : Option (List Int32)} {q : mQ} {pc : Nat} {L : List (Nat × Value)} {rest : List Value} {P : mP} {cz sz : Nat} {Φ : Option Value → mP → Prop} {i k : Nat} {x v : Int32} (hd : decode q.2.1 pc = .ok (.invokestatic i, 3)) (hc : mcal q.2.2.2.2.2.1 i = some (9, k)) (hcat : (rest.map mcat).sum ≤ 8) (hv : (if 0 ≤ x then x else 0 - x) = v) (hcz : cz ≤ q.2.2.2.2.2.2.1 ∧ sz ≤ q.2.2.2.2.2.2.2) (kk : MEvP d scr q (pc + 3) L (.int v :: rest) P cz sz Φ) : MEvP d scr q pc L (.int x :: rest) P cz sz Φ := by
  subst hv
  obtain ⟨r, P', h1, F, f, hh⟩ := kk
  refine ⟨r, P', h1, F, f + 1, ?_⟩
  have hC : mC (mcall F d) q.2.1 q.2.2.2.2.2.1 pc (.int x :: rest) P = some (pc + 3, .int (if 0 ≤ x then x else 0 - x) :: rest, P, 0, 0) := by
    simp only [mC, hd, hc]
    rw [if_neg (by omega), if_neg (by omega), if_pos trivial, if_pos hcat]
  unfold mexec
  rw [show mA q.2.1 q.2.2.1 pc L (.int x :: rest) = none by simp only [mA, hd], show mS q.2.1 pc (.int x :: rest) = none by simp only [mS, hd], show mB q.2.1 q.2.2.2.2.2.1 (q.1.name == "<init>") pc (.int x :: rest) P = none by simp only [mB, hd], hC]
  dsimp only
  rw [Nat.add_zero, Nat.add_zero, if_pos hcz]
  exact hh
theorem mp_nat {d : Nat} {scr : Option (List Int32)} {q : mQ} {pc : Nat} {L : List (Nat × Value)} {rest : List Value} {P : mP} {cz sz : Nat} {Φ : Option Value → mP → Prop} {i k : Nat} {x : UInt32} {v : Int32} (hd : decode q.2.1 pc = .ok (.invokestatic i, 3)) (hc : mcal q.2.2.2.2.2.1 i = some (10, k)) (hcat : (rest.map mcat).sum ≤ 8) (hv : x.toInt32 = v) (hcz : cz ≤ q.2.2.2.2.2.2.1 ∧ sz ≤ q.2.2.2.2.2.2.2) (kk : MEvP d scr q (pc + 3) L (.int v :: rest) P cz sz Φ) : MEvP d scr q pc L (.float x :: rest) P cz sz Φ := by
  subst hv
  obtain ⟨r, P', h1, F, f, hh⟩ := kk
  refine ⟨r, P', h1, F, f + 1, ?_⟩
  have hC : mC (mcall F d) q.2.1 q.2.2.2.2.2.1 pc (.float x :: rest) P = some (pc + 3, .int x.toInt32 :: rest, P, 0, 0) := by
    simp only [mC, hd, hc]
    rw [if_neg (by omega), if_neg (by omega), if_neg (by omega), if_pos trivial, if_pos hcat]
  unfold mexec
  rw [show mA q.2.1 q.2.2.1 pc L (.float x :: rest) = none by simp only [mA, hd], show mS q.2.1 pc (.float x :: rest) = none by simp only [mS, hd], show mB q.2.1 q.2.2.2.2.2.1 (q.1.name == "<init>") pc (.float x :: rest) P = none by simp only [mB, hd], hC]
  dsimp only
  rw [Nat.add_zero, Nat.add_zero, if_pos hcz]
  exact hh
theorem uf_ex (e : UInt32) : ∃ z : UInt32, e = z := ⟨e, rfl⟩
section AR
variable {cc : ByteArray} {nL pc : Nat} {L L' : List (Nat × Value)} {st r : List Value}
theorem a_fload_n {k : Fin 4} {x : UInt32} (hd : decode cc pc = .ok (.fload_n k, 1)) (hg : mget L k = some (.float x)) : mA cc nL pc L st = some (pc + 1, L, .float x :: st) := by simp only [mA, hd, hg]
theorem a_fstore_n {k : Fin 4} {x : UInt32} (hd : decode cc pc = .ok (.fstore_n k, 1)) (hk : (k : Nat) < nL) (hL : mput k (.float x) L = L') : mA cc nL pc L (.float x :: r) = some (pc + 1, L', r) := by simp only [mA, hd, hL]; rw [if_pos hk]
theorem s_ixor {x y v : Int32} (hd : decode cc pc = .ok (.ixor, 1)) (hv : x ^^^ y = v) : mA cc nL pc L (.int y :: .int x :: r) = none ∧ mS cc pc (.int y :: .int x :: r) = some (pc + 1, .int v :: r) := ⟨by simp only [mA, hd], by simp only [mS, hd, mbin, hv]⟩
theorem s_i2f {x : Int32} {v : UInt32} (hd : decode cc pc = .ok (.i2f, 1)) (hv : FP.i2f x = v) : mA cc nL pc L (.int x :: r) = none ∧ mS cc pc (.int x :: r) = some (pc + 1, .float v :: r) := ⟨by simp only [mA, hd], by simp only [mS, hd, hv]⟩
theorem s_fdiv {x y v : UInt32} (hd : decode cc pc = .ok (.fdiv, 1)) (hn : vf_n32 (FP.fdiv x y)) (hv : FP.fdiv x y = v) : mA cc nL pc L (.float y :: .float x :: r) = none ∧ mS cc pc (.float y :: .float x :: r) = some (pc + 1, .float v :: r) := ⟨by simp only [mA, hd], by simp only [mS, hd]; rw [if_pos (show FP.fdiv x y &&& 2147483647 ≤ 2139095040 from hn), hv]⟩
theorem s_fmul {x y v : UInt32} (hd : decode cc pc = .ok (.fmul, 1)) (hn : vf_n32 (FP.fmul x y)) (hv : FP.fmul x y = v) : mA cc nL pc L (.float y :: .float x :: r) = none ∧ mS cc pc (.float y :: .float x :: r) = some (pc + 1, .float v :: r) := ⟨by simp only [mA, hd], by simp only [mS, hd]; rw [if_pos (show FP.fmul x y &&& 2147483647 ≤ 2139095040 from hn), hv]⟩
theorem s_fsub {x y v : UInt32} (hd : decode cc pc = .ok (.fsub, 1)) (hn : vf_n32 (FP.fsub x y)) (hv : FP.fsub x y = v) : mA cc nL pc L (.float y :: .float x :: r) = none ∧ mS cc pc (.float y :: .float x :: r) = some (pc + 1, .float v :: r) := ⟨by simp only [mA, hd], by simp only [mS, hd]; rw [if_pos (show FP.fsub x y &&& 2147483647 ≤ 2139095040 from hn), hv]⟩
theorem s_fcmp {x y : UInt32} {op : CmpOp} {v : Int32} (hd : decode cc pc = .ok (.fcmp op, 1)) (hv : Op.cmpValue (FP.fcmp x y) op = v) : mA cc nL pc L (.float y :: .float x :: r) = none ∧ mS cc pc (.float y :: .float x :: r) = some (pc + 1, .int v :: r) := ⟨by simp only [mA, hd], by simp only [mS, hd, hv]⟩
theorem s_f2i {x : UInt32} {v : Int32} (hd : decode cc pc = .ok (.f2i, 1)) (hv : FP.f2i x = v) : mA cc nL pc L (.float x :: r) = none ∧ mS cc pc (.float x :: r) = some (pc + 1, .int v :: r) := ⟨by simp only [mA, hd], by simp only [mS, hd, hv]⟩
theorem s_fconst0 (hd : decode cc pc = .ok (.fconst 0, 1)) : mA cc nL pc L st = none ∧ mS cc pc st = some (pc + 1, .float FP.fconst0 :: st) := ⟨by simp only [mA, hd], by simp only [mS, hd]⟩
theorem s_fconst1 (hd : decode cc pc = .ok (.fconst 1, 1)) : mA cc nL pc L st = none ∧ mS cc pc st = some (pc + 1, .float FP.fconst1 :: st) := ⟨by simp only [mA, hd], by simp only [mS, hd]⟩
theorem s_fconst2 (hd : decode cc pc = .ok (.fconst 2, 1)) : mA cc nL pc L st = none ∧ mS cc pc st = some (pc + 1, .float FP.fconst2 :: st) := ⟨by simp only [mA, hd], by simp only [mS, hd]⟩
end AR
section MP
variable {d : Nat} {scr : Option (List Int32)} {q : mQ} {pc : Nat} {L : List (Nat × Value)} {st : List Value} {P : mP} {cz sz : Nat} {Φ : Option Value → mP → Prop}
theorem mp_ldc {i : Nat} {v : Int32} (hd : decode q.2.1 pc = .ok (.ldc i, 2)) (hc : mldcI q.2.2.2.2.2.1 i = some v) (kk : MEvP d scr q (pc + 2) L (.int v :: st) P cz sz Φ) : MEvP d scr q pc L st P cz sz Φ := mp_B (z := (pc + 2, .int v :: st, P)) (by simp only [mA, hd]) (by simp only [mS, hd]) (by simp only [mB, hd, hc, Option.map_some]) kk
theorem mp_ldcw {i : Nat} {v : UInt32} (hd : decode q.2.1 pc = .ok (.ldc_w i, 3)) (hc : mldcF q.2.2.2.2.2.1 i = some v) (kk : MEvP d scr q (pc + 3) L (.float v :: st) P cz sz Φ) : MEvP d scr q pc L st P cz sz Φ := mp_B (z := (pc + 3, .float v :: st, P)) (by simp only [mA, hd]) (by simp only [mS, hd]) (by simp only [mB, hd, hc, Option.map_some]) kk
end MP
/-- a strip has at most 7 panels, a piece that is there at least 2, wherever a piece is kept -/
def RelAt (P : mP) (a o : Nat) : Prop := ∀ k : Nat, k < 8 → ((fv P a (o + 3 + 19 * k)).toInt = 0 → (fv P a (o + 4 + 19 * k)).toInt ≤ 7) ∧ ((k : Int) < (fv P a o).toInt → 2 ≤ (fv P a (o + 4 + 19 * k)).toInt)
def Rel (P : mP) : Prop := RelAt P 302 0 ∧ RelAt P 303 0 ∧ RelAt P 304 0 ∧ ∀ c : Nat, c < 8 → RelAt P 305 (155 * c)
theorem RelAt.congr {P P' : mP} {a o : Nat} (h : RelAt P a o) (f : ∀ j : Nat, fv P' a j = fv P a j) : RelAt P' a o := by
  intro k hk
  rw [f, f, f]
  exact h k hk
theorem Rel.all {P P' : mP} (h : Rel P) (f : ∀ b j : Nat, fv P' b j = fv P b j) : Rel P' := ⟨h.1.congr (f _), h.2.1.congr (f _), h.2.2.1.congr (f _), fun c hc => (h.2.2.2 c hc).congr (f _)⟩
theorem Rel.ne {P P' : mP} {a k r : Nat} (h : Rel P) (ha : rl a = r) (hr : (r == 18 || r == 19 || r == 20 || r == 21) = false) (f : ∀ b j : Nat, ¬ (b = a ∧ j = k) → fv P' b j = fv P b j) : Rel P' := by
  simp only [Bool.or_eq_false_iff, beq_eq_false_iff_ne] at hr
  have e1 : ∀ j, ¬ (302 = a ∧ j = k) := fun j e => hr.1.1.1 (by rw [← ha, ← e.1]; exact rl_302)
  have e2 : ∀ j, ¬ (303 = a ∧ j = k) := fun j e => hr.1.1.2 (by rw [← ha, ← e.1]; exact rl_303)
  have e3 : ∀ j, ¬ (304 = a ∧ j = k) := fun j e => hr.1.2 (by rw [← ha, ← e.1]; exact rl_304)
  have e4 : ∀ j, ¬ (305 = a ∧ j = k) := fun j e => hr.2 (by rw [← ha, ← e.1]; exact rl_305)
  exact ⟨h.1.congr (fun j => f _ _ (e1 j)), h.2.1.congr (fun j => f _ _ (e2 j)), h.2.2.1.congr (fun j => f _ _ (e3 j)), fun c hc => (h.2.2.2 c hc).congr (fun j => f _ _ (e4 j))⟩
theorem Rel.kw {W : List Nat} {P P' : mP} (h : Rel P) (g : KW W P P') (hw : (W.contains 1152 || W.contains 1216 || W.contains 1280 || W.contains 1344) = false) : Rel P' := by
  simp only [Bool.or_eq_false_iff] at hw
  exact ⟨h.1.congr (fun j => g.at j rl_302 hw.1.1.1), h.2.1.congr (fun j => g.at j rl_303 hw.1.1.2), h.2.2.1.congr (fun j => g.at j rl_304 hw.1.2), fun c hc => (h.2.2.2 c hc).congr (fun j => g.at j rl_305 hw.2)⟩
/-! floats: what is no NaN -/
theorem vf_nat {n : Nat} (h : n % 2147483648 ≤ 2139095040) : vf_n32 (UInt32.ofNat n) := by
  unfold vf_n32
  rw [UInt32.le_iff_toNat_le, UInt32.toNat_and]
  have e : (UInt32.ofNat n).toNat = n % 4294967296 := UInt32.toNat_ofNat'
  rw [e]
  show n % 4294967296 &&& (2 ^ 31 - 1) ≤ 2139095040
  rw [Nat.and_two_pow_sub_one_eq_mod]
  omega
theorem vf_toNat {x : UInt32} (h : vf_n32 x) : x.toNat % 2147483648 ≤ 2139095040 := by
  unfold vf_n32 at h
  rw [UInt32.le_iff_toNat_le, UInt32.toNat_and] at h
  have h : x.toNat &&& (2 ^ 31 - 1) ≤ 2139095040 := h
  rw [Nat.and_two_pow_sub_one_eq_mod] at h
  omega
/-- a datum of the float format that is a number or an infinity -/
def fdOk (d : FP.Core.Datum) : Prop := (∃ s, d = .inf s) ∨ ∃ s c q, d = .fin s c q ∧ c < 16777216 ∧ q ≤ 104
set_option maxRecDepth 100000 in
theorem vf_enc {d : FP.Core.Datum} (h : fdOk d) : vf_n32 (UInt32.ofNat (FP.Core.encode FP.Core.b32 d)) := by
  apply vf_nat
  rcases h with ⟨s, rfl⟩ | ⟨s, c, q, rfl, hc, hq⟩
  · cases s <;> decide +kernel
  · have hs : s.toNat ≤ 1 := by cases s <;> decide
    unfold FP.Core.encode
    dsimp only
    split
    · rename_i h1
      have h1 : c < 8388608 := h1
      show ((s.toNat * 256 + 0) * 8388608 + c) % 2147483648 ≤ 2139095040
      omega
    · rename_i h1
      have h1 : ¬ c < 8388608 := h1
      show ((s.toNat * 256 + ((q - (-149)).toNat + 1)) * 8388608 + (c - 8388608)) % 2147483648 ≤ 2139095040
      omega
theorem fd_bound {s : Bool} {c : Nat} {q : Int} (hc : c < 16777216) : fdOk (FP.Core.bound FP.Core.b32 s c q) := by
  unfold FP.Core.bound
  split
  · rename_i h
    exact Or.inr ⟨s, c, q, rfl, hc, h⟩
  · exact Or.inl ⟨s, rfl⟩
theorem fd_rr (s : Bool) (num den : Nat) (e : Int) : fdOk (FP.Core.roundRatio FP.Core.b32 s num den e) := by
  unfold FP.Core.roundRatio
  split
  · exact Or.inr ⟨s, 0, -149, rfl, by decide, by decide⟩
  · unfold FP.Core.roundAt FP.Core.settle
    split
    · rename_i h
      exact fd_bound h
    · exact fd_bound (by decide)
theorem fd_round {d : FP.Core.Datum} (h : d ≠ .nan) : fdOk (FP.Core.round FP.Core.b32 d) := by
  cases d with
  | nan => exact absurd rfl h
  | inf s => exact Or.inl ⟨s, rfl⟩
  | fin s c q => exact fd_rr s c 1 q
theorem vf_dec {x : UInt32} (h : vf_n32 x) : FP.Core.decode FP.Core.b32 x.toNat ≠ .nan := by
  have h1 := vf_toNat h
  unfold FP.Core.decode
  split
  · rename_i h2
    have h2 : x.toNat / 8388608 % 256 = 255 := h2
    rw [if_pos]
    · exact fun e => by cases e
    · show x.toNat % 8388608 = 0
      omega
  · split
    · exact fun e => by cases e
    · exact fun e => by cases e
def fnz (y : UInt32) : Bool := match FP.Core.decode FP.Core.b32 y.toNat with
  | .fin _ d _ => d != 0
  | _ => false
theorem fnz_dec {y : UInt32} (h : fnz y = true) : ∃ s d q, FP.Core.decode FP.Core.b32 y.toNat = .fin s d q ∧ d ≠ 0 := by
  unfold fnz at h
  cases e : FP.Core.decode FP.Core.b32 y.toNat with
  | nan => rw [e] at h; cases h
  | inf s => rw [e] at h; cases h
  | fin s d q =>
    rw [e] at h
    exact ⟨s, d, q, rfl, by simpa using h⟩
theorem vf_mul {x y : UInt32} (h : vf_n32 x) (hy : fnz y = true) : vf_n32 (FP.fmul x y) := by
  obtain ⟨s, d, q, e, hd⟩ := fnz_dec hy
  have hx := vf_dec h
  show vf_n32 (UInt32.ofNat (FP.Core.encode FP.Core.b32 (FP.Core.round FP.Core.b32 (FP.Core.exactProduct (FP.Core.decode FP.Core.b32 x.toNat) (FP.Core.decode FP.Core.b32 y.toNat)))))
  refine vf_enc (fd_round ?_)
  rw [e]
  cases e2 : FP.Core.decode FP.Core.b32 x.toNat with
  | nan => exact absurd e2 hx
  | inf t =>
    show (if d = 0 then FP.Core.Datum.nan else .inf (t != s)) ≠ .nan
    rw [if_neg hd]
    exact fun e => by cases e
  | fin t c r => exact fun e => by cases e
theorem vf_sub {x y : UInt32} (h : vf_n32 x) (hy : fnz y = true) : vf_n32 (FP.fsub x y) := by
  obtain ⟨s, d, q, e, hd⟩ := fnz_dec hy
  have hx := vf_dec h
  show vf_n32 (UInt32.ofNat (FP.Core.encode FP.Core.b32 (FP.Core.round FP.Core.b32 (FP.Core.exactSum (FP.Core.decode FP.Core.b32 x.toNat) (FP.Core.negate (FP.Core.decode FP.Core.b32 y.toNat))))))
  refine vf_enc (fd_round ?_)
  rw [e]
  cases e2 : FP.Core.decode FP.Core.b32 x.toNat with
  | nan => exact absurd e2 hx
  | inf t => exact fun e => by cases e
  | fin t c r => exact fun e => by cases e
def fint (n : Nat) : Bool := match FP.Core.decode FP.Core.b32 (UInt32.ofNat (FP.Core.fromInt FP.Core.b32 (n : Int))).toNat with
  | .fin _ d _ => n == 0 || d != 0
  | _ => false
theorem fint_all : (List.range 201).all fint = true := by decide +kernel
theorem fint_dec {a : Int32} {x : UInt32} (hx : FP.i2f a = x) (ha : 0 ≤ a.toInt ∧ a.toInt ≤ 200) : ∃ s d q, FP.Core.decode FP.Core.b32 x.toNat = .fin s d q ∧ (a.toInt = 0 ∨ d ≠ 0) := by
  have h := List.all_eq_true.mp fint_all a.toInt.toNat (List.mem_range.mpr (by omega))
  have e : ((a.toInt.toNat : Nat) : Int) = a.toInt := by omega
  unfold fint at h
  rw [e] at h
  have e3 : x = UInt32.ofNat (FP.Core.fromInt FP.Core.b32 a.toInt) := hx.symm
  rw [← e3] at h
  cases e2 : FP.Core.decode FP.Core.b32 x.toNat with
  | nan => rw [e2] at h; cases h
  | inf s => rw [e2] at h; cases h
  | fin s d q =>
    rw [e2] at h
    refine ⟨s, d, q, rfl, ?_⟩
    rcases Bool.or_eq_true _ _ ▸ h with h | h
    · rw [beq_iff_eq] at h
      exact Or.inl (by omega)
    · exact Or.inr (by simpa using h)
theorem vf_div {a b : Int32} {x y : UInt32} (hx : FP.i2f a = x) (hy : FP.i2f b = y) (ha : 0 ≤ a.toInt ∧ a.toInt ≤ 200) (hb : 1 ≤ b.toInt ∧ b.toInt ≤ 200) : vf_n32 (FP.fdiv x y) := by
  obtain ⟨s, c, q, e1, -⟩ := fint_dec hx ha
  obtain ⟨t, d, r, e2, hd⟩ := fint_dec hy ⟨by omega, hb.2⟩
  have hd : d ≠ 0 := hd.resolve_left (by omega)
  show vf_n32 (UInt32.ofNat (FP.Core.encode FP.Core.b32 (FP.Core.quotient FP.Core.b32 (FP.Core.decode FP.Core.b32 x.toNat) (FP.Core.decode FP.Core.b32 y.toNat))))
  rw [e1, e2]
  refine vf_enc ?_
  show fdOk (if d = 0 then (if c = 0 then FP.Core.Datum.nan else .inf (s != t)) else FP.Core.roundRatio FP.Core.b32 (s != t) c d (q - r))
  rw [if_neg hd]
  exact fd_rr _ _ _ _
theorem mt_callv {d : Nat} {scr : Option (List Int32)} {q : mQ} {pc : Nat} {L : List (Nat × Value)} {st rest : List Value} {P : mP} {cz sz : Nat} {Φ : Option Value → mP → Prop} {i kd k a r : Nat} {q' : mQ} {As : List Value} {Ψ : Option Value → mP → Prop} (hT : Typ P) (hd : decode q.2.1 pc = .ok (.invokevirtual i, 3)) (hc : mcal q.2.2.2.2.2.1 i = some (kd, k)) (hq : mtL[k]? = some q') (hkd : kd < 2) (hn : As.length = q'.2.2.2.2.1) (hr : rl a = r) (hr9 : r ≠ 99) (hk : (rsp r).1 = q'.2.2.2.2.2.1) (hcat : (rest.map mcat).sum ≤ 8) (hst : st = As.reverse ++ .ref a :: rest) (hz : q'.2.2.2.2.2.2.1 = 0 ∧ q'.2.2.2.2.2.2.2 = 0) (hcz : cz ≤ q.2.2.2.2.2.2.1 ∧ sz ≤ q.2.2.2.2.2.2.2) (hev : EvP d k (.ref a :: As) P Ψ) (kk : ∀ (r1 : Option Value) (P1 : mP), Ψ r1 P1 → MEvP d scr q (pc + 3) L (r1.toList ++ rest) P1 cz sz Φ) (ho : q'.2.2.2.2.2.1 < 8 := by decide) : MEvP d scr q pc L st P cz sz Φ := by
  obtain ⟨vs, h1, -, -⟩ := hT.cell hr hr9
  rw [hk] at h1
  exact mp_callv hd hc hq hkd hn h1 ho hcat hst hz hcz hev kk
/-! the reference's rows of states -/
theorem sspm {i : Nat} (h : i < 155) : ssp i = ssp (i % 155) := by rw [Nat.mod_eq_of_lt h]
theorem okS_pp {i j : Nat} {x : Int32} {f g : Nat → mSp} (hf : f i = ssp (i % 155)) (hg : g j = ssp (j % 155)) (h : okV (f i) (.int x)) (e : i % 155 = j % 155) : okV (g j) (.int x) := by
  rw [hg, ← e, ← hf]
  exact h
theorem ssp_19 {j : Nat} (h : 3 ≤ j) : ssp (j + 19) = ssp j := by
  have e : (j + 19 - 3) % 19 = (j - 3) % 19 := by omega
  have h1 : ¬ j + 19 = 0 := by omega
  have h2 : ¬ j + 19 < 3 := by omega
  have h3 : ¬ j = 0 := by omega
  have h4 : ¬ j < 3 := by omega
  unfold ssp
  rw [if_neg h1, if_neg h2, if_neg h3, if_neg h4, e]
theorem okS_19 {i j : Nat} {x : Int32} (h : okV (ssp i) (.int x)) (e : i = j + 19) (h3 : 3 ≤ j) : okV (ssp j) (.int x) := by
  rw [← ssp_19 h3, ← e]
  exact h
theorem okS_c0 {x : Int32} (h : 0 ≤ x.toInt ∧ x.toInt ≤ 8) : okV (ssp 0) (.int x) := ⟨rfl, h⟩
theorem okS_c1 {x : Int32} : okV (ssp 1) (.int x) := ⟨rfl, ti_full x⟩
theorem okS_c2 {x : Int32} : okV (ssp 2) (.int x) := ⟨rfl, ti_full x⟩
def CPY (P P' : mP) (a o b u k : Nat) : Prop := (∀ j : Nat, j < k → fv P' b (u + j) = fv P a (o + j)) ∧ ∀ x j : Nat, ¬ (x = b ∧ u ≤ j ∧ j < u + k) → fv P' x j = fv P x j
theorem CPY.start {P : mP} {a o b u k : Nat} (h : k = 0) : CPY P P a o b u k := ⟨fun j hj => by omega, fun _ _ _ => rfl⟩
theorem CPY.fin {P P' : mP} {a o b u k : Nat} (h : CPY P P' a o b u k) (e : k = 155) : CPY P P' a o b u 155 := e ▸ h
theorem CPY.step {P Q Q' : mP} {a o b u k k' n i : Nat} (h : CPY P Q a o b u k) (f1 : fv Q' b n = fv Q a i) (f2 : ∀ x j : Nat, ¬ (x = b ∧ j = n) → fv Q' x j = fv Q x j) (hk : k' = k + 1) (hn : n = u + k) (hi : i = o + k) (hd : ¬ a = b ∨ u + k ≤ o) : CPY P Q' a o b u k' := by
  subst hk hn hi
  refine ⟨fun j hj => ?_, fun x j hx => ?_⟩
  · by_cases e : j = k
    · subst e
      rw [f1]
      refine h.2 a (o + j) (fun e => ?_)
      rcases hd with g | g
      · exact g e.1
      · omega
    · rw [f2 _ _ (fun e => by omega)]
      exact h.1 j (by omega)
  · rw [f2 _ _ (fun e => hx ⟨e.1, by omega, by omega⟩)]
    exact h.2 x j (fun e => hx ⟨e.1, by omega, by omega⟩)
theorem Rel.at {P : mP} (h : Rel P) {a o : Nat} (ha : (a = 302 ∨ a = 303 ∨ a = 304) ∧ o = 0 ∨ a = 305 ∧ o % 155 = 0 ∧ o < 1240) : RelAt P a o := by
  rcases ha with ⟨h1, rfl⟩ | ⟨rfl, h1, h2⟩
  · rcases h1 with rfl | rfl | rfl
    · exact h.1
    · exact h.2.1
    · exact h.2.2.1
  · have := h.2.2.2 (o / 155) (by omega)
    rwa [show 155 * (o / 155) = o by omega] at this
theorem RelAt.cpy {P P' : mP} {a o b u : Nat} (h : RelAt P a o) (g : CPY P P' a o b u 155) : RelAt P' b u := by
  intro k hk
  have e0 := g.1 0 (by omega)
  have e1 := g.1 (3 + 19 * k) (by omega)
  have e2 := g.1 (4 + 19 * k) (by omega)
  rw [Nat.add_zero, Nat.add_zero] at e0
  rw [Nat.add_assoc, Nat.add_assoc, e0, e1, e2, ← Nat.add_assoc, ← Nat.add_assoc]
  exact h k hk
theorem RelAt.off {P P' : mP} {a o b u c w : Nat} (h : RelAt P c w) (g : CPY P P' a o b u 155) (hn : ¬ c = b ∨ w + 155 ≤ u ∨ u + 155 ≤ w) : RelAt P' c w := by
  intro k hk
  rw [g.2 c (w + 3 + 19 * k) (fun e => by rcases hn with q | q | q <;> omega), g.2 c (w + 4 + 19 * k) (fun e => by rcases hn with q | q | q <;> omega), g.2 c w (fun e => by rcases hn with q | q | q <;> omega)]
  exact h k hk
theorem Rel.cpy {P P' : mP} {a o b u : Nat} (h : Rel P) (g : CPY P P' a o b u 155) (ha : (a = 302 ∨ a = 303 ∨ a = 304) ∧ o = 0 ∨ a = 305 ∧ o % 155 = 0 ∧ o < 1240) (hb : (b = 302 ∨ b = 303 ∨ b = 304) ∧ u = 0 ∨ b = 305 ∧ u % 155 = 0 ∧ u < 1240) : Rel P' := by
  have h1 := (h.at ha).cpy g
  have key : ∀ c w : Nat, RelAt P c w → ((c = b ∧ w = u) ∨ ¬ c = b ∨ w + 155 ≤ u ∨ u + 155 ≤ w) → RelAt P' c w := by
    intro c w hc q
    rcases q with ⟨rfl, rfl⟩ | q
    · exact h1
    · exact hc.off g q
  refine ⟨key _ _ h.1 ?_, key _ _ h.2.1 ?_, key _ _ h.2.2.1 ?_, fun c hc => key _ _ (h.2.2.2 c hc) ?_⟩ <;> omega
theorem RelAt.one {P P' : mP} {a o : Nat} (h : RelAt P a o) (f0 : fv P' a o = fv P a o) (f : ∀ p : Nat, p < 8 → fv P' a (o + 3 + 19 * p) = fv P a (o + 3 + 19 * p) ∧ fv P' a (o + 4 + 19 * p) = fv P a (o + 4 + 19 * p)) : RelAt P' a o := by
  intro p hp
  rw [f0, (f p hp).1, (f p hp).2]
  exact h p hp
/-- but for the first row, nothing has changed -/
theorem Rel.first {P P' : mP} (h : Rel P) (f : ∀ b j : Nat, ¬ b = 302 → fv P' b j = fv P b j) (h1 : RelAt P' 302 0) : Rel P' := ⟨h1, h.2.1.congr (fun j => f _ j (by decide)), h.2.2.1.congr (fun j => f _ j (by decide)), fun c hc => (h.2.2.2 c hc).congr (fun j => f _ j (by decide))⟩
theorem Rel.oth {P P' : mP} {k : Nat} (h : Rel P) (f : ∀ b j : Nat, ¬ (b = 302 ∧ j = k) → fv P' b j = fv P b j) (hk : (k < 3 ∧ k ≠ 0) ∨ (3 ≤ k ∧ (k - 3) % 19 ≠ 0 ∧ (k - 3) % 19 ≠ 1)) : Rel P' :=
  h.first (fun b j hb => f b j (fun e => hb e.1)) (h.1.one (f _ _ (fun e => by omega)) (fun p hp => ⟨f _ _ (fun e => by omega), f _ _ (fun e => by omega)⟩))
theorem Rel.siz {P P' : mP} {k p : Nat} {x : Int32} (h : Rel P) (f : ∀ b j : Nat, ¬ (b = 302 ∧ j = k) → fv P' b j = fv P b j) (e : fv P' 302 k = x) (hp : p < 8) (hk : k = 4 + 19 * p) (hx : 2 ≤ x.toInt ∧ x.toInt ≤ 7) : Rel P' := by
  refine h.first (fun b j hb => f b j (fun e => hb e.1)) (fun q hq => ?_)
  by_cases hpq : q = p
  · subst hpq
    rw [show 0 + 4 + 19 * q = k by omega, e]
    exact ⟨fun _ => hx.2, fun _ => hx.1⟩
  · rw [f 302 (0 + 3 + 19 * q) (fun e => by omega), f 302 (0 + 4 + 19 * q) (fun e => by omega), f 302 0 (fun e => by omega)]
    exact h.1 q hq
theorem Rel.many {P P' : mP} {x : Int32} (h : Rel P) (f : ∀ b j : Nat, ¬ (b = 302 ∧ j = 0) → fv P' b j = fv P b j) (e : fv P' 302 0 = x) (hx : x.toInt ≤ (fv P 302 0).toInt) : Rel P' := by
  refine h.first (fun b j hb => f b j (fun e => hb e.1)) (fun q hq => ?_)
  rw [f 302 (0 + 3 + 19 * q) (fun e => by omega), f 302 (0 + 4 + 19 * q) (fun e => by omega), e]
  exact ⟨(h.1 q hq).1, fun g => (h.1 q hq).2 (by omega)⟩
theorem Rel.rec {P P0 P1 P2 : mP} {p k1 k2 : Nat} {w x y : Int32} (h : Rel P) (f0 : ∀ b j : Nat, ¬ (b = 302 ∧ j = 0) → fv P0 b j = fv P b j) (e0 : fv P0 302 0 = w) (f1 : ∀ b j : Nat, ¬ (b = 302 ∧ j = k1) → fv P1 b j = fv P0 b j) (e1 : fv P1 302 k1 = x) (f2 : ∀ b j : Nat, ¬ (b = 302 ∧ j = k2) → fv P2 b j = fv P1 b j) (e2 : fv P2 302 k2 = y) (hp : p < 8 ∧ (p : Int) = (fv P 302 0).toInt) (hw : w.toInt = (fv P 302 0).toInt + 1) (h1 : k1 = 3 + 19 * p) (h2 : k2 = 4 + 19 * p) (hx : ¬ x.toInt = 0 ∨ y.toInt ≤ 7) (hy : 2 ≤ y.toInt) : Rel P2 := by
  refine h.first (fun b j hb => (f2 b j (fun e => hb e.1)).trans ((f1 b j (fun e => hb e.1)).trans (f0 b j (fun e => hb e.1)))) (fun q hq => ?_)
  have g0 : (fv P2 302 0).toInt = w.toInt := by rw [f2 302 0 (fun e => by omega), f1 302 0 (fun e => by omega), e0]
  rw [g0]
  by_cases hpq : q = p
  · subst hpq
    rw [f2 302 (0 + 3 + 19 * q) (fun e => by omega), show 0 + 3 + 19 * q = k1 by omega, e1, show 0 + 4 + 19 * q = k2 by omega, e2]
    exact ⟨fun g => hx.resolve_left (fun n => n g), fun _ => hy⟩
  · rw [f2 302 (0 + 3 + 19 * q) (fun e => by omega), f1 302 (0 + 3 + 19 * q) (fun e => by omega), f0 302 (0 + 3 + 19 * q) (fun e => by omega), f2 302 (0 + 4 + 19 * q) (fun e => by omega), f1 302 (0 + 4 + 19 * q) (fun e => by omega), f0 302 (0 + 4 + 19 * q) (fun e => by omega)]
    exact ⟨(h.1 q hq).1, fun g => (h.1 q hq).2 (by omega)⟩
theorem Rel.use {P : mP} {p : Nat} (h : Rel P) (hp : p < 8) (hz : (fv P 302 (3 + 19 * p)).toInt = 0) : (fv P 302 (4 + 19 * p)).toInt ≤ 7 := by
  have := (h.1 p hp).1
  rw [Nat.zero_add, Nat.zero_add] at this
  exact this hz
theorem Rel.two {P : mP} {p : Nat} (h : Rel P) (hp : p < 8) (hz : (p : Int) < (fv P 302 0).toInt) : 2 ≤ (fv P 302 (4 + 19 * p)).toInt := by
  have := (h.1 p hp).2
  rw [Nat.zero_add] at this
  exact this hz
def Mv (P P' : mP) (a k : Nat) : Prop := (∀ j : Nat, a ≤ j → j < k → fv P' 302 j = fv P 302 (j + 19)) ∧ ∀ j : Nat, j < a ∨ k ≤ j → fv P' 302 j = fv P 302 j
theorem Mv.start {P : mP} {a k : Nat} (h : k = a) : Mv P P a k := ⟨fun j h1 h2 => by omega, fun _ _ => rfl⟩
theorem Mv.step {P Q Q' : mP} {a k k' n i : Nat} (h : Mv P Q a k) (f1 : fv Q' 302 n = fv Q 302 i) (f2 : ∀ x j : Nat, ¬ (x = 302 ∧ j = n) → fv Q' x j = fv Q x j) (hk : k' = k + 1 ∧ a ≤ k) (hn : n = k) (hi : i = k + 19) : Mv P Q' a k' := by
  obtain ⟨rfl, hk⟩ := hk
  subst hn hi
  refine ⟨fun j h1 h2 => ?_, fun j hj => ?_⟩
  · by_cases e : j = n
    · subst e
      rw [f1]
      exact h.2 _ (by omega)
    · rw [f2 _ _ (fun q => e q.2)]
      exact h.1 j h1 (by omega)
  · rw [f2 _ _ (fun q => by omega)]
    exact h.2 j (by omega)
theorem Mv.rel {P P' : mP} {a k p m : Nat} (h : Rel P) (g : Mv P P' a k) (ha : a = 3 + 19 * p) (hk : k = 3 + 19 * m) (hm : p ≤ m ∧ m < 8) (hn : (m : Int) + 1 ≤ (fv P 302 0).toInt) (f3 : ∀ j : Nat, fv P' 303 j = fv P 303 j) (f4 : ∀ j : Nat, fv P' 304 j = fv P 304 j) (f5 : ∀ j : Nat, fv P' 305 j = fv P 305 j) : Rel P' := by
  refine ⟨fun q hq => ?_, h.2.1.congr f3, h.2.2.1.congr f4, fun c hc => (h.2.2.2 c hc).congr f5⟩
  rw [g.2 0 (by omega)]
  by_cases hq1 : p ≤ q ∧ q < m
  · rw [g.1 (0 + 3 + 19 * q) (by omega) (by omega), g.1 (0 + 4 + 19 * q) (by omega) (by omega)]
    have := h.1 (q + 1) (by omega)
    rw [show 0 + 3 + 19 * (q + 1) = 0 + 3 + 19 * q + 19 by omega, show 0 + 4 + 19 * (q + 1) = 0 + 4 + 19 * q + 19 by omega] at this
    exact ⟨this.1, fun _ => this.2 (by omega)⟩
  · rw [g.2 (0 + 3 + 19 * q) (by omega), g.2 (0 + 4 + 19 * q) (by omega)]
    exact h.1 q hq
/-- the past, moved down by one as far as k -/
def SHF (P Q : mP) (k : Nat) : Prop := (∀ c j : Nat, c < 8 → j < 155 → fv Q 305 (155 * c + j) = if c + 1 < k then fv P 305 (155 * (c + 1) + j) else fv P 305 (155 * c + j)) ∧ ∀ x j : Nat, ¬ x = 305 → fv Q x j = fv P x j
theorem SHF.start {P : mP} {k : Nat} (h : k = 1) : SHF P P k := ⟨fun c j _ _ => by rw [if_neg (by omega)], fun _ _ _ => rfl⟩
theorem SHF.fin {P Q : mP} {k : Nat} (h : SHF P Q k) (e : k = 8) : SHF P Q 8 := e ▸ h
theorem SHF.step {P Q R : mP} {k k' o u : Nat} (h : SHF P Q k) (g : CPY Q R 305 o 305 u 155) (hk : k' = k + 1 ∧ 1 ≤ k ∧ k < 8) (ho : o = 155 * k) (hu : u + 155 = 155 * k) : SHF P R k' := by
  obtain ⟨rfl, h1, h8⟩ := hk
  refine ⟨fun c j hc hj => ?_, fun x j hx => (g.2 x j (fun e => hx e.1)).trans (h.2 x j hx)⟩
  by_cases e : c + 1 = k
  · have q := g.1 j hj
    rw [show u + j = 155 * c + j by omega, show o + j = 155 * (c + 1) + j by omega] at q
    rw [q, h.1 (c + 1) j (by omega) hj, if_neg (by omega), if_pos (by omega)]
  · rw [g.2 305 (155 * c + j) (by omega), h.1 c j hc hj]
    by_cases e2 : c + 1 < k
    · rw [if_pos e2, if_pos (by omega)]
    · rw [if_neg e2, if_neg (by omega)]
/-- the past after a change: n changes were there -/
def PUP (P Q : mP) (n : Nat) : Prop := ∀ c j : Nat, c < 8 → j < 155 → fv Q 305 (155 * c + j) = if n = 8 then (if c < 7 then fv P 305 (155 * (c + 1) + j) else fv P 303 j) else (if c = n then fv P 303 j else fv P 305 (155 * c + j))
theorem PUP.a {P P1 P2 : mP} {n u : Nat} (g : CPY P P1 303 0 305 u 155) (f : ∀ x j : Nat, ¬ (x = 301 ∧ j = 4) → fv P2 x j = fv P1 x j) (hn : n < 8) (hu : u = 155 * n) : PUP P P2 n := by
  intro c j hc hj
  rw [if_neg (by omega), f _ _ (by omega)]
  by_cases e : c = n
  · subst e
    have q := g.1 j hj
    rw [hu, Nat.zero_add] at q
    rw [if_pos rfl, q]
  · rw [if_neg e]
    exact g.2 _ _ (by omega)
theorem PUP.src {P0 P Q : mP} {n : Nat} (h : PUP P Q n) (f : ∀ x j : Nat, ¬ x = 301 → fv P x j = fv P0 x j) : PUP P0 Q n := by
  intro c j hc hj
  rw [h c j hc hj, f _ _ (by decide), f _ _ (by decide), f _ _ (by decide)]
theorem PUP.b {P P0 P1 P2 P3 : mP} {u : Nat} (h : SHF P P0 8) (f1 : ∀ x j : Nat, ¬ (x = 301 ∧ j = 4) → fv P1 x j = fv P0 x j) (g : CPY P1 P2 303 0 305 u 155) (f3 : ∀ x j : Nat, ¬ (x = 301 ∧ j = 4) → fv P3 x j = fv P2 x j) (hu : u = 1085) : PUP P P3 8 := by
  intro c j hc hj
  rw [if_pos rfl, f3 _ _ (by omega)]
  by_cases e : c = 7
  · subst e
    have q := g.1 j hj
    rw [hu, Nat.zero_add, f1 303 j (by omega), h.2 303 j (by decide)] at q
    rw [if_neg (by omega)]
    exact q
  · rw [g.2 305 (155 * c + j) (by omega), f1 _ _ (by omega), h.1 c j hc hj, if_pos (by omega), if_pos (by omega)]
theorem Mv.get {P Q : mP} {a k k' : Nat} (h : Mv P Q a k) (e : k = k') (j : Nat) : fv Q 302 j = if a ≤ j ∧ j < k' then fv P 302 (j + 19) else fv P 302 j := by
  subst e
  by_cases c : a ≤ j ∧ j < k
  · rw [if_pos c]
    exact h.1 j c.1 c.2
  · rw [if_neg c]
    exact h.2 j (by omega)
def UD (P : mP) (p : Nat) (kd : Int) : Prop := ∃ j : Nat, j < 8 ∧ (fv P 302 (14 + 19 * p + j)).toInt = kd
def UDf (P : mP) (p k : Nat) : Prop := ∃ j : Nat, k ≤ j ∧ j < 8 ∧ (fv P 302 (14 + 19 * p + j)).toInt = 0
theorem UDf.start {P : mP} {p k : Nat} (h : UD P p 0) (hk : k = 0) : UDf P p k := by
  obtain ⟨j, h1, h2⟩ := h
  exact ⟨j, by omega, h1, h2⟩
theorem UDf.next {P : mP} {p k k' : Nat} (h : UDf P p k) (hk : k' = k + 1) (hn : ¬ (fv P 302 (14 + 19 * p + k)).toInt = 0) : UDf P p k' := by
  obtain ⟨j, h1, h2, h3⟩ := h
  refine ⟨j, ?_, h2, h3⟩
  by_cases e : j = k
  · subst e
    exact absurd h3 hn
  · omega
theorem UD.kw {W : List Nat} {P P' : mP} {p : Nat} {kd : Int} (h : UD P p kd) (g : KW W P P') (hw : W.contains 1152 = false) : UD P' p kd := by
  obtain ⟨j, h1, h2⟩ := h
  exact ⟨j, h1, by rw [g.at _ rl_302 hw]; exact h2⟩
