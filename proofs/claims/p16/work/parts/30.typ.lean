/-! a pool whose cells keep their kinds, their lengths, their refs and their ranges (written by a program) -/
def rlL : List Nat := [0, 31, 32, 33, 4, 5, 33, 4, 5, 33, 4, 5, 33, 4, 5, 33, 4, 5, 33, 4, 5, 33, 4, 5, 33, 4, 5, 1, 2, 3, 4, 5, 3, 4, 5, 3, 4, 5, 3, 4, 5, 3, 4, 5, 3, 4, 5, 3, 4, 5, 3, 4, 5, 1, 2, 3, 4, 5, 3, 4, 5, 3, 4, 5, 3, 4, 5, 3, 4, 5, 3, 4, 5, 3, 4, 5, 3, 4, 5, 6, 7, 1, 2, 3, 4, 5, 3, 4, 5, 3, 4, 5, 3, 4, 5, 3, 4, 5, 3, 4, 5, 3, 4, 5, 3, 4, 5, 1, 2, 3, 4, 5, 3, 4, 5, 3, 4, 5, 3, 4, 5, 3, 4, 5, 3, 4, 5, 3, 4, 5, 3, 4, 5, 1, 2, 3, 4, 5, 3, 4, 5, 3, 4, 5, 3, 4, 5, 3, 4, 5, 3, 4, 5, 3, 4, 5, 3, 4, 5, 1, 2, 3, 4, 5, 3, 4, 5, 3, 4, 5, 3, 4, 5, 3, 4, 5, 3, 4, 5, 3, 4, 5, 3, 4, 5, 1, 2, 3, 4, 5, 3, 4, 5, 3, 4, 5, 3, 4, 5, 3, 4, 5, 3, 4, 5, 3, 4, 5, 3, 4, 5, 1, 2, 3, 4, 5, 3, 4, 5, 3, 4, 5, 3, 4, 5, 3, 4, 5, 3, 4, 5, 3, 4, 5, 3, 4, 5, 1, 2, 3, 4, 5, 3, 4, 5, 3, 4, 5, 3, 4, 5, 3, 4, 5, 3, 4, 5, 3, 4, 5, 3, 4, 5, 1, 2, 3, 4, 5, 3, 4, 5, 3, 4, 5, 3, 4, 5, 3, 4, 5, 3, 4, 5, 3, 4, 5, 3, 4, 5, 8, 9, 10, 11, 12, 13, 14, 15, 16, 3, 4, 5, 17, 18, 19, 20, 21, 22, 23, 24, 25, 26, 27, 28, 29, 30]
def rl (a : Nat) : Nat := rlL.getD a 99
abbrev mSp : Type := Nat × Int × Int
def okV (s : mSp) : Value → Prop
  | .int x => s.1 = 0 ∧ s.2.1 ≤ x.toInt ∧ x.toInt ≤ s.2.2
  | .ref b => s.1 = rl b + 1
  | _ => False
def spF : mSp := (0, -2147483648, 2147483647)
def spOf (l : List mSp) (j : Nat) : mSp := l.getD j (99, 0, 0)
def ssp (j : Nat) : mSp := if j = 0 then (0, 0, 8) else if j < 3 then spF else if (j - 3) % 19 = 0 then (0, 0, 1) else if (j - 3) % 19 = 1 then (0, 0, 8) else spF
def rsp : Nat → Nat × Nat × (Nat → mSp)
  | 0 => (6, 13, spOf [(32, 0, 0), (2, 0, 0), (2, 0, 0), (7, 0, 0), (9, 0, 0), (11, 0, 0), (14, 0, 0), (4, 0, 0), (0, 0, 1), (0, -2147483648, 2147483647), (0, -2147483648, 2147483647), (0, -2147483648, 2147483647), (0, -2147483648, 2147483647)])
  | 1 => (5, 4, spOf [(3, 0, 0), (0, 0, 8), (0, -2147483648, 2147483647), (0, -2147483648, 2147483647)])
  | 2 => (10, 8, fun _ => (4, 0, 0))
  | 3 => (2, 5, spOf [(0, -2147483648, 2147483647), (0, 0, 8), (0, 0, 1), (5, 0, 0), (6, 0, 0)])
  | 4 => (8, 8, fun _ => spF)
  | 5 => (8, 8, fun _ => spF)
  | 6 => (0, 4, spOf [(8, 0, 0), (0, 0, 7), (0, 0, 8), (0, 0, 1)])
  | 7 => (11, 8, fun _ => (2, 0, 0))
  | 8 => (4, 8, spOf [(10, 0, 0), (0, 0, 80), (0, -2147483648, 2147483647), (0, -2147483648, 2147483647), (0, -2147483648, 2147483647), (0, -2147483648, 2147483647), (0, -2147483648, 2147483647), (0, -2147483648, 2147483647)])
  | 9 => (8, 80, fun _ => spF)
  | 10 => (3, 4, spOf [(0, -2147483648, 2147483647), (0, 0, 8), (12, 0, 0), (13, 0, 0)])
  | 11 => (8, 8, fun _ => spF)
  | 12 => (8, 8, fun _ => spF)
  | 13 => (1, 4, spOf [(0, 0, 8), (15, 0, 0), (16, 0, 0), (17, 0, 0)])
  | 14 => (8, 8, fun _ => spF)
  | 15 => (8, 8, fun _ => spF)
  | 16 => (8, 8, fun _ => spF)
  | 17 => (7, 30, spOf [(19, 0, 0), (20, 0, 0), (21, 0, 0), (22, 0, 0), (0, 0, 8), (0, -2147483648, 2147483647), (0, -2147483648, 2147483647), (0, -2147483648, 2147483647), (0, 0, 1), (23, 0, 0), (24, 0, 0), (25, 0, 0), (26, 0, 0), (0, 0, 8), (0, 0, 1), (27, 0, 0), (28, 0, 0), (29, 0, 0), (30, 0, 0), (0, 0, 7), (0, 0, 8), (0, -2147483648, 2147483647), (31, 0, 0), (0, 0, 80), (0, 0, 81), (0, -2147483648, 2147483647), (0, -2147483648, 2147483647), (0, -2147483648, 2147483647), (0, -2147483648, 2147483647), (0, -2147483648, 2147483647)])
  | 18 => (8, 155, ssp)
  | 19 => (8, 155, ssp)
  | 20 => (8, 155, ssp)
  | 21 => (8, 1240, fun j => ssp (j % 155))
  | 22 => (8, 8, fun _ => spF)
  | 23 => (8, 8, fun _ => spF)
  | 24 => (8, 8, fun _ => spF)
  | 25 => (8, 8, fun _ => spF)
  | 26 => (8, 7, fun _ => spF)
  | 27 => (8, 7, fun _ => spF)
  | 28 => (8, 8, fun _ => spF)
  | 29 => (9, 7, fun _ => (0, 0, 1))
  | 30 => (8, 80, fun _ => spF)
  | 31 => (5, 4, spOf [(33, 0, 0), (0, 0, 8), (0, -2147483648, 2147483647), (0, -2147483648, 2147483647)])
  | 32 => (10, 8, fun _ => (34, 0, 0))
  | 33 => (2, 5, spOf [(0, -2147483648, 2147483647), (0, 0, 8), (0, 0, 1), (5, 0, 0), (6, 0, 0)])
  | _ => (99, 0, fun _ => spF)
def okCell (r : Nat) (c : Nat × List Value) : Prop := c.1 = (rsp r).1 ∧ c.2.length = (rsp r).2.1 ∧ ∀ j : Nat, j < c.2.length → okV ((rsp r).2.2 j) (c.2.getD j .null)
def Typ (P : mP) : Prop := ∀ a : Nat, a < 315 → ∃ c, P[a]? = some c ∧ okCell (rl a) c
/-- the int that stands at entry j of cell a -/
def fv (P : mP) (a j : Nat) : Int32 := match P[a]? with
  | some c => mint (c.2.getD j .null)
  | none => 0
theorem rl_lt {a r : Nat} (h : rl a = r) (hr : r ≠ 99) : a < 315 := by
  unfold rl at h
  by_cases ha : a < 315
  · exact ha
  · have : rlL.getD a 99 = 99 := by
      have : rlL[a]? = none := List.getElem?_eq_none (by rw [show rlL.length = 315 by decide +kernel]; omega)
      rw [List.getD, this]
      rfl
    rw [this] at h
    exact absurd h.symm hr
theorem Typ.cell {P : mP} {a r : Nat} (h : Typ P) (hr : rl a = r) (hn : r ≠ 99) : ∃ vs, P[a]? = some ((rsp r).1, vs) ∧ vs.length = (rsp r).2.1 ∧ ∀ j : Nat, j < vs.length → okV ((rsp r).2.2 j) (vs.getD j .null) := by
  obtain ⟨⟨k, vs⟩, h1, h2, h3, h4⟩ := h a (rl_lt hr hn)
  subst hr
  dsimp only at h2 h3 h4
  exact ⟨vs, by rw [h1, h2], h3, h4⟩
theorem fv_at {P : mP} {a k : Nat} {vs : List Value} (h : P[a]? = some (k, vs)) (j : Nat) : fv P a j = mint (vs.getD j .null) := by
  unfold fv
  rw [h]
/-- an int entry: what stands there, and its range -/
theorem Typ.int {P : mP} {a r j : Nat} {lo hi : Int} (h : Typ P) (hr : rl a = r) (hn : r ≠ 99) (hj : j < (rsp r).2.1) (hs : (rsp r).2.2 j = (0, lo, hi)) : ∃ vs, P[a]? = some ((rsp r).1, vs) ∧ vs.length = (rsp r).2.1 ∧ vs[j]? = some (.int (fv P a j)) ∧ lo ≤ (fv P a j).toInt ∧ (fv P a j).toInt ≤ hi := by
  obtain ⟨vs, h1, h2, h3⟩ := h.cell hr hn
  have h4 := h3 j (by omega)
  have e : vs[j]? = some (vs.getD j .null) := by
    rw [List.getD_eq_getElem?_getD, List.getElem?_eq_getElem (by omega)]
    rfl
  rw [hs] at h4
  have f := fv_at h1 j
  cases hv : vs.getD j .null with
  | int x =>
    rw [hv] at h4 f e
    have f : fv P a j = x := f
    rw [f]
    exact ⟨vs, h1, h2, e, h4.2.1, h4.2.2⟩
  | ref b =>
    rw [hv] at h4
    exact absurd h4 (by simp [okV])
  | _ =>
    rw [hv] at h4
    exact absurd h4 (by simp [okV])
/-- the ref that stands at entry j of cell a -/
def rv (P : mP) (a j : Nat) : Nat := match P[a]? with
  | some c => (mref 0 (c.2.getD j .null)).getD 0
  | none => 0
/-- a ref entry -/
theorem Typ.ref {P : mP} {a r j t : Nat} {lo hi : Int} (h : Typ P) (hr : rl a = r) (hn : r ≠ 99) (hj : j < (rsp r).2.1) (hs : (rsp r).2.2 j = (t + 1, lo, hi)) : ∃ vs, P[a]? = some ((rsp r).1, vs) ∧ vs.length = (rsp r).2.1 ∧ vs[j]? = some (.ref (rv P a j)) ∧ rl (rv P a j) = t := by
  obtain ⟨vs, h1, h2, h3⟩ := h.cell hr hn
  have h4 := h3 j (by omega)
  have e : vs[j]? = some (vs.getD j .null) := by
    rw [List.getD_eq_getElem?_getD, List.getElem?_eq_getElem (by omega)]
    rfl
  rw [hs] at h4
  cases hv : vs.getD j .null with
  | int x =>
    rw [hv] at h4
    exact absurd h4.1 (by simp)
  | ref b =>
    rw [hv] at h4 e
    have f : rv P a j = b := by
      unfold rv
      rw [h1]
      dsimp only
      rw [hv]
      exact Nat.zero_add b
    rw [f]
    refine ⟨vs, h1, h2, e, ?_⟩
    have h5 : t + 1 = rl b + 1 := h4
    omega
  | _ =>
    rw [hv] at h4
    exact absurd h4 (by simp [okV])
/-- a store keeps it -/
theorem Typ.set {P : mP} {a r j : Nat} {v : Value} {vs : List Value} (h : Typ P) (hr : rl a = r) (hn : r ≠ 99) (hP : P[a]? = some ((rsp r).1, vs)) (hl : vs.length = (rsp r).2.1) (hv : okV ((rsp r).2.2 j) v) : Typ (P.set a ((rsp r).1, vs.set j v)) := by
  intro b hb
  obtain ⟨c, h1, h2⟩ := h b hb
  by_cases hba : b = a
  · subst hba
    refine ⟨_, mset_eq hP, ?_⟩
    rw [hr] at h2 ⊢
    rw [hP] at h1
    cases h1
    refine ⟨rfl, by rw [← hl]; exact List.length_set, fun i hi => ?_⟩
    dsimp only at hi ⊢
    rw [List.length_set] at hi
    by_cases hij : i = j
    · subst hij
      have : (vs.set i v).getD i .null = v := by simp [List.getD, hi]
      rw [this]
      exact hv
    · have : (vs.set j v).getD i .null = vs.getD i .null := by
        simp only [List.getD]
        rw [List.getElem?_set_ne (fun e => hij e.symm)]
      rw [this]
      exact h2.2.2 i hi
  · exact ⟨c, mset_ne h1 (fun e => hba e.symm), h2⟩
theorem fv_set {P : mP} {a k j : Nat} {x : Int32} {vs : List Value} (hP : P[a]? = some (k, vs)) (hj : j < vs.length) : fv (P.set a (k, vs.set j (.int x))) a j = x := by
  rw [fv_at (mset_eq hP)]
  simp [List.getD, hj, mint]
theorem fv_ne {P : mP} {a k j b i : Nat} {v : Value} {vs : List Value} (hP : P[a]? = some (k, vs)) (h : ¬ (b = a ∧ i = j)) : fv (P.set a (k, vs.set j v)) b i = fv P b i := by
  by_cases hb : b = a
  · subst hb
    rw [fv_at (mset_eq hP), fv_at hP]
    have : i ≠ j := fun e => h ⟨rfl, e⟩
    simp only [List.getD]
    rw [List.getElem?_set_ne (fun e => this e.symm)]
  · unfold fv
    rw [List.getElem?_set_ne (fun e => hb e.symm)]
theorem rv_at {P : mP} {a k : Nat} {vs : List Value} (h : P[a]? = some (k, vs)) (j : Nat) : rv P a j = (mref 0 (vs.getD j .null)).getD 0 := by
  unfold rv
  rw [h]
theorem rv_int {P : mP} {a k j : Nat} {x : Int32} {vs : List Value} (hP : P[a]? = some (k, vs)) (hv : ∃ y : Int32, vs.getD j .null = .int y) (b i : Nat) : rv (P.set a (k, vs.set j (.int x))) b i = rv P b i := by
  obtain ⟨y, hy⟩ := hv
  by_cases hb : b = a
  · subst hb
    rw [rv_at (mset_eq hP), rv_at hP]
    by_cases hij : j = i
    · subst hij
      rw [hy]
      by_cases hl : j < vs.length
      · rw [show (vs.set j (.int x)).getD j .null = .int x by simp [List.getD, hl]]
        rfl
      · rw [List.set_eq_of_length_le (by omega), hy]
    · rw [show (vs.set j (.int x)).getD i .null = vs.getD i .null by simp only [List.getD]; rw [List.getElem?_set_ne hij]]
  · unfold rv
    rw [List.getElem?_set_ne (fun e => hb e.symm)]
theorem rv_ref {P : mP} {a k j t : Nat} {vs : List Value} (hP : P[a]? = some (k, vs)) (hl : j < vs.length) : rv (P.set a (k, vs.set j (.ref t))) a j = t := by
  rw [rv_at (mset_eq hP), show (vs.set j (.ref t)).getD j .null = .ref t by simp [List.getD, hl]]
  exact Nat.zero_add t
theorem rv_ne {P : mP} {a k j b i : Nat} {v : Value} {vs : List Value} (hP : P[a]? = some (k, vs)) (h : ¬ (b = a ∧ i = j)) : rv (P.set a (k, vs.set j v)) b i = rv P b i := by
  by_cases hb : b = a
  · subst hb
    rw [rv_at (mset_eq hP), rv_at hP]
    have : j ≠ i := fun e => h ⟨rfl, e.symm⟩
    rw [show (vs.set j v).getD i .null = vs.getD i .null by simp only [List.getD]; rw [List.getElem?_set_ne this]]
  · unfold rv
    rw [List.getElem?_set_ne (fun e => hb e.symm)]
theorem getD_of {vs : List Value} {j : Nat} {v : Value} (h : vs[j]? = some v) : vs.getD j .null = v := by
  rw [List.getD, h]
  rfl
section MT
variable {d : Nat} {scr : Option (List Int32)} {q : mQ} {pc : Nat} {L : List (Nat × Value)} {st rest : List Value} {P : mP} {cz sz : Nat} {Φ : Option Value → mP → Prop}
theorem mt_getI {i ci k a r : Nat} {nest : Bool} {lo hi : Int} (hT : Typ P) (hd : decode q.2.1 pc = .ok (.getfield i, 3)) (hf : mfld q.2.2.2.2.2.1 i = some (ci, k, nest)) (hr : rl a = r) (hn : r ≠ 99) (hk : (rsp r).1 = ci) (hl : k < (rsp r).2.1) (hs : (rsp r).2.2 k = (0, lo, hi)) (kk : lo ≤ (fv P a k).toInt → (fv P a k).toInt ≤ hi → MEvP d scr q (pc + 3) L (.int (fv P a k) :: rest) P cz sz Φ) : MEvP d scr q pc L (.ref a :: rest) P cz sz Φ := by
  obtain ⟨vs, h1, -, h3, h4, h5⟩ := hT.int hr hn hl hs
  subst hk
  exact mp_get hd hf h1 h3 (kk h4 h5)
theorem mt_getR {i ci k a r t : Nat} {nest : Bool} {lo hi : Int} (hT : Typ P) (hd : decode q.2.1 pc = .ok (.getfield i, 3)) (hf : mfld q.2.2.2.2.2.1 i = some (ci, k, nest)) (hr : rl a = r) (hn : r ≠ 99) (hk : (rsp r).1 = ci) (hl : k < (rsp r).2.1) (hs : (rsp r).2.2 k = (t + 1, lo, hi)) (kk : rl (rv P a k) = t → MEvP d scr q (pc + 3) L (.ref (rv P a k) :: rest) P cz sz Φ) : MEvP d scr q pc L (.ref a :: rest) P cz sz Φ := by
  obtain ⟨vs, h1, -, h3, h4⟩ := hT.ref hr hn hl hs
  subst hk
  exact mp_get hd hf h1 h3 (kk h4)
theorem mt_putI {i ci k a r : Nat} {nest : Bool} {x : Int32} {lo hi : Int} (hT : Typ P) (hd : decode q.2.1 pc = .ok (.putfield i, 3)) (hf : mfld q.2.2.2.2.2.1 i = some (ci, k, nest)) (hr : rl a = r) (hn : r ≠ 99) (hk : (rsp r).1 = ci) (hl : k < (rsp r).2.1) (hs : (rsp r).2.2 k = (0, lo, hi)) (hx : lo ≤ x.toInt ∧ x.toInt ≤ hi) (hfit : mfit (cY ci k) (.int x) = true) (hfin : (cT ci k).2.2.2 = false) (kk : ∀ P' : mP, Typ P' → fv P' a k = x → (∀ b j : Nat, ¬ (b = a ∧ j = k) → fv P' b j = fv P b j) → (∀ b j : Nat, rv P' b j = rv P b j) → MEvP d scr q (pc + 3) L rest P' cz sz Φ) : MEvP d scr q pc L (.int x :: .ref a :: rest) P cz sz Φ := by
  obtain ⟨vs, h1, h2, h3, -, -⟩ := hT.int hr hn hl hs
  subst hk
  refine mp_put hd hf h1 (by omega) hfit (Or.inl hfin) (kk _ (hT.set hr hn h1 h2 ?_) (fv_set h1 (by omega)) (fun b j hb => fv_ne h1 hb) (rv_int h1 ⟨_, getD_of h3⟩))
  rw [hs]
  exact ⟨rfl, hx.1, hx.2⟩
theorem t_ix {i : Int32} {n : Nat} (h0 : 0 ≤ i.toInt) (h1 : i.toInt < n) : ¬ (i < 0 ∨ n ≤ i.toNatClampNeg) := by
  rintro (h | h)
  · rw [Int32.lt_iff_toInt_lt] at h
    have : (0 : Int32).toInt = 0 := rfl
    omega
  · have : i.toNatClampNeg = i.toInt.toNat := rfl
    omega
theorem mt_ial {a r n : Nat} {i : Int32} {lo hi : Int} (hT : Typ P) (hd : decode q.2.1 pc = .ok (.iaload, 1)) (hr : rl a = r) (hn : r ≠ 99) (hk : (rsp r).1 = 8) (hl : (rsp r).2.1 = n) (h0 : 0 ≤ i.toInt) (h1 : i.toInt < n) (hs : (rsp r).2.2 i.toInt.toNat = (0, lo, hi)) (kk : lo ≤ (fv P a i.toInt.toNat).toInt → (fv P a i.toInt.toNat).toInt ≤ hi → MEvP d scr q (pc + 1) L (.int (fv P a i.toInt.toNat) :: rest) P cz sz Φ) : MEvP d scr q pc L (.int i :: .ref a :: rest) P cz sz Φ := by
  obtain ⟨vs, g1, g2, g3, g4, g5⟩ := hT.int (j := i.toInt.toNat) hr hn (by omega) hs
  rw [hk] at g1
  refine mp_ial hd g1 (g2.trans hl) (t_ix h0 h1) ?_ (kk g4 g5)
  show mint (vs.getD i.toInt.toNat .null) = _
  rw [List.getD, g3]
  rfl
theorem mt_ias {a r n : Nat} {i x : Int32} {lo hi : Int} (hT : Typ P) (hd : decode q.2.1 pc = .ok (.iastore, 1)) (hr : rl a = r) (hn : r ≠ 99) (hk : (rsp r).1 = 8) (hl : (rsp r).2.1 = n) (h0 : 0 ≤ i.toInt) (h1 : i.toInt < n) (hs : (rsp r).2.2 i.toInt.toNat = (0, lo, hi)) (hx : lo ≤ x.toInt ∧ x.toInt ≤ hi) (kk : ∀ P' : mP, Typ P' → fv P' a i.toInt.toNat = x → (∀ b j : Nat, ¬ (b = a ∧ j = i.toInt.toNat) → fv P' b j = fv P b j) → (∀ b j : Nat, rv P' b j = rv P b j) → MEvP d scr q (pc + 1) L rest P' cz sz Φ) : MEvP d scr q pc L (.int x :: .int i :: .ref a :: rest) P cz sz Φ := by
  obtain ⟨vs, g1, g2, g3, -, -⟩ := hT.int (j := i.toInt.toNat) hr hn (by omega) hs
  have hok : okV ((rsp r).2.2 i.toInt.toNat) (.int x) := by
    rw [hs]
    exact ⟨rfl, hx.1, hx.2⟩
  have hT' := hT.set hr hn g1 g2 hok
  rw [hk] at g1 hT'
  have e : i.toNatClampNeg = i.toInt.toNat := rfl
  exact mp_ias hd g1 (g2.trans hl) (t_ix h0 h1) (kk _ hT' (fv_set g1 (by omega)) (fun b j hb => fv_ne g1 hb) (rv_int g1 ⟨_, getD_of g3⟩))
theorem mt_len {a r n : Nat} (hT : Typ P) (hd : decode q.2.1 pc = .ok (.arraylength, 1)) (hr : rl a = r) (hn : r ≠ 99) (hk : (rsp r).1 = 8 ∨ (rsp r).1 = 9 ∨ (rsp r).1 = 10 ∨ (rsp r).1 = 11) (hl : (rsp r).2.1 = n) (kk : MEvP d scr q (pc + 1) L (.int (Int32.ofNat n) :: rest) P cz sz Φ) : MEvP d scr q pc L (.ref a :: rest) P cz sz Φ := by
  obtain ⟨vs, h1, h2, -⟩ := hT.cell hr hn
  exact mp_len hd h1 hk (by rw [h2, hl]) kk
theorem mt_aal {a r n t : Nat} {i : Int32} {lo hi : Int} (hT : Typ P) (hd : decode q.2.1 pc = .ok (.aaload, 1)) (hr : rl a = r) (hn : r ≠ 99) (hk : (rsp r).1 = 10 ∨ (rsp r).1 = 11) (hl : (rsp r).2.1 = n) (h0 : 0 ≤ i.toInt) (h1 : i.toInt < n) (hs : (rsp r).2.2 i.toInt.toNat = (t + 1, lo, hi)) (kk : rl (rv P a i.toInt.toNat) = t → MEvP d scr q (pc + 1) L (.ref (rv P a i.toInt.toNat) :: rest) P cz sz Φ) : MEvP d scr q pc L (.int i :: .ref a :: rest) P cz sz Φ := by
  obtain ⟨vs, g1, g2, g3, g4⟩ := hT.ref (j := i.toInt.toNat) hr hn (by omega) hs
  refine mp_aal hd g1 hk (g2.trans hl) (t_ix h0 h1) ?_ (kk g4)
  show mnul (vs.getD i.toInt.toNat .null) = _
  rw [List.getD, g3]
  rfl
/-- an entry, whatever its spec -/
theorem mt_ialX {a r n : Nat} {i : Int32} (hT : Typ P) (hd : decode q.2.1 pc = .ok (.iaload, 1)) (hr : rl a = r) (hn : r ≠ 99) (hk : (rsp r).1 = 8) (hl : (rsp r).2.1 = n) (h0 : 0 ≤ i.toInt) (h1 : i.toInt < n) (hs : ∀ j, ((rsp r).2.2 j).1 = 0) (kk : okV ((rsp r).2.2 i.toInt.toNat) (.int (fv P a i.toInt.toNat)) → MEvP d scr q (pc + 1) L (.int (fv P a i.toInt.toNat) :: rest) P cz sz Φ) : MEvP d scr q pc L (.int i :: .ref a :: rest) P cz sz Φ := by
  obtain ⟨vs, g1, g2, g3, g4, g5⟩ := hT.int (j := i.toInt.toNat) (lo := ((rsp r).2.2 i.toInt.toNat).2.1) (hi := ((rsp r).2.2 i.toInt.toNat).2.2) hr hn (by omega) (by
    have := hs i.toInt.toNat
    exact Prod.ext this rfl)
  rw [hk] at g1
  refine mp_ial hd g1 (g2.trans hl) (t_ix h0 h1) ?_ (kk ⟨hs _, g4, g5⟩)
  show mint (vs.getD i.toInt.toNat .null) = _
  rw [List.getD, g3]
  rfl
theorem mt_iasX {a r n : Nat} {i x : Int32} (hT : Typ P) (hd : decode q.2.1 pc = .ok (.iastore, 1)) (hr : rl a = r) (hn : r ≠ 99) (hk : (rsp r).1 = 8) (hl : (rsp r).2.1 = n) (h0 : 0 ≤ i.toInt) (h1 : i.toInt < n) (hs : ∀ j, ((rsp r).2.2 j).1 = 0) (hok : okV ((rsp r).2.2 i.toInt.toNat) (.int x)) (kk : ∀ P' : mP, Typ P' → fv P' a i.toInt.toNat = x → (∀ b j : Nat, ¬ (b = a ∧ j = i.toInt.toNat) → fv P' b j = fv P b j) → (∀ b j : Nat, rv P' b j = rv P b j) → MEvP d scr q (pc + 1) L rest P' cz sz Φ) : MEvP d scr q pc L (.int x :: .int i :: .ref a :: rest) P cz sz Φ := by
  obtain ⟨vs, g1, g2, g3, -, -⟩ := hT.int (j := i.toInt.toNat) (lo := ((rsp r).2.2 i.toInt.toNat).2.1) (hi := ((rsp r).2.2 i.toInt.toNat).2.2) hr hn (by omega) (by
    have := hs i.toInt.toNat
    exact Prod.ext this rfl)
  have hT' := hT.set (j := i.toInt.toNat) hr hn g1 g2 hok
  rw [hk] at g1 hT'
  have e : i.toNatClampNeg = i.toInt.toNat := rfl
  exact mp_ias hd g1 (g2.trans hl) (t_ix h0 h1) (kk _ hT' (fv_set g1 (by omega)) (fun b j hb => fv_ne g1 hb) (rv_int g1 ⟨_, getD_of g3⟩))
/-- a row of booleans -/
theorem mt_bal {a r n : Nat} {i : Int32} (hT : Typ P) (hd : decode q.2.1 pc = .ok (.baload, 1)) (hr : rl a = r) (hn : r ≠ 99) (hk : (rsp r).1 = 9) (hl : (rsp r).2.1 = n) (h0 : 0 ≤ i.toInt) (h1 : i.toInt < n) (hs : (rsp r).2.2 i.toInt.toNat = (0, 0, 1)) (kk : 0 ≤ (fv P a i.toInt.toNat).toInt → (fv P a i.toInt.toNat).toInt ≤ 1 → MEvP d scr q (pc + 1) L (.int (fv P a i.toInt.toNat) :: rest) P cz sz Φ) : MEvP d scr q pc L (.int i :: .ref a :: rest) P cz sz Φ := by
  obtain ⟨vs, g1, g2, g3, g4, g5⟩ := hT.int (j := i.toInt.toNat) hr hn (by omega) hs
  rw [hk] at g1
  have e : Value.int (mint (vs.getD i.toNatClampNeg .null)) = .int (fv P a i.toInt.toNat) := by
    show Value.int (mint (vs.getD i.toInt.toNat .null)) = _
    rw [List.getD, g3]
    rfl
  refine mp_B (z := (pc + 1, .int (fv P a i.toInt.toNat) :: rest, P)) (by simp only [mA, hd]) (by simp only [mS, hd]) ?_ (kk g4 g5)
  simp only [mB, hd, g1]
  rw [if_pos ⟨trivial, by rw [g2, hl]; exact t_ix h0 h1⟩, e]
theorem mt_bas {a r n : Nat} {i x : Int32} (hT : Typ P) (hd : decode q.2.1 pc = .ok (.bastore, 1)) (hr : rl a = r) (hn : r ≠ 99) (hk : (rsp r).1 = 9) (hl : (rsp r).2.1 = n) (h0 : 0 ≤ i.toInt) (h1 : i.toInt < n) (hs : (rsp r).2.2 i.toInt.toNat = (0, 0, 1)) (hx : x = 0 ∨ x = 1) (kk : ∀ P' : mP, Typ P' → fv P' a i.toInt.toNat = x → (∀ b j : Nat, ¬ (b = a ∧ j = i.toInt.toNat) → fv P' b j = fv P b j) → (∀ b j : Nat, rv P' b j = rv P b j) → MEvP d scr q (pc + 1) L rest P' cz sz Φ) : MEvP d scr q pc L (.int x :: .int i :: .ref a :: rest) P cz sz Φ := by
  obtain ⟨vs, g1, g2, g3, -, -⟩ := hT.int (j := i.toInt.toNat) hr hn (by omega) hs
  have hok : okV ((rsp r).2.2 i.toInt.toNat) (.int x) := by
    rw [hs]
    rcases hx with rfl | rfl
    · exact ⟨rfl, by decide, by decide⟩
    · exact ⟨rfl, by decide, by decide⟩
  have hT' := hT.set hr hn g1 g2 hok
  rw [hk] at g1 hT'
  have e : i.toNatClampNeg = i.toInt.toNat := rfl
  refine mp_B (z := (pc + 1, rest, P.set a (9, vs.set i.toNatClampNeg (.int x)))) (by simp only [mA, hd]) (by simp only [mS, hd]) ?_ (kk _ hT' (fv_set g1 (by omega)) (fun b j hb => fv_ne g1 hb) (rv_int g1 ⟨_, getD_of g3⟩))
  simp only [mB, hd, g1]
  rw [if_pos ⟨⟨trivial, by rw [g2, hl]; exact t_ix h0 h1⟩, hx⟩]
/-- a ref into a row -/
theorem mt_aas {a r n t b ci : Nat} {i : Int32} {lo hi : Int} (hT : Typ P) (hd : decode q.2.1 pc = .ok (.aastore, 1)) (hr : rl a = r) (hn : r ≠ 99) (hb : rl b = t) (ht : t ≠ 99) (hk : ((rsp r).1 = 10 ∧ ci = 2) ∨ ((rsp r).1 = 11 ∧ ci = 5)) (hbk : (rsp t).1 = ci) (hl : (rsp r).2.1 = n) (h0 : 0 ≤ i.toInt) (h1 : i.toInt < n) (hs : (rsp r).2.2 i.toInt.toNat = (t + 1, lo, hi)) (hrow : ∀ j, ((rsp r).2.2 j).1 ≠ 0) (kk : ∀ P' : mP, Typ P' → (∀ b j : Nat, fv P' b j = fv P b j) → rv P' a i.toInt.toNat = b → (∀ x j : Nat, ¬ (x = a ∧ j = i.toInt.toNat) → rv P' x j = rv P x j) → MEvP d scr q (pc + 1) L rest P' cz sz Φ) : MEvP d scr q pc L (.ref b :: .int i :: .ref a :: rest) P cz sz Φ := by
  obtain ⟨vs, g1, g2, g3⟩ := hT.cell hr hn
  obtain ⟨us, u1, -⟩ := hT.cell hb ht
  have hok : okV ((rsp r).2.2 i.toInt.toNat) (.ref b) := by
    rw [hs]
    show t + 1 = rl b + 1
    rw [hb]
  have hT' := hT.set hr hn g1 g2 hok
  have hv : ∀ j, mint (vs.getD j .null) = 0 := by
    intro j
    by_cases hj : j < vs.length
    · have := g3 j hj
      cases hv : vs.getD j .null with
      | int x =>
        rw [hv] at this
        exact absurd this.1 (hrow j)
      | _ => rfl
    · rw [List.getD, List.getElem?_eq_none (by omega)]
      rfl
  refine mp_B (z := (pc + 1, rest, P.set a ((rsp r).1, vs.set i.toNatClampNeg (.ref b)))) (by simp only [mA, hd]) (by simp only [mS, hd]) ?_ (kk _ hT' (fun b' j => ?_) (rv_ref g1 (show i.toInt.toNat < vs.length by omega)) (fun x j hx => rv_ne g1 hx))
  · simp only [mB, hd, g1, u1]
    rw [if_pos ⟨by rw [hbk]; exact hk, by rw [g2, hl]; exact t_ix h0 h1⟩]
  · by_cases hab : b' = a
    · subst hab
      show fv (P.set b' ((rsp r).1, vs.set i.toInt.toNat (.ref b))) b' j = _
      rw [fv_at (mset_eq g1), fv_at g1, hv]
      by_cases hij : i.toInt.toNat = j
      · subst hij
        rw [List.getD, List.getElem?_set_self (by omega)]
        rfl
      · rw [List.getD, List.getElem?_set_ne hij]
        exact hv j
    · exact fv_ne g1 (fun e => hab e.1)
theorem mt_getE {i ci k a r A : Nat} {t : Nat} {nest : Bool} {lo hi : Int} (hT : Typ P) (hd : decode q.2.1 pc = .ok (.getfield i, 3)) (hf : mfld q.2.2.2.2.2.1 i = some (ci, k, nest)) (hr : rl a = r) (hn : r ≠ 99) (hk : (rsp r).1 = ci) (hl : k < (rsp r).2.1) (hs : (rsp r).2.2 k = (t + 1, lo, hi)) (hA : rv P a k = A) (kk : rl A = t → MEvP d scr q (pc + 3) L (.ref A :: rest) P cz sz Φ) : MEvP d scr q pc L (.ref a :: rest) P cz sz Φ := by
  subst hA
  exact mt_getR hT hd hf hr hn hk hl hs kk
theorem mt_getU {i ci k a r t A : Nat} {nest : Bool} {lo hi : Int} (hT : Typ P) (hd : decode q.2.1 pc = .ok (.getfield i, 3)) (hf : mfld q.2.2.2.2.2.1 i = some (ci, k, nest)) (hr : rl a = r) (hn : r ≠ 99) (hk : (rsp r).1 = ci) (hl : k < (rsp r).2.1) (hs : (rsp r).2.2 k = (t + 1, lo, hi)) (hu : ∀ b : Nat, rl b = t → b = A) (kk : MEvP d scr q (pc + 3) L (.ref A :: rest) P cz sz Φ) : MEvP d scr q pc L (.ref a :: rest) P cz sz Φ := by
  obtain ⟨vs, h1, -, h3, h4⟩ := hT.ref hr hn hl hs
  subst hk
  rw [hu _ h4] at h3
  exact mp_get hd hf h1 h3 kk
end MT
/-- only at A stands a t in the list -/
def onlyAt (t A : Nat) : Nat → List Nat → Bool
  | _, [] => true
  | i, x :: l => (!(x == t) || i == A) && onlyAt t A (i + 1) l
theorem onlyAt_ok {t A : Nat} : ∀ (l : List Nat) (i k : Nat), onlyAt t A i l = true → l[k]? = some t → i + k = A
  | [], _, _, _, h => by cases h
  | x :: l, i, 0, h1, h2 => by
    cases h2
    simp only [onlyAt, Bool.and_eq_true, Bool.or_eq_true, Bool.not_eq_true', beq_eq_false_iff_ne, beq_iff_eq] at h1
    rcases h1.1 with h | h
    · exact absurd rfl h
    · omega
  | x :: l, i, k + 1, h1, h2 => by
    simp only [onlyAt, Bool.and_eq_true] at h1
    have := onlyAt_ok l (i + 1) k h1.2 (by simpa using h2)
    omega
theorem rl_un {t A : Nat} (ht : t ≠ 99) (h : onlyAt t A 0 rlL = true) (b : Nat) (hb : rl b = t) : b = A := by
  have h1 : rlL[b]? = some t := by
    unfold rl at hb
    rw [List.getD] at hb
    cases e : rlL[b]? with
    | none =>
      rw [e] at hb
      exact absurd hb.symm ht
    | some x =>
      rw [e] at hb
      exact congrArg some hb
  have := onlyAt_ok rlL 0 b h h1
  omega
/-- the number of a field, or of a row -/
def isO (r : Nat) : Bool := [0, 1, 3, 6, 8, 10, 13, 17, 31, 33].contains r
def ec (r j : Nat) : Nat := bif isO r then 64 * r + j else 64 * r
/-- nothing but W has changed; 2048: the order of the stage's own pieces -/
def KW (W : List Nat) (P P' : mP) : Prop := (∀ b j : Nat, W.contains (ec (rl b) j) = false → fv P' b j = fv P b j) ∧ (∀ b j : Nat, ¬ b = 2 → rv P' b j = rv P b j) ∧ (W.contains 2048 = false → ∀ j : Nat, rv P' 2 j = rv P 2 j)
theorem KW.refl {W : List Nat} {P : mP} : KW W P P := ⟨fun _ _ _ => rfl, fun _ _ _ => rfl, fun _ _ => rfl⟩
theorem kw_sub {W W2 : List Nat} (hs : W2.all (fun x => W.contains x) = true) {n : Nat} (hb : W.contains n = false) : W2.contains n = false := by
  cases e : W2.contains n with
  | false => rfl
  | true =>
    have := List.all_eq_true.mp hs _ (List.contains_iff_mem.mp e)
    rw [this] at hb
    cases hb
theorem KW.trans {W W2 : List Nat} {P P1 P2 : mP} (h : KW W P P1) (g : KW W2 P1 P2) (hs : W2.all (fun x => W.contains x) = true) : KW W P P2 := ⟨fun b j hb => (g.1 b j (kw_sub hs hb)).trans (h.1 b j hb), fun b j hb => (g.2.1 b j hb).trans (h.2.1 b j hb), fun hw j => (g.2.2 (kw_sub hs hw) j).trans (h.2.2 hw j)⟩
theorem KW.step {W : List Nat} {P Q Q' : mP} {a k r : Nat} (h : KW W P Q) (ha : rl a = r) (hc : W.contains (ec r k) = true) (f : ∀ b j : Nat, ¬ (b = a ∧ j = k) → fv Q' b j = fv Q b j) (g : ∀ b j : Nat, rv Q' b j = rv Q b j) : KW W P Q' := by
  refine ⟨fun b j hb => (f b j (fun e => ?_)).trans (h.1 b j hb), fun b j hb => (g b j).trans (h.2.1 b j hb), fun hw j => (g 2 j).trans (h.2.2 hw j)⟩
  rw [e.1, e.2, ha, hc] at hb
  cases hb
theorem KW.perm {W : List Nat} {P Q Q' : mP} {k : Nat} (h : KW W P Q) (hc : W.contains 2048 = true) (f : ∀ b j : Nat, fv Q' b j = fv Q b j) (g : ∀ b j : Nat, ¬ (b = 2 ∧ j = k) → rv Q' b j = rv Q b j) : KW W P Q' := by
  refine ⟨fun b j hb => (f b j).trans (h.1 b j hb), fun b j hb => (g b j (fun e => hb e.1)).trans (h.2.1 b j hb), fun hw j => ?_⟩
  rw [hc] at hw
  cases hw
theorem KW.at {W : List Nat} {P P' : mP} {a r : Nat} (h : KW W P P') (j : Nat) (ha : rl a = r) (hc : W.contains (ec r j) = false) : fv P' a j = fv P a j := h.1 a j (by rw [ha]; exact hc)
/-- what the refs of pieces, states and the history are -/
def XR (P : mP) : Prop := (∀ b : Nat, rl b = 3 ∨ rl b = 33 → rv P b 3 = b + 1 ∧ rv P b 4 = b + 2) ∧ (∀ A : Nat, rl A = 1 → rv P A 0 = A + 1 ∧ ∀ k : Nat, k < 8 → rv P (A + 1) k = A + 2 + 3 * k) ∧ (∀ k : Nat, k < 8 → rv P 80 k = 81 + 26 * k) ∧ rv P 0 1 = 27 ∧ rv P 0 2 = 53 ∧ rv P 0 7 = 298
theorem KW.xr {W : List Nat} {P P' : mP} (h : KW W P P') (x : XR P) : XR P' := by
  have n3 : ∀ b : Nat, rl b = 3 ∨ rl b = 33 → ¬ b = 2 := fun b hb e => by subst e; revert hb; decide +kernel
  have n1 : ∀ A : Nat, rl A = 1 → ¬ A = 2 ∧ ¬ A + 1 = 2 := fun A hA => ⟨fun e => by subst e; revert hA; decide +kernel, fun e => by rw [show A = 1 by omega] at hA; revert hA; decide +kernel⟩
  refine ⟨fun b hb => ?_, fun A hA => ⟨?_, fun k hk => ?_⟩, fun k hk => ?_, ?_, ?_, ?_⟩
  · rw [h.2.1 b 3 (n3 b hb), h.2.1 b 4 (n3 b hb)]
    exact x.1 b hb
  · rw [h.2.1 A 0 (n1 A hA).1]
    exact (x.2.1 A hA).1
  · rw [h.2.1 (A + 1) k (n1 A hA).2]
    exact (x.2.1 A hA).2 k hk
  · rw [h.2.1 80 k (by decide)]
    exact x.2.2.1 k hk
  · rw [h.2.1 0 1 (by decide)]
    exact x.2.2.2.1
  · rw [h.2.1 0 2 (by decide)]
    exact x.2.2.2.2.1
  · rw [h.2.1 0 7 (by decide)]
    exact x.2.2.2.2.2
/-- other cells, other entries -/
theorem ne_r {a b j k r t : Nat} (ha : rl a = r) (hb : rl b = t) (h : (r == t) = false) : ¬ (a = b ∧ j = k) := by
  intro e
  rw [← ha, ← hb, e.1] at h
  simp at h
theorem ne_k {a b j k : Nat} (h : (j == k) = false) : ¬ (a = b ∧ j = k) := by
  intro e
  rw [e.2] at h
  simp at h
theorem ne_i {a b j k : Nat} (h : ¬ j = k) : ¬ (a = b ∧ j = k) := fun e => h e.2

theorem un_0 : ∀ b : Nat, rl b = 0 → b = 0 := rl_un (by decide) (by decide +kernel)
theorem rl_0 : rl 0 = 0 := by decide +kernel
theorem un_6 : ∀ b : Nat, rl b = 6 → b = 79 := rl_un (by decide) (by decide +kernel)
theorem rl_79 : rl 79 = 6 := by decide +kernel
theorem un_7 : ∀ b : Nat, rl b = 7 → b = 80 := rl_un (by decide) (by decide +kernel)
theorem rl_80 : rl 80 = 7 := by decide +kernel
theorem un_8 : ∀ b : Nat, rl b = 8 → b = 289 := rl_un (by decide) (by decide +kernel)
theorem rl_289 : rl 289 = 8 := by decide +kernel
theorem un_9 : ∀ b : Nat, rl b = 9 → b = 290 := rl_un (by decide) (by decide +kernel)
theorem rl_290 : rl 290 = 9 := by decide +kernel
theorem un_10 : ∀ b : Nat, rl b = 10 → b = 291 := rl_un (by decide) (by decide +kernel)
theorem rl_291 : rl 291 = 10 := by decide +kernel
theorem un_11 : ∀ b : Nat, rl b = 11 → b = 292 := rl_un (by decide) (by decide +kernel)
theorem rl_292 : rl 292 = 11 := by decide +kernel
theorem un_12 : ∀ b : Nat, rl b = 12 → b = 293 := rl_un (by decide) (by decide +kernel)
theorem rl_293 : rl 293 = 12 := by decide +kernel
theorem un_13 : ∀ b : Nat, rl b = 13 → b = 294 := rl_un (by decide) (by decide +kernel)
theorem rl_294 : rl 294 = 13 := by decide +kernel
theorem un_14 : ∀ b : Nat, rl b = 14 → b = 295 := rl_un (by decide) (by decide +kernel)
theorem rl_295 : rl 295 = 14 := by decide +kernel
theorem un_15 : ∀ b : Nat, rl b = 15 → b = 296 := rl_un (by decide) (by decide +kernel)
theorem rl_296 : rl 296 = 15 := by decide +kernel
theorem un_16 : ∀ b : Nat, rl b = 16 → b = 297 := rl_un (by decide) (by decide +kernel)
theorem rl_297 : rl 297 = 16 := by decide +kernel
theorem un_17 : ∀ b : Nat, rl b = 17 → b = 301 := rl_un (by decide) (by decide +kernel)
theorem rl_301 : rl 301 = 17 := by decide +kernel
theorem un_18 : ∀ b : Nat, rl b = 18 → b = 302 := rl_un (by decide) (by decide +kernel)
theorem rl_302 : rl 302 = 18 := by decide +kernel
theorem un_19 : ∀ b : Nat, rl b = 19 → b = 303 := rl_un (by decide) (by decide +kernel)
theorem rl_303 : rl 303 = 19 := by decide +kernel
theorem un_20 : ∀ b : Nat, rl b = 20 → b = 304 := rl_un (by decide) (by decide +kernel)
theorem rl_304 : rl 304 = 20 := by decide +kernel
theorem un_21 : ∀ b : Nat, rl b = 21 → b = 305 := rl_un (by decide) (by decide +kernel)
theorem rl_305 : rl 305 = 21 := by decide +kernel
theorem un_22 : ∀ b : Nat, rl b = 22 → b = 306 := rl_un (by decide) (by decide +kernel)
theorem rl_306 : rl 306 = 22 := by decide +kernel
theorem un_23 : ∀ b : Nat, rl b = 23 → b = 307 := rl_un (by decide) (by decide +kernel)
theorem rl_307 : rl 307 = 23 := by decide +kernel
theorem un_24 : ∀ b : Nat, rl b = 24 → b = 308 := rl_un (by decide) (by decide +kernel)
theorem rl_308 : rl 308 = 24 := by decide +kernel
theorem un_25 : ∀ b : Nat, rl b = 25 → b = 309 := rl_un (by decide) (by decide +kernel)
theorem rl_309 : rl 309 = 25 := by decide +kernel
theorem un_26 : ∀ b : Nat, rl b = 26 → b = 310 := rl_un (by decide) (by decide +kernel)
theorem rl_310 : rl 310 = 26 := by decide +kernel
theorem un_27 : ∀ b : Nat, rl b = 27 → b = 311 := rl_un (by decide) (by decide +kernel)
theorem rl_311 : rl 311 = 27 := by decide +kernel
theorem un_28 : ∀ b : Nat, rl b = 28 → b = 312 := rl_un (by decide) (by decide +kernel)
theorem rl_312 : rl 312 = 28 := by decide +kernel
theorem un_29 : ∀ b : Nat, rl b = 29 → b = 313 := rl_un (by decide) (by decide +kernel)
theorem rl_313 : rl 313 = 29 := by decide +kernel
theorem un_30 : ∀ b : Nat, rl b = 30 → b = 314 := rl_un (by decide) (by decide +kernel)
theorem rl_314 : rl 314 = 30 := by decide +kernel
theorem un_31 : ∀ b : Nat, rl b = 31 → b = 1 := rl_un (by decide) (by decide +kernel)
theorem rl_1 : rl 1 = 31 := by decide +kernel
theorem un_32 : ∀ b : Nat, rl b = 32 → b = 2 := rl_un (by decide) (by decide +kernel)
theorem rl_2 : rl 2 = 32 := by decide +kernel
