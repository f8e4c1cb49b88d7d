/-! ways, fewest, thickest: class and reference answer alike -/
theorem FWf.congr {c : Int32 → Int32 → Prop} {e : Int32 → Prop} {kd n : Int} {f f' : Nat → Int32} (hf : ∀ j : Nat, (j : Int) < n → f j = f' j) : FWf c e kd n f = FWf c e kd n f' := by
  funext v
  unfold FWf
  rw [pcR.congr (g := kS v) (g' := kS v) hf (fun _ _ => rfl)]
theorem WAYp.congr {c : Int32 → Int32 → Prop} {e : Int32 → Prop} {kd n : Int} {f g f' g' : Nat → Int32} (hf : ∀ j : Nat, (j : Int) < n → f j = f' j) (hg : ∀ j : Nat, j < nC kd n → g j = g' j) : WAYp c e kd n f g = WAYp c e kd n f' g' := by
  funext v
  unfold WAYp
  rw [FWf.congr hf, chF_congr hg]
theorem ways_eq {P : mP} {s : Nat → Int32} {x y a : Int} (hN : SN P s) (hG : GS s) (hc : waysC P x a) (hm : waysM s y a) : x = y := by
  have n0 := hN.n0 hG
  rcases hc with ⟨x1, x2⟩ | ⟨x1, x2⟩ <;> rcases hm with ⟨y1, y2⟩ | ⟨y1, y2⟩
  all_goals try omega
  obtain ⟨q, -, -⟩ := hN.at hG (a := a) (by omega) (by omega)
  rw [q.1, q.2.1, WAYp.congr q.2.2.2.1 q.2.2.2.2] at x2
  exact CNr.uniq x2 y2
theorem fewest_eq {P : mP} {s : Nat → Int32} {x y a : Int} (hN : SN P s) (hG : GS s) (hc : fewestC P x a) (hm : fewestM s y a) : x = y := by
  have n0 := hN.n0 hG
  rcases hc with ⟨x1, x2⟩ | ⟨x1, x2⟩ <;> rcases hm with ⟨y1, y2⟩ | ⟨y1, y2⟩
  all_goals try omega
  obtain ⟨q, -, -⟩ := hN.at hG (a := a) (by omega) (by omega)
  rw [q.1, q.2.1, FWf.congr q.2.2.2.1, show (fun v : Int32 => chF (fun j : Nat => fv P (rv P 2 a.toNat + 2) j) v (nC (s (3 + 19 * a.toNat)).toInt (s (4 + 19 * a.toNat)).toInt)) = fun v : Int32 => chF (fun j : Nat => s (14 + 19 * a.toNat + j)) v (nC (s (3 + 19 * a.toNat)).toInt (s (4 + 19 * a.toNat)).toInt) from funext (fun v => chF_congr q.2.2.2.2)] at x2
  exact FEr.uniq x2 y2
theorem pbF_mono {f : Nat → Int32} {p q : Int} {n : Nat} (h : ∀ i : Nat, i < n → lfF f i ≤ p ∧ p < rgF f i → lfF f i ≤ q ∧ q < rgF f i) : pbF f p n ≤ pbF f q n := by
  induction n with
  | zero => exact Int.le_refl 0
  | succ n ih =>
    have h1 := ih (fun i hi => h i (by omega))
    have h2 := h n (by omega)
    show (if lfF f n ≤ p ∧ p < rgF f n then pbF f p n + 1 else pbF f p n) ≤ if lfF f n ≤ q ∧ q < rgF f n then pbF f q n + 1 else pbF f q n
    by_cases e : lfF f n ≤ p ∧ p < rgF f n
    · rw [if_pos e, if_pos (h2 e)]
      omega
    · rw [if_neg e]
      split <;> omega
theorem pbF_pos {f : Nat → Int32} {p : Int} {n : Nat} (h : ¬ ∃ i : Nat, i < n ∧ lfF f i ≤ p ∧ p < rgF f i) : pbF f p n = 0 := by
  induction n with
  | zero => rfl
  | succ n ih =>
    show (if lfF f n ≤ p ∧ p < rgF f n then pbF f p n + 1 else pbF f p n) = 0
    rw [if_neg (fun e => h ⟨n, by omega, e⟩)]
    exact ih (fun ⟨i, h1, h2⟩ => h ⟨i, by omega, h2⟩)
/-- of the panels over a place one begins last -/
theorem last_lf {f : Nat → Int32} {p : Int} {n : Nat} : (∃ i : Nat, i < n ∧ lfF f i ≤ p ∧ p < rgF f i) → ∃ j : Nat, j < n ∧ (lfF f j ≤ p ∧ p < rgF f j) ∧ ∀ i : Nat, i < n → lfF f i ≤ p ∧ p < rgF f i → lfF f i ≤ lfF f j := by
  induction n with
  | zero =>
    rintro ⟨i, h, -⟩
    exact absurd h (Nat.not_lt_zero i)
  | succ n ih =>
    rintro ⟨i, h1, h2⟩
    by_cases e : ∃ i : Nat, i < n ∧ lfF f i ≤ p ∧ p < rgF f i
    · obtain ⟨j, g1, g2, g3⟩ := ih e
      by_cases c : (lfF f n ≤ p ∧ p < rgF f n) ∧ lfF f j ≤ lfF f n
      · refine ⟨n, by omega, c.1, fun k k1 k2 => ?_⟩
        by_cases kn : k = n
        · subst kn
          exact Int.le_refl _
        · exact Int.le_trans (g3 k (by omega) k2) c.2
      · refine ⟨j, by omega, g2, fun k k1 k2 => ?_⟩
        by_cases kn : k = n
        · subst kn
          have : ¬ lfF f j ≤ lfF f k := fun z => c ⟨k2, z⟩
          omega
        · exact g3 k (by omega) k2
    · have en : i = n := by
        by_cases c : i = n
        · exact c
        · exact absurd ⟨i, by omega, h2⟩ e
      subst en
      refine ⟨i, by omega, h2, fun k k1 k2 => ?_⟩
      by_cases kn : k = i
      · subst kn
        exact Int.le_refl _
      · exact absurd ⟨k, by omega, k2⟩ e
theorem thF_ge {f : Nat → Int32} {m n : Nat} : 0 ≤ thF f m n ∧ ∀ i : Nat, i < n → pbF f (lfF f i) m ≤ thF f m n := by
  induction n with
  | zero => exact ⟨Int.le_refl 0, fun i hi => absurd hi (Nat.not_lt_zero i)⟩
  | succ n ih =>
    show 0 ≤ max (thF f m n) (pbF f (lfF f n) m) ∧ ∀ i : Nat, i < n + 1 → pbF f (lfF f i) m ≤ max (thF f m n) (pbF f (lfF f n) m)
    refine ⟨by omega, fun i hi => ?_⟩
    by_cases e : i = n
    · subst e
      omega
    · have := ih.2 i (by omega)
      omega
theorem thF_le {f : Nat → Int32} {m n : Nat} {b : Int} (h0 : 0 ≤ b) (h : ∀ i : Nat, i < n → pbF f (lfF f i) m ≤ b) : thF f m n ≤ b := by
  induction n with
  | zero => exact h0
  | succ n ih =>
    have h1 := ih (fun i hi => h i (by omega))
    have h2 := h n (by omega)
    show max (thF f m n) (pbF f (lfF f n) m) ≤ b
    omega
theorem mxR_ge {f : Nat → Int32} {m c : Nat} {p a : Int} : a ≤ mxR f m p a c ∧ ∀ i : Nat, i < c → pbF f (p + i) m ≤ mxR f m p a c := by
  induction c with
  | zero => exact ⟨Int.le_refl _, fun i hi => absurd hi (Nat.not_lt_zero i)⟩
  | succ c ih =>
    show a ≤ max (mxR f m p a c) (pbF f (p + c) m) ∧ ∀ i : Nat, i < c + 1 → pbF f (p + i) m ≤ max (mxR f m p a c) (pbF f (p + c) m)
    refine ⟨by omega, fun i hi => ?_⟩
    by_cases e : i = c
    · subst e
      omega
    · have := ih.2 i (by omega)
      omega
theorem mxR_le {f : Nat → Int32} {m c : Nat} {p a b : Int} (h0 : a ≤ b) (h : ∀ i : Nat, i < c → pbF f (p + i) m ≤ b) : mxR f m p a c ≤ b := by
  induction c with
  | zero => exact h0
  | succ c ih =>
    have h1 := ih (fun i hi => h i (by omega))
    have h2 := h c (by omega)
    show max (mxR f m p a c) (pbF f (p + c) m) ≤ b
    omega
theorem tmF_ge {f : Nat → Int32} {m n : Nat} : 0 ≤ tmF f m n ∧ ∀ i : Nat, i < n → ∀ p : Int, lfF f i ≤ p → p < rgF f i → pbF f p m ≤ tmF f m n := by
  induction n with
  | zero => exact ⟨Int.le_refl 0, fun i hi => absurd hi (Nat.not_lt_zero i)⟩
  | succ n ih =>
    have g := mxR_ge (f := f) (m := m) (c := (rgF f n - lfF f n).toNat) (p := lfF f n) (a := tmF f m n)
    show 0 ≤ mxR f m (lfF f n) (tmF f m n) (rgF f n - lfF f n).toNat ∧ ∀ i : Nat, i < n + 1 → ∀ p : Int, lfF f i ≤ p → p < rgF f i → pbF f p m ≤ mxR f m (lfF f n) (tmF f m n) (rgF f n - lfF f n).toNat
    refine ⟨by omega, fun i hi p h1 h2 => ?_⟩
    by_cases e : i = n
    · subst e
      have := g.2 (p - lfF f i).toNat (by omega)
      rw [show lfF f i + ((p - lfF f i).toNat : Int) = p by omega] at this
      exact this
    · have := ih.2 i (by omega) p h1 h2
      omega
theorem tmF_le {f : Nat → Int32} {m n : Nat} {b : Int} (h0 : 0 ≤ b) (h : ∀ i : Nat, i < n → ∀ p : Int, lfF f i ≤ p → p < rgF f i → pbF f p m ≤ b) : tmF f m n ≤ b := by
  induction n with
  | zero => exact h0
  | succ n ih =>
    have h1 := ih (fun i hi => h i (by omega))
    exact mxR_le h1 (fun i hi => h n (by omega) _ (by omega) (by omega))
theorem th_tm {f : Nat → Int32} {n : Nat} : thF f n n = tmF f n n := by
  have a := thF_ge (f := f) (m := n) (n := n)
  have b := tmF_ge (f := f) (m := n) (n := n)
  have c : thF f n n ≤ tmF f n n := thF_le b.1 (fun i hi => by
    by_cases e : ∃ k : Nat, k < n ∧ lfF f k ≤ lfF f i ∧ lfF f i < rgF f k
    · obtain ⟨k, k1, k2, k3⟩ := e
      exact b.2 k k1 _ k2 k3
    · rw [pbF_pos e]
      exact b.1)
  have d : tmF f n n ≤ thF f n n := tmF_le a.1 (fun i hi p h1 h2 => by
    obtain ⟨j, g1, g2, g3⟩ := last_lf (f := f) (p := p) (n := n) ⟨i, hi, h1, h2⟩
    have e := a.2 j g1
    have e2 : pbF f p n ≤ pbF f (lfF f j) n := pbF_mono (fun k k1 k2 => ⟨g3 k k1 k2, by omega⟩)
    omega)
  omega
theorem thF_congr {f g : Nat → Int32} {n : Nat} (h : ∀ j : Nat, j < n → f j = g j) : thF f n n = thF g n n := by
  have l : ∀ i : Nat, i < n → lfF f i = lfF g i ∧ rgF f i = rgF g i := by
    intro i hi
    unfold lfF rgF
    rw [plF_congr (n := i) (fun j hj => h j (by omega)), plF_congr (n := i + 1) (fun j hj => h j (by omega))]
    exact ⟨rfl, rfl⟩
  have p : ∀ (q : Int) (m : Nat), m ≤ n → pbF f q m = pbF g q m := by
    intro q m
    induction m with
    | zero => exact fun _ => rfl
    | succ m ih =>
      intro hm
      show (if lfF f m ≤ q ∧ q < rgF f m then pbF f q m + 1 else pbF f q m) = if lfF g m ≤ q ∧ q < rgF g m then pbF g q m + 1 else pbF g q m
      rw [ih (by omega), (l m (by omega)).1, (l m (by omega)).2]
  have t : ∀ m : Nat, m ≤ n → thF f n m = thF g n m := by
    intro m
    induction m with
    | zero => exact fun _ => rfl
    | succ m ih =>
      intro hm
      show max (thF f n m) (pbF f (lfF f m) n) = max (thF g n m) (pbF g (lfF g m) n)
      rw [ih (by omega), (l m (by omega)).1, p _ n (Nat.le_refl n)]
  exact t n (Nat.le_refl n)
theorem thickest_eq {P : mP} {s : Nat → Int32} {x y a : Int} (hN : SN P s) (hG : GS s) (hc : thickestC P x a) (hm : thickestM s y a) : x = y := by
  have n0 := hN.n0 hG
  have pc := hN.pc hG a
  rcases hc with ⟨x1, x2⟩ | ⟨x1, x2, x3⟩ | ⟨x1, x2, x3⟩ <;> rcases hm with ⟨y1, y2⟩ | ⟨y1, y2, y3⟩ | ⟨y1, y2, y3⟩
  all_goals try omega
  obtain ⟨q, g, -⟩ := hN.at hG (a := a) (by omega) (by omega)
  rw [x3, y3, q.2.1, thF_congr (fun j hj => q.2.2.2.1 j (by omega))]
  exact th_tm
