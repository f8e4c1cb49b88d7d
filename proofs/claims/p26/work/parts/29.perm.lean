/-! the locals' order is of no matter: M reads them by their numbers alone -/
def mleq (L L' : List (Nat × Value)) : Prop := (∀ q ∈ L, mcat q.2 = 1) ∧ (∀ q ∈ L', mcat q.2 = 1) ∧ ∀ i : Nat, mget L i = mget L' i
theorem mfind_filter {i j : Nat} (hij : ¬ i = j) : ∀ L : List (Nat × Value), (∀ q ∈ L, mcat q.2 = 1) → (L.filter (fun q => !(q.1 == i) && !(q.1 + 1 == i && (msh 0 0 q.2).category == 2))).find? (fun q => q.1 == j) = L.find? (fun q => q.1 == j)
  | [], _ => rfl
  | q :: L, h => by
    have ih := mfind_filter hij L (fun q hq => h q (List.mem_cons_of_mem _ hq))
    have hc : (msh 0 0 q.2).category = 1 := h q List.mem_cons_self
    by_cases hq : q.1 = i
    · have h1 : (!(q.1 == i) && !(q.1 + 1 == i && (msh 0 0 q.2).category == 2)) = false := by simp [hq]
      have h2 : (q.1 == j) = false := by simp [hq, hij]
      rw [List.filter_cons, h1, List.find?_cons, h2]
      exact ih
    · have h1 : (!(q.1 == i) && !(q.1 + 1 == i && (msh 0 0 q.2).category == 2)) = true := by simp [hq, hc]
      rw [List.filter_cons, h1, if_pos rfl, List.find?_cons, List.find?_cons, ih]
theorem mget_put {L : List (Nat × Value)} (h : ∀ q ∈ L, mcat q.2 = 1) (i j : Nat) (v : Value) : mget (mput i v L) j = if i = j then some v else mget L j := by
  unfold mget mput
  rw [List.find?_cons]
  by_cases hij : i = j
  · have : (i == j) = true := by simp [hij]
    rw [this, if_pos hij]
    rfl
  · have : (i == j) = false := by simp [hij]
    rw [this, if_neg hij]
    dsimp only
    rw [mfind_filter hij L h]
theorem mput_cat {L : List (Nat × Value)} (h : ∀ q ∈ L, mcat q.2 = 1) {i : Nat} {v : Value} (hv : mcat v = 1) : ∀ q ∈ mput i v L, mcat q.2 = 1 := by
  intro q hq
  unfold mput at hq
  rcases List.mem_cons.mp hq with rfl | hq
  · exact hv
  · exact h q (List.mem_filter.mp hq).1
theorem mleq.put {L L' : List (Nat × Value)} (h : mleq L L') {i : Nat} {v : Value} (hv : mcat v = 1) : mleq (mput i v L) (mput i v L') := by
  refine ⟨mput_cat h.1 hv, mput_cat h.2.1 hv, fun j => ?_⟩
  rw [mget_put h.1, mget_put h.2.1, h.2.2]
/-- two outcomes that are alike -/
def mAq (x y : Option (Nat × List (Nat × Value) × List Value)) : Prop := match x, y with
  | none, none => True
  | some a, some b => a.1 = b.1 ∧ mleq a.2.1 b.2.1 ∧ a.2.2 = b.2.2
  | _, _ => False
theorem mAq_map {L L' : List (Nat × Value)} {x : Option Int32} {f g : Int32 → Nat × List (Nat × Value) × List Value} (h : ∀ v, mAq (some (f v)) (some (g v))) : mAq (x.map f) (x.map g) := by
  cases x with
  | none => trivial
  | some v => exact h v
theorem mA_leq {cc : ByteArray} {nL pc : Nat} {L L' : List (Nat × Value)} {st : List Value} (h : mleq L L') : mAq (mA cc nL pc L st) (mA cc nL pc L' st) := by
  have hI : ∀ k, mgI L' k = mgI L k := fun k => by unfold mgI; rw [h.2.2 k]
  have hG : ∀ k, mget L' k = mget L k := fun k => (h.2.2 k).symm
  unfold mA
  cases decode cc pc with
  | error e => trivial
  | ok p =>
    obtain ⟨ins, n⟩ := p
    simp only [hI, hG]
    split
    · exact mAq_map (L := L) (L' := L') (fun v => ⟨rfl, h, rfl⟩)
    · exact mAq_map (L := L) (L' := L') (fun v => ⟨rfl, h, rfl⟩)
    · split <;> first | exact ⟨rfl, h, rfl⟩ | trivial
    · split <;> first | exact ⟨rfl, h, rfl⟩ | trivial
    · exact ⟨rfl, h, rfl⟩
    · exact ⟨rfl, h, rfl⟩
    · exact ⟨rfl, h, rfl⟩
    · exact ⟨rfl, h, rfl⟩
    · split
      · split <;> first | exact ⟨rfl, h.put rfl, rfl⟩ | trivial
      · trivial
    · split
      · split <;> first | exact ⟨rfl, h.put rfl, rfl⟩ | trivial
      · trivial
    · split
      · split <;> first | exact ⟨rfl, h.put rfl, rfl⟩ | trivial
      · split <;> first | exact ⟨rfl, h.put rfl, rfl⟩ | trivial
      · trivial
    · split
      · split <;> first | exact ⟨rfl, h.put rfl, rfl⟩ | trivial
      · split <;> first | exact ⟨rfl, h.put rfl, rfl⟩ | trivial
      · trivial
    · split
      · exact mAq_map (L := L) (L' := L') (fun v => ⟨rfl, h.put rfl, rfl⟩)
      · trivial
    · split <;> first | exact ⟨rfl, h, rfl⟩ | trivial
    · trivial
theorem mexec_leq {call : mCall} {scr : Option (List Int32)} {cc : ByteArray} {nL o : Nat} {ini : Bool} {ret : Option FieldType} {mcM msM : Nat} : ∀ (f pc : Nat) (L L' : List (Nat × Value)) (st : List Value) (P : mP) (cz sz : Nat), mleq L L' → mexec call scr cc nL o ini ret mcM msM f pc L st P cz sz = mexec call scr cc nL o ini ret mcM msM f pc L' st P cz sz := by
  intro f
  induction f with
  | zero => intros; rfl
  | succ f ih =>
    intro pc L L' st P cz sz h
    have hA := mA_leq (cc := cc) (nL := nL) (pc := pc) (st := st) h
    unfold mexec
    cases h1 : mA cc nL pc L st with
    | some a =>
      cases h2 : mA cc nL pc L' st with
      | some b =>
        rw [h1, h2] at hA
        obtain ⟨e1, e2, e3⟩ := hA
        dsimp only
        rw [e1, e3]
        exact ih _ _ _ _ _ _ _ e2
      | none =>
        rw [h1, h2] at hA
        exact hA.elim
    | none =>
      cases h2 : mA cc nL pc L' st with
      | some b =>
        rw [h1, h2] at hA
        exact hA.elim
      | none =>
        dsimp only
        cases mS cc pc st with
        | some z => exact ih _ _ _ _ _ _ _ h
        | none =>
          dsimp only
          cases mB cc o ini pc st P with
          | some z => exact ih _ _ _ _ _ _ _ h
          | none =>
            dsimp only
            cases mC call cc o pc st P with
            | some z =>
              dsimp only
              split
              · exact ih _ _ _ _ _ _ _ h
              · rfl
            | none =>
              dsimp only
              cases mN cc o pc st P with
              | some z =>
                dsimp only
                split
                · exact ih _ _ _ _ _ _ _ h
                · rfl
              | none =>
                dsimp only
                cases mK scr cc pc st with
                | some z => exact ih _ _ _ _ _ _ _ h
                | none => rfl
theorem MEvP.perm {d : Nat} {scr : Option (List Int32)} {q : mQ} {pc : Nat} {L L' : List (Nat × Value)} {st : List Value} {P : mP} {cz sz : Nat} {Φ : Option Value → mP → Prop} (h : mleq L L') (k : MEvP d scr q pc L' st P cz sz Φ) : MEvP d scr q pc L st P cz sz Φ := by
  obtain ⟨r, P', h1, F, f, h2⟩ := k
  exact ⟨r, P', h1, F, f, (mexec_leq f pc L L' st P cz sz h).trans h2⟩
theorem mleq_mk {L L' : List (Nat × Value)} (h1 : L.all (fun q => mcat q.2 == 1) = true) (h2 : L'.all (fun q => mcat q.2 == 1) = true) (h3 : ∀ i : Nat, mget L i = mget L' i) : mleq L L' := ⟨fun q hq => beq_iff_eq.mp (List.all_eq_true.mp h1 q hq), fun q hq => beq_iff_eq.mp (List.all_eq_true.mp h2 q hq), h3⟩
