/-! the locals' order is of no matter: M reads them by their numbers alone -/
def mleq (L L' : List (Nat × Value)) : Prop := (∀ q ∈ L, mcat q.2 = 1) ∧ (∀ q ∈ L', mcat q.2 = 1) ∧ ∀ i : Nat, mget L i = mget L' i
theorem mfind_filter {i j : Nat} (hij : ¬ i = j) : ∀ L : List (Nat × Value), (∀ q ∈ L, mcat q.2 = 1) → (L.filter (fun q => !(q.1 == i) && !(q.1 + 1 == i && (msh 0 0 q.2).category == 2))).find? (fun q => q.1 == j) = L.find? (fun q => q.1 == j)
  | [], _ => rfl
  | q :: L, h => by
    have ih := mfind_filter hij L (fun q hq => h q (List.mem_cons_of_mem _ hq))
    have hc : (msh 0 0 q.2).category = 1 := h q List.mem_cons_self
    by_cases hq : q.1 = i
    · have h1 : (!(q.1 == i) && !(q.1 + 1 == i && (msh 0 0 q.2).category == 2)) = false := by simp [hq]
      have h2 : (q.1 == j) = false := by simp [hq, hij]
      rw [List.filter_cons, h1, List.find?_cons, h2]
      exact ih
    · have h1 : (!(q.1 == i) && !(q.1 + 1 == i && (msh 0 0 q.2).category == 2)) = true := by simp [hq, hc]
      rw [List.filter_cons, h1, if_pos rfl, List.find?_cons, List.find?_cons, ih]
theorem mget_put {L : List (Nat × Value)} (h : ∀ q ∈ L, mcat q.2 = 1) (i j : Nat) (v : Value) : mget (mput i v L) j = if i = j then some v else mget L j := by
  unfold mget mput
  rw [List.find?_cons]
  by_cases hij : i = j
  · have : (i == j) = true := by simp [hij]
    rw [this, if_pos hij]
    rfl
  · have : (i == j) = false := by simp [hij]
    rw [this, if_neg hij]
    dsimp only
    rw [mfind_filter hij L h]
theorem mput_cat {L : List (Nat × Value)} (h : ∀ q ∈ L, mcat q.2 = 1) {i : Nat} {v : Value} (hv : mcat v = 1) : ∀ q ∈ mput i v L, mcat q.2 = 1 := by
  intro q hq
  unfold mput at hq
  rcases List.mem_cons.mp hq with rfl | hq
  · exact hv
  · exact h q (List.mem_filter.mp hq).1
theorem mleq.put {L L' : List (Nat × Value)} (h : mleq L L') {i : Nat} {v : Value} (hv : mcat v = 1) : mleq (mput i v L) (mput i v L') := by
  refine ⟨mput_cat h.1 hv, mput_cat h.2.1 hv, fun j => ?_⟩
  rw [mget_put h.1, mget_put h.2.1, h.2.2]
/-- two outcomes that are alike -/
def mAq (x y : Option (Nat × List (Nat × Value) × List Value)) : Prop := match x, y with
  | none, none => True
  | some a, some b => a.1 = b.1 ∧ mleq a.2.1 b.2.1 ∧ a.2.2 = b.2.2
  | _, _ => False
theorem mAq_map {L L' : List (Nat × Value)} {x : Option Int32} {f g : Int32 → Nat × List (Nat × Value) × List Value} (h : ∀ v, mAq (some (f v)) (some (g v))) : mAq (x.map f) (x.map g) := by
  cases x with
  | none => trivial
  | some v => exact h v
theorem mA_leq {cc : ByteArray} {nL pc : Nat} {L L' : List (Nat × Value)} {st : List Value} (h : mleq L L') : mAq (mA cc nL pc L st) (mA cc nL pc L' st) := by
  have hI : ∀ k, mgI L' k = mgI L k := fun k => by unfold mgI; rw [h.2.2 k]
  have hG : ∀ k, mget L' k = mget L k := fun k => (h.2.2 k).symm
  unfold mA
  cases decode cc pc with
  | error e => trivial
  | ok p =>
    obtain ⟨ins, n⟩ := p
    simp only [hI, hG]
    split
    · exact mAq_map (L := L) (L' := L') (fun v => ⟨rfl, h, rfl⟩)
    · exact mAq_map (L := L) (L' := L') (fun v => ⟨rfl, h, rfl⟩)
    · split <;> first | exact ⟨rfl, h, rfl⟩ | trivial
    · split <;> first | exact ⟨rfl, h, rfl⟩ | trivial
    · exact ⟨rfl, h, rfl⟩
    · exact ⟨rfl, h, rfl⟩
    · exact ⟨rfl, h, rfl⟩
    · exact ⟨rfl, h, rfl⟩
    · split
      · split <;> first | exact ⟨rfl, h.put rfl, rfl⟩ | trivial
      · trivial
    · split
      · split <;> first | exact ⟨rfl, h.put rfl, rfl⟩ | trivial
      · trivial
    · split
      · split <;> first | exact ⟨rfl, h.put rfl, rfl⟩ | trivial
      · split <;> first | exact ⟨rfl, h.put rfl, rfl⟩ | trivial
      · trivial
    · split
      · split <;> first | exact ⟨rfl, h.put rfl, rfl⟩ | trivial
      · split <;> first | exact ⟨rfl, h.put rfl, rfl⟩ | trivial
      · trivial
    · split
      · exact mAq_map (L := L) (L' := L') (fun v => ⟨rfl, h.put rfl, rfl⟩)
      · trivial
    · split <;> first | exact ⟨rfl, h, rfl⟩ | trivial
    · split
      · split <;> first | exact ⟨rfl, h.put rfl, rfl⟩ | trivial
      · trivial
    · split <;> first | exact ⟨rfl, h, rfl⟩ | trivial
    · trivial
theorem mexec_leq {call : mCall} {scr : Option (List Int32)} {cc : ByteArray} {nL o : Nat} {ini : Bool} {ret : Option FieldType} {mcM msM : Nat} : ∀ (f pc : Nat) (L L' : List (Nat × Value)) (st : List Value) (P : mP) (cz sz : Nat), mleq L L' → mexec call scr cc nL o ini ret mcM msM f pc L st P cz sz = mexec call scr cc nL o ini ret mcM msM f pc L' st P cz sz := by
  intro f
  induction f with
  | zero => intros; rfl
  | succ f ih =>
    intro pc L L' st P cz sz h
    have hA := mA_leq (cc := cc) (nL := nL) (pc := pc) (st := st) h
    unfold mexec
    cases h1 : mA cc nL pc L st with
    | some a =>
      cases h2 : mA cc nL pc L' st with
      | some b =>
        rw [h1, h2] at hA
        obtain ⟨e1, e2, e3⟩ := hA
        dsimp only
        rw [e1, e3]
        exact ih _ _ _ _ _ _ _ e2
      | none =>
        rw [h1, h2] at hA
        exact hA.elim
    | none =>
      cases h2 : mA cc nL pc L' st with
      | some b =>
        rw [h1, h2] at hA
        exact hA.elim
      | none =>
        dsimp only
        cases mS cc pc st with
        | some z => exact ih _ _ _ _ _ _ _ h
        | none =>
          dsimp only
          cases mB cc o ini pc st P with
          | some z => exact ih _ _ _ _ _ _ _ h
          | none =>
            dsimp only
            cases mC call cc o pc st P with
            | some z =>
              dsimp only
              split
              · exact ih _ _ _ _ _ _ _ h
              · rfl
            | none =>
              dsimp only
              cases mN cc o pc st P with
              | some z =>
                dsimp only
                split
                · exact ih _ _ _ _ _ _ _ h
                · rfl
              | none =>
                dsimp only
                cases mK scr cc pc st with
                | some z => exact ih _ _ _ _ _ _ _ h
                | none => rfl
theorem MEvP.perm {d : Nat} {scr : Option (List Int32)} {q : mQ} {pc : Nat} {L L' : List (Nat × Value)} {st : List Value} {P : mP} {cz sz : Nat} {Φ : Option Value → mP → Prop} (h : mleq L L') (k : MEvP d scr q pc L' st P cz sz Φ) : MEvP d scr q pc L st P cz sz Φ := by
  obtain ⟨r, P', h1, F, f, h2⟩ := k
  exact ⟨r, P', h1, F, f, (mexec_leq f pc L L' st P cz sz h).trans h2⟩
theorem mleq_mk {L L' : List (Nat × Value)} (h1 : L.all (fun q => mcat q.2 == 1) = true) (h2 : L'.all (fun q => mcat q.2 == 1) = true) (h3 : ∀ i : Nat, mget L i = mget L' i) : mleq L L' := ⟨fun q hq => beq_iff_eq.mp (List.all_eq_true.mp h1 q hq), fun q hq => beq_iff_eq.mp (List.all_eq_true.mp h2 q hq), h3⟩
/-! fewer locals: what runs with fewer runs with more -/
theorem mA_excl {cc : ByteArray} {nL pc : Nat} {L : List (Nat × Value)} {st : List Value} {z : Nat × List (Nat × Value) × List Value} (h : mA cc nL pc L st = some z) : (∀ st', mS cc pc st' = none) ∧ (∀ o ini st' P, mB cc o ini pc st' P = none) ∧ (∀ call o st' P, mC call cc o pc st' P = none) ∧ (∀ o st' P, mN cc o pc st' P = none) ∧ (∀ scr st', mK scr cc pc st' = none) ∧ (∀ ret st', mret cc ret pc st' = none) := by
  unfold mA at h
  split at h
  all_goals first
    | (cases h; done)
    | (rename_i heq
       refine ⟨fun _ => by simp only [mS, heq], fun _ _ _ _ => by simp only [mB, heq], fun _ _ _ _ => by simp only [mC, heq], fun _ _ _ => by simp only [mN, heq], fun scr _ => by cases scr <;> simp only [mK, heq], fun _ _ => by simp only [mret, heq]⟩)
def mle (L L' : List (Nat × Value)) : Prop := (∀ q ∈ L, mcat q.2 = 1) ∧ (∀ q ∈ L', mcat q.2 = 1) ∧ ∀ (i : Nat) (v : Value), mget L i = some v → mget L' i = some v
theorem mle.put {L L' : List (Nat × Value)} (h : mle L L') {i : Nat} {v : Value} (hv : mcat v = 1) : mle (mput i v L) (mput i v L') := by
  refine ⟨mput_cat h.1 hv, mput_cat h.2.1 hv, fun j w => ?_⟩
  rw [mget_put h.1, mget_put h.2.1]
  split
  · exact id
  · exact h.2.2 j w
def mAl (x y : Option (Nat × List (Nat × Value) × List Value)) : Prop := ∀ a, x = some a → ∃ b, y = some b ∧ a.1 = b.1 ∧ mle a.2.1 b.2.1 ∧ a.2.2 = b.2.2
theorem mAl_some {a b : Nat × List (Nat × Value) × List Value} (h1 : a.1 = b.1) (h2 : mle a.2.1 b.2.1) (h3 : a.2.2 = b.2.2) : mAl (some a) (some b) := by
  intro c hc
  cases hc
  exact ⟨b, rfl, h1, h2, h3⟩
theorem mgI_le {L L' : List (Nat × Value)} (h : mle L L') {i : Nat} {x : Int32} (hx : mgI L i = some x) : mgI L' i = some x := by
  have := h.2.2 i _ (mgI_get hx)
  unfold mgI
  rw [this]
theorem mAl_map {L L' : List (Nat × Value)} (h : mle L L') {i : Nat} {f g : Int32 → Nat × List (Nat × Value) × List Value} (hf : ∀ v, mAl (some (f v)) (some (g v))) : mAl ((mgI L i).map f) ((mgI L' i).map g) := by
  intro a ha
  obtain ⟨x, hx, rfl⟩ := Option.map_eq_some_iff.mp ha
  rw [mgI_le h hx]
  exact hf x _ rfl
theorem mA_le {cc : ByteArray} {nL pc : Nat} {L L' : List (Nat × Value)} {st : List Value} (h : mle L L') : mAl (mA cc nL pc L st) (mA cc nL pc L' st) := by
  have hG : ∀ i v, mget L i = some v → mget L' i = some v := h.2.2
  unfold mA
  cases decode cc pc with
  | error e => intro a ha; cases ha
  | ok p =>
    obtain ⟨ins, n⟩ := p
    split
    · exact mAl_map h (fun v => mAl_some rfl h rfl)
    · exact mAl_map h (fun v => mAl_some rfl h rfl)
    · intro a ha
      split at ha <;> first | (rename_i hx; cases ha; rw [hG _ _ hx]; exact ⟨_, rfl, rfl, h, rfl⟩) | cases ha
    · intro a ha
      split at ha <;> first | (rename_i hx; cases ha; rw [hG _ _ hx]; exact ⟨_, rfl, rfl, h, rfl⟩) | cases ha
    · exact mAl_some rfl h rfl
    · exact mAl_some rfl h rfl
    · exact mAl_some rfl h rfl
    · exact mAl_some rfl h rfl
    · split
      · split <;> first | exact mAl_some rfl (h.put rfl) rfl | (intro a ha; cases ha)
      · intro a ha; cases ha
    · split
      · split <;> first | exact mAl_some rfl (h.put rfl) rfl | (intro a ha; cases ha)
      · intro a ha; cases ha
    · split
      · split <;> first | exact mAl_some rfl (h.put rfl) rfl | (intro a ha; cases ha)
      · split <;> first | exact mAl_some rfl (h.put rfl) rfl | (intro a ha; cases ha)
      · intro a ha; cases ha
    · split
      · split <;> first | exact mAl_some rfl (h.put rfl) rfl | (intro a ha; cases ha)
      · split <;> first | exact mAl_some rfl (h.put rfl) rfl | (intro a ha; cases ha)
      · intro a ha; cases ha
    · split
      · exact mAl_map h (fun v => mAl_some rfl (h.put rfl) rfl)
      · intro a ha; cases ha
    · intro a ha
      split at ha <;> first | (rename_i hx; cases ha; rw [hG _ _ hx]; exact ⟨_, rfl, rfl, h, rfl⟩) | cases ha
    · split
      · split <;> first | exact mAl_some rfl (h.put rfl) rfl | (intro a ha; cases ha)
      · intro a ha; cases ha
    · split <;> first | exact mAl_some rfl h rfl | (intro a ha; cases ha)
    · intro a ha; cases ha
theorem mexec_le {call : mCall} {scr : Option (List Int32)} {cc : ByteArray} {nL o : Nat} {ini : Bool} {ret : Option FieldType} {mcM msM : Nat} {res : Option Value × mP} : ∀ (f pc : Nat) (L L' : List (Nat × Value)) (st : List Value) (P : mP) (cz sz : Nat), mle L L' → mexec call scr cc nL o ini ret mcM msM f pc L st P cz sz = some res → mexec call scr cc nL o ini ret mcM msM f pc L' st P cz sz = some res := by
  intro f
  induction f with
  | zero => intro pc L L' st P cz sz _ h; cases h
  | succ f ih =>
    intro pc L L' st P cz sz h hx
    have hA := mA_le (cc := cc) (nL := nL) (pc := pc) (st := st) h
    unfold mexec at hx ⊢
    cases h1 : mA cc nL pc L st with
    | some a =>
      obtain ⟨b, e0, e1, e2, e3⟩ := hA a h1
      rw [h1] at hx
      rw [e0]
      dsimp only at hx ⊢
      rw [← e1, ← e3]
      exact ih _ _ _ _ _ _ _ e2 hx
    | none =>
      rw [h1] at hx
      dsimp only at hx
      cases h2 : mA cc nL pc L' st with
      | some b =>
        obtain ⟨g1, g2, g3, g4, g5, g6⟩ := mA_excl h2
        rw [g1, g2, g3, g4, g5, g6] at hx
        cases hx
      | none =>
        dsimp only
        cases h3 : mS cc pc st with
        | some z =>
          rw [h3] at hx
          exact ih _ _ _ _ _ _ _ h hx
        | none =>
          rw [h3] at hx
          dsimp only at hx ⊢
          cases h4 : mB cc o ini pc st P with
          | some z =>
            rw [h4] at hx
            exact ih _ _ _ _ _ _ _ h hx
          | none =>
            rw [h4] at hx
            dsimp only at hx ⊢
            cases h5 : mC call cc o pc st P with
            | some z =>
              rw [h5] at hx
              dsimp only at hx ⊢
              split at hx
              · rename_i hc
                rw [if_pos hc]
                exact ih _ _ _ _ _ _ _ h hx
              · cases hx
            | none =>
              rw [h5] at hx
              dsimp only at hx ⊢
              cases h6 : mN cc o pc st P with
              | some z =>
                rw [h6] at hx
                dsimp only at hx ⊢
                split at hx
                · rename_i hc
                  rw [if_pos hc]
                  exact ih _ _ _ _ _ _ _ h hx
                · cases hx
              | none =>
                rw [h6] at hx
                dsimp only at hx ⊢
                cases h7 : mK scr cc pc st with
                | some z =>
                  rw [h7] at hx
                  exact ih _ _ _ _ _ _ _ h hx
                | none =>
                  rw [h7] at hx
                  exact hx
/-- every one of the fewer stands among the more -/
def mFew (L' : List (Nat × Value)) : List (Nat × Value) → Prop
  | [] => True
  | q :: L => mget L' q.1 = some q.2 ∧ mFew L' L
theorem mFew_mem {L' : List (Nat × Value)} : ∀ {L : List (Nat × Value)}, mFew L' L → ∀ q ∈ L, mget L' q.1 = some q.2
  | [], _, _, hq => by cases hq
  | q :: L, h, r, hr => by
    rcases List.mem_cons.mp hr with rfl | hr
    · exact h.1
    · exact mFew_mem h.2 r hr
theorem MEvP.less {d : Nat} {scr : Option (List Int32)} {q : mQ} {pc : Nat} {L L' : List (Nat × Value)} {st : List Value} {P : mP} {cz sz : Nat} {Φ : Option Value → mP → Prop} (h1 : L.all (fun q => mcat q.2 == 1) = true) (h2 : L'.all (fun q => mcat q.2 == 1) = true) (h : mFew L' L) (k : MEvP d scr q pc L st P cz sz Φ) : MEvP d scr q pc L' st P cz sz Φ := by
  have hm : mle L L' := ⟨fun q hq => beq_iff_eq.mp (List.all_eq_true.mp h1 q hq), fun q hq => beq_iff_eq.mp (List.all_eq_true.mp h2 q hq), fun i v hv => mFew_mem h (i, v) (mget_mem hv)⟩
  obtain ⟨r, P', h1, F, f, h2⟩ := k
  exact ⟨r, P', h1, F, f, mexec_le f pc L L' st P cz sz hm h2⟩
