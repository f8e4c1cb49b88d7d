/-! every method's contract at once: what mcall computes, the JVM does; and the law's start -/
def mLargs : Nat → List Value → List (Nat × Value)
  | _, [] => []
  | i, v :: vs => (i, v) :: mLargs (i + 1) vs
theorem mLargs_ok (base b : Nat) : ∀ (vs : List Value) (i : Nat), (vs.all (fun v => mcat v == 1)) = true → lv_args i (vs.map (msh base b)) = mLs base b (mLargs i vs)
  | [], i, _ => rfl
  | v :: vs, i, h => by
    simp only [List.all_cons, Bool.and_eq_true, beq_iff_eq] at h
    have hv : ¬ (msh base b v).category = 2 := by rw [mcat1 h.1]; decide
    simp only [List.map_cons, lv_args, mLargs, mLs, if_neg hv]
    rw [mLargs_ok base b vs (i + 1) h.2]
    rfl
theorem lg_len (base b : Nat) : ∀ (vs : List Value), (vs.all (fun v => mcat v == 1)) = true → (lg_sl (vs.map (msh base b))).length = vs.length
  | [], _ => rfl
  | v :: vs, h => by
    simp only [List.all_cons, Bool.and_eq_true, beq_iff_eq] at h
    have hv : ¬ (msh base b v).category = 2 := by rw [mcat1 h.1]; decide
    have ih := lg_len base b vs h.2
    unfold lg_sl at ih ⊢
    simp only [List.map_cons, List.flatMap_cons, if_neg hv, List.length_append, List.length_cons, List.length_nil, ih]
    omega
def mcall (F : Nat) : Nat → Nat → List Value → mP → Option (Option Value × mP)
  | 0, _, _, _ => none
  | d + 1, k, As, P => match mtL[k]? with
    | some q => if As.length ≤ q.2.2.1 ∧ As.all (fun v => mcat v == 1) = true then mexec (mcall F d) none q.2.1 q.2.2.1 q.2.2.2.2.2.1 (q.1.name == "<init>") q.2.2.2.1 q.2.2.2.2.2.2.1 q.2.2.2.2.2.2.2 F 0 (mLargs 0 As) [] P 0 0 else none
    | none => none
/-- a method's contract by a walk of its body, for JDK classes' methods too -/
theorem mMet_ofWF {l : Launch} {y : MethodName} {ws ws' : List Cond} {rm : Room} {Pc : Array Value → State → Prop} {Qc : Array Value → State → Outcome → State → Prop} {mc ms : Nat} {free : Addr → Prop} {cc : ByteArray} {maxL : Nat} {ret : Option FieldType} (hy : plainFor y = true) (hw : ws = Cond.code y cc maxL ret :: ws') (hW : ∀ (p : Program) (e : Env) (s : State) (m : MethodId) (args : Array Value) (below : List Frame) (meth : Method) (c : Code) (s1 : State), BodyLoose p l y (headSpec ws rm) cc maxL ret e s m args below meth c s1 → c.maxLocals = maxL → Pc args s → W p l e (headSpec ws rm).room s m args below meth c s.heap [] 0 0 (MQ below Qc args s mc ms free) (entryFrame m args maxL)) : Met l y ws rm Pc Qc mc ms free := by
  refine MetFree.of_bodySF (code := cc) (maxLocals := maxL) (ret := ret) hy (fun args s m h hn => ?_) (fun p e s m args below meth c s1 B hml hP _ => ?_)
  · have hc : Cond.code y cc maxL ret ∈ ws := hw ▸ List.mem_cons_self
    obtain ⟨meth, c, h1, h2, h3, h4, h5, h6, -, -⟩ := Cond.code_spec hn (atoms_spec (ws := ws) h _ hc)
    exact ⟨meth, c, h1, h2, h3, h4, h5, h6⟩
  · have hh : s1.heap = s.heap := by rw [B.state]; rfl
    obtain ⟨t, h1, o, h2, h3, h4⟩ := hW p e s m args below meth c s1 B hml hP s1 hh (Stand.of_body B)
    exact ⟨t, o, h1, h2, h3, h4⟩
set_option maxHeartbeats 4000000 in
theorem mcall_ok (F : Nat) : ∀ (d k : Nat) (As : List Value) (P : mP) (r : Option Value) (P' : mP), mcall F d k As P = some (r, P') → mMet d k As P r P' := by
  intro d
  induction d with
  | zero => intro k As P r P' h; cases h
  | succ d ih =>
    intro k As P r P' h q hq l ca dC dI base b
    unfold mcall at h
    rw [hq] at h
    dsimp only at h
    split at h
    · rename_i hA
      obtain ⟨hA1, hA2⟩ := hA
      obtain ⟨y, cc, nL, ret, n, o, mc, ms⟩ := q
      obtain ⟨hpl, hcode, hinit, hcls, hml20, hn, hy1, hy2⟩ := mtL_mem hq
      dsimp only at h hA1 ⊢
      refine mMet_ofWF (cc := cc) (maxL := nL) (ret := ret) hpl rfl ?_
      intro p e s m args below meth c s₁ B hml hv
      obtain ⟨rfl, hU, hH⟩ := hv
      have hts : ∀ w ∈ lw_good, w.before (As.map (msh base b)).toArray s = true := fun w h => atoms_spec (ws := mws (y, cc, nL, ret, n, o, mc, ms)) B.pre w (List.mem_cons_of_mem _ h)
      have hown : s.vm.findClass (cN o) = some m.cls := hcls ▸ findClass_of_methodNamed B.named
      have hlocks := B.notSynchronized
      have hr := B.returns
      have X : mX p s m (As.map (msh base b)).toArray meth c cc nL o (y.name == "<init>") ca dC dI base := ⟨B.exec, B.bytes, hml, hown, hts, hU, by rw [hH.2]; omega, fun hb => (name_of_methodNamed B.named B.method).1.trans (by simpa using hb)⟩
      rw [lg_entry_eq]
      have hl := lv_entry (As.map (msh base b)) (n := nL) (by rw [lg_len base b As hA2]; exact hA1)
      rw [mLargs_ok base b As 0 hA2] at hl
      refine mexec_ok (R := mrm (d + 1) (y, cc, nL, ret, n, o, mc, ms)) (Q := MQ below (mQc ca dC dI base b r P') (As.map (msh base b)).toArray s mc ms (fun x => base ≤ x)) X (d := d) (scr := none) (ret := ret) (mcM := mc) (msM := ms) (fun xs h => by cases h) ih (Nat.le_refl _) ?_ (Nat.le_refl _) (Nat.le_refl _) ?_ F 0 (mLargs 0 As) [] P 0 0 (Nat.zero_le _) (Nat.zero_le _) h _ s.heap [] hl hH va_S.rf
      · show 39 + 40 * d ≤ 40 * (d + 1)
        omega
      · intro pc L st cz sz h1 h2 hret ls H locs hl hH' hS
        refine W.widen h1 h2 ?_
        unfold mret at hret
        split at hret
        · rename_i heq
          split at hret
          · split at hret
            · rename_i hrt
              cases hret
              exact W.vret B.exec B.bytes (hr.trans hrt) (fun t ht hW => ⟨⟨rfl, by rw [ht]; exact hH'⟩, hS.F ht⟩) hS.2.2 heq
            · cases hret
          · cases hret
        · rename_i heq
          split at hret
          · rename_i x
            split at hret
            · rename_i hrt
              cases hret
              rcases hrt with hrt | ⟨hrt, hx⟩
              · exact W.zret (ty := .int) B.exec B.bytes (hr.trans hrt) rfl (fun t ht hW => ⟨⟨rfl, by rw [ht]; exact hH'⟩, hS.F ht⟩) hS.2.2 heq
              · exact W.zret (ty := .boolean) B.exec B.bytes (hr.trans hrt) (by rcases hx with rfl | rfl <;> rfl) (fun t ht hW => ⟨⟨rfl, by rw [ht]; exact hH'⟩, hS.F ht⟩) hS.2.2 heq
            · cases hret
          · cases hret
        · rename_i heq
          split at hret
          · rename_i a
            split at hret
            · rename_i C
              cases hret
              exact W.aret B.exec B.bytes hr (Or.inl ⟨C, rfl⟩) (Or.inr ⟨_, rfl⟩) (fun t ht hW => ⟨⟨rfl, by rw [ht]; exact hH'⟩, hS.F ht⟩) hS.2.2 heq
            · cases hret
          · split at hret
            · rename_i C
              cases hret
              exact W.aret B.exec B.bytes hr (Or.inl ⟨C, rfl⟩) (Or.inl rfl) (fun t ht hW => ⟨⟨rfl, by rw [ht]; exact hH'⟩, hS.F ht⟩) hS.2.2 heq
            · cases hret
          · cases hret
        · cases hret
    · cases h
theorem mstart {args : Array Value} {s : State} (hts : ∀ w ∈ lw_tbl, w.before args s = true) : ∃ (ca dC : Nat → ClassId) (dI : Nat → Nat → Nat), mU ca dC dI s := by
  have hg : ∀ w ∈ lw_good, w.before args s = true := fun w h => hts w (List.mem_filter.mp h).1
  have hk : ∀ ci : Nat, ∃ (cC : ClassId) (iS : Nat → Nat), ci < 8 → u_Kn s (cN ci) (cT ci) (cS ci) cC iS := fun ci => by
    by_cases h : ci < 8
    · obtain ⟨-, hlay, -, -, hinst, -, -⟩ := cl_ok ci h
      obtain ⟨cC, iS, hK⟩ := u_known hg hlay (hg _ hinst)
      exact ⟨cC, iS, fun _ => hK⟩
    · exact ⟨0, fun _ => 0, fun q => absurd q h⟩
  have ho2 : va_AO RX2 s := va_AO.of (hts (.arrayOver (.object RX2)) (by decide +kernel))
  have ho5 : va_AO RX5 s := va_AO.of (hts (.arrayOver (.object RX5)) (by decide +kernel))
  obtain ⟨cI, kI, compI, i1, i2, i3⟩ := Cond.arrayClass_spec (hg _ marr_word.1)
  obtain ⟨cZ, kZ, compZ, z1, z2, z3⟩ := Cond.arrayClass_spec (hg _ marr_word.2)
  obtain ⟨compP, cP, kP, p1, p2, p3, p4, p5⟩ := Cond.arrayOver_spec ho2
  obtain ⟨compS, cS', kS, s1, s2, s3, s4, s5⟩ := Cond.arrayOver_spec ho5
  refine ⟨fun k => if k = 8 then cI else if k = 9 then cZ else if k = 10 then cP else cS', fun k => Classical.choose (hk k), fun k => Classical.choose (Classical.choose_spec (hk k)), ⟨⟨fun c q hq => ?_, fun k q hq => ?_⟩, fun w hw => ?_, ho2, ho5⟩⟩
  · have hc : c < 8 := (List.getElem?_eq_some_iff.mp hq).1
    obtain ⟨h1, -⟩ := cl_ok c hc
    have h2 := Option.some.inj (hq.symm.trans h1)
    subst h2
    exact Classical.choose_spec (Classical.choose_spec (hk c)) hc
  · have hk4 : k < 4 := (List.getElem?_eq_some_iff.mp hq).1
    match k, hk4, hq with
    | 0, _, hq => cases hq; exact ⟨fun N z => ⟨(fun k h => by cases h), kI, i2, compI, i3⟩, i1⟩
    | 1, _, hq => cases hq; exact ⟨fun N z => ⟨(fun k h => by cases h), kZ, z2, compZ, z3⟩, z1⟩
    | 2, _, hq => cases hq; exact ⟨fun N z => ⟨(fun k h => by cases h), kP, p3, compP, p4⟩, kP, compP, p3, p4, p1, p5⟩
    | 3, _, hq => cases hq; exact ⟨fun N z => ⟨(fun k h => by cases h), kS, s3, compS, s4⟩, kS, compS, s3, s4, s1, s5⟩
  · have h1 := hts w (List.mem_filter.mp hw).1
    have h2 := (List.mem_filter.mp hw).2
    unfold mNest at h2
    split at h2
    · exact va_Nw.of rfl h1
    · exact va_Nw.of rfl h1
    · cases h2
