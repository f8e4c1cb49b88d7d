/-! the same with a post: 'EvP', 'MEvP' -/
def EvP (d k : Nat) (As : List Value) (P : mP) (Φ : Option Value → mP → Prop) : Prop := ∃ r P', Φ r P' ∧ Ev d k As P r P'
def MEvP (d : Nat) (scr : Option (List Int32)) (q : mQ) (pc : Nat) (L : List (Nat × Value)) (st : List Value) (P : mP) (cz sz : Nat) (Φ : Option Value → mP → Prop) : Prop := ∃ r P', Φ r P' ∧ MEv d scr q pc L st P cz sz r P'
theorem EvP.mono {d d' k : Nat} {As : List Value} {P : mP} {Φ : Option Value → mP → Prop} (hd : d ≤ d') (h : EvP d k As P Φ) : EvP d' k As P Φ := by
  obtain ⟨r, P', h1, h2⟩ := h
  exact ⟨r, P', h1, h2.mono hd⟩
theorem EvP.post {d k : Nat} {As : List Value} {P : mP} {Φ Ψ : Option Value → mP → Prop} (h : EvP d k As P Φ) (hi : ∀ r P', Φ r P' → Ψ r P') : EvP d k As P Ψ := by
  obtain ⟨r, P', h1, h2⟩ := h
  exact ⟨r, P', hi r P' h1, h2⟩
theorem EvP.of {d k : Nat} {q : mQ} {As : List Value} {P : mP} {Φ : Option Value → mP → Prop} (hq : mtL[k]? = some q) (hA : As.length ≤ q.2.2.1) (hB : As.all (fun v => mcat v == 1) = true) (h : MEvP d none q 0 (mLargs 0 As) [] P 0 0 Φ) : EvP (d + 1) k As P Φ := by
  obtain ⟨r, P', h1, h2⟩ := h
  exact ⟨r, P', h1, Ev.of hq hA hB h2⟩
theorem mset_ne {P : mP} {a j : Nat} {c : Option (Nat × List Value)} {x : Nat × List Value} (h : P[j]? = c) (hn : a ≠ j) : (P.set a x)[j]? = c := by rw [List.getElem?_set_ne hn]; exact h
theorem mset_eq {P : mP} {a : Nat} {c x : Nat × List Value} (h : P[a]? = some c) : (P.set a x)[a]? = some x := List.getElem?_set_self (List.getElem?_eq_some_iff.mp h).1
section MP
variable {d : Nat} {scr : Option (List Int32)} {q : mQ} {pc : Nat} {L : List (Nat × Value)} {st rest : List Value} {P P1 : mP} {cz sz : Nat} {Φ : Option Value → mP → Prop}
theorem mp_A {z : Nat × List (Nat × Value) × List Value} (h : mA q.2.1 q.2.2.1 pc L st = some z) (kk : MEvP d scr q z.1 z.2.1 z.2.2 P cz sz Φ) : MEvP d scr q pc L st P cz sz Φ := by
  obtain ⟨r, P', h1, h2⟩ := kk
  exact ⟨r, P', h1, me_A h h2⟩
theorem mp_S {z : Nat × List Value} (hA : mA q.2.1 q.2.2.1 pc L st = none) (h : mS q.2.1 pc st = some z) (kk : MEvP d scr q z.1 L z.2 P cz sz Φ) : MEvP d scr q pc L st P cz sz Φ := by
  obtain ⟨r, P', h1, h2⟩ := kk
  exact ⟨r, P', h1, me_S hA h h2⟩
theorem mp_B {z : Nat × List Value × mP} (hA : mA q.2.1 q.2.2.1 pc L st = none) (hS : mS q.2.1 pc st = none) (h : mB q.2.1 q.2.2.2.2.2.1 (q.1.name == "<init>") pc st P = some z) (kk : MEvP d scr q z.1 L z.2.1 z.2.2 cz sz Φ) : MEvP d scr q pc L st P cz sz Φ := by
  obtain ⟨r, P', h1, h2⟩ := kk
  exact ⟨r, P', h1, me_B hA hS h h2⟩
theorem mp_K {z : Nat × List Value} (hA : mA q.2.1 q.2.2.1 pc L st = none) (hS : mS q.2.1 pc st = none) (hB : mB q.2.1 q.2.2.2.2.2.1 (q.1.name == "<init>") pc st P = none) (hC : ∀ call, mC call q.2.1 q.2.2.2.2.2.1 pc st P = none) (hN : mN q.2.1 q.2.2.2.2.2.1 pc st P = none) (h : mK scr q.2.1 pc st = some z) (kk : MEvP d scr q z.1 L z.2 P cz sz Φ) : MEvP d scr q pc L st P cz sz Φ := by
  obtain ⟨r, P', h1, h2⟩ := kk
  exact ⟨r, P', h1, me_K hA hS hB hC hN h h2⟩
theorem mp_R {r : Option Value} (hΦ : Φ r P) (hA : mA q.2.1 q.2.2.1 pc L st = none) (hS : mS q.2.1 pc st = none) (hB : mB q.2.1 q.2.2.2.2.2.1 (q.1.name == "<init>") pc st P = none) (hC : ∀ call, mC call q.2.1 q.2.2.2.2.2.1 pc st P = none) (hN : mN q.2.1 q.2.2.2.2.2.1 pc st P = none) (hK : mK scr q.2.1 pc st = none) (h : mret q.2.1 q.2.2.2.1 pc st = some r) : MEvP d scr q pc L st P cz sz Φ := ⟨r, P, hΦ, me_R hA hS hB hC hN hK h⟩
theorem mp_br {c : Prop} [Decidable c] {off : Int} {t : Nat} (hA : mA q.2.1 q.2.2.1 pc L st = none) (h : mS q.2.1 pc st = mjmp c pc off rest) (ht : (pc : Int) + off = (t : Int)) (kt : c → MEvP d scr q t L rest P cz sz Φ) (kf : ¬ c → MEvP d scr q (pc + 3) L rest P cz sz Φ) : MEvP d scr q pc L st P cz sz Φ := by
  by_cases hc : c
  · exact mp_S (z := (t, rest)) hA (h.trans (mjmp_t hc ht)) (kt hc)
  · exact mp_S (z := (pc + 3, rest)) hA (h.trans (mjmp_f hc ht)) (kf hc)
theorem mp_brt {c : Prop} [Decidable c] {off : Int} {t : Nat} (hc : c) (hA : mA q.2.1 q.2.2.1 pc L st = none) (h : mS q.2.1 pc st = mjmp c pc off rest) (ht : (pc : Int) + off = (t : Int)) (kt : MEvP d scr q t L rest P cz sz Φ) : MEvP d scr q pc L st P cz sz Φ := mp_S (z := (t, rest)) hA (h.trans (mjmp_t hc ht)) kt
theorem mp_brf {c : Prop} [Decidable c] {off : Int} {t : Nat} (hc : ¬ c) (hA : mA q.2.1 q.2.2.1 pc L st = none) (h : mS q.2.1 pc st = mjmp c pc off rest) (ht : (pc : Int) + off = (t : Int)) (kf : MEvP d scr q (pc + 3) L rest P cz sz Φ) : MEvP d scr q pc L st P cz sz Φ := mp_S (z := (pc + 3, rest)) hA (h.trans (mjmp_f hc ht)) kf
theorem mp_callv {i kd k a : Nat} {q' : mQ} {As vs : List Value} {Ψ : Option Value → mP → Prop} (hd : decode q.2.1 pc = .ok (.invokevirtual i, 3)) (hc : mcal q.2.2.2.2.2.1 i = some (kd, k)) (hq : mtL[k]? = some q') (hkd : kd < 2) (hn : As.length = q'.2.2.2.2.1) (hP : P[a]? = some (q'.2.2.2.2.2.1, vs)) (ho : q'.2.2.2.2.2.1 < 8) (hcat : (rest.map mcat).sum ≤ 8) (hst : st = As.reverse ++ .ref a :: rest) (hz : q'.2.2.2.2.2.2.1 = 0 ∧ q'.2.2.2.2.2.2.2 = 0) (hcz : cz ≤ q.2.2.2.2.2.2.1 ∧ sz ≤ q.2.2.2.2.2.2.2) (hev : EvP d k (.ref a :: As) P Ψ) (kk : ∀ (r1 : Option Value) (P1 : mP), Ψ r1 P1 → MEvP d scr q (pc + 3) L (r1.toList ++ rest) P1 cz sz Φ) : MEvP d scr q pc L st P cz sz Φ := by
  obtain ⟨r1, P1, g1, g2⟩ := hev
  obtain ⟨r, P', h1, h2⟩ := kk r1 P1 g1
  exact ⟨r, P', h1, me_callv hd hc hq hkd hn hP ho hcat hst hz hcz g2 h2⟩
theorem mp_calls {i kd k : Nat} {q' : mQ} {As : List Value} {Ψ : Option Value → mP → Prop} (hd : decode q.2.1 pc = .ok (.invokestatic i, 3)) (hc : mcal q.2.2.2.2.2.1 i = some (kd, k)) (hq : mtL[k]? = some q') (hkd : kd = 2 ∨ kd = 3) (hn : As.length = q'.2.2.2.2.1) (hcat : (rest.map mcat).sum ≤ 8) (hst : st = As.reverse ++ rest) (hz : q'.2.2.2.2.2.2.1 = 0 ∧ q'.2.2.2.2.2.2.2 = 0) (hcz : cz ≤ q.2.2.2.2.2.2.1 ∧ sz ≤ q.2.2.2.2.2.2.2) (hev : EvP d k As P Ψ) (kk : ∀ (r1 : Option Value) (P1 : mP), Ψ r1 P1 → MEvP d scr q (pc + 3) L (r1.toList ++ rest) P1 cz sz Φ) : MEvP d scr q pc L st P cz sz Φ := by
  obtain ⟨r1, P1, g1, g2⟩ := hev
  obtain ⟨r, P', h1, h2⟩ := kk r1 P1 g1
  exact ⟨r, P', h1, me_calls hd hc hq hkd hn hcat hst hz hcz g2 h2⟩
theorem mp_calli {i kd k a : Nat} {q' : mQ} {As : List Value} {Ψ : mP → Prop} (hd : decode q.2.1 pc = .ok (.invokespecial i, 3)) (hc : mcal q.2.2.2.2.2.1 i = some (kd, k)) (hq : mtL[k]? = some q') (hkd : kd = 4 ∨ kd = 5) (hn : As.length = q'.2.2.2.2.1) (hret : q'.2.2.2.1 = none) (hcat : (rest.map mcat).sum ≤ 8) (hst : st = As.reverse ++ .ref a :: rest) (hcz : cz + q'.2.2.2.2.2.2.1 ≤ q.2.2.2.2.2.2.1 ∧ sz + q'.2.2.2.2.2.2.2 ≤ q.2.2.2.2.2.2.2) (hev : EvP d k (.ref a :: As) P (fun r1 P1 => r1 = none ∧ Ψ P1)) (kk : ∀ (P1 : mP), Ψ P1 → MEvP d scr q (pc + 3) L rest P1 (cz + q'.2.2.2.2.2.2.1) (sz + q'.2.2.2.2.2.2.2) Φ) : MEvP d scr q pc L st P cz sz Φ := by
  obtain ⟨r1, P1, ⟨rfl, g1⟩, g2⟩ := hev
  obtain ⟨r, P', h1, h2⟩ := kk P1 g1
  exact ⟨r, P', h1, me_calli hd hc hq hkd hn hret hcat hst hcz g2 h2⟩
theorem mp_obj {i k a : Nat} (hd : decode q.2.1 pc = .ok (.invokespecial i, 3)) (hc : mcal q.2.2.2.2.2.1 i = some (6, k)) (hcat : (rest.map mcat).sum ≤ 8) (hst : st = .ref a :: rest) (hcz : cz ≤ q.2.2.2.2.2.2.1 ∧ sz ≤ q.2.2.2.2.2.2.2) (kk : MEvP d scr q (pc + 3) L rest P cz sz Φ) : MEvP d scr q pc L st P cz sz Φ := by
  obtain ⟨r, P', h1, h2⟩ := kk
  exact ⟨r, P', h1, me_obj hd hc hcat hst hcz h2⟩
theorem mp_new {z : Nat × List Value × mP × Nat × Nat} (hA : mA q.2.1 q.2.2.1 pc L st = none) (hS : mS q.2.1 pc st = none) (hB : mB q.2.1 q.2.2.2.2.2.1 (q.1.name == "<init>") pc st P = none) (hC : ∀ call, mC call q.2.1 q.2.2.2.2.2.1 pc st P = none) (h : mN q.2.1 q.2.2.2.2.2.1 pc st P = some z) (hcz : cz + z.2.2.2.1 ≤ q.2.2.2.2.2.2.1 ∧ sz + z.2.2.2.2 ≤ q.2.2.2.2.2.2.2) (kk : MEvP d scr q z.1 L z.2.1 z.2.2.1 (cz + z.2.2.2.1) (sz + z.2.2.2.2) Φ) : MEvP d scr q pc L st P cz sz Φ := by
  obtain ⟨r, P', h1, h2⟩ := kk
  exact ⟨r, P', h1, me_new hA hS hB hC h hcz h2⟩
theorem mp_get {i ci k a : Nat} {nest : Bool} {vs : List Value} {v : Value} (hd : decode q.2.1 pc = .ok (.getfield i, 3)) (hf : mfld q.2.2.2.2.2.1 i = some (ci, k, nest)) (ha : P[a]? = some (ci, vs)) (hv : vs[k]? = some v) (kk : MEvP d scr q (pc + 3) L (v :: rest) P cz sz Φ) : MEvP d scr q pc L (.ref a :: rest) P cz sz Φ := by
  obtain ⟨r, P', h1, h2⟩ := kk
  exact ⟨r, P', h1, me_get hd hf ha hv h2⟩
theorem mp_put {i ci k a : Nat} {nest : Bool} {vs : List Value} {v : Value} (hd : decode q.2.1 pc = .ok (.putfield i, 3)) (hf : mfld q.2.2.2.2.2.1 i = some (ci, k, nest)) (ha : P[a]? = some (ci, vs)) (hl : k < vs.length) (hfit : mfit (cY ci k) v = true) (hfin : (cT ci k).2.2.2 = false ∨ (nest = false ∧ (q.1.name == "<init>") = true ∧ ci = q.2.2.2.2.2.1)) (kk : MEvP d scr q (pc + 3) L rest (P.set a (ci, vs.set k v)) cz sz Φ) : MEvP d scr q pc L (v :: .ref a :: rest) P cz sz Φ := by
  obtain ⟨r, P', h1, h2⟩ := kk
  exact ⟨r, P', h1, me_put hd hf ha hl hfit hfin h2⟩
theorem mp_iald {a : Nat} {vs : List Value} {i : Int32} (hd : decode q.2.1 pc = .ok (.iaload, 1)) (ha : P[a]? = some (8, vs)) (hi : ¬ (i < 0 ∨ vs.length ≤ i.toNatClampNeg)) (kk : MEvP d scr q (pc + 1) L (.int (mint (vs.getD i.toNatClampNeg .null)) :: rest) P cz sz Φ) : MEvP d scr q pc L (.int i :: .ref a :: rest) P cz sz Φ := by
  obtain ⟨r, P', h1, h2⟩ := kk
  exact ⟨r, P', h1, me_iald hd ha hi h2⟩
theorem mp_iast {a : Nat} {vs : List Value} {i x : Int32} (hd : decode q.2.1 pc = .ok (.iastore, 1)) (ha : P[a]? = some (8, vs)) (hi : ¬ (i < 0 ∨ vs.length ≤ i.toNatClampNeg)) (kk : MEvP d scr q (pc + 1) L rest (P.set a (8, vs.set i.toNatClampNeg (.int x))) cz sz Φ) : MEvP d scr q pc L (.int x :: .int i :: .ref a :: rest) P cz sz Φ := by
  obtain ⟨r, P', h1, h2⟩ := kk
  exact ⟨r, P', h1, me_iast hd ha hi h2⟩
theorem mp_alen {a kd : Nat} {vs : List Value} (hd : decode q.2.1 pc = .ok (.arraylength, 1)) (ha : P[a]? = some (kd, vs)) (hk : kd = 8 ∨ kd = 9 ∨ kd = 10 ∨ kd = 11) (kk : MEvP d scr q (pc + 1) L (.int (Int32.ofNat vs.length) :: rest) P cz sz Φ) : MEvP d scr q pc L (.ref a :: rest) P cz sz Φ := by
  obtain ⟨r, P', h1, h2⟩ := kk
  exact ⟨r, P', h1, me_alen hd ha hk h2⟩
end MP
