/-! rows of M for branches, calls, fields of an unknown pool -/
section ME
variable {d : Nat} {scr : Option (List Int32)} {q : mQ} {pc : Nat} {L : List (Nat × Value)} {st rest : List Value} {P P1 P' : mP} {cz sz : Nat} {r r1 : Option Value}
theorem mjmp_t {c : Prop} [Decidable c] {pc t : Nat} {off : Int} {r : List Value} (h : c) (ht : (pc : Int) + off = (t : Int)) : mjmp c pc off r = some (t, r) := by
  unfold mjmp
  rw [if_pos (by omega), if_pos h]
  congr 2
  omega
theorem mjmp_f {c : Prop} [Decidable c] {pc t : Nat} {off : Int} {r : List Value} (h : ¬ c) (ht : (pc : Int) + off = (t : Int)) : mjmp c pc off r = some (pc + 3, r) := by
  unfold mjmp
  rw [if_pos (by omega), if_neg h]
/-- a branch whose condition is not known: both ways -/
theorem me_br {c : Prop} [Decidable c] {off : Int} {t : Nat} (hA : mA q.2.1 q.2.2.1 pc L st = none) (h : mS q.2.1 pc st = mjmp c pc off rest) (ht : (pc : Int) + off = (t : Int)) (kt : c → MEv d scr q t L rest P cz sz r P') (kf : ¬ c → MEv d scr q (pc + 3) L rest P cz sz r P') : MEv d scr q pc L st P cz sz r P' := by
  by_cases hc : c
  · exact me_S (z := (t, rest)) hA (h.trans (mjmp_t hc ht)) (kt hc)
  · exact me_S (z := (pc + 3, rest)) hA (h.trans (mjmp_f hc ht)) (kf hc)
/-- a call on an object -/
theorem me_callv {i kd k a : Nat} {q' : mQ} {As vs : List Value} (hd : decode q.2.1 pc = .ok (.invokevirtual i, 3)) (hc : mcal q.2.2.2.2.2.1 i = some (kd, k)) (hq : mtL[k]? = some q') (hkd : kd < 2) (hn : As.length = q'.2.2.2.2.1) (hP : P[a]? = some (q'.2.2.2.2.2.1, vs)) (ho : q'.2.2.2.2.2.1 < 8) (hcat : (rest.map mcat).sum ≤ 8) (hst : st = As.reverse ++ .ref a :: rest) (hz : q'.2.2.2.2.2.2.1 = 0 ∧ q'.2.2.2.2.2.2.2 = 0) (hcz : cz ≤ q.2.2.2.2.2.2.1 ∧ sz ≤ q.2.2.2.2.2.2.2) (hev : Ev d k (.ref a :: As) P r1 P1) (kk : MEv d scr q (pc + 3) L (r1.toList ++ rest) P1 cz sz r P') : MEv d scr q pc L st P cz sz r P' := by
  refine me_C (z := (pc + 3, r1.toList ++ rest, P1, q'.2.2.2.2.2.2.1, q'.2.2.2.2.2.2.2)) (by unfold mA; rw [hd]) (by unfold mS; rw [hd]) (by unfold mB; rw [hd]) hev (fun call hcall => ?_) (by dsimp only; rw [hz.1, hz.2]; exact hcz) (by dsimp only; rw [hz.1, hz.2]; exact kk)
  have e1 : st.drop q'.2.2.2.2.1 = .ref a :: rest := by rw [hst, ← hn]; simp
  have e2 : (st.take q'.2.2.2.2.1).reverse = As := by rw [hst, ← hn]; simp
  simp only [mC, hd, hc, hq, e1, hP]
  rw [if_pos ⟨hkd, hcat, trivial, ho⟩, e2, hcall]
  rfl
/-- a static call -/
theorem me_calls {i kd k : Nat} {q' : mQ} {As : List Value} (hd : decode q.2.1 pc = .ok (.invokestatic i, 3)) (hc : mcal q.2.2.2.2.2.1 i = some (kd, k)) (hq : mtL[k]? = some q') (hkd : kd = 2 ∨ kd = 3) (hn : As.length = q'.2.2.2.2.1) (hcat : (rest.map mcat).sum ≤ 8) (hst : st = As.reverse ++ rest) (hz : q'.2.2.2.2.2.2.1 = 0 ∧ q'.2.2.2.2.2.2.2 = 0) (hcz : cz ≤ q.2.2.2.2.2.2.1 ∧ sz ≤ q.2.2.2.2.2.2.2) (hev : Ev d k As P r1 P1) (kk : MEv d scr q (pc + 3) L (r1.toList ++ rest) P1 cz sz r P') : MEv d scr q pc L st P cz sz r P' := by
  refine me_C (z := (pc + 3, r1.toList ++ rest, P1, q'.2.2.2.2.2.2.1, q'.2.2.2.2.2.2.2)) (by unfold mA; rw [hd]) (by unfold mS; rw [hd]) (by unfold mB; rw [hd]) hev (fun call hcall => ?_) (by dsimp only; rw [hz.1, hz.2]; exact hcz) (by dsimp only; rw [hz.1, hz.2]; exact kk)
  have e1 : st.drop q'.2.2.2.2.1 = rest := by rw [hst, ← hn]; simp
  have e2 : (st.take q'.2.2.2.2.1).reverse = As := by rw [hst, ← hn]; simp
  have e3 : q'.2.2.2.2.1 ≤ st.length := by rw [hst, ← hn]; simp
  simp only [mC, hd, hc, hq, e1]
  rw [if_pos hkd, if_pos ⟨e3, hcat⟩, e2, hcall]
  rfl
/-- a constructor -/
theorem me_calli {i kd k a : Nat} {q' : mQ} {As : List Value} (hd : decode q.2.1 pc = .ok (.invokespecial i, 3)) (hc : mcal q.2.2.2.2.2.1 i = some (kd, k)) (hq : mtL[k]? = some q') (hkd : kd = 4 ∨ kd = 5) (hn : As.length = q'.2.2.2.2.1) (hret : q'.2.2.2.1 = none) (hcat : (rest.map mcat).sum ≤ 8) (hst : st = As.reverse ++ .ref a :: rest) (hcz : cz + q'.2.2.2.2.2.2.1 ≤ q.2.2.2.2.2.2.1 ∧ sz + q'.2.2.2.2.2.2.2 ≤ q.2.2.2.2.2.2.2) (hev : Ev d k (.ref a :: As) P none P1) (kk : MEv d scr q (pc + 3) L rest P1 (cz + q'.2.2.2.2.2.2.1) (sz + q'.2.2.2.2.2.2.2) r P') : MEv d scr q pc L st P cz sz r P' := by
  refine me_C (z := (pc + 3, rest, P1, q'.2.2.2.2.2.2.1, q'.2.2.2.2.2.2.2)) (by unfold mA; rw [hd]) (by unfold mS; rw [hd]) (by unfold mB; rw [hd]) hev (fun call hcall => ?_) hcz kk
  have e1 : st.drop q'.2.2.2.2.1 = .ref a :: rest := by rw [hst, ← hn]; simp
  have e2 : (st.take q'.2.2.2.2.1).reverse = As := by rw [hst, ← hn]; simp
  have h6 : ¬ kd = 6 := by omega
  simp only [mC, hd, hc, hq, e1]
  rw [if_neg h6, if_pos hkd, if_pos ⟨hret, hcat⟩, e2, hcall]
  rfl
/-- Object's constructor -/
theorem me_obj {i k a : Nat} (hd : decode q.2.1 pc = .ok (.invokespecial i, 3)) (hc : mcal q.2.2.2.2.2.1 i = some (6, k)) (hcat : (rest.map mcat).sum ≤ 8) (hst : st = .ref a :: rest) (hcz : cz ≤ q.2.2.2.2.2.2.1 ∧ sz ≤ q.2.2.2.2.2.2.2) (kk : MEv d scr q (pc + 3) L rest P cz sz r P') : MEv d scr q pc L st P cz sz r P' := by
  obtain ⟨F, f, hh⟩ := kk
  refine ⟨F, f + 1, ?_⟩
  have hC : mC (mcall F d) q.2.1 q.2.2.2.2.2.1 pc st P = some (pc + 3, rest, P, 0, 0) := by
    simp only [mC, hd, hc, hst]
    rw [if_pos trivial, if_pos hcat]
  unfold mexec
  rw [show mA q.2.1 q.2.2.1 pc L st = none by unfold mA; rw [hd], show mS q.2.1 pc st = none by unfold mS; rw [hd], show mB q.2.1 q.2.2.2.2.2.1 (q.1.name == "<init>") pc st P = none by unfold mB; rw [hd], hC]
  try dsimp only
  rw [Nat.add_zero, Nat.add_zero, if_pos hcz]
  exact hh
/-- a new cell -/
theorem me_new {z : Nat × List Value × mP × Nat × Nat} (hA : mA q.2.1 q.2.2.1 pc L st = none) (hS : mS q.2.1 pc st = none) (hB : mB q.2.1 q.2.2.2.2.2.1 (q.1.name == "<init>") pc st P = none) (hC : ∀ call, mC call q.2.1 q.2.2.2.2.2.1 pc st P = none) (h : mN q.2.1 q.2.2.2.2.2.1 pc st P = some z) (hcz : cz + z.2.2.2.1 ≤ q.2.2.2.2.2.2.1 ∧ sz + z.2.2.2.2 ≤ q.2.2.2.2.2.2.2) (kk : MEv d scr q z.1 L z.2.1 z.2.2.1 (cz + z.2.2.2.1) (sz + z.2.2.2.2) r P') : MEv d scr q pc L st P cz sz r P' := by
  obtain ⟨F, f, hh⟩ := kk
  refine ⟨F, f + 1, ?_⟩
  unfold mexec
  rw [hA, hS, hB, hC, h]
  try dsimp only
  rw [if_pos hcz]
  exact hh
/-- a field's value, its object known -/
theorem me_get {i ci k a : Nat} {nest : Bool} {vs : List Value} {v : Value} (hd : decode q.2.1 pc = .ok (.getfield i, 3)) (hf : mfld q.2.2.2.2.2.1 i = some (ci, k, nest)) (ha : P[a]? = some (ci, vs)) (hv : vs[k]? = some v) (kk : MEv d scr q (pc + 3) L (v :: rest) P cz sz r P') : MEv d scr q pc L (.ref a :: rest) P cz sz r P' := by
  refine me_B (z := (pc + 3, v :: rest, P)) (by unfold mA; rw [hd]) (by unfold mS; rw [hd]) ?_ kk
  simp only [mB, hd, hf, ha, hv, if_true, Option.map_some]
theorem me_put {i ci k a : Nat} {nest : Bool} {vs : List Value} {v : Value} (hd : decode q.2.1 pc = .ok (.putfield i, 3)) (hf : mfld q.2.2.2.2.2.1 i = some (ci, k, nest)) (ha : P[a]? = some (ci, vs)) (hl : k < vs.length) (hfit : mfit (cY ci k) v = true) (hfin : (cT ci k).2.2.2 = false ∨ (nest = false ∧ (q.1.name == "<init>") = true ∧ ci = q.2.2.2.2.2.1)) (kk : MEv d scr q (pc + 3) L rest (P.set a (ci, vs.set k v)) cz sz r P') : MEv d scr q pc L (v :: .ref a :: rest) P cz sz r P' := by
  refine me_B (z := (pc + 3, rest, P.set a (ci, vs.set k v))) (by unfold mA; rw [hd]) (by unfold mS; rw [hd]) ?_ kk
  simp only [mB, hd, hf, ha]
  exact if_pos ⟨trivial, hl, hfit, hfin⟩
theorem me_iald {a : Nat} {vs : List Value} {i : Int32} (hd : decode q.2.1 pc = .ok (.iaload, 1)) (ha : P[a]? = some (8, vs)) (hi : ¬ (i < 0 ∨ vs.length ≤ i.toNatClampNeg)) (kk : MEv d scr q (pc + 1) L (.int (mint (vs.getD i.toNatClampNeg .null)) :: rest) P cz sz r P') : MEv d scr q pc L (.int i :: .ref a :: rest) P cz sz r P' := by
  refine me_B (z := (pc + 1, _, P)) (by unfold mA; rw [hd]) (by unfold mS; rw [hd]) ?_ kk
  simp only [mB, hd, ha]
  exact if_pos ⟨trivial, hi⟩
theorem me_iast {a : Nat} {vs : List Value} {i x : Int32} (hd : decode q.2.1 pc = .ok (.iastore, 1)) (ha : P[a]? = some (8, vs)) (hi : ¬ (i < 0 ∨ vs.length ≤ i.toNatClampNeg)) (kk : MEv d scr q (pc + 1) L rest (P.set a (8, vs.set i.toNatClampNeg (.int x))) cz sz r P') : MEv d scr q pc L (.int x :: .int i :: .ref a :: rest) P cz sz r P' := by
  refine me_B (z := (pc + 1, _, _)) (by unfold mA; rw [hd]) (by unfold mS; rw [hd]) ?_ kk
  simp only [mB, hd, ha]
  exact if_pos ⟨trivial, hi⟩
theorem me_alen {a kd : Nat} {vs : List Value} (hd : decode q.2.1 pc = .ok (.arraylength, 1)) (ha : P[a]? = some (kd, vs)) (hk : kd = 8 ∨ kd = 9 ∨ kd = 10 ∨ kd = 11) (kk : MEv d scr q (pc + 1) L (.int (Int32.ofNat vs.length) :: rest) P cz sz r P') : MEv d scr q pc L (.ref a :: rest) P cz sz r P' := by
  refine me_B (z := (pc + 1, _, P)) (by unfold mA; rw [hd]) (by unfold mS; rw [hd]) ?_ kk
  simp only [mB, hd, ha]
  exact if_pos hk
end ME
