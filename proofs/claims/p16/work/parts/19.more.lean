/-! rows with their values told -/
section MP
variable {d : Nat} {scr : Option (List Int32)} {q : mQ} {pc : Nat} {L : List (Nat × Value)} {st rest : List Value} {P P1 P' : mP} {cz sz : Nat} {r : Option Value} {Φ : Option Value → mP → Prop}
theorem mp_ial {a N : Nat} {vs : List Value} {i v : Int32} (hd : decode q.2.1 pc = .ok (.iaload, 1)) (ha : P[a]? = some (8, vs)) (hN : vs.length = N) (hi : ¬ (i < 0 ∨ N ≤ i.toNatClampNeg)) (hv : mint (vs.getD i.toNatClampNeg .null) = v) (kk : MEvP d scr q (pc + 1) L (.int v :: rest) P cz sz Φ) : MEvP d scr q pc L (.int i :: .ref a :: rest) P cz sz Φ := by
  subst hN
  subst hv
  exact mp_iald hd ha hi kk
theorem mp_ias {a N : Nat} {vs : List Value} {i x : Int32} (hd : decode q.2.1 pc = .ok (.iastore, 1)) (ha : P[a]? = some (8, vs)) (hN : vs.length = N) (hi : ¬ (i < 0 ∨ N ≤ i.toNatClampNeg)) (kk : MEvP d scr q (pc + 1) L rest (P.set a (8, vs.set i.toNatClampNeg (.int x))) cz sz Φ) : MEvP d scr q pc L (.int x :: .int i :: .ref a :: rest) P cz sz Φ := by
  subst hN
  exact mp_iast hd ha hi kk
theorem mp_aal {a kd N : Nat} {vs : List Value} {i : Int32} {v : Value} (hd : decode q.2.1 pc = .ok (.aaload, 1)) (ha : P[a]? = some (kd, vs)) (hkd : kd = 10 ∨ kd = 11) (hN : vs.length = N) (hi : ¬ (i < 0 ∨ N ≤ i.toNatClampNeg)) (hv : mnul (vs.getD i.toNatClampNeg .null) = v) (kk : MEvP d scr q (pc + 1) L (v :: rest) P cz sz Φ) : MEvP d scr q pc L (.int i :: .ref a :: rest) P cz sz Φ := by
  subst hN
  subst hv
  refine mp_B (z := (pc + 1, _, P)) (by simp only [mA, hd]) (by simp only [mS, hd]) ?_ kk
  simp only [mB, hd, ha]
  rw [if_pos ⟨hkd, hi⟩]
theorem mp_len {a kd : Nat} {vs : List Value} {n : Int32} (hd : decode q.2.1 pc = .ok (.arraylength, 1)) (ha : P[a]? = some (kd, vs)) (hk : kd = 8 ∨ kd = 9 ∨ kd = 10 ∨ kd = 11) (hn : Int32.ofNat vs.length = n) (kk : MEvP d scr q (pc + 1) L (.int n :: rest) P cz sz Φ) : MEvP d scr q pc L (.ref a :: rest) P cz sz Φ := by
  subst hn
  exact mp_alen hd ha hk kk
theorem mp_math {i k kd : Nat} {x y v : Int32} (hd : decode q.2.1 pc = .ok (.invokestatic i, 3)) (hc : mcal q.2.2.2.2.2.1 i = some (kd, k)) (hkd : kd = 7 ∨ kd = 8) (hcat : (rest.map mcat).sum ≤ 8) (hv : (if kd = 7 then (if x < y then y else x) else (if y < x then y else x)) = v) (hcz : cz ≤ q.2.2.2.2.2.2.1 ∧ sz ≤ q.2.2.2.2.2.2.2) (kk : MEvP d scr q (pc + 3) L (.int v :: rest) P cz sz Φ) : MEvP d scr q pc L (.int y :: .int x :: rest) P cz sz Φ := by
  subst hv
  obtain ⟨r, P', h1, F, f, hh⟩ := kk
  refine ⟨r, P', h1, F, f + 1, ?_⟩
  have hC : mC (mcall F d) q.2.1 q.2.2.2.2.2.1 pc (.int y :: .int x :: rest) P = some (pc + 3, .int (if kd = 7 then (if x < y then y else x) else (if y < x then y else x)) :: rest, P, 0, 0) := by
    have h2 : ¬ (kd = 2 ∨ kd = 3) := by omega
    simp only [mC, hd, hc]
    rw [if_neg h2, if_pos hkd, if_pos hcat]
  unfold mexec
  rw [show mA q.2.1 q.2.2.1 pc L (.int y :: .int x :: rest) = none by simp only [mA, hd], show mS q.2.1 pc (.int y :: .int x :: rest) = none by simp only [mS, hd], show mB q.2.1 q.2.2.2.2.2.1 (q.1.name == "<init>") pc (.int y :: .int x :: rest) P = none by simp only [mB, hd], hC]
  dsimp only
  rw [Nat.add_zero, Nat.add_zero, if_pos hcz]
  exact hh
end MP
theorem s_lok {cc : ByteArray} {nL pc : Nat} {L : List (Nat × Value)} {r : List Value} {dflt : Int} {ps : Array (Int × Int)} {len t : Nat} {x : Int32} {off : Int} (hd : decode cc pc = .ok (.lookupswitch dflt ps, len)) (hp : (ps.toList.zip (ps.toList.drop 1)).all (fun (a, next) => a.1 < next.1) = true) (ho : Op.lookupswitch.offset ps.toList dflt x.toInt = off) (ht : (pc : Int) + off = (t : Int)) : mA cc nL pc L (.int x :: r) = none ∧ mS cc pc (.int x :: r) = some (t, r) := ⟨by simp only [mA, hd], by
  subst ho
  simp only [mS, hd, mlok]
  rw [if_pos hp, if_pos (by omega)]
  congr 2
  omega⟩
theorem i_lt0 {x : Int32} (h : ¬ x < 0) : 0 ≤ x := Int32.not_lt.mp h
/-- the fresh pool -/
def P0 : mP := [] ++ (([] ++ rTheatre (0 + 0)) ++ rModel (0 + 301))
/-- the reference's part of a pool is fresh -/
def MOD (P : mP) : Prop := ∀ j : Nat, 301 ≤ j → P[j]? = P0[j]?
theorem MOD.set {P : mP} {a : Nat} {c : Nat × List Value} (h : MOD P) (ha : a < 301) : MOD (P.set a c) := fun j hj => by rw [List.getElem?_set_ne (by omega)]; exact h j hj
theorem MOD.f {P : mP} {j : Nat} {c : Option (Nat × List Value)} (h : MOD P) (hj : 301 ≤ j) (hc : P0[j]? = c) : P[j]? = c := (h j hj).trans hc
theorem MOD.r : MOD P0 := fun _ _ => rfl
theorem MOD.ne {P P' : mP} {a : Nat} (h : MOD P) (g : ∀ j : Nat, j ≠ a → P'[j]? = P[j]?) (ha : a < 301) : MOD P' := fun j hj => (g j (by omega)).trans (h j hj)
theorem MOD.ne2 {P P' : mP} {a b : Nat} (h : MOD P) (g : ∀ j : Nat, j ≠ a → j ≠ b → P'[j]? = P[j]?) (ha : a < 301) (hb : b < 301) : MOD P' := fun j hj => (g j (by omega) (by omega)).trans (h j hj)
