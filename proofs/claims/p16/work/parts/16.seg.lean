/-! rows of M over a pool that ends in a known stretch: X ++ l, X of length x -/
theorem mseg {X l : mP} {x j : Nat} {c : Option (Nat × List Value)} (hx : X.length = x) (h : l[j]? = c) : (X ++ l)[x + j]? = c := by
  rw [List.getElem?_append_right (by omega), ← h, hx, Nat.add_sub_cancel_left]
theorem mseg_set {X l : mP} {x j : Nat} {c : Nat × List Value} (hx : X.length = x) : (X ++ l).set (x + j) c = X ++ l.set j c := by
  rw [List.set_append_right _ _ (by omega), hx, Nat.add_sub_cancel_left]
section MS
variable {d : Nat} {scr : Option (List Int32)} {q : mQ} {pc : Nat} {L : List (Nat × Value)} {st rest : List Value} {X l l' : mP} {x cz sz : Nat} {r : Option Value} {P' : mP}
theorem ms_get {i ci k j : Nat} {nest : Bool} {vs : List Value} {v : Value} (hx : X.length = x) (hd : decode q.2.1 pc = .ok (.getfield i, 3)) (hf : mfld q.2.2.2.2.2.1 i = some (ci, k, nest)) (hj : l[j]? = some (ci, vs)) (hv : vs[k]? = some v) (kk : MEv d scr q (pc + 3) L (v :: rest) (X ++ l) cz sz r P') : MEv d scr q pc L (.ref (x + j) :: rest) (X ++ l) cz sz r P' := me_get hd hf (mseg hx hj) hv kk
theorem ms_put {i ci k j : Nat} {nest : Bool} {vs : List Value} {v : Value} (hx : X.length = x) (hd : decode q.2.1 pc = .ok (.putfield i, 3)) (hf : mfld q.2.2.2.2.2.1 i = some (ci, k, nest)) (hj : l[j]? = some (ci, vs)) (hl : k < vs.length) (hfit : mfit (cY ci k) v = true) (hfin : (cT ci k).2.2.2 = false ∨ (nest = false ∧ (q.1.name == "<init>") = true ∧ ci = q.2.2.2.2.2.1)) (hl' : l.set j (ci, vs.set k v) = l') (kk : MEv d scr q (pc + 3) L rest (X ++ l') cz sz r P') : MEv d scr q pc L (v :: .ref (x + j) :: rest) (X ++ l) cz sz r P' := me_put hd hf (mseg hx hj) hl hfit hfin (by rw [mseg_set hx, hl']; exact kk)
theorem ms_alen {kd j : Nat} {vs : List Value} {n : Int32} (hx : X.length = x) (hd : decode q.2.1 pc = .ok (.arraylength, 1)) (hj : l[j]? = some (kd, vs)) (hk : kd = 8 ∨ kd = 9 ∨ kd = 10 ∨ kd = 11) (hn : Int32.ofNat vs.length = n) (kk : MEv d scr q (pc + 1) L (.int n :: rest) (X ++ l) cz sz r P') : MEv d scr q pc L (.ref (x + j) :: rest) (X ++ l) cz sz r P' := me_alen hd (mseg hx hj) hk (by rw [hn]; exact kk)
theorem ms_new {i ci k : Nat} (hx : X.length = x) (hd : decode q.2.1 pc = .ok (.new i, 3)) (hc : mcls q.2.2.2.2.2.1 i = some ci) (hk : l.length = k) (hz : cz + 1 ≤ q.2.2.2.2.2.2.1 ∧ sz + cS ci ≤ q.2.2.2.2.2.2.2) (kk : MEv d scr q (pc + 3) L (.ref (x + k) :: st) (X ++ (l ++ [(ci, mdef ci)])) (cz + 1) (sz + cS ci) r P') : MEv d scr q pc L st (X ++ l) cz sz r P' := by
  have e1 : (X ++ l).length = x + k := by rw [List.length_append, hx, hk]
  refine me_new (z := (pc + 3, .ref (x + k) :: st, X ++ (l ++ [(ci, mdef ci)]), 1, cS ci)) (by unfold mA; rw [hd]) (by unfold mS; rw [hd]) (by unfold mB; rw [hd]) (fun call => by unfold mC; rw [hd]) ?_ hz kk
  simp only [mN, hd, hc, Option.map_some, e1, List.append_assoc]
theorem ms_newi {k N : Nat} {n : Int32} (hx : X.length = x) (hd : decode q.2.1 pc = .ok (.newarray .int, 2)) (hn : ¬ n < 0) (hN : n.toNatClampNeg = N) (hN2 : N ≤ 100000) (hk : l.length = k) (hz : cz + 1 ≤ q.2.2.2.2.2.2.1 ∧ sz + N ≤ q.2.2.2.2.2.2.2) (kk : MEv d scr q (pc + 2) L (.ref (x + k) :: rest) (X ++ (l ++ [(8, List.replicate N (.int 0))])) (cz + 1) (sz + N) r P') : MEv d scr q pc L (.int n :: rest) (X ++ l) cz sz r P' := by
  have e1 : (X ++ l).length = x + k := by rw [List.length_append, hx, hk]
  refine me_new (z := (pc + 2, .ref (x + k) :: rest, X ++ (l ++ [(8, List.replicate N (.int 0))]), 1, N)) (by unfold mA; rw [hd]) (by unfold mS; rw [hd]) (by unfold mB; rw [hd]) (fun call => by unfold mC; rw [hd]) ?_ hz kk
  simp only [mN, hd, hN, e1, List.append_assoc]
  rw [if_pos ⟨hn, hN2⟩]
theorem ms_newz {k N : Nat} {n : Int32} (hx : X.length = x) (hd : decode q.2.1 pc = .ok (.newarray .boolean, 2)) (hn : ¬ n < 0) (hN : n.toNatClampNeg = N) (hN2 : N ≤ 100000) (hk : l.length = k) (hz : cz + 1 ≤ q.2.2.2.2.2.2.1 ∧ sz + N ≤ q.2.2.2.2.2.2.2) (kk : MEv d scr q (pc + 2) L (.ref (x + k) :: rest) (X ++ (l ++ [(9, List.replicate N (.int 0))])) (cz + 1) (sz + N) r P') : MEv d scr q pc L (.int n :: rest) (X ++ l) cz sz r P' := by
  have e1 : (X ++ l).length = x + k := by rw [List.length_append, hx, hk]
  refine me_new (z := (pc + 2, .ref (x + k) :: rest, X ++ (l ++ [(9, List.replicate N (.int 0))]), 1, N)) (by unfold mA; rw [hd]) (by unfold mS; rw [hd]) (by unfold mB; rw [hd]) (fun call => by unfold mC; rw [hd]) ?_ hz kk
  simp only [mN, hd, hN, e1, List.append_assoc]
  rw [if_pos ⟨hn, hN2⟩]
theorem ms_anew {i k N kd ci : Nat} {n : Int32} (hx : X.length = x) (hd : decode q.2.1 pc = .ok (.anewarray i, 3)) (hc : mcls q.2.2.2.2.2.1 i = some ci) (hkd : (kd = 10 ∧ ci = 2) ∨ (kd = 11 ∧ ci = 5)) (hn : ¬ n < 0) (hN : n.toNatClampNeg = N) (hN2 : N ≤ 100000) (hk : l.length = k) (hz : cz + 1 ≤ q.2.2.2.2.2.2.1 ∧ sz + N ≤ q.2.2.2.2.2.2.2) (kk : MEv d scr q (pc + 3) L (.ref (x + k) :: rest) (X ++ (l ++ [(kd, List.replicate N .null)])) (cz + 1) (sz + N) r P') : MEv d scr q pc L (.int n :: rest) (X ++ l) cz sz r P' := by
  have e1 : (X ++ l).length = x + k := by rw [List.length_append, hx, hk]
  refine me_new (z := (pc + 3, .ref (x + k) :: rest, X ++ (l ++ [(kd, List.replicate N .null)]), 1, N)) (by unfold mA; rw [hd]) (by unfold mS; rw [hd]) (by unfold mB; rw [hd]) (fun call => by unfold mC; rw [hd]) ?_ hz kk
  rcases hkd with ⟨rfl, rfl⟩ | ⟨rfl, rfl⟩
  · simp only [mN, hd, hN, e1, List.append_assoc, hc]
    rw [if_pos ⟨hn, hN2⟩]
    rfl
  · simp only [mN, hd, hN, e1, List.append_assoc, hc]
    rw [if_pos ⟨hn, hN2⟩]
    rfl
theorem ms_aast {k j kd ci : Nat} {vs us : List Value} {i : Int32} (hx : X.length = x) (hd : decode q.2.1 pc = .ok (.aastore, 1)) (hj : l[j]? = some (kd, vs)) (hk : l[k]? = some (ci, us)) (hkd : (kd = 10 ∧ ci = 2) ∨ (kd = 11 ∧ ci = 5)) {N : Nat} (hN : vs.length = N) (hi : ¬ (i < 0 ∨ N ≤ i.toNatClampNeg)) (hl' : l.set j (kd, vs.set i.toNatClampNeg (.ref (x + k))) = l') (kk : MEv d scr q (pc + 1) L rest (X ++ l') cz sz r P') : MEv d scr q pc L (.ref (x + k) :: .int i :: .ref (x + j) :: rest) (X ++ l) cz sz r P' := by
  subst hN
  refine me_B (z := (pc + 1, rest, X ++ l')) (by unfold mA; rw [hd]) (by unfold mS; rw [hd]) ?_ kk
  simp only [mB, hd, mseg hx hj, mseg hx hk]
  rw [if_pos ⟨hkd, hi⟩, mseg_set hx, hl']
theorem ms_iast {j N : Nat} {vs : List Value} {i y : Int32} (hx : X.length = x) (hd : decode q.2.1 pc = .ok (.iastore, 1)) (hj : l[j]? = some (8, vs)) (hN : vs.length = N) (hi : ¬ (i < 0 ∨ N ≤ i.toNatClampNeg)) (hl' : l.set j (8, vs.set i.toNatClampNeg (.int y)) = l') (kk : MEv d scr q (pc + 1) L rest (X ++ l') cz sz r P') : MEv d scr q pc L (.int y :: .int i :: .ref (x + j) :: rest) (X ++ l) cz sz r P' := by
  subst hN
  exact me_iast hd (mseg hx hj) hi (by rw [mseg_set hx, hl']; exact kk)
theorem ms_init {i kd k j : Nat} {q' : mQ} (hd : decode q.2.1 pc = .ok (.invokespecial i, 3)) (hc : mcal q.2.2.2.2.2.1 i = some (kd, k)) (hq : mtL[k]? = some q') (hkd : kd = 4 ∨ kd = 5) (hn : 0 = q'.2.2.2.2.1) (hret : q'.2.2.2.1 = none) (hcat : (rest.map mcat).sum ≤ 8) (hcz : cz + q'.2.2.2.2.2.2.1 ≤ q.2.2.2.2.2.2.1 ∧ sz + q'.2.2.2.2.2.2.2 ≤ q.2.2.2.2.2.2.2) (hev : Ev d k [.ref j] (X ++ l) none (X ++ l')) (kk : MEv d scr q (pc + 3) L rest (X ++ l') (cz + q'.2.2.2.2.2.2.1) (sz + q'.2.2.2.2.2.2.2) r P') : MEv d scr q pc L (.ref j :: rest) (X ++ l) cz sz r P' := me_calli (As := []) hd hc hq hkd hn hret hcat rfl hcz hev kk
theorem ms_ret (hd : decode q.2.1 pc = .ok (.return_, 1)) (hr : q.2.2.2.1 = none) (he : X ++ l = P') : MEv d none q pc L [] (X ++ l) cz sz none P' := by
  subst he
  refine me_R (by unfold mA; rw [hd]) (by unfold mS; rw [hd]) (by unfold mB; rw [hd]) (fun call => by unfold mC; rw [hd]) (by unfold mN; rw [hd]) rfl ?_
  simp only [mret, hd, hr]
  rfl
end MS
