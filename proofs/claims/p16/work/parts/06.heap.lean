/-! M: fields, arrays, new cells -/
def mfit : FieldType → Value → Bool
  | .int, .int _ => true
  | .boolean, .int x => x == 0 || x == 1
  | .object _, .ref _ => true
  | .object _, .null => true
  | .array _, .ref _ => true
  | .array _, .null => true
  | _, _ => false
theorem mfit_ok {ty : FieldType} {v : Value} (h : mfit ty v = true) (base b : Nat) : narrow ty (msh base b v) = msh base b v ∧ fits ty (msh base b v) = true := by
  unfold mfit at h
  split at h
  · exact ⟨rfl, rfl⟩
  · rename_i x
    simp only [Bool.or_eq_true, beq_iff_eq] at h
    rcases h with rfl | rfl <;> exact ⟨rfl, rfl⟩
  · exact ⟨rfl, rfl⟩
  · exact ⟨rfl, rfl⟩
  · exact ⟨rfl, rfl⟩
  · exact ⟨rfl, rfl⟩
  · cases h
theorem mE_obj {ca : Nat → ClassId} {base b ci : Nat} {vs : List Value} (h : ci < 8) : mE ca base b (ci, vs) = .inr (ci, vs.map (msh base b)) := by simp [mE, h]
theorem mE_int {ca : Nat → ClassId} {base b : Nat} {vs : List Value} : mE ca base b (8, vs) = .inl (ca 8, vs.length, .inl (fun j => mint (vs.getD j .null))) := by simp [mE]
theorem mE_bool {ca : Nat → ClassId} {base b : Nat} {vs : List Value} : mE ca base b (9, vs) = .inl (ca 9, vs.length, .inl (fun j => mint (vs.getD j .null))) := by simp [mE]
theorem mE_refP {ca : Nat → ClassId} {base b : Nat} {vs : List Value} : mE ca base b (10, vs) = .inl (ca 10, vs.length, .inr (.inr (.inr (.inr (fun j => mref base (vs.getD j .null)))))) := by simp [mE]
theorem mE_refS {ca : Nat → ClassId} {base b : Nat} {vs : List Value} : mE ca base b (11, vs) = .inl (ca 11, vs.length, .inr (.inr (.inr (.inr (fun j => mref base (vs.getD j .null)))))) := by simp [mE]
theorem mW_at {ca : Nat → ClassId} {base b a : Nat} {P : mP} {q : Nat × List Value} (h : P[a]? = some q) : (mW ca base b 0 P)[a]? = some (base + a, mE ca base b q) := by rw [mW_get, h, Nat.zero_add]; rfl
theorem mH_set {ca dC : Nat → ClassId} {dI : Nat → Nat → Nat} {base b a : Nat} {P : mP} {H H1 H0 : Heap} {locs : List Loc} {q0 q : Nat × List Value} (hH : mH ca dC dI base b P H) (ha : P[a]? = some q0) (hS : va_S (fun x => base ≤ x) H0 H locs) (he : va_at (dC, dI) vwCl (base + a, mE ca base b q) H1) (z : H1.size = H.size) (oq : ∀ x : Nat, x ≠ base + a → H1[x]? = H[x]?) (k : Nat) : mH ca dC dI base b (P.set a q) H1 ∧ va_S (fun x => base ≤ x) H0 H1 (locs ++ [⟨base + a, k⟩]) := by
  refine ⟨⟨?_, by rw [z, hH.2, List.length_set]⟩, hS.put z oq (Nat.le_add_right base a)⟩
  have h1 := hH.1.set (mW_D ca base b P) (mW_at ha) he oq
  have h2 := mW_set ca base b P 0 a q
  rw [Nat.zero_add] at h2
  rw [h2] at h1
  exact h1
theorem mH_app {ca dC : Nat → ClassId} {dI : Nat → Nat → Nat} {base b : Nat} {P : mP} {H H1 H0 : Heap} {locs : List Loc} {q : Nat × List Value} (hH : mH ca dC dI base b P H) (hS : va_S (fun x => base ≤ x) H0 H locs) (he : va_at (dC, dI) vwCl (base + P.length, mE ca base b q) H1) (z : H1.size = H.size + 1) (o1 : ∀ x : Nat, x < H.size → H1[x]? = H[x]?) : mH ca dC dI base b (P ++ [q]) H1 ∧ va_S (fun x => base ≤ x) H0 H1 locs := by
  refine ⟨⟨?_, by rw [z, hH.2, List.length_append]; rfl⟩, Nat.le_trans hS.1 (by omega), fun x h1 h2 => (o1 x (Nat.lt_of_lt_of_le h1 hS.1)).trans (hS.2.1 x h1 h2), hS.2.2⟩
  rw [mW_app, Nat.zero_add]
  refine (hH.1.kept (fun k x hx => o1 x.1 (hH.1 k x hx).lt)).app (fun k x hx => ?_)
  have hz : k < 1 := (List.getElem?_eq_some_iff.mp hx).1
  rw [show k = 0 by omega] at hx
  cases hx
  exact he
section MR
variable {p : Program} {l : Launch} {e : Env} {R : Room} {s : State} {m : MethodId} {args : Array Value} {below : List Frame} {meth : Method} {c : Code} {Q : State → Prop}
variable {cc : ByteArray} {nL o base b : Nat} {ini : Bool} {ca dC : Nat → ClassId} {dI : Nat → Nat → Nat} {pc : Nat} {L : List (Nat × Value)} {r : List Value} {P : mP} {cz sz : Nat}
theorem mr_get (X : mX p s m args meth c cc nL o ini ca dC dI base) {i ci k a : Nat} {nest : Bool} {vs : List Value} {v : Value} (hf : mfld o i = some (ci, k, nest)) (ha : P[a]? = some (ci, vs)) (hv : vs[k]? = some v) (hdg : decode cc pc = .ok (.getfield i, 3)) (kk : MW p l e R s m args below meth c nL ca dC dI base b Q (pc + 3) L (v :: r) P cz sz) : MW p l e R s m args below meth c nL ca dC dI base b Q pc L (.ref a :: r) P cz sz := by
  obtain ⟨hx, hb, -, hown, hts, ⟨hK, hN, -, -⟩, -, -⟩ := X
  obtain ⟨hci, hk, hn1, hn0⟩ := mfld_ok hf
  obtain ⟨hc, hlay, -, -, -, -, -⟩ := cl_ok ci hci
  intro ls H locs hl hH hS
  have kk := kk ls H locs hl hH hS
  have he : (mW ca base b 0 P)[a]? = some (base + a, .inr (ci, vs.map (msh base b))) := by rw [mW_at ha, mE_obj hci]
  have hv' : (vs.map (msh base b))[k]? = some (msh base b v) := by rw [List.getElem?_map, hv]; rfl
  cases nest with
  | true =>
    obtain ⟨host, hw⟩ := hn1 rfl
    exact va_getN hx hb hts hlay hown hK hH.1 a he hc k hk (va_Nw.use rfl (hN _ hw)) (fun _ h => h) hv' hdg kk
  | false => exact va_get hx hb hts hlay hown hK hH.1 a he hc k hk (hts _ (hn0 rfl)) (fun _ h => h) hv' hdg kk
theorem mr_put (X : mX p s m args meth c cc nL o ini ca dC dI base) {i ci k a : Nat} {nest : Bool} {vs : List Value} {v : Value} (hf : mfld o i = some (ci, k, nest)) (ha : P[a]? = some (ci, vs)) (hl0 : k < vs.length) (hfit : mfit (cY ci k) v = true) (hfin : (cT ci k).2.2.2 = false ∨ (nest = false ∧ ini = true ∧ ci = o)) (hdg : decode cc pc = .ok (.putfield i, 3)) (kk : MW p l e R s m args below meth c nL ca dC dI base b Q (pc + 3) L r (P.set a (ci, vs.set k v)) cz sz) : MW p l e R s m args below meth c nL ca dC dI base b Q pc L (v :: .ref a :: r) P cz sz := by
  obtain ⟨hx, hb, -, hown, hts, ⟨hK, hN, -, -⟩, -, hini⟩ := X
  obtain ⟨hci, hk, hn1, hn0⟩ := mfld_ok hf
  obtain ⟨hc, hlay, hty, hnm, -, -, hdecl⟩ := cl_ok ci hci
  intro ls H locs hl hH hS
  have he : (mW ca base b 0 P)[a]? = some (base + a, .inr (ci, vs.map (msh base b))) := by rw [mW_at ha, mE_obj hci]
  obtain ⟨hn, hfi⟩ := mfit_ok hfit base b
  have hd := hty k hk
  have hap := va_apart (own := cN o) hts hlay (cY ci) hty hnm hK hc
  obtain ⟨rr, h1, cell, q1, q2, q3, q4⟩ := hH.1 a _ he
  have hr : rr = (cN ci, cT ci, cS ci) := Option.some.inj (h1.symm.trans hc)
  subst hr
  obtain ⟨hSl, hfc, kC, hkC, hkind⟩ := hK.1 ci _ hc
  obtain ⟨cf, kf, fi, f, hi, hsl⟩ := hSl k hk
  have hlayk := hts _ (hlay _ (u_in_lay hk))
  have hst := (u_facts hfc hkC (u_lays hts hlay hk) hi).1
  have hslot := k2_hasslot (q4 k hk)
  have fin : ∀ H' : Heap, H'[base + a]? = some (cell.setSlot f.slot (msh base b v)) → H'.size = H.size → (∀ q : Nat, q ≠ base + a → H'[q]? = H[q]?) → W p l e R s m args below meth c H' (locs ++ [⟨base + a, f.slot⟩]) cz sz Q (F0 m (pc + 3) ls (r.map (msh base b))) := by
    intro H' e1 e2 e3
    have hat : va_at (dC, dI) vwCl (base + a, mE ca base b (ci, vs.set k v)) H' := by
      rw [mE_obj hci, List.map_set]
      rw [hsl] at e1
      exact ⟨_, hc, t_OB.to (V := updV (vp_V (vs.map (msh base b))) k (msh base b v)) ⟨_, e1, q2, q3, t_set q4 hap hk _⟩ (fun j _ => vp_updV_set (by rw [List.length_map]; exact hl0) _ j)⟩
    obtain ⟨hH', hS'⟩ := mH_set hH ha hS hat e2 e3 f.slot
    exact kk ls H' _ hl hH' hS'
  by_cases hfl : (cT ci k).2.2.2 = true
  · obtain ⟨rfl, hi2, rfl⟩ : nest = false ∧ ini = true ∧ ci = o := hfin.resolve_left (by rw [hfl]; decide)
    unfold u_lay at hlayk
    rw [if_pos hfl] at hlayk
    have hcf : m.cls = cf := by
      obtain ⟨_, _, c', _, _, _, -, -, hf', -, -, -, hown2, -⟩ := Cond.laysFinal_spec hlayk
      have e1 : c' = cf := by
        have := hi.symm.trans hf'
        simp at this
        exact this.1.symm
      rw [hdecl k hk] at hown2
      rw [← e1]
      exact Option.some.inj (hown.symm.trans hown2)
    have h6 := u_fits hfc hkC hkind (Or.inr hlayk) hi hd hn hfi
    exact W.putFinK hx hb hown (hts _ (hn0 rfl)) hi hst hcf (hini hi2) (by rw [q2]; exact h6) q1 q3 (by rw [hsl]; exact k2_hasslot (q4 k hk)) rfl rfl hdg fin
  · have hfl0 : (cT ci k).2.2.2 = false := by simpa using hfl
    unfold u_lay at hlayk
    rw [if_neg hfl] at hlayk
    have h6 := u_store hfc hkC hkind hlayk hi hd hn hfi
    cases nest with
    | true =>
      obtain ⟨host, hw⟩ := hn1 rfl
      exact va_WputK hx hb (f := f) hown (va_Nw.use rfl (hN _ hw)) hi hst (by rw [q2]; exact h6) q1 q3 (by rw [hsl]; exact k2_hasslot (q4 k hk)) rfl rfl hdg fin
    | false => exact W.putK hx hb (f := f) ⟨hown, hts _ (hn0 rfl), ⟨_, _, _, hi⟩, hst⟩ (by rw [q2]; exact h6) q1 q3 (by rw [hsl]; exact k2_hasslot (q4 k hk)) rfl rfl hdg fin
theorem mr_iald (X : mX p s m args meth c cc nL o ini ca dC dI base) {a : Nat} {vs : List Value} {i : Int32} (ha : P[a]? = some (8, vs)) (hin : vp_in i vs.length) (hdg : decode cc pc = .ok (.iaload, 1)) (kk : MW p l e R s m args below meth c nL ca dC dI base b Q (pc + 1) L (.int (mint (vs.getD i.toNatClampNeg .null)) :: r) P cz sz) : MW p l e R s m args below meth c nL ca dC dI base b Q pc L (.int i :: .ref a :: r) P cz sz := by
  obtain ⟨hx, hb, -, hown, hts, ⟨hK, -, -, -⟩, -, -⟩ := X
  intro ls H locs hl hH hS
  exact va_iald (f := fun j => mint (vs.getD j .null)) hx hb hK hH.1 a 0 (by rw [mW_at ha, mE_int]) rfl hin hdg (kk ls H locs hl hH hS)
theorem mr_zald (X : mX p s m args meth c cc nL o ini ca dC dI base) {a : Nat} {vs : List Value} {i : Int32} (ha : P[a]? = some (9, vs)) (hin : vp_in i vs.length) (hdg : decode cc pc = .ok (.baload, 1)) (kk : MW p l e R s m args below meth c nL ca dC dI base b Q (pc + 1) L (.int (mint (vs.getD i.toNatClampNeg .null)) :: r) P cz sz) : MW p l e R s m args below meth c nL ca dC dI base b Q pc L (.int i :: .ref a :: r) P cz sz := by
  obtain ⟨hx, hb, -, hown, hts, ⟨hK, -, -, -⟩, -, -⟩ := X
  intro ls H locs hl hH hS
  exact va_zald (f := fun j => mint (vs.getD j .null)) hx hb hK hH.1 a 1 (by rw [mW_at ha, mE_bool]) rfl hin hdg (kk ls H locs hl hH hS)
def mnul : Value → Value
  | .ref k => .ref k
  | _ => .null
theorem mnul_sh (base b : Nat) (v : Value) : va_rf (mref base v) = msh base b (mnul v) := by cases v <;> rfl
theorem mr_aald (X : mX p s m args meth c cc nL o ini ca dC dI base) {a kd : Nat} {vs : List Value} {i : Int32} (hkd : kd = 10 ∨ kd = 11) (ha : P[a]? = some (kd, vs)) (hin : vp_in i vs.length) (hdg : decode cc pc = .ok (.aaload, 1)) (kk : MW p l e R s m args below meth c nL ca dC dI base b Q (pc + 1) L (mnul (vs.getD i.toNatClampNeg .null) :: r) P cz sz) : MW p l e R s m args below meth c nL ca dC dI base b Q pc L (.int i :: .ref a :: r) P cz sz := by
  obtain ⟨hx, hb, -, hown, hts, ⟨hK, -, -, -⟩, -, -⟩ := X
  intro ls H locs hl hH hS
  have kk := kk ls H locs hl hH hS
  rw [List.map_cons, ← mnul_sh] at kk
  rcases hkd with rfl | rfl
  · exact va_aldq (f := fun j => mref base (vs.getD j .null)) hx hb hK hH.1 a 2 (by rw [mW_at ha, mE_refP]) rfl hin hdg kk
  · exact va_aldq (f := fun j => mref base (vs.getD j .null)) hx hb hK hH.1 a 3 (by rw [mW_at ha, mE_refS]) rfl hin hdg kk
theorem mr_alen (X : mX p s m args meth c cc nL o ini ca dC dI base) {a kd : Nat} {vs : List Value} (hkd : kd = 8 ∨ kd = 9 ∨ kd = 10 ∨ kd = 11) (ha : P[a]? = some (kd, vs)) (hdg : decode cc pc = .ok (.arraylength, 1)) (kk : MW p l e R s m args below meth c nL ca dC dI base b Q (pc + 1) L (.int (Int32.ofNat vs.length) :: r) P cz sz) : MW p l e R s m args below meth c nL ca dC dI base b Q pc L (.ref a :: r) P cz sz := by
  obtain ⟨hx, hb, -, hown, hts, ⟨hK, -, -, -⟩, -, -⟩ := X
  intro ls H locs hl hH hS
  have kk := kk ls H locs hl hH hS
  rcases hkd with rfl | rfl | rfl | rfl
  · exact va_alen (x := (vs.length, (.inl (fun j => mint (vs.getD j .null))))) hx hb hK hH.1 a 0 (by rw [mW_at ha, mE_int]) rfl rfl hdg kk
  · exact va_alen (x := (vs.length, (.inl (fun j => mint (vs.getD j .null))))) hx hb hK hH.1 a 1 (by rw [mW_at ha, mE_bool]) rfl rfl hdg kk
  · exact va_alen (x := (vs.length, (.inr (.inr (.inr (.inr (fun j => mref base (vs.getD j .null)))))))) hx hb hK hH.1 a 2 (by rw [mW_at ha, mE_refP]) rfl rfl hdg kk
  · exact va_alen (x := (vs.length, (.inr (.inr (.inr (.inr (fun j => mref base (vs.getD j .null)))))))) hx hb hK hH.1 a 3 (by rw [mW_at ha, mE_refS]) rfl rfl hdg kk
theorem mset_int {vs : List Value} {n : Nat} {x : Int32} (hlt : n < vs.length) : updV (fun j => Value.int (mint (vs.getD j .null))) n (.int x) = fun j => Value.int (mint ((vs.set n (.int x)).getD j .null)) := by
  funext q
  by_cases hq : q = n
  · subst hq
    simp [updV, List.getD, hlt, mint]
  · simp [updV, hq, List.getD, List.getElem?_set_ne (Ne.symm hq)]
theorem mset_ref {base : Nat} {vs : List Value} {n k : Nat} (hlt : n < vs.length) : updV (fun j => va_rf (mref base (vs.getD j .null))) n (.ref (base + k)) = fun j => va_rf (mref base ((vs.set n (.ref k)).getD j .null)) := by
  funext q
  by_cases hq : q = n
  · subst hq
    simp [updV, List.getD, hlt, mref, va_rf]
  · simp [updV, hq, List.getD, List.getElem?_set_ne (Ne.symm hq)]
theorem mr_iast (X : mX p s m args meth c cc nL o ini ca dC dI base) {a : Nat} {vs : List Value} {i x : Int32} (ha : P[a]? = some (8, vs)) (hin : vp_in i vs.length) (hdg : decode cc pc = .ok (.iastore, 1)) (kk : MW p l e R s m args below meth c nL ca dC dI base b Q (pc + 1) L r (P.set a (8, vs.set i.toNatClampNeg (.int x))) cz sz) : MW p l e R s m args below meth c nL ca dC dI base b Q pc L (.int x :: .int i :: .ref a :: r) P cz sz := by
  obtain ⟨hx, hb, -, hown, hts, ⟨hK, -, -, -⟩, -, -⟩ := X
  intro ls H locs hl hH hS
  have hlt : i.toNatClampNeg < vs.length := Nat.not_le.mp fun q => hin (Or.inr q)
  have he := hH.1 a _ ((mW_at ha).trans (by rw [mE_int]))
  refine W.iast hx hb he ((hK.2 0 _ rfl).1 vs.length (fun j => .int (mint (vs.getD j .null)))) (fun q => by cases q) (by show ¬ (i < 0 ∨ (arrV _ _ _).slots.size ≤ _); rw [arrV_size]; exact hin) rfl rfl hdg fun H1 e1 z oq => ?_
  have hat : va_at (dC, dI) vwCl (base + a, mE ca base b (8, vs.set i.toNatClampNeg (.int x))) H1 := by
    rw [mE_int]
    show H1[base + a]? = some (vp_cell _ _)
    rw [e1, vp_cell_i, vp_cell_i, arrV_store, List.length_set]
    exact congrArg (fun f => some (arrV (ca 8) vs.length f)) (mset_int hlt)
  obtain ⟨hH', hS'⟩ := mH_set hH ha hS hat z oq i.toNatClampNeg
  exact kk ls H1 _ hl hH' hS'
theorem mr_zast (X : mX p s m args meth c cc nL o ini ca dC dI base) {a : Nat} {vs : List Value} {i x : Int32} (hx01 : x = 0 ∨ x = 1) (ha : P[a]? = some (9, vs)) (hin : vp_in i vs.length) (hdg : decode cc pc = .ok (.bastore, 1)) (kk : MW p l e R s m args below meth c nL ca dC dI base b Q (pc + 1) L r (P.set a (9, vs.set i.toNatClampNeg (.int x))) cz sz) : MW p l e R s m args below meth c nL ca dC dI base b Q pc L (.int x :: .int i :: .ref a :: r) P cz sz := by
  obtain ⟨hx, hb, -, hown, hts, ⟨hK, -, -, -⟩, -, -⟩ := X
  intro ls H locs hl hH hS
  have hlt : i.toNatClampNeg < vs.length := Nat.not_le.mp fun q => hin (Or.inr q)
  have he := hH.1 a _ ((mW_at ha).trans (by rw [mE_bool]))
  have hnar : narrow .boolean (.int x) = .int x := by rcases hx01 with rfl | rfl <;> decide
  refine W.zast hx hb he ((hK.2 1 _ rfl).1 vs.length (fun j => .int (mint (vs.getD j .null)))) (fun q => by cases q) (by show ¬ (i < 0 ∨ (arrV _ _ _).slots.size ≤ _); rw [arrV_size]; exact hin) rfl rfl hdg fun H1 e1 z oq => ?_
  have hat : va_at (dC, dI) vwCl (base + a, mE ca base b (9, vs.set i.toNatClampNeg (.int x))) H1 := by
    rw [mE_bool]
    show H1[base + a]? = some (vp_cell _ _)
    rw [e1, vp_cell_i, vp_cell_i, arrV_store, List.length_set]
    first
      | (rw [hnar]; exact congrArg (fun f => some (arrV (ca 9) vs.length f)) (mset_int hlt))
      | exact congrArg (fun f => some (arrV (ca 9) vs.length f)) (mset_int hlt)
  obtain ⟨hH', hS'⟩ := mH_set hH ha hS hat z oq i.toNatClampNeg
  exact kk ls H1 _ hl hH' hS'
theorem mr_aast (X : mX p s m args meth c cc nL o ini ca dC dI base) {a kd ci k : Nat} {vs us : List Value} {i : Int32} (hkd : (kd = 10 ∧ ci = 2) ∨ (kd = 11 ∧ ci = 5)) (ha : P[a]? = some (kd, vs)) (hk : P[k]? = some (ci, us)) (hin : vp_in i vs.length) (hdg : decode cc pc = .ok (.aastore, 1)) (kk : MW p l e R s m args below meth c nL ca dC dI base b Q (pc + 1) L r (P.set a (kd, vs.set i.toNatClampNeg (.ref k))) cz sz) : MW p l e R s m args below meth c nL ca dC dI base b Q pc L (.ref k :: .int i :: .ref a :: r) P cz sz := by
  obtain ⟨hx, hb, -, hown, hts, ⟨hK, -, -, -⟩, -, -⟩ := X
  intro ls H locs hl hH hS
  have hlt : i.toNatClampNeg < vs.length := Nat.not_le.mp fun q => hin (Or.inr q)
  have h0 : ¬ i < 0 := fun q => hin (Or.inl q)
  have key : ∀ (t0 : Nat) (rr : vw_C), ci < 8 → vwCl[ci]? = some rr → (mT ca)[t0]? = some (ca kd, .object rr.1) → mE ca base b (kd, vs) = .inl (ca kd, vs.length, .inr (.inr (.inr (.inr (fun j => mref base (vs.getD j .null)))))) → mE ca base b (kd, vs.set i.toNatClampNeg (.ref k)) = .inl (ca kd, (vs.set i.toNatClampNeg (.ref k)).length, .inr (.inr (.inr (.inr (fun j => mref base ((vs.set i.toNatClampNeg (.ref k)).getD j .null)))))) → W p l e R s m args below meth c H locs cz sz Q (F0 m pc ls ((Value.ref k :: .int i :: .ref a :: r).map (msh base b))) := by
    intro t0 rr hci hc ht hE hE2
    have he := hH.1 a _ ((mW_at ha).trans (by rw [hE]))
    obtain ⟨r', hr', cellV, g1, g2, g3, -⟩ := hH.1 k _ ((mW_at hk).trans (by rw [mE_obj hci]))
    have hcls := (hK.1 ci rr hc).2
    obtain ⟨kA, comp, k1, k2, k3, -⟩ := (hK.2 t0 _ ht).2
    have hcomp : comp = dC ci := Option.some.inj (k3.symm.trans hcls.1)
    subst hcomp
    obtain ⟨kC, hkC, -⟩ := hcls.2
    refine W.aast hx hb he (fun q h => by cases h) (fun h => by cases h) k1 k2 rfl hkC ⟨h0, by show _ < (arrV _ _ _).slots.size; rw [arrV_size]; exact hlt⟩ g1 (fun q h => by rw [g3] at h; cases h) (by rw [g2]; exact hkC) (by rw [g2]; exact va_assign hcls) rfl rfl hdg fun H1 e1 z oq => ?_
    have hat : va_at (dC, dI) vwCl (base + a, mE ca base b (kd, vs.set i.toNatClampNeg (.ref k))) H1 := by
      rw [hE2]
      show H1[base + a]? = some (vp_cell _ _)
      rw [e1, vp_cell_q, vp_cell_q, arrV_store, List.length_set]
      exact congrArg (fun f => some (arrV (ca kd) vs.length f)) (mset_ref hlt)
    obtain ⟨hH', hS'⟩ := mH_set hH ha hS hat z oq i.toNatClampNeg
    exact kk ls H1 _ hl hH' hS'
  rcases hkd with ⟨rfl, rfl⟩ | ⟨rfl, rfl⟩
  · exact key 2 (RX2, TX2, 5) (by decide) rfl rfl mE_refP mE_refP
  · exact key 3 (RX5, TX5, 4) (by decide) rfl rfl mE_refS mE_refS
end MR
