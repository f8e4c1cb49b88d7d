/-! M's run, and that the JVM does what it computes -/
def mB (cc : ByteArray) (o : Nat) (ini : Bool) (pc : Nat) (st : List Value) (P : mP) : Option (Nat × List Value × mP) :=
  match decode cc pc with
  | .ok (.getfield i, 3) => match st with
    | .ref a :: r => match mfld o i with
      | some (ci, k, _) => match P[a]? with
        | some (c, vs) => if c = ci then (vs[k]?).map (fun v => (pc + 3, v :: r, P)) else none
        | none => none
      | none => none
    | _ => none
  | .ok (.putfield i, 3) => match st with
    | v :: .ref a :: r => match mfld o i with
      | some (ci, k, nest) => match P[a]? with
        | some (c, vs) => if c = ci ∧ k < vs.length ∧ mfit (cY ci k) v = true ∧ ((cT ci k).2.2.2 = false ∨ (nest = false ∧ ini = true ∧ ci = o)) then some (pc + 3, r, P.set a (c, vs.set k v)) else none
        | none => none
      | none => none
    | _ => none
  | .ok (.iaload, 1) => match st with
    | .int i :: .ref a :: r => match P[a]? with
      | some (kd, vs) => if kd = 8 ∧ ¬ (i < 0 ∨ vs.length ≤ i.toNatClampNeg) then some (pc + 1, .int (mint (vs.getD i.toNatClampNeg .null)) :: r, P) else none
      | none => none
    | _ => none
  | .ok (.baload, 1) => match st with
    | .int i :: .ref a :: r => match P[a]? with
      | some (kd, vs) => if kd = 9 ∧ ¬ (i < 0 ∨ vs.length ≤ i.toNatClampNeg) then some (pc + 1, .int (mint (vs.getD i.toNatClampNeg .null)) :: r, P) else none
      | none => none
    | _ => none
  | .ok (.aaload, 1) => match st with
    | .int i :: .ref a :: r => match P[a]? with
      | some (kd, vs) => if (kd = 10 ∨ kd = 11) ∧ ¬ (i < 0 ∨ vs.length ≤ i.toNatClampNeg) then some (pc + 1, mnul (vs.getD i.toNatClampNeg .null) :: r, P) else none
      | none => none
    | _ => none
  | .ok (.arraylength, 1) => match st with
    | .ref a :: r => match P[a]? with
      | some (kd, vs) => if kd = 8 ∨ kd = 9 ∨ kd = 10 ∨ kd = 11 then some (pc + 1, .int (Int32.ofNat vs.length) :: r, P) else none
      | none => none
    | _ => none
  | .ok (.iastore, 1) => match st with
    | .int x :: .int i :: .ref a :: r => match P[a]? with
      | some (kd, vs) => if kd = 8 ∧ ¬ (i < 0 ∨ vs.length ≤ i.toNatClampNeg) then some (pc + 1, r, P.set a (8, vs.set i.toNatClampNeg (.int x))) else none
      | none => none
    | _ => none
  | .ok (.bastore, 1) => match st with
    | .int x :: .int i :: .ref a :: r => match P[a]? with
      | some (kd, vs) => if (kd = 9 ∧ ¬ (i < 0 ∨ vs.length ≤ i.toNatClampNeg)) ∧ (x = 0 ∨ x = 1) then some (pc + 1, r, P.set a (9, vs.set i.toNatClampNeg (.int x))) else none
      | none => none
    | _ => none
  | .ok (.aastore, 1) => match st with
    | .ref k :: .int i :: .ref a :: r => match P[a]? with
      | some (kd, vs) => match P[k]? with
        | some (ci, _) => if ((kd = 10 ∧ ci = 2) ∨ (kd = 11 ∧ ci = 5)) ∧ ¬ (i < 0 ∨ vs.length ≤ i.toNatClampNeg) then some (pc + 1, r, P.set a (kd, vs.set i.toNatClampNeg (.ref k))) else none
        | none => none
      | none => none
    | _ => none
  | .ok (.ldc i, 2) => (mldcI o i).map (fun v => (pc + 2, .int v :: st, P))
  | .ok (.ldc_w i, 3) => (mldcF o i).map (fun v => (pc + 3, .float v :: st, P))
  | _ => none
def mN (cc : ByteArray) (o : Nat) (pc : Nat) (st : List Value) (P : mP) : Option (Nat × List Value × mP × Nat × Nat) :=
  match decode cc pc with
  | .ok (.new i, 3) => (mcls o i).map (fun ci => (pc + 3, .ref P.length :: st, P ++ [(ci, mdef ci)], 1, cS ci))
  | .ok (.newarray .int, 2) => match st with
    | .int n :: r => if ¬ n < 0 ∧ n.toNatClampNeg ≤ 100000 then some (pc + 2, .ref P.length :: r, P ++ [(8, List.replicate n.toNatClampNeg (.int 0))], 1, n.toNatClampNeg) else none
    | _ => none
  | .ok (.newarray .boolean, 2) => match st with
    | .int n :: r => if ¬ n < 0 ∧ n.toNatClampNeg ≤ 100000 then some (pc + 2, .ref P.length :: r, P ++ [(9, List.replicate n.toNatClampNeg (.int 0))], 1, n.toNatClampNeg) else none
    | _ => none
  | .ok (.anewarray i, 3) => match st with
    | .int n :: r => if ¬ n < 0 ∧ n.toNatClampNeg ≤ 100000 then (if mcls o i = some 2 then some (pc + 3, .ref P.length :: r, P ++ [(10, List.replicate n.toNatClampNeg .null)], 1, n.toNatClampNeg) else if mcls o i = some 5 then some (pc + 3, .ref P.length :: r, P ++ [(11, List.replicate n.toNatClampNeg .null)], 1, n.toNatClampNeg) else none) else none
    | _ => none
  | _ => none
abbrev mCall : Type := Nat → List Value → mP → Option (Option Value × mP)
def mC (call : mCall) (cc : ByteArray) (o : Nat) (pc : Nat) (st : List Value) (P : mP) : Option (Nat × List Value × mP × Nat × Nat) :=
  match decode cc pc with
  | .ok (.invokevirtual i, 3) => match mcal o i with
    | some (kd, k) => match mtL[k]? with
      | some q => match st.drop q.2.2.2.2.1 with
        | .ref a :: rest => match P[a]? with
          | some (ci, _) => if kd < 2 ∧ (rest.map mcat).sum ≤ 8 ∧ ci = q.2.2.2.2.2.1 ∧ q.2.2.2.2.2.1 < 8 then (call k (.ref a :: (st.take q.2.2.2.2.1).reverse) P).map (fun z => (pc + 3, z.1.toList ++ rest, z.2, q.2.2.2.2.2.2.1, q.2.2.2.2.2.2.2)) else none
          | none => none
        | _ => none
      | none => none
    | none => none
  | .ok (.invokestatic i, 3) => match mcal o i with
    | some (kd, k) =>
      if kd = 2 ∨ kd = 3 then match mtL[k]? with
        | some q => if q.2.2.2.2.1 ≤ st.length ∧ ((st.drop q.2.2.2.2.1).map mcat).sum ≤ 8 then (call k (st.take q.2.2.2.2.1).reverse P).map (fun z => (pc + 3, z.1.toList ++ st.drop q.2.2.2.2.1, z.2, q.2.2.2.2.2.2.1, q.2.2.2.2.2.2.2)) else none
        | none => none
      else if kd = 7 ∨ kd = 8 then match st with
        | .int y :: .int x :: rest => if (rest.map mcat).sum ≤ 8 then some (pc + 3, .int (if kd = 7 then (if x < y then y else x) else (if y < x then y else x)) :: rest, P, 0, 0) else none
        | _ => none
      else if kd = 9 then match st with
        | .int x :: rest => if (rest.map mcat).sum ≤ 8 then some (pc + 3, .int (if 0 ≤ x then x else 0 - x) :: rest, P, 0, 0) else none
        | _ => none
      else if kd = 10 then match st with
        | .float x :: rest => if (rest.map mcat).sum ≤ 8 then some (pc + 3, .int x.toInt32 :: rest, P, 0, 0) else none
        | _ => none
      else none
    | none => none
  | .ok (.invokespecial i, 3) => match mcal o i with
    | some (kd, k) =>
      if kd = 6 then match st with
        | .ref _ :: rest => if (rest.map mcat).sum ≤ 8 then some (pc + 3, rest, P, 0, 0) else none
        | _ => none
      else if kd = 4 ∨ kd = 5 then match mtL[k]? with
        | some q => match st.drop q.2.2.2.2.1 with
          | .ref a :: rest => if q.2.2.2.1 = none ∧ (rest.map mcat).sum ≤ 8 then (call k (.ref a :: (st.take q.2.2.2.2.1).reverse) P).map (fun z => (pc + 3, z.1.toList ++ rest, z.2, q.2.2.2.2.2.2.1, q.2.2.2.2.2.2.2)) else none
          | _ => none
        | none => none
      else none
    | none => none
  | _ => none
/-- the law's own reads of the script (which stands as .long 0) -/
def mK (scr : Option (List Int32)) (cc : ByteArray) (pc : Nat) (st : List Value) : Option (Nat × List Value) :=
  match scr with
  | none => none
  | some xs => match decode cc pc with
    | .ok (.arraylength, 1) => match st with
      | .long _ :: r => some (pc + 1, .int (Int32.ofNat xs.length) :: r)
      | _ => none
    | .ok (.iaload, 1) => match st with
      | .int i :: .long _ :: r => if i < 0 ∨ xs.length ≤ i.toNatClampNeg then none else some (pc + 1, .int (xs.getD i.toNatClampNeg 0) :: r)
      | _ => none
    | _ => none
def mret (cc : ByteArray) (ret : Option FieldType) (pc : Nat) (st : List Value) : Option (Option Value) :=
  match decode cc pc with
  | .ok (.return_, 1) => match st with
    | [] => if ret = none then some none else none
    | _ => none
  | .ok (.ireturn, 1) => match st with
    | [.int x] => if ret = some .int ∨ (ret = some .boolean ∧ (x = 0 ∨ x = 1)) then some (some (.int x)) else none
    | _ => none
  | .ok (.areturn, 1) => match st with
    | [.ref a] => match ret with
      | some (.object _) => some (some (.ref a))
      | _ => none
    | [.null] => match ret with
      | some (.object _) => some (some .null)
      | _ => none
    | _ => none
  | _ => none
def mexec (call : mCall) (scr : Option (List Int32)) (cc : ByteArray) (nL o : Nat) (ini : Bool) (ret : Option FieldType) (mcM msM : Nat) : Nat → Nat → List (Nat × Value) → List Value → mP → Nat → Nat → Option (Option Value × mP)
  | 0, _, _, _, _, _, _ => none
  | f + 1, pc, L, st, P, cz, sz => match mA cc nL pc L st with
    | some z => mexec call scr cc nL o ini ret mcM msM f z.1 z.2.1 z.2.2 P cz sz
    | none => match mS cc pc st with
      | some z => mexec call scr cc nL o ini ret mcM msM f z.1 L z.2 P cz sz
      | none => match mB cc o ini pc st P with
        | some z => mexec call scr cc nL o ini ret mcM msM f z.1 L z.2.1 z.2.2 cz sz
        | none => match mC call cc o pc st P with
          | some z => if cz + z.2.2.2.1 ≤ mcM ∧ sz + z.2.2.2.2 ≤ msM then mexec call scr cc nL o ini ret mcM msM f z.1 L z.2.1 z.2.2.1 (cz + z.2.2.2.1) (sz + z.2.2.2.2) else none
          | none => match mN cc o pc st P with
            | some z => if cz + z.2.2.2.1 ≤ mcM ∧ sz + z.2.2.2.2 ≤ msM then mexec call scr cc nL o ini ret mcM msM f z.1 L z.2.1 z.2.2.1 (cz + z.2.2.2.1) (sz + z.2.2.2.2) else none
            | none => match mK scr cc pc st with
              | some z => mexec call scr cc nL o ini ret mcM msM f z.1 L z.2 P cz sz
              | none => (mret cc ret pc st).map (fun r => (r, P))
section MR
variable {p : Program} {l : Launch} {e : Env} {R : Room} {s : State} {m : MethodId} {args : Array Value} {below : List Frame} {meth : Method} {c : Code} {Q : State → Prop}
variable {cc : ByteArray} {nL o base b : Nat} {ini : Bool} {ca dC : Nat → ClassId} {dI : Nat → Nat → Nat} {pc : Nat} {L : List (Nat × Value)} {st : List Value} {P : mP} {cz sz : Nat}
set_option maxHeartbeats 4000000 in
theorem mB_ok (X : mX p s m args meth c cc nL o ini ca dC dI base) {z : Nat × List Value × mP} (h : mB cc o ini pc st P = some z) (kk : MW p l e R s m args below meth c nL ca dC dI base b Q z.1 L z.2.1 z.2.2 cz sz) : MW p l e R s m args below meth c nL ca dC dI base b Q pc L st P cz sz := by
  unfold mB at h
  split at h
  · rename_i i heq
    split at h
    · rename_i a r
      split at h
      · rename_i ci k nest hf
        split at h
        · rename_i c0 vs ha
          split at h
          · rename_i hc
            subst hc
            obtain ⟨v, hv, rfl⟩ := Option.map_eq_some_iff.mp h
            exact mr_get X hf ha hv heq kk
          · cases h
        · cases h
      · cases h
    · cases h
  · rename_i i heq
    split at h
    · rename_i v a r
      split at h
      · rename_i ci k nest hf
        split at h
        · rename_i c0 vs ha
          split at h
          · rename_i hc
            obtain ⟨rfl, h1, h2, h3⟩ := hc
            cases h
            exact mr_put X hf ha h1 h2 h3 heq kk
          · cases h
        · cases h
      · cases h
    · cases h
  · rename_i heq
    split at h
    · rename_i i a r
      split at h
      · rename_i kd vs ha
        split at h
        · rename_i hc
          obtain ⟨rfl, h1⟩ := hc
          cases h
          exact mr_iald X ha h1 heq kk
        · cases h
      · cases h
    · cases h
  · rename_i heq
    split at h
    · rename_i i a r
      split at h
      · rename_i kd vs ha
        split at h
        · rename_i hc
          obtain ⟨rfl, h1⟩ := hc
          cases h
          exact mr_zald X ha h1 heq kk
        · cases h
      · cases h
    · cases h
  · rename_i heq
    split at h
    · rename_i i a r
      split at h
      · rename_i kd vs ha
        split at h
        · rename_i hc
          cases h
          exact mr_aald X hc.1 ha hc.2 heq kk
        · cases h
      · cases h
    · cases h
  · rename_i heq
    split at h
    · rename_i a r
      split at h
      · rename_i kd vs ha
        split at h
        · rename_i hc
          cases h
          exact mr_alen X hc ha heq kk
        · cases h
      · cases h
    · cases h
  · rename_i heq
    split at h
    · rename_i x i a r
      split at h
      · rename_i kd vs ha
        split at h
        · rename_i hc
          obtain ⟨rfl, h1⟩ := hc
          cases h
          exact mr_iast X ha h1 heq kk
        · cases h
      · cases h
    · cases h
  · rename_i heq
    split at h
    · rename_i x i a r
      split at h
      · rename_i kd vs ha
        split at h
        · rename_i hc
          obtain ⟨⟨rfl, h1⟩, h2⟩ := hc
          cases h
          exact mr_zast X h2 ha h1 heq kk
        · cases h
      · cases h
    · cases h
  · rename_i heq
    split at h
    · rename_i k i a r
      split at h
      · rename_i kd vs ha
        split at h
        · rename_i ci us hk
          split at h
          · rename_i hc
            cases h
            exact mr_aast X hc.1 ha hk hc.2 heq kk
          · cases h
        · cases h
      · cases h
    · cases h
  · rename_i i heq
    obtain ⟨v, hv, rfl⟩ := Option.map_eq_some_iff.mp h
    obtain ⟨hx, hb, hml, hown, hts, hU, -, -⟩ := X
    intro ls H locs hl hH hS
    exact lv_ldc hx hb hown (hts _ (mldcI_ok hv)) heq (kk ls H locs hl hH hS)
  · rename_i i heq
    obtain ⟨v, hv, rfl⟩ := Option.map_eq_some_iff.mp h
    obtain ⟨hx, hb, hml, hown, hts, hU, -, -⟩ := X
    intro ls H locs hl hH hS
    exact lv_ldcwf hx hb hown (hts _ (mldcF_ok hv)) heq (kk ls H locs hl hH hS)
  · cases h
set_option maxHeartbeats 4000000 in
theorem mN_ok (X : mX p s m args meth c cc nL o ini ca dC dI base) {z : Nat × List Value × mP × Nat × Nat} (h : mN cc o pc st P = some z) (hcz : cz + z.2.2.2.1 ≤ R.cells) (hsz : sz + z.2.2.2.2 ≤ R.slots) (kk : MW p l e R s m args below meth c nL ca dC dI base b Q z.1 L z.2.1 z.2.2.1 (cz + z.2.2.2.1) (sz + z.2.2.2.2)) : MW p l e R s m args below meth c nL ca dC dI base b Q pc L st P cz sz := by
  unfold mN at h
  split at h
  · rename_i i heq
    obtain ⟨ci, hc, rfl⟩ := Option.map_eq_some_iff.mp h
    exact mr_new X hc hcz hsz heq kk
  · rename_i heq
    split at h
    · split at h
      · rename_i hc
        cases h
        exact mr_newi X hc.1 hc.2 hcz hsz heq kk
      · cases h
    · cases h
  · rename_i heq
    split at h
    · split at h
      · rename_i hc
        cases h
        exact mr_newz X hc.1 hc.2 hcz hsz heq kk
      · cases h
    · cases h
  · rename_i i heq
    split at h
    · split at h
      · rename_i hc
        split at h
        · rename_i h2
          cases h
          exact mr_anew X (Or.inl ⟨rfl, rfl⟩) h2 hc.1 hc.2 hcz hsz heq kk
        · split at h
          · rename_i h2
            cases h
            exact mr_anew X (Or.inr ⟨rfl, rfl⟩) h2 hc.1 hc.2 hcz hsz heq kk
          · cases h
      · cases h
    · cases h
  · cases h
theorem mtake {n : Nat} {st rest : List Value} {a : Nat} (h : st.drop n = .ref a :: rest) : st = (.ref a :: (st.take n).reverse).reverse ++ rest ∧ ((st.take n).reverse).length = n := by
  have h1 := List.take_append_drop n st
  have h2 : n < st.length := by
    rcases Nat.lt_or_ge n st.length with q | q
    · exact q
    · rw [List.drop_eq_nil_of_le q] at h
      cases h
  refine ⟨?_, by rw [List.length_reverse, List.length_take]; omega⟩
  rw [h] at h1
  simpa using h1.symm
set_option maxHeartbeats 4000000 in
theorem mC_ok (X : mX p s m args meth c cc nL o ini ca dC dI base) {call : mCall} {d : Nat} (hcall : ∀ k As P r P', call k As P = some (r, P') → mMet d k As P r P') (hRf : d + 1 ≤ R.frames) (hRl : 39 + 40 * d ≤ R.locals) {z : Nat × List Value × mP × Nat × Nat} (h : mC call cc o pc st P = some z) (hcz : cz + z.2.2.2.1 ≤ R.cells) (hsz : sz + z.2.2.2.2 ≤ R.slots) (kk : MW p l e R s m args below meth c nL ca dC dI base b Q z.1 L z.2.1 z.2.2.1 (cz + z.2.2.2.1) (sz + z.2.2.2.2)) : MW p l e R s m args below meth c nL ca dC dI base b Q pc L st P cz sz := by
  unfold mC at h
  split at h
  · rename_i i heq
    split at h
    · rename_i kd k hc
      split at h
      · rename_i q hq
        split at h
        · rename_i a rest hd
          split at h
          · rename_i ci vs ha
            split at h
            · rename_i hh
              obtain ⟨h1, h2, rfl, h4⟩ := hh
              obtain ⟨⟨r, P'⟩, hr, rfl⟩ := Option.map_eq_some_iff.mp h
              obtain ⟨e1, e2⟩ := mtake hd
              rw [e1]
              exact mr_call X hc hq (hcall _ _ _ _ _ hr) hRf hRl hcz hsz h2 (Or.inl ⟨h1, ⟨a, _, vs, rfl, e2, h4, ha⟩, heq⟩) kk
            · cases h
          · cases h
        · cases h
      · cases h
    · cases h
  · rename_i i heq
    split at h
    · rename_i kd k hc
      split at h
      · rename_i hk
        split at h
        · rename_i q hq
          split at h
          · rename_i hh
            obtain ⟨⟨r, P'⟩, hr, rfl⟩ := Option.map_eq_some_iff.mp h
            have e1 : st = ((st.take q.2.2.2.2.1).reverse).reverse ++ st.drop q.2.2.2.2.1 := by rw [List.reverse_reverse, List.take_append_drop]
            have kk := mr_call (L := L) (cz := cz) (sz := sz) (rest := st.drop q.2.2.2.2.1) X hc hq (hcall _ _ _ _ _ hr) hRf hRl hcz hsz hh.2 (Or.inr (Or.inl ⟨hk, by rw [List.length_reverse, List.length_take]; omega, heq⟩)) kk
            rw [← e1] at kk
            exact kk
          · cases h
        · cases h
      · split at h
        · rename_i hk
          split at h
          · rename_i y x rest
            split at h
            · rename_i hh
              cases h
              exact mr_math X hc hk (by omega) (by omega) (by simpa using hcz) (by simpa using hsz) hh heq kk
            · cases h
          · cases h
        · split at h
          · rename_i hk
            split at h
            · rename_i x rest
              split at h
              · rename_i hh
                subst hk
                cases h
                exact mr_abs X hc (by omega) (by omega) (by simpa using hcz) (by simpa using hsz) hh heq kk
              · cases h
            · cases h
          · split at h
            · rename_i hk
              split at h
              · rename_i x rest
                split at h
                · rename_i hh
                  subst hk
                  cases h
                  exact mr_nat X hc (by omega) (by omega) hh heq kk
                · cases h
              · cases h
            · cases h
    · cases h
  · rename_i i heq
    split at h
    · rename_i kd k hc
      split at h
      · rename_i hk
        subst hk
        split at h
        · rename_i a rest
          split at h
          · rename_i hh
            cases h
            exact mr_obj X hc (by omega) (by omega) hh heq kk
          · cases h
        · cases h
      · split at h
        · rename_i hk
          split at h
          · rename_i q hq
            split at h
            · rename_i a rest hd
              split at h
              · rename_i hh
                obtain ⟨⟨r, P'⟩, hr, rfl⟩ := Option.map_eq_some_iff.mp h
                obtain ⟨e1, e2⟩ := mtake hd
                rw [e1]
                exact mr_call X hc hq (hcall _ _ _ _ _ hr) hRf hRl hcz hsz hh.2 (Or.inr (Or.inr ⟨hk, hh.1, ⟨a, _, rfl, e2⟩, heq⟩)) kk
              · cases h
            · cases h
          · cases h
        · cases h
    · cases h
  · cases h
theorem mK_ok (X : mX p s m args meth c cc nL o ini ca dC dI base) {scr : Option (List Int32)} (hscr : ∀ xs, scr = some xs → va_X b xs.length (fun j => xs.getD j 0) s s.heap ∧ b < s.heap.size ∧ b < base) {z : Nat × List Value} (h : mK scr cc pc st = some z) (kk : MW p l e R s m args below meth c nL ca dC dI base b Q z.1 L z.2 P cz sz) : MW p l e R s m args below meth c nL ca dC dI base b Q pc L st P cz sz := by
  obtain ⟨hx, hb, -, -, -, -, -, -⟩ := X
  intro ls H locs hl hH hS
  have kk := kk ls H locs hl hH hS
  unfold mK at h
  split at h
  · cases h
  · rename_i xs
    obtain ⟨hX, hbl, hbb⟩ := hscr xs rfl
    have hbA : ¬ (fun x : Nat => base ≤ x) b := Nat.not_le.mpr hbb
    split at h
    · rename_i heq
      split at h
      · cases h
        exact va_slen hx hb hX hbl hbA hS heq kk
      · cases h
    · rename_i heq
      split at h
      · split at h
        · cases h
        · rename_i hin
          cases h
          exact va_sld hx hb hX hbl hbA hS hin heq kk
      · cases h
    · cases h
set_option maxHeartbeats 4000000 in
/-- M's run is the machine's -/
theorem mexec_ok (X : mX p s m args meth c cc nL o ini ca dC dI base) {call : mCall} {d : Nat} {scr : Option (List Int32)} {ret : Option FieldType} {mcM msM : Nat} (hscr : ∀ xs, scr = some xs → va_X b xs.length (fun j => xs.getD j 0) s s.heap ∧ b < s.heap.size ∧ b < base) (hcall : ∀ k As P r P', call k As P = some (r, P') → mMet d k As P r P') (hRf : d + 1 ≤ R.frames) (hRl : 39 + 40 * d ≤ R.locals) (hRc : mcM ≤ R.cells) (hRs : msM ≤ R.slots) {r : Option Value} {P' : mP}
    (fin : ∀ (pc : Nat) (L : List (Nat × Value)) (st : List Value) (cz sz : Nat), cz ≤ mcM → sz ≤ msM → mret cc ret pc st = some r → MW p l e R s m args below meth c nL ca dC dI base b Q pc L st P' cz sz) :
    ∀ (f pc : Nat) (L : List (Nat × Value)) (st : List Value) (P : mP) (cz sz : Nat), cz ≤ mcM → sz ≤ msM → mexec call scr cc nL o ini ret mcM msM f pc L st P cz sz = some (r, P') → MW p l e R s m args below meth c nL ca dC dI base b Q pc L st P cz sz := by
  intro f
  induction f with
  | zero => intro pc L st P cz sz h1 h2 h; cases h
  | succ f ih =>
    intro pc L st P cz sz h1 h2 h
    unfold mexec at h
    split at h
    · rename_i z hz
      exact mA_ok X hz (ih _ _ _ _ _ _ h1 h2 h)
    · split at h
      · rename_i z hz
        exact mS_ok X hz (ih _ _ _ _ _ _ h1 h2 h)
      · split at h
        · rename_i z hz
          exact mB_ok X hz (ih _ _ _ _ _ _ h1 h2 h)
        · split at h
          · rename_i z hz
            split at h
            · rename_i hc
              exact mC_ok X hcall hRf hRl hz (Nat.le_trans hc.1 hRc) (Nat.le_trans hc.2 hRs) (ih _ _ _ _ _ _ hc.1 hc.2 h)
            · cases h
          · split at h
            · rename_i z hz
              split at h
              · rename_i hc
                exact mN_ok X hz (Nat.le_trans hc.1 hRc) (Nat.le_trans hc.2 hRs) (ih _ _ _ _ _ _ hc.1 hc.2 h)
              · cases h
            · split at h
              · rename_i z hz
                exact mK_ok X hscr hz (ih _ _ _ _ _ _ h1 h2 h)
              · obtain ⟨r', hr, e1⟩ := Option.map_eq_some_iff.mp h
                cases e1
                exact fin pc L st cz sz h1 h2 hr
end MR
