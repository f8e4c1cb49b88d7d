/-! M: arithmetic, the stack, branches, switches -/
def mjmp (q : Prop) [Decidable q] (pc : Nat) (off : Int) (r : List Value) : Option (Nat × List Value) :=
  if 0 ≤ (pc : Int) + off then (if q then some (((pc : Int) + off).toNat, r) else some (pc + 3, r)) else none
theorem mjmp_ok {q : Prop} [Decidable q] {pc : Nat} {off : Int} {r : List Value} {z : Nat × List Value} (h : mjmp q pc off r = some z) : ∃ t : Nat, (pc : Int) + off = (t : Int) ∧ ((q ∧ z = (t, r)) ∨ (¬ q ∧ z = (pc + 3, r))) := by
  unfold mjmp at h
  split at h
  · rename_i h0
    refine ⟨((pc : Int) + off).toNat, by omega, ?_⟩
    split at h
    · rename_i hq
      exact Or.inl ⟨hq, (Option.some.inj h).symm⟩
    · rename_i hq
      exact Or.inr ⟨hq, (Option.some.inj h).symm⟩
  · cases h
def mif1 (q : Int32 → Prop) [∀ x, Decidable (q x)] (pc : Nat) (off : Int) (st : List Value) : Option (Nat × List Value) := match st with
  | .int x :: r => mjmp (q x) pc off r
  | _ => none
theorem mif1_ok {q : Int32 → Prop} [∀ x, Decidable (q x)] {pc : Nat} {off : Int} {st : List Value} {z : Nat × List Value} (h : mif1 q pc off st = some z) : ∃ (x : Int32) (r : List Value) (t : Nat), st = .int x :: r ∧ (pc : Int) + off = (t : Int) ∧ ((q x ∧ z = (t, r)) ∨ (¬ q x ∧ z = (pc + 3, r))) := by
  unfold mif1 at h
  split at h
  · rename_i x r
    obtain ⟨t, h1, h2⟩ := mjmp_ok h
    exact ⟨x, r, t, rfl, h1, h2⟩
  · cases h
def mif2 (q : Int32 → Int32 → Prop) [∀ x y, Decidable (q x y)] (pc : Nat) (off : Int) (st : List Value) : Option (Nat × List Value) := match st with
  | .int y :: .int x :: r => mjmp (q x y) pc off r
  | _ => none
theorem mif2_ok {q : Int32 → Int32 → Prop} [∀ x y, Decidable (q x y)] {pc : Nat} {off : Int} {st : List Value} {z : Nat × List Value} (h : mif2 q pc off st = some z) : ∃ (x y : Int32) (r : List Value) (t : Nat), st = .int y :: .int x :: r ∧ (pc : Int) + off = (t : Int) ∧ ((q x y ∧ z = (t, r)) ∨ (¬ q x y ∧ z = (pc + 3, r))) := by
  unfold mif2 at h
  split at h
  · rename_i y x r
    obtain ⟨t, h1, h2⟩ := mjmp_ok h
    exact ⟨x, y, r, t, rfl, h1, h2⟩
  · cases h
def mbin (f : Int32 → Int32 → Int32) (pc : Nat) (st : List Value) : Option (Nat × List Value) := match st with
  | .int y :: .int x :: r => some (pc + 1, .int (f x y) :: r)
  | _ => none
theorem mbin_ok {f : Int32 → Int32 → Int32} {pc : Nat} {st : List Value} {z : Nat × List Value} (h : mbin f pc st = some z) : ∃ (x y : Int32) (r : List Value), st = .int y :: .int x :: r ∧ z = (pc + 1, .int (f x y) :: r) := by
  unfold mbin at h
  split at h
  · rename_i y x r
    exact ⟨x, y, r, rfl, (Option.some.inj h).symm⟩
  · cases h
def mbinD (f : Int32 → Int32 → Int32) (pc : Nat) (st : List Value) : Option (Nat × List Value) := match st with
  | .int y :: .int x :: r => if y = 0 then none else some (pc + 1, .int (f x y) :: r)
  | _ => none
theorem mbinD_ok {f : Int32 → Int32 → Int32} {pc : Nat} {st : List Value} {z : Nat × List Value} (h : mbinD f pc st = some z) : ∃ (x y : Int32) (r : List Value), st = .int y :: .int x :: r ∧ ¬ y = 0 ∧ z = (pc + 1, .int (f x y) :: r) := by
  unfold mbinD at h
  split at h
  · rename_i y x r
    split at h
    · cases h
    · rename_i hy
      exact ⟨x, y, r, rfl, hy, (Option.some.inj h).symm⟩
  · cases h
def mcat (v : Value) : Nat := (msh 0 0 v).category
def mtab (pc : Nat) (dflt lo hi : Int) (offs : Array Int) (x : Int32) (r : List Value) : Option (Nat × List Value) :=
  if x.toInt < lo ∨ hi < x.toInt then (if 0 ≤ (pc : Int) + dflt then some (((pc : Int) + dflt).toNat, r) else none)
  else match offs[(x.toInt - lo).toNat]? with
    | some off => if 0 ≤ (pc : Int) + off then some (((pc : Int) + off).toNat, r) else none
    | none => none
def mlok (pc : Nat) (dflt : Int) (ps : Array (Int × Int)) (x : Int32) (r : List Value) : Option (Nat × List Value) :=
  if (ps.toList.zip (ps.toList.drop 1)).all (fun (a, next) => a.1 < next.1) = true then (if 0 ≤ (pc : Int) + Op.lookupswitch.offset ps.toList dflt x.toInt then some (((pc : Int) + Op.lookupswitch.offset ps.toList dflt x.toInt).toNat, r) else none) else none
def mS (cc : ByteArray) (pc : Nat) (st : List Value) : Option (Nat × List Value) :=
  match decode cc pc with
  | .ok (.iadd, 1) => mbin (fun x y => x + y) pc st
  | .ok (.isub, 1) => mbin (fun x y => x - y) pc st
  | .ok (.imul, 1) => mbin (fun x y => x * y) pc st
  | .ok (.iand, 1) => mbin (fun x y => x &&& y) pc st
  | .ok (.ishl, 1) => mbin (fun x y => x <<< (y &&& 31)) pc st
  | .ok (.ishr, 1) => mbin (fun x y => x >>> (y &&& 31)) pc st
  | .ok (.idiv, 1) => mbinD (fun x y => x / y) pc st
  | .ok (.irem, 1) => mbinD (fun x y => x - x / y * y) pc st
  | .ok (.ineg, 1) => match st with
    | .int x :: r => some (pc + 1, .int (-x) :: r)
    | _ => none
  | .ok (.ixor, 1) => mbin (fun x y => x ^^^ y) pc st
  | .ok (.i2f, 1) => match st with
    | .int x :: r => some (pc + 1, .float (FP.i2f x) :: r)
    | _ => none
  | .ok (.fdiv, 1) => match st with
    | .float y :: .float x :: r => if FP.fdiv x y &&& 0x7fffffff ≤ 0x7f800000 then some (pc + 1, .float (FP.fdiv x y) :: r) else none
    | _ => none
  | .ok (.fmul, 1) => match st with
    | .float y :: .float x :: r => if FP.fmul x y &&& 0x7fffffff ≤ 0x7f800000 then some (pc + 1, .float (FP.fmul x y) :: r) else none
    | _ => none
  | .ok (.fsub, 1) => match st with
    | .float y :: .float x :: r => if FP.fsub x y &&& 0x7fffffff ≤ 0x7f800000 then some (pc + 1, .float (FP.fsub x y) :: r) else none
    | _ => none
  | .ok (.fcmp op, 1) => match st with
    | .float y :: .float x :: r => some (pc + 1, .int (Op.cmpValue (FP.fcmp x y) op) :: r)
    | _ => none
  | .ok (.f2i, 1) => match st with
    | .float x :: r => some (pc + 1, .int (FP.f2i x) :: r)
    | _ => none
  | .ok (.fconst 0, 1) => some (pc + 1, .float FP.fconst0 :: st)
  | .ok (.fconst 1, 1) => some (pc + 1, .float FP.fconst1 :: st)
  | .ok (.fconst 2, 1) => some (pc + 1, .float FP.fconst2 :: st)
  | .ok (.dup, 1) => match st with
    | v :: r => if mcat v = 1 then some (pc + 1, v :: v :: r) else none
    | _ => none
  | .ok (.pop, 1) => match st with
    | v :: r => if mcat v = 1 then some (pc + 1, r) else none
    | _ => none
  | .ok (.dup2, 1) => match st with
    | v :: w :: r => if mcat v = 1 ∧ mcat w = 1 then some (pc + 1, v :: w :: v :: w :: r) else none
    | _ => none
  | .ok (.ifCond .eq off, 3) => mif1 (fun x => x = 0) pc off st
  | .ok (.ifCond .ne off, 3) => mif1 (fun x => ¬ x = 0) pc off st
  | .ok (.ifCond .lt off, 3) => mif1 (fun x => x < 0) pc off st
  | .ok (.ifCond .ge off, 3) => mif1 (fun x => 0 ≤ x) pc off st
  | .ok (.ifCond .gt off, 3) => mif1 (fun x => 0 < x) pc off st
  | .ok (.ifCond .le off, 3) => mif1 (fun x => x ≤ 0) pc off st
  | .ok (.if_icmp .eq off, 3) => mif2 (fun x y => x = y) pc off st
  | .ok (.if_icmp .ne off, 3) => mif2 (fun x y => ¬ x = y) pc off st
  | .ok (.if_icmp .lt off, 3) => mif2 (fun x y => x < y) pc off st
  | .ok (.if_icmp .ge off, 3) => mif2 (fun x y => y ≤ x) pc off st
  | .ok (.if_icmp .gt off, 3) => mif2 (fun x y => y < x) pc off st
  | .ok (.if_icmp .le off, 3) => mif2 (fun x y => x ≤ y) pc off st
  | .ok (.ifnull off, 3) => match st with
    | .ref _ :: r => some (pc + 3, r)
    | .null :: r => if 0 ≤ (pc : Int) + off then some (((pc : Int) + off).toNat, r) else none
    | _ => none
  | .ok (.ifnonnull off, 3) => match st with
    | .ref _ :: r => if 0 ≤ (pc : Int) + off then some (((pc : Int) + off).toNat, r) else none
    | .null :: r => some (pc + 3, r)
    | _ => none
  | .ok (.tableswitch dflt lo hi offs, _) => match st with
    | .int x :: r => mtab pc dflt lo hi offs x r
    | _ => none
  | .ok (.lookupswitch dflt ps, _) => match st with
    | .int x :: r => mlok pc dflt ps x r
    | _ => none
  | _ => none
section MR
variable {p : Program} {l : Launch} {e : Env} {R : Room} {s : State} {m : MethodId} {args : Array Value} {below : List Frame} {meth : Method} {c : Code} {Q : State → Prop}
variable {cc : ByteArray} {nL o base b : Nat} {ini : Bool} {ca dC : Nat → ClassId} {dI : Nat → Nat → Nat} {pc : Nat} {L : List (Nat × Value)} {st : List Value} {P : mP} {cz sz : Nat}
theorem mcat1 {v : Value} (h : mcat v = 1) (base b : Nat) : (msh base b v).category = 1 := (msh_cat base b v).trans h
set_option maxHeartbeats 4000000 in
theorem mS_ok (X : mX p s m args meth c cc nL o ini ca dC dI base) {z : Nat × List Value} (h : mS cc pc st = some z) (kk : MW p l e R s m args below meth c nL ca dC dI base b Q z.1 L z.2 P cz sz) : MW p l e R s m args below meth c nL ca dC dI base b Q pc L st P cz sz := by
  obtain ⟨hx, hb, -, -, -, -, -, -⟩ := X
  intro ls H locs hl hH hS
  have kk := kk ls H locs hl hH hS
  unfold mS at h
  split at h
  · rename_i heq
    obtain ⟨x, y, r, rfl, rfl⟩ := mbin_ok h
    exact lv_iadd hx hb heq kk
  · rename_i heq
    obtain ⟨x, y, r, rfl, rfl⟩ := mbin_ok h
    exact lv_isub hx hb heq kk
  · rename_i heq
    obtain ⟨x, y, r, rfl, rfl⟩ := mbin_ok h
    exact lv_imul hx hb heq kk
  · rename_i heq
    obtain ⟨x, y, r, rfl, rfl⟩ := mbin_ok h
    exact lv_iand hx hb heq kk
  · rename_i heq
    obtain ⟨x, y, r, rfl, rfl⟩ := mbin_ok h
    exact lv_ishl hx hb heq kk
  · rename_i heq
    obtain ⟨x, y, r, rfl, rfl⟩ := mbin_ok h
    exact lv_ishr hx hb heq kk
  · rename_i heq
    obtain ⟨x, y, r, rfl, hy, rfl⟩ := mbinD_ok h
    exact lv_idiv hx hb heq hy kk
  · rename_i heq
    obtain ⟨x, y, r, rfl, hy, rfl⟩ := mbinD_ok h
    exact lv_irem hx hb heq hy kk
  · rename_i heq
    split at h
    · cases h
      exact lv_ineg hx hb heq kk
    · cases h
  · rename_i heq
    obtain ⟨x, y, r, rfl, rfl⟩ := mbin_ok h
    exact lv_ixor hx hb heq kk
  · rename_i heq
    split at h
    · cases h
      exact lv_i2f hx hb heq kk
    · cases h
  · rename_i heq
    split at h
    · split at h
      · rename_i hv
        cases h
        exact lv_fdiv hx hb heq hv kk
      · cases h
    · cases h
  · rename_i heq
    split at h
    · split at h
      · rename_i hv
        cases h
        exact lv_fmul hx hb heq hv kk
      · cases h
    · cases h
  · rename_i heq
    split at h
    · split at h
      · rename_i hv
        cases h
        exact lv_fsub hx hb heq hv kk
      · cases h
    · cases h
  · rename_i op heq
    split at h
    · cases h
      exact lv_fcmp hx hb heq kk
    · cases h
  · rename_i heq
    split at h
    · cases h
      exact lv_f2i hx hb heq kk
    · cases h
  · rename_i heq
    cases h
    exact lv_fconst0 hx hb heq kk
  · rename_i heq
    cases h
    exact lv_fconst1 hx hb heq kk
  · rename_i heq
    cases h
    exact lv_fconst2 hx hb heq kk
  · rename_i heq
    split at h
    · split at h
      · rename_i hv
        cases h
        exact lv_dup hx hb heq (mcat1 hv base b) kk
      · cases h
    · cases h
  · rename_i heq
    split at h
    · split at h
      · rename_i hv
        cases h
        exact lv_pop hx hb heq (mcat1 hv base b) kk
      · cases h
    · cases h
  · rename_i heq
    split at h
    · split at h
      · rename_i hv
        cases h
        exact lv_dup2_11 hx hb heq (mcat1 hv.1 base b) (mcat1 hv.2 base b) kk
      · cases h
    · cases h
  · rename_i off heq
    obtain ⟨x, r, t, rfl, ht, ⟨hq, rfl⟩ | ⟨hq, rfl⟩⟩ := mif1_ok h
    · exact lv_if_eq hx hb heq ht (fun _ => kk) (fun q => absurd hq q)
    · exact lv_if_eq hx hb heq ht (fun q => absurd q hq) (fun _ => kk)
  · rename_i off heq
    obtain ⟨x, r, t, rfl, ht, ⟨hq, rfl⟩ | ⟨hq, rfl⟩⟩ := mif1_ok h
    · exact lv_if_ne hx hb heq ht (fun _ => kk) (fun q => absurd q hq)
    · exact lv_if_ne hx hb heq ht (fun q => absurd q hq) (fun _ => kk)
  · rename_i off heq
    obtain ⟨x, r, t, rfl, ht, ⟨hq, rfl⟩ | ⟨hq, rfl⟩⟩ := mif1_ok h
    · exact lv_if_lt hx hb heq ht (fun _ => kk) (fun q => absurd hq q)
    · exact lv_if_lt hx hb heq ht (fun q => absurd q hq) (fun _ => kk)
  · rename_i off heq
    obtain ⟨x, r, t, rfl, ht, ⟨hq, rfl⟩ | ⟨hq, rfl⟩⟩ := mif1_ok h
    · exact lv_if_ge hx hb heq ht (fun _ => kk) (fun q => absurd hq q)
    · exact lv_if_ge hx hb heq ht (fun q => absurd q hq) (fun _ => kk)
  · rename_i off heq
    obtain ⟨x, r, t, rfl, ht, ⟨hq, rfl⟩ | ⟨hq, rfl⟩⟩ := mif1_ok h
    · exact lv_if_gt hx hb heq ht (fun _ => kk) (fun q => absurd hq q)
    · exact lv_if_gt hx hb heq ht (fun q => absurd q hq) (fun _ => kk)
  · rename_i off heq
    obtain ⟨x, r, t, rfl, ht, ⟨hq, rfl⟩ | ⟨hq, rfl⟩⟩ := mif1_ok h
    · exact lv_if_le hx hb heq ht (fun _ => kk) (fun q => absurd hq q)
    · exact lv_if_le hx hb heq ht (fun q => absurd q hq) (fun _ => kk)
  · rename_i off heq
    obtain ⟨x, y, r, t, rfl, ht, ⟨hq, rfl⟩ | ⟨hq, rfl⟩⟩ := mif2_ok h
    · exact lv_icmp_eq hx hb heq ht (fun _ => kk) (fun q => absurd hq q)
    · exact lv_icmp_eq hx hb heq ht (fun q => absurd q hq) (fun _ => kk)
  · rename_i off heq
    obtain ⟨x, y, r, t, rfl, ht, ⟨hq, rfl⟩ | ⟨hq, rfl⟩⟩ := mif2_ok h
    · exact lv_icmp_ne hx hb heq ht (fun _ => kk) (fun q => absurd q hq)
    · exact lv_icmp_ne hx hb heq ht (fun q => absurd q hq) (fun _ => kk)
  · rename_i off heq
    obtain ⟨x, y, r, t, rfl, ht, ⟨hq, rfl⟩ | ⟨hq, rfl⟩⟩ := mif2_ok h
    · exact lv_icmp_lt hx hb heq ht (fun _ => kk) (fun q => absurd hq q)
    · exact lv_icmp_lt hx hb heq ht (fun q => absurd q hq) (fun _ => kk)
  · rename_i off heq
    obtain ⟨x, y, r, t, rfl, ht, ⟨hq, rfl⟩ | ⟨hq, rfl⟩⟩ := mif2_ok h
    · exact lv_icmp_ge hx hb heq ht (fun _ => kk) (fun q => absurd hq q)
    · exact lv_icmp_ge hx hb heq ht (fun q => absurd q hq) (fun _ => kk)
  · rename_i off heq
    obtain ⟨x, y, r, t, rfl, ht, ⟨hq, rfl⟩ | ⟨hq, rfl⟩⟩ := mif2_ok h
    · exact lv_icmp_gt hx hb heq ht (fun _ => kk) (fun q => absurd hq q)
    · exact lv_icmp_gt hx hb heq ht (fun q => absurd q hq) (fun _ => kk)
  · rename_i off heq
    obtain ⟨x, y, r, t, rfl, ht, ⟨hq, rfl⟩ | ⟨hq, rfl⟩⟩ := mif2_ok h
    · exact lv_icmp_le hx hb heq ht (fun _ => kk) (fun q => absurd hq q)
    · exact lv_icmp_le hx hb heq ht (fun q => absurd q hq) (fun _ => kk)
  · rename_i off heq
    split at h
    · cases h
      exact lv_ifnull hx hb heq kk
    · split at h
      · cases h
        exact lv_ifnullN hx hb heq (by omega) kk
      · cases h
    · cases h
  · rename_i off heq
    split at h
    · split at h
      · cases h
        exact lv_ifnonnull hx hb heq (by omega) kk
      · cases h
    · cases h
      exact lv_ifnonnullN hx hb heq kk
    · cases h
  · rename_i dflt lo hi offs len heq
    split at h
    · rename_i x r
      unfold mtab at h
      split at h
      · rename_i h1
        split at h
        · cases h
          exact lv_tableOut hx hb heq h1 (by omega) kk
        · cases h
      · rename_i h1
        split at h
        · rename_i off ho
          split at h
          · cases h
            exact lv_tableIn hx hb heq (fun q => h1 (Or.inl q)) (fun q => h1 (Or.inr q)) ho (by omega) kk
          · cases h
        · cases h
    · cases h
  · rename_i dflt ps len heq
    split at h
    · rename_i x r
      unfold mlok at h
      split at h
      · rename_i h1
        split at h
        · cases h
          exact lv_lookup hx hb heq h1 rfl (by omega) kk
        · cases h
      · cases h
    · cases h
  · cases h
end MR
