/-! M: a small machine over a pool of cells that stand at base, base + 1, ..; what it computes the JVM does (this part: the pool and the simple instructions) -/
def msh (base b : Nat) : Value → Value
  | .ref k => .ref (base + k)
  | .long _ => .ref b
  | v => v
def mint : Value → Int32
  | .int x => x
  | _ => 0
def mref (base : Nat) : Value → Option Nat
  | .ref k => some (base + k)
  | _ => none
abbrev mP : Type := List (Nat × List Value)
def mE (ca : Nat → ClassId) (base b : Nat) (q : Nat × List Value) : va_E :=
  if q.1 < 8 then .inr (q.1, q.2.map (msh base b))
  else if q.1 < 10 then .inl (ca q.1, q.2.length, .inl (fun j => mint (q.2.getD j .null)))
  else .inl (ca q.1, q.2.length, .inr (.inr (.inr (.inr (fun j => mref base (q.2.getD j .null))))))
def mW (ca : Nat → ClassId) (base b : Nat) : Nat → mP → va_W
  | _, [] => []
  | i, q :: P => (base + i, mE ca base b q) :: mW ca base b (i + 1) P
theorem mW_get (ca : Nat → ClassId) (base b : Nat) : ∀ (P : mP) (i k : Nat), (mW ca base b i P)[k]? = (P[k]?).map (fun q => (base + (i + k), mE ca base b q))
  | [], i, k => by simp [mW]
  | q :: P, i, 0 => by simp [mW]
  | q :: P, i, k + 1 => by
    simp only [mW, List.getElem?_cons_succ]
    rw [mW_get ca base b P (i + 1) k, show i + 1 + k = i + (k + 1) by omega]
theorem mW_set (ca : Nat → ClassId) (base b : Nat) : ∀ (P : mP) (i k : Nat) (q : Nat × List Value), (mW ca base b i P).set k (base + (i + k), mE ca base b q) = mW ca base b i (P.set k q)
  | [], i, k, q => by simp [mW]
  | p :: P, i, 0, q => by simp [mW]
  | p :: P, i, k + 1, q => by
    simp only [mW, List.set_cons_succ]
    rw [show i + (k + 1) = (i + 1) + k by omega, mW_set ca base b P (i + 1) k q]
theorem mW_app (ca : Nat → ClassId) (base b : Nat) : ∀ (P : mP) (i : Nat) (q : Nat × List Value), mW ca base b i (P ++ [q]) = mW ca base b i P ++ [(base + (i + P.length), mE ca base b q)]
  | [], i, q => by simp [mW]
  | p :: P, i, q => by
    simp only [mW, List.cons_append, List.length_cons]
    rw [mW_app ca base b P (i + 1) q, show i + 1 + P.length = i + (P.length + 1) by omega]
theorem mW_D (ca : Nat → ClassId) (base b : Nat) (P : mP) : va_D (fun q => base ≤ q) (mW ca base b 0 P) := by
  refine ⟨fun i j p q hi hj e => ?_, fun k q hk => ?_⟩
  · rw [mW_get] at hi hj
    obtain ⟨x, -, rfl⟩ := Option.map_eq_some_iff.mp hi
    obtain ⟨y, -, rfl⟩ := Option.map_eq_some_iff.mp hj
    dsimp only at e
    omega
  · rw [mW_get] at hk
    obtain ⟨x, -, rfl⟩ := Option.map_eq_some_iff.mp hk
    dsimp only
    omega
def mH (ca : Nat → ClassId) (dC : Nat → ClassId) (dI : Nat → Nat → Nat) (base b : Nat) (P : mP) (H : Heap) : Prop := va_P (dC, dI) vwCl (mW ca base b 0 P) H ∧ H.size = base + P.length
abbrev mT (ca : Nat → ClassId) : List (ClassId × FieldType) := [(ca 8, .int), (ca 9, .boolean), (ca 10, .object RX2), (ca 11, .object RX5)]
def mU (ca : Nat → ClassId) (dC : Nat → ClassId) (dI : Nat → Nat → Nat) (U : State) : Prop := va_K (dC, dI) vwCl (mT ca) U ∧ (∀ w ∈ lw_nests, va_Nw w U) ∧ va_AO RX2 U ∧ va_AO RX5 U
/-- what holds all along a method's body: the machine, the code, its class, the words, the tables, where the pool begins -/
def mX (p : Program) (s : State) (m : MethodId) (args : Array Value) (meth : Method) (c : Code) (cc : ByteArray) (nL o : Nat) (ini : Bool) (ca dC : Nat → ClassId) (dI : Nat → Nat → Nat) (base : Nat) : Prop :=
  p.tables.exec = Jvm.exec ∧ c.code = cc ∧ c.maxLocals = nL ∧ s.vm.findClass (cN o) = some m.cls ∧ (∀ w ∈ lw_good, w.before args s = true) ∧ mU ca dC dI s ∧ base ≤ s.heap.size ∧ (ini = true → meth.name = "<init>")
def mLs (base b : Nat) (L : List (Nat × Value)) : List (Nat × Value) := L.map (fun q => (q.1, msh base b q.2))
def mget (L : List (Nat × Value)) (i : Nat) : Option Value := (L.find? (fun q => q.1 == i)).map (fun q => q.2)
def mput (i : Nat) (v : Value) (L : List (Nat × Value)) : List (Nat × Value) := (i, v) :: L.filter (fun q => !(q.1 == i) && !(q.1 + 1 == i && (msh 0 0 q.2).category == 2))
theorem msh_cat (base b : Nat) (v : Value) : (msh base b v).category = (msh 0 0 v).category := by cases v <;> rfl
theorem mput_ls (base b i : Nat) (v : Value) (L : List (Nat × Value)) : mLs base b (mput i v L) = (i, msh base b v) :: (mLs base b L).filter (fun q => !(q.1 == i) && !(q.1 + 1 == i && q.2.category == 2)) := by
  unfold mLs mput
  simp only [List.map_cons, List.filter_map]
  congr 2
  refine List.filter_congr (fun q _ => ?_)
  simp only [Function.comp, msh_cat]
theorem mget_mem {L : List (Nat × Value)} {i : Nat} {v : Value} (h : mget L i = some v) : (i, v) ∈ L := by
  unfold mget at h
  obtain ⟨⟨j, w⟩, h1, h2⟩ := Option.map_eq_some_iff.mp h
  dsimp only at h2
  subst h2
  have h3 := List.find?_some h1
  simp only [beq_iff_eq] at h3
  subst h3
  exact List.mem_of_find?_eq_some h1
theorem mget_ls {base b : Nat} {L : List (Nat × Value)} {i : Nat} {v : Value} (h : mget L i = some v) : (i, msh base b v) ∈ mLs base b L := List.mem_map.mpr ⟨(i, v), mget_mem h, rfl⟩
theorem mget_at {base b nL : Nat} {ls : Array Slot} {L : List (Nat × Value)} {i : Nat} {v : Value} (hl : lv_has ls nL (mLs base b L)) (h : mget L i = some v) : ls[i]? = some (.val (msh base b v)) := hl.2.2 _ (mget_ls h)
def mgI (L : List (Nat × Value)) (i : Nat) : Option Int32 := match mget L i with
  | some (.int x) => some x
  | _ => none
theorem mgI_get {L : List (Nat × Value)} {i : Nat} {x : Int32} (h : mgI L i = some x) : mget L i = some (.int x) := by
  unfold mgI at h
  split at h
  · rename_i y e
    cases h
    exact e
  · cases h
/-- the machine's own steps -/
def MW (p : Program) (l : Launch) (e : Env) (R : Room) (s : State) (m : MethodId) (args : Array Value) (below : List Frame) (meth : Method) (c : Code) (nL : Nat) (ca dC : Nat → ClassId) (dI : Nat → Nat → Nat) (base b : Nat) (Q : State → Prop) (pc : Nat) (L : List (Nat × Value)) (st : List Value) (P : mP) (cz sz : Nat) : Prop :=
  ∀ (ls : Array Slot) (H : Heap) (locs : List Loc), lv_has ls nL (mLs base b L) → mH ca dC dI base b P H → va_S (fun q => base ≤ q) s.heap H locs → W p l e R s m args below meth c H locs cz sz Q (F0 m pc ls (st.map (msh base b)))
/-- loads, constants, stores, goto -/
def mA (cc : ByteArray) (nL pc : Nat) (L : List (Nat × Value)) (st : List Value) : Option (Nat × List (Nat × Value) × List Value) :=
  match decode cc pc with
  | .ok (.iload_n k, 1) => (mgI L k).map (fun x => (pc + 1, L, .int x :: st))
  | .ok (.iload i, 2) => (mgI L i).map (fun x => (pc + 2, L, .int x :: st))
  | .ok (.aload_n k, 1) => match mget L k with
    | some (.ref x) => some (pc + 1, L, .ref x :: st)
    | some (.long z) => some (pc + 1, L, .long z :: st)
    | some .null => some (pc + 1, L, .null :: st)
    | _ => none
  | .ok (.aload i, 2) => match mget L i with
    | some (.ref x) => some (pc + 2, L, .ref x :: st)
    | some (.long z) => some (pc + 2, L, .long z :: st)
    | some .null => some (pc + 2, L, .null :: st)
    | _ => none
  | .ok (.iconst n, 1) => some (pc + 1, L, .int (Int32.ofInt n) :: st)
  | .ok (.bipush n, 2) => some (pc + 2, L, .int (Int8.ofInt n).toInt32 :: st)
  | .ok (.sipush n, 3) => some (pc + 3, L, .int (Int16.ofInt n).toInt32 :: st)
  | .ok (.aconst_null, 1) => some (pc + 1, L, .null :: st)
  | .ok (.istore_n k, 1) => match st with
    | .int x :: r => if (k : Nat) < nL then some (pc + 1, mput k (.int x) L, r) else none
    | _ => none
  | .ok (.istore i, 2) => match st with
    | .int x :: r => if i < nL then some (pc + 2, mput i (.int x) L, r) else none
    | _ => none
  | .ok (.astore_n k, 1) => match st with
    | .ref x :: r => if (k : Nat) < nL then some (pc + 1, mput k (.ref x) L, r) else none
    | .null :: r => if (k : Nat) < nL then some (pc + 1, mput k .null L, r) else none
    | _ => none
  | .ok (.astore i, 2) => match st with
    | .ref x :: r => if i < nL then some (pc + 2, mput i (.ref x) L, r) else none
    | .null :: r => if i < nL then some (pc + 2, mput i .null L, r) else none
    | _ => none
  | .ok (.iinc i n, 3) => if i < nL then (mgI L i).map (fun x => (pc + 3, mput i (.int (x + Int32.ofInt n)) L, st)) else none
  | .ok (.fload_n k, 1) => match mget L k with
    | some (.float x) => some (pc + 1, L, .float x :: st)
    | _ => none
  | .ok (.fstore_n k, 1) => match st with
    | .float x :: r => if (k : Nat) < nL then some (pc + 1, mput k (.float x) L, r) else none
    | _ => none
  | .ok (.goto off, 3) => if 0 ≤ (pc : Int) + off then some (((pc : Int) + off).toNat, L, st) else none
  | _ => none
section MR
variable {p : Program} {l : Launch} {e : Env} {R : Room} {s : State} {m : MethodId} {args : Array Value} {below : List Frame} {meth : Method} {c : Code} {Q : State → Prop}
variable {cc : ByteArray} {nL o base b : Nat} {ini : Bool} {ca dC : Nat → ClassId} {dI : Nat → Nat → Nat} {pc : Nat} {L : List (Nat × Value)} {st : List Value} {P : mP} {cz sz : Nat}
set_option maxHeartbeats 4000000 in
theorem mA_ok (X : mX p s m args meth c cc nL o ini ca dC dI base) {z : Nat × List (Nat × Value) × List Value} (h : mA cc nL pc L st = some z) (kk : MW p l e R s m args below meth c nL ca dC dI base b Q z.1 z.2.1 z.2.2 P cz sz) : MW p l e R s m args below meth c nL ca dC dI base b Q pc L st P cz sz := by
  obtain ⟨hx, hb, -, -, -, -, -, -⟩ := X
  intro ls H locs hl hH hS
  unfold mA at h
  split at h
  · rename_i k heq
    obtain ⟨x, h1, rfl⟩ := Option.map_eq_some_iff.mp h
    exact lv_iload_n hx hb heq rfl (mget_at hl (mgI_get h1)) (kk ls H locs hl hH hS)
  · rename_i i heq
    obtain ⟨x, h1, rfl⟩ := Option.map_eq_some_iff.mp h
    exact lv_iload hx hb heq (mget_at hl (mgI_get h1)) (kk ls H locs hl hH hS)
  · rename_i k heq
    split at h
    · rename_i x h1
      cases h
      exact lv_aload_n hx hb heq rfl (mget_at hl h1) (kk ls H locs hl hH hS)
    · rename_i x h1
      cases h
      exact lv_aload_n hx hb heq rfl (mget_at hl h1) (kk ls H locs hl hH hS)
    · rename_i h1
      cases h
      exact lv_aload_nN hx hb heq rfl (mget_at hl h1) (kk ls H locs hl hH hS)
    · cases h
  · rename_i i heq
    split at h
    · rename_i x h1
      cases h
      exact lv_aload hx hb heq (mget_at hl h1) (kk ls H locs hl hH hS)
    · rename_i x h1
      cases h
      exact lv_aload hx hb heq (mget_at hl h1) (kk ls H locs hl hH hS)
    · rename_i h1
      cases h
      exact lv_aloadN hx hb heq (mget_at hl h1) (kk ls H locs hl hH hS)
    · cases h
  · rename_i n heq
    cases h
    exact lv_iconst hx hb heq rfl (kk ls H locs hl hH hS)
  · rename_i n heq
    cases h
    exact lv_bipush hx hb heq rfl (kk ls H locs hl hH hS)
  · rename_i n heq
    cases h
    exact lv_sipush hx hb heq rfl (kk ls H locs hl hH hS)
  · rename_i heq
    cases h
    exact lv_null hx hb heq (kk ls H locs hl hH hS)
  · rename_i k heq
    split at h
    · rename_i x r
      split at h
      · rename_i hk
        cases h
        exact lv_istore_n hx hb heq rfl hl hk (mput_ls base b k (.int x) L).symm (fun ls' h' => kk ls' H locs h' hH hS)
      · cases h
    · cases h
  · rename_i i heq
    split at h
    · rename_i x r
      split at h
      · rename_i hk
        cases h
        exact lv_istore hx hb heq hl hk (mput_ls base b i (.int x) L).symm (fun ls' h' => kk ls' H locs h' hH hS)
      · cases h
    · cases h
  · rename_i k heq
    split at h
    · rename_i x r
      split at h
      · rename_i hk
        cases h
        exact lv_astore_n hx hb heq rfl hl hk (mput_ls base b k (.ref x) L).symm (fun ls' h' => kk ls' H locs h' hH hS)
      · cases h
    · rename_i r
      split at h
      · rename_i hk
        cases h
        exact lv_astore_nN hx hb heq rfl hl hk (mput_ls base b k .null L).symm (fun ls' h' => kk ls' H locs h' hH hS)
      · cases h
    · cases h
  · rename_i i heq
    split at h
    · rename_i x r
      split at h
      · rename_i hk
        cases h
        exact lv_astore hx hb heq hl hk (mput_ls base b i (.ref x) L).symm (fun ls' h' => kk ls' H locs h' hH hS)
      · cases h
    · rename_i r
      split at h
      · rename_i hk
        cases h
        exact lv_astoreN hx hb heq hl hk (mput_ls base b i .null L).symm (fun ls' h' => kk ls' H locs h' hH hS)
      · cases h
    · cases h
  · rename_i i n heq
    split at h
    · rename_i hk
      obtain ⟨x, h1, rfl⟩ := Option.map_eq_some_iff.mp h
      obtain ⟨k, hk2⟩ := List.getElem?_of_mem (mget_ls (base := base) (b := b) (mgI_get h1))
      exact lv_iinc hx hb heq hl hk2 rfl hk (mput_ls base b i (.int (x + Int32.ofInt n)) L).symm (fun ls' h' => kk ls' H locs h' hH hS)
    · cases h
  · rename_i k heq
    split at h
    · rename_i x h1
      cases h
      exact lv_fload_n hx hb heq rfl (mget_at hl h1) (kk ls H locs hl hH hS)
    · cases h
  · rename_i k heq
    split at h
    · rename_i x r
      split at h
      · rename_i hk
        cases h
        exact lv_fstore_n hx hb heq rfl hl hk (mput_ls base b k (.float x) L).symm (fun ls' h' => kk ls' H locs h' hH hS)
      · cases h
    · cases h
  · rename_i off heq
    split at h
    · rename_i hk
      cases h
      exact lv_goto hx hb heq (by omega) (kk ls H locs hl hH hS)
    · cases h
  · cases h
end MR
