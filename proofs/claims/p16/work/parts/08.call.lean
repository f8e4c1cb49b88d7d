/-! M: calls -/
abbrev mQ : Type := MethodName × ByteArray × Nat × Option FieldType × Nat × Nat × Nat × Nat
def mws (q : mQ) : List Cond := .code q.1 q.2.1 q.2.2.1 q.2.2.2.1 :: lw_good
def mrm (d : Nat) (q : mQ) : Room := { frames := d, cells := q.2.2.2.2.2.2.1, slots := q.2.2.2.2.2.2.2, locals := 40 * d }
def mPc (ca dC : Nat → ClassId) (dI : Nat → Nat → Nat) (base b : Nat) (As : List Value) (P : mP) : Array Value → State → Prop := va_Pc (As.map (msh base b)) (fun U => mU ca dC dI U ∧ mH ca dC dI base b P U.heap)
def mQc (ca dC : Nat → ClassId) (dI : Nat → Nat → Nat) (base b : Nat) (r : Option Value) (P' : mP) : Array Value → State → Outcome → State → Prop := fun _ st oc t => (oc = .returned (r.map (msh base b)) ∧ mH ca dC dI base b P' t.heap) ∧ va_F (fun x => base ≤ x) st t
/-- the contract of a method for one run of M: from a heap that holds P with the arguments As it ends with r, the heap holds P' -/
def mMet (d k : Nat) (As : List Value) (P : mP) (r : Option Value) (P' : mP) : Prop := ∀ q : mQ, mtL[k]? = some q → ∀ (l : Launch) (ca dC : Nat → ClassId) (dI : Nat → Nat → Nat) (base b : Nat), Met l q.1 (mws q) (mrm d q) (mPc ca dC dI base b As P) (mQc ca dC dI base b r P') q.2.2.2.2.2.2.1 q.2.2.2.2.2.2.2 (fun x => base ≤ x)
theorem mPc_blind (ca dC : Nat → ClassId) (dI : Nat → Nat → Nat) (base b : Nat) (As : List Value) (P : mP) : FrameBlind (mPc ca dC dI base b As P) := fun a U g mk h => by
  obtain ⟨h1, h2, h3⟩ := h
  exact ⟨h1, mU_same (s := U) (U := U.calling g mk a) rfl h2, h3⟩
theorem mtL_mem {k : Nat} {q : mQ} (h : mtL[k]? = some q) : mfact q := mtL_ok q (List.mem_of_getElem? h)
section MR
variable {p : Program} {l : Launch} {e : Env} {R : Room} {s : State} {m : MethodId} {args : Array Value} {below : List Frame} {meth : Method} {c : Code} {Q : State → Prop}
variable {cc : ByteArray} {nL o base b : Nat} {ini : Bool} {ca dC : Nat → ClassId} {dI : Nat → Nat → Nat} {pc : Nat} {L : List (Nat × Value)} {rest : List Value} {P : mP} {cz sz : Nat}
theorem mr_run {H : Heap} {locs : List Loc} {mc ms : Nat} {ls : Array Slot} {st0 : List Value} {r : Option Value} {P' : mP} {aa : Array Value} (hr : va_Run p l e R s m args below meth c H locs cz sz mc ms (F0 m pc ls st0) (rest.map (msh base b)) (mQc ca dC dI base b r P' aa) (fun x => base ≤ x)) (hS : va_S (fun x => base ≤ x) s.heap H locs)
    (kk : ∀ (H1 : Heap) (locs1 : List Loc), mH ca dC dI base b P' H1 → va_S (fun x => base ≤ x) s.heap H1 locs1 → W p l e R s m args below meth c H1 locs1 (cz + mc) (sz + ms) Q (F0 m (pc + 3) ls ((r.toList ++ rest).map (msh base b)))) : W p l e R s m args below meth c H locs cz sz Q (F0 m pc ls st0) := by
  intro T hT X
  obtain ⟨v, st₀, t, T', Lc, h0, X', hL, e1, e2, ⟨⟨hv, hp⟩, hz, hk⟩, st⟩ := hr T hT X
  cases hv
  rw [h0] at hz hk
  have hS' : va_S (fun x => base ≤ x) s.heap T'.heap (locs ++ Lc) := ⟨Nat.le_trans hS.1 (by rw [e1]; exact hz), fun q h1 h2 => by rw [e1, hk q (Nat.lt_of_lt_of_le h1 hS.1) h2]; exact hS.2.1 q h1 h2, fun q hq => (List.mem_append.mp hq).elim (hS.2.2 q) (hL q)⟩
  obtain ⟨t2, a1, b1⟩ := kk T'.heap (locs ++ Lc) (by rw [e1]; exact hp) hS' T' rfl X'
  refine ⟨t2, st t2 ?_, b1⟩
  have hh : (r.toList ++ rest).map (msh base b) = (r.map (msh base b)).toList ++ rest.map (msh base b) := by cases r <;> rfl
  rw [hh] at a1
  exact a1
set_option maxHeartbeats 4000000 in
/-- a call on an object, or a static one: kinds 0 to 5 -/
theorem mr_call (X : mX p s m args meth c cc nL o ini ca dC dI base) {i kd k d : Nat} {q : mQ} {As : List Value} {r : Option Value} {P' : mP} (hc : mcal o i = some (kd, k)) (hq : mtL[k]? = some q) (hcon : mMet d k As P r P') (hRf : d + 1 ≤ R.frames) (hRl : 39 + 40 * d ≤ R.locals) (hcells : cz + q.2.2.2.2.2.2.1 ≤ R.cells) (hslots : sz + q.2.2.2.2.2.2.2 ≤ R.slots) (hcat : (rest.map mcat).sum ≤ 8)
    (hk : (kd < 2 ∧ (∃ (a : Nat) (As' vs : List Value), As = .ref a :: As' ∧ As'.length = q.2.2.2.2.1 ∧ q.2.2.2.2.2.1 < 8 ∧ P[a]? = some (q.2.2.2.2.2.1, vs)) ∧ decode cc pc = .ok (.invokevirtual i, 3)) ∨ ((kd = 2 ∨ kd = 3) ∧ As.length = q.2.2.2.2.1 ∧ decode cc pc = .ok (.invokestatic i, 3)) ∨ ((kd = 4 ∨ kd = 5) ∧ q.2.2.2.1 = none ∧ (∃ (a : Nat) (As' : List Value), As = .ref a :: As' ∧ As'.length = q.2.2.2.2.1) ∧ decode cc pc = .ok (.invokespecial i, 3)))
    (kk : MW p l e R s m args below meth c nL ca dC dI base b Q (pc + 3) L (r.toList ++ rest) P' (cz + q.2.2.2.2.2.2.1) (sz + q.2.2.2.2.2.2.2)) : MW p l e R s m args below meth c nL ca dC dI base b Q pc L (As.reverse ++ rest) P cz sz := by
  obtain ⟨hx, hb, hml, hown, hts, hU, -, -⟩ := X
  have hf := mcal_ok hc
  have hmq := mtL_mem hq
  have hcon := hcon q hq l ca dC dI base b
  obtain ⟨y, bytes, maxL, ret, n, o', mc, ms⟩ := q
  obtain ⟨hpl, hcode, hinit, hcls, hml20, hn, hy1, hy2⟩ := hmq
  dsimp only at hcells hslots hk kk hcon
  have hkd : kd < 6 := by rcases hk with ⟨h, -⟩ | ⟨h | h, -⟩ | ⟨h | h, -⟩ <;> omega
  obtain ⟨q2, hq2, hlink, hv01, hst, hi45, -⟩ : ∃ q, mtL[k]? = some q ∧ mlink o i q.1 (kd % 2 == 1) ∧ (kd < 2 → Cond.instanceMethod q.1 ∈ lw_good ∧ Cond.selects q.1.cls q.1 q.1 ∈ lw_good) ∧ (kd = 2 ∨ kd = 3 → Cond.static q.1 ∈ lw_good) ∧ (kd = 4 ∨ kd = 5 → Cond.instanceMethod q.1 ∈ lw_good ∧ q.1.name = "<init>") ∧ kd < 6 := by
    match kd, hkd, hf with
    | 0, _, hf => exact hf
    | 1, _, hf => exact hf
    | 2, _, hf => exact hf
    | 3, _, hf => exact hf
    | 4, _, hf => exact hf
    | 5, _, hf => exact hf
  have hq3 := Option.some.inj (hq.symm.trans hq2)
  subst hq3
  dsimp only at hlink hv01 hst hi45
  have hsum : ((rest.map (msh base b)).map fun v => v.category).sum ≤ 8 := by
    rw [List.map_map]
    have : ((fun v : Value => v.category) ∘ msh base b) = mcat := funext fun v => msh_cat base b v
    rw [this]
    exact hcat
  have hGw : GoodIn lw_good (mws (y, bytes, maxL, ret, n, o', mc, ms)) := mgoodIn (fun w hw => (List.mem_cons.mp hw).elim (fun h => h ▸ hcode) id)
  have hR : d + 1 ≤ R.frames ∧ 8 + (maxL + 11) + 40 * d ≤ R.locals := ⟨hRf, by omega⟩
  intro ls H locs hl hH hS
  have hpre : ∀ U : State, U.heap = H → s.WarmedH U.vm → mPc ca dC dI base b As P (As.map (msh base b)).toArray U := fun U hU1 hW => ⟨rfl, mU_warm hW hU, by rw [hU1]; exact hH⟩
  have hKK : ∀ (H1 : Heap) (locs1 : List Loc), mH ca dC dI base b P' H1 → va_S (fun x => base ≤ x) s.heap H1 locs1 → W p l e R s m args below meth c H1 locs1 (cz + mc) (sz + ms) Q (F0 m (pc + 3) ls ((r.toList ++ rest).map (msh base b))) := fun H1 locs1 h1 h2 => kk ls H1 locs1 hl h1 h2
  have S0 : CallFix p m c cc nL s args lw_good (cN o) := ⟨hx, hb, hml, hown, hts⟩
  have hrm : ∀ (j : Nat) (hj : (F0 m pc ls [] : JFrame).monitorRoom = j), True := fun _ _ => trivial
  rcases hk with ⟨hk0, ⟨a, As', vs, rfl, hlen, ho8, haP⟩, hdg⟩ | ⟨hk0, hlen, hdg⟩ | ⟨hk0, hret, ⟨a, As', rfl, hlen⟩, hdg⟩
  · obtain ⟨hin, hsel⟩ := hv01 hk0
    obtain ⟨hco, -, -, -, -, -, -⟩ := cl_ok o' ho8
    have he : (mW ca base b 0 P)[a]? = some (base + a, .inr (o', vs.map (msh base b))) := by rw [mW_at haP, mE_obj ho8]
    have hrecv := va_recv hU.1 hH.1 hco he
    dsimp only at hrecv
    rw [← hcls] at hrecv
    have hstack : ((Value.ref a :: As').reverse ++ rest).map (msh base b) = (As'.map (msh base b)).reverse ++ Value.ref (base + a) :: rest.map (msh base b) := by simp [msh]
    rw [hstack]
    match kd, hk0, hlink with
    | 0, _, hlink =>
      refine mr_run (P' := P') (r := r) (mc := mc) (ms := ms) (va_runV (As := As'.map (msh base b)) (rest := rest.map (msh base b)) S0 hcon (cwV n hts (mgoodIn fun w hw => ?_) rfl rfl rfl ⟨rfl, hy1, hy2, hn⟩ hR) ⟨mPc_blind ca dC dI base b _ P, hrecv, hpre⟩ rfl (by rw [List.length_map]; exact hlen) hl.1 rfl (lv_room hsum) hdg ⟨hcells, hslots⟩) hS hKK
      unfold wsV at hw
      rcases List.mem_append.mp hw with hw | hw
      · simp only [List.mem_cons, List.not_mem_nil, or_false] at hw
        rcases hw with rfl | rfl | rfl | rfl
        · exact hlink.2 rfl
        · exact hin
        · exact hsel
        · exact hinit
      · exact (hGw w hw).1
    | 1, _, hlink =>
      obtain ⟨host, hw⟩ := hlink.1 rfl
      exact mr_run (P' := P') (r := r) (mc := mc) (ms := ms) (va_runVN (As := As'.map (msh base b)) (rest := rest.map (msh base b)) S0 hcon ⟨va_cnB n hts hGw rfl rfl rfl (hU.2.1 _ hw) (hts _ hinit) ⟨hy1, hy2, hn⟩ hR, hts _ hin, hts _ hsel⟩ ⟨mPc_blind ca dC dI base b _ P, hrecv, hpre⟩ rfl (by rw [List.length_map]; exact hlen) hl.1 rfl (lv_room hsum) hdg ⟨hcells, hslots⟩) hS hKK
    | kd + 2, h, _ => exact absurd h (by omega)
  · have hstat := hst hk0
    have hstack : (As.reverse ++ rest).map (msh base b) = (As.map (msh base b)).reverse ++ rest.map (msh base b) := by simp
    rw [hstack]
    rcases hk0 with rfl | rfl
    · refine mr_run (P' := P') (r := r) (mc := mc) (ms := ms) (va_runS (As := As.map (msh base b)) (rest := rest.map (msh base b)) S0 hcon (va_cwS n hts (mgoodIn fun w hw => ?_) rfl rfl rfl ⟨hy1, hy2, hn⟩ hR) ⟨mPc_blind ca dC dI base b _ P, hpre⟩ rfl (by rw [List.length_map]; exact hlen) hl.1 rfl (lv_room hsum) hdg ⟨hcells, hslots⟩) hS hKK
      unfold va_wsS at hw
      rcases List.mem_append.mp hw with hw | hw
      · simp only [List.mem_cons, List.not_mem_nil, or_false] at hw
        rcases hw with rfl | rfl | rfl
        · exact hlink.2 rfl
        · exact hstat
        · exact hinit
      · exact (hGw w hw).1
    · obtain ⟨host, hw⟩ := hlink.1 rfl
      exact mr_run (P' := P') (r := r) (mc := mc) (ms := ms) (va_runSN (As := As.map (msh base b)) (rest := rest.map (msh base b)) S0 hcon ⟨va_cnB n hts hGw rfl rfl rfl (hU.2.1 _ hw) (hts _ hinit) ⟨hy1, hy2, hn⟩ hR, hts _ hstat, trivial⟩ ⟨mPc_blind ca dC dI base b _ P, hpre⟩ rfl (by rw [List.length_map]; exact hlen) hl.1 rfl (lv_room hsum) hdg ⟨hcells, hslots⟩) hS hKK
  · obtain ⟨hin, hnm⟩ := hi45 hk0
    subst hret
    have hstack : ((Value.ref a :: As').reverse ++ rest).map (msh base b) = (As'.map (msh base b)).reverse ++ Value.ref (base + a) :: rest.map (msh base b) := by simp [msh]
    rw [hstack]
    rcases hk0 with rfl | rfl
    · exact mr_run (P' := P') (r := r) (mc := mc) (ms := ms) (va_runI (As := As'.map (msh base b)) (rest := rest.map (msh base b)) S0 hcon (cwI n hts hGw rfl rfl rfl (hts _ hinit) (hts _ (hlink.2 rfl)) (hts _ hin) hnm ⟨hy1, hy2, hn⟩ hR) ⟨mPc_blind ca dC dI base b _ P, hpre⟩ rfl (by rw [List.length_map]; exact hlen) hl.1 rfl (lv_room hsum) hdg ⟨hcells, hslots⟩) hS hKK
    · obtain ⟨host, hw⟩ := hlink.1 rfl
      exact mr_run (P' := P') (r := r) (mc := mc) (ms := ms) (va_runIN (As := As'.map (msh base b)) (rest := rest.map (msh base b)) S0 hcon ⟨va_cnB n hts hGw rfl rfl rfl (hU.2.1 _ hw) (hts _ hinit) ⟨hy1, hy2, hn⟩ hR, hnm, hts _ hin⟩ ⟨mPc_blind ca dC dI base b _ P, hpre⟩ rfl (by rw [List.length_map]; exact hlen) hl.1 rfl (lv_room hsum) hdg ⟨hcells, hslots⟩) hS hKK
theorem mr_obj (X : mX p s m args meth c cc nL o ini ca dC dI base) {i k a : Nat} (hc : mcal o i = some (6, k)) (hRf : 1 ≤ R.frames) (hRl : 39 ≤ R.locals) (hcat : (rest.map mcat).sum ≤ 8) (hdg : decode cc pc = .ok (.invokespecial i, 3)) (kk : MW p l e R s m args below meth c nL ca dC dI base b Q (pc + 3) L rest P cz sz) : MW p l e R s m args below meth c nL ca dC dI base b Q pc L (.ref a :: rest) P cz sz := by
  obtain ⟨hx, hb, hml, hown, hts, hU, -, -⟩ := X
  have hf : Cond.methodLink (cN o) i objectInit ∈ lw_good := mcal_ok hc
  have hsum : ((rest.map (msh base b)).map fun v => v.category).sum ≤ 8 := by
    rw [List.map_map]
    have : ((fun v : Value => v.category) ∘ msh base b) = mcat := funext fun v => msh_cat base b v
    rw [this]
    exact hcat
  intro ls H locs hl hH hS
  refine W.objInit hx hb hown (hts _ hf) (hts _ mobj.1) (hts _ mobj.2) rfl (by rw [hml]; exact hl.1) rfl hdg hRf ?_ (kk ls H locs hl hH hS)
  show 2 * 0 + _ + 12 ≤ _
  omega
theorem mr_math (X : mX p s m args meth c cc nL o ini ca dC dI base) {i k kd : Nat} {x y : Int32} (hc : mcal o i = some (kd, k)) (hkd : kd = 7 ∨ kd = 8) (hRf : 1 ≤ R.frames) (hRl : 39 ≤ R.locals) (hcz : cz ≤ R.cells) (hsz : sz ≤ R.slots) (hcat : (rest.map mcat).sum ≤ 8) (hdg : decode cc pc = .ok (.invokestatic i, 3)) (kk : MW p l e R s m args below meth c nL ca dC dI base b Q (pc + 3) L (.int (if kd = 7 then (if x < y then y else x) else (if y < x then y else x)) :: rest) P cz sz) : MW p l e R s m args below meth c nL ca dC dI base b Q pc L (.int y :: .int x :: rest) P cz sz := by
  obtain ⟨hx, hb, hml, hown, hts, hU, -, -⟩ := X
  have hf := mcal_ok hc
  have hsum : ((rest.map (msh base b)).map fun v => v.category).sum ≤ 8 := by
    rw [List.map_map]
    have : ((fun v : Value => v.category) ∘ msh base b) = mcat := funext fun v => msh_cat base b v
    rw [this]
    exact hcat
  intro ls H locs hl hH hS
  have kk := kk ls H locs hl hH hS
  rcases hkd with rfl | rfl
  · exact va_mmax hx hb (hml.trans hl.1.symm) hown (hts _ hf) (hts _ mmath_max.1) (hts _ mmath_max.2.1) (hts _ mmath_max.2.2) hRf (by omega) hcz hsz hdg kk
  · exact va_mmin hx hb (hml.trans hl.1.symm) hown (hts _ hf) (hts _ mmath_min.1) (hts _ mmath_min.2.1) (hts _ mmath_min.2.2) hRf (by omega) hcz hsz hdg kk
theorem mr_nat (X : mX p s m args meth c cc nL o ini ca dC dI base) {i k : Nat} {x : UInt32} (hc : mcal o i = some (10, k)) (hRf : 1 ≤ R.frames) (hRl : 39 ≤ R.locals) (hcat : (rest.map mcat).sum ≤ 8) (hdg : decode cc pc = .ok (.invokestatic i, 3)) (kk : MW p l e R s m args below meth c nL ca dC dI base b Q (pc + 3) L (.int x.toInt32 :: rest) P cz sz) : MW p l e R s m args below meth c nL ca dC dI base b Q pc L (.float x :: rest) P cz sz := by
  obtain ⟨hx, hb, hml, hown, hts, hU, -, -⟩ := X
  have hf := mcal_ok hc
  have hsum : ((rest.map (msh base b)).map fun v => v.category).sum ≤ 8 := by
    rw [List.map_map]
    have : ((fun v : Value => v.category) ∘ msh base b) = mcat := funext fun v => msh_cat base b v
    rw [this]
    exact hcat
  intro ls H locs hl hH hS
  exact vn_f2i hx hb (hml.trans hl.1.symm) hown (hts _ hf) (hts _ mnat.1) (hts _ mnat.2.1) (hts _ mnat.2.2) hRf (by omega) hdg (kk ls H locs hl hH hS)
theorem lv_ldcwf {ls : Array Slot} {H : Heap} {locs : List Loc} {st0 : List Value} (hexec : p.tables.exec = Jvm.exec) (hb : c.code = cc) {own : String} {index : Nat} {v : UInt32} (hown : s.vm.findClass own = some m.cls) (hconst : (Jvm.Cond.constantFloat own index v).before args s = true) (hdg : decode cc pc = .ok (.ldc_w index, 3)) (k : W p l e R s m args below meth c H locs cz sz Q (F0 m (pc + 3) ls (.float v :: st0))) : W p l e R s m args below meth c H locs cz sz Q (F0 m pc ls st0) := by
  intro T hT X
  obtain ⟨t, a, b⟩ := k T hT X
  refine ⟨t, ?_, b⟩
  obtain ⟨k, cf, hk, hcf, hcp⟩ := Cond.constantFloat_spec hown hconst
  obtain ⟨k', hk', he⟩ := X.warmed.alike.2.2 _ _ hk
  jvm_step X.here [X.here.top, hexec, hb, hdg, ldc_w.wp_float (s := T) (f := F0 m pc ls st0) X.here.top hk' (by rw [he]; exact hcf) hcp]
  exact a
theorem mr_abs (X : mX p s m args meth c cc nL o ini ca dC dI base) {i k : Nat} {x : Int32} (hc : mcal o i = some (9, k)) (hRf : 1 ≤ R.frames) (hRl : 39 ≤ R.locals) (hcz : cz ≤ R.cells) (hsz : sz ≤ R.slots) (hcat : (rest.map mcat).sum ≤ 8) (hdg : decode cc pc = .ok (.invokestatic i, 3)) (kk : MW p l e R s m args below meth c nL ca dC dI base b Q (pc + 3) L (.int (if 0 ≤ x then x else 0 - x) :: rest) P cz sz) : MW p l e R s m args below meth c nL ca dC dI base b Q pc L (.int x :: rest) P cz sz := by
  obtain ⟨hx, hb, hml, hown, hts, hU, -, -⟩ := X
  have hf := mcal_ok hc
  have hsum : ((rest.map (msh base b)).map fun v => v.category).sum ≤ 8 := by
    rw [List.map_map]
    have : ((fun v : Value => v.category) ∘ msh base b) = mcat := funext fun v => msh_cat base b v
    rw [this]
    exact hcat
  intro ls H locs hl hH hS
  exact va_mabs hx hb (hml.trans hl.1.symm) hown (hts _ hf) (hts _ mmath_abs.1) (hts _ mmath_abs.2.1) (hts _ mmath_abs.2.2) hRf (by omega) hcz hsz hdg (kk ls H locs hl hH hS)
end MR
