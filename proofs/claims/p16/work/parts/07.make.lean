/-! M: new cells; what moves from a state to a callee's -/
def mdef : Nat → List Value
  | 0 => [.null, .int 0, .int 0, .int 0]
  | 1 => [.int 0, .null, .null, .null]
  | 2 => [.int 0, .int 0, .int 0, .null, .null]
  | 3 => [.int 0, .int 0, .null, .null]
  | 4 => [.null, .int 0, .int 0, .int 0, .int 0, .int 0, .int 0, .int 0]
  | 5 => [.null, .int 0, .int 0, .int 0]
  | 6 => [.null, .null, .null, .null, .null, .null, .null, .null, .int 0, .int 0, .int 0, .int 0, .int 0]
  | _ => [.null, .null, .null, .null, .int 0, .int 0, .int 0, .int 0, .int 0, .null, .null, .null, .null, .int 0, .int 0, .null, .null, .null, .null, .int 0, .int 0, .int 0, .null, .int 0, .int 0, .int 0, .int 0, .int 0, .int 0, .int 0]
theorem mdef_sh (base b ci : Nat) (h : ci < 8) : (mdef ci).map (msh base b) = mdef ci := match ci, h with
  | 0, _ => rfl
  | 1, _ => rfl
  | 2, _ => rfl
  | 3, _ => rfl
  | 4, _ => rfl
  | 5, _ => rfl
  | 6, _ => rfl
  | 7, _ => rfl
  | k + 8, h => absurd h (by omega)
set_option maxRecDepth 20000 in
theorem mdef_ok (ci : Nat) (h : ci < 8) : ∀ j, j < cS ci → defaultValue (cY ci j) = vp_V (mdef ci) j := match ci, h with
  | 0, _ => by decide +kernel
  | 1, _ => by decide +kernel
  | 2, _ => by decide +kernel
  | 3, _ => by decide +kernel
  | 4, _ => by decide +kernel
  | 5, _ => by decide +kernel
  | 6, _ => by decide +kernel
  | 7, _ => by decide +kernel
  | k + 8, h => absurd h (by omega)
theorem mnest_warm {w : Cond} (hw : mNest w = true) {s U : State} (hW : s.WarmedH U.vm) (h : va_Nw w s) : va_Nw w U := by
  unfold mNest at hw
  split at hw
  · exact va_Nw.warmM hW h
  · exact va_Nw.warmF hW h
  · cases hw
theorem mnest_same {w : Cond} (hw : mNest w = true) {u U : State} (hv : u.vm = U.vm) (h : va_Nw w u) : va_Nw w U := by
  unfold mNest at hw
  split at hw
  · exact va_Nw.same rfl hv h
  · exact va_Nw.same rfl hv h
  · cases hw
theorem mU_warm {ca dC : Nat → ClassId} {dI : Nat → Nat → Nat} {s U : State} (hW : s.WarmedH U.vm) (h : mU ca dC dI s) : mU ca dC dI U :=
  ⟨va_K.moved hW.alike h.1, fun w hw => mnest_warm (List.mem_filter.mp hw).2 hW (h.2.1 w hw), h.2.2.1.moved hW.alike, h.2.2.2.moved hW.alike⟩
theorem mU_same {ca dC : Nat → ClassId} {dI : Nat → Nat → Nat} {s U : State} (hv : s.vm = U.vm) (h : mU ca dC dI s) : mU ca dC dI U :=
  have ha : s.vm.Alike U.vm := hv ▸ Vm.Alike.refl s.vm
  ⟨va_K.moved ha h.1, fun w hw => mnest_same (List.mem_filter.mp hw).2 hv (h.2.1 w hw), h.2.2.1.moved ha, h.2.2.2.moved ha⟩
theorem mgoodIn {ws : List Cond} (h : ∀ w ∈ ws, w ∈ lw_good) : GoodIn lw_good ws := fun w hw => ⟨h w hw, good_of_word (List.mem_filter.mp (h w hw)).2⟩
section MR
variable {p : Program} {l : Launch} {e : Env} {R : Room} {s : State} {m : MethodId} {args : Array Value} {below : List Frame} {meth : Method} {c : Code} {Q : State → Prop}
variable {cc : ByteArray} {nL o base b : Nat} {ini : Bool} {ca dC : Nat → ClassId} {dI : Nat → Nat → Nat} {pc : Nat} {L : List (Nat × Value)} {r : List Value} {P : mP} {cz sz : Nat}
theorem mr_new (X : mX p s m args meth c cc nL o ini ca dC dI base) {i ci : Nat} (hc0 : mcls o i = some ci) (hcells : cz + 1 ≤ R.cells) (hslots : sz + cS ci ≤ R.slots) (hdg : decode cc pc = .ok (.new i, 3)) (kk : MW p l e R s m args below meth c nL ca dC dI base b Q (pc + 3) L (.ref P.length :: r) (P ++ [(ci, mdef ci)]) (cz + 1) (sz + cS ci)) : MW p l e R s m args below meth c nL ca dC dI base b Q pc L r P cz sz := by
  obtain ⟨hx, hb, -, hown, hts, ⟨hK, -, -, -⟩, -, -⟩ := X
  obtain ⟨hci, hcw⟩ := mcls_ok hc0
  obtain ⟨hc, hlay, hty, -, hinst, hinit, -⟩ := cl_ok ci hci
  intro ls H locs hl hH hS
  have hKn := hK.1 ci _ hc
  refine W.newcK hx hb hown (hts _ hcw) (hts _ hinst) (hts _ hinit) rfl hdg hcells hslots hKn.2.1 hH.2 fun H1 kC hkC e1 z1 o1 => ?_
  have hat : va_at (dC, dI) vwCl (base + P.length, mE ca base b (ci, mdef ci)) H1 := by
    rw [mE_obj hci, mdef_sh base b ci hci]
    exact ⟨_, hc, (u_born (cY ci) hts hlay hKn hkC e1 hty).to (mdef_ok ci hci)⟩
  obtain ⟨hH', hS'⟩ := mH_app hH hS hat (by rw [z1, hH.2]) (fun x hx => o1 x (by rw [← hH.2]; exact hx))
  exact kk ls H1 locs hl hH' hS'
theorem mrep_int (N : Nat) : (fun j => Value.int (mint ((List.replicate N (Value.int 0)).getD j .null))) = fun _ => Value.int 0 := by
  funext j
  by_cases h : j < N
  · simp [List.getD, h, mint]
  · simp [List.getD, h, mint]
theorem mrep_ref (base N : Nat) : (fun j => va_rf (mref base ((List.replicate N Value.null).getD j .null))) = fun _ => Value.null := by
  funext j
  by_cases h : j < N
  · simp [List.getD, h, mref, va_rf]
  · simp [List.getD, h, mref, va_rf]
theorem marr_word : Cond.arrayClass .int ∈ lw_good ∧ Cond.arrayClass .boolean ∈ lw_good := ⟨by decide +kernel, by decide +kernel⟩
theorem mr_newi (X : mX p s m args meth c cc nL o ini ca dC dI base) {n : Int32} (hn : ¬ n < 0) (hN : n.toNatClampNeg ≤ 100000) (hcells : cz + 1 ≤ R.cells) (hslots : sz + n.toNatClampNeg ≤ R.slots) (hdg : decode cc pc = .ok (.newarray .int, 2)) (kk : MW p l e R s m args below meth c nL ca dC dI base b Q (pc + 2) L (.ref P.length :: r) (P ++ [(8, List.replicate n.toNatClampNeg (.int 0))]) (cz + 1) (sz + n.toNatClampNeg)) : MW p l e R s m args below meth c nL ca dC dI base b Q pc L (.int n :: r) P cz sz := by
  obtain ⟨hx, hb, -, hown, hts, ⟨hK, -, -, -⟩, -, -⟩ := X
  intro ls H locs hl hH hS
  have hby : n.toNatClampNeg * componentBytes (newarray.typeOf .int) ≤ 536870912 := by
    show n.toNatClampNeg * 4 ≤ 536870912
    omega
  refine va_newaK (atype := .int) hx hb (hts _ marr_word.1) rfl hdg rfl hn rfl hby hcells hslots hH.2 fun H1 cA e1 z1 o1 hAr hNm => ?_
  have hca : cA = ca 8 := Option.some.inj (hNm.symm.trans (hK.2 0 _ rfl).2)
  subst hca
  have hat : va_at (dC, dI) vwCl (base + P.length, mE ca base b (8, List.replicate n.toNatClampNeg (.int 0))) H1 := by
    rw [mE_int]
    show H1[base + P.length]? = some (vp_cell _ _)
    rw [e1, vp_cell_i, List.length_replicate]
    exact congrArg (fun f => some (arrV (ca 8) n.toNatClampNeg f)) (mrep_int _).symm
  obtain ⟨hH', hS'⟩ := mH_app hH hS hat (by rw [z1, hH.2]) (fun x hx => o1 x (by rw [← hH.2]; exact hx))
  exact kk ls H1 locs hl hH' hS'
theorem mr_newz (X : mX p s m args meth c cc nL o ini ca dC dI base) {n : Int32} (hn : ¬ n < 0) (hN : n.toNatClampNeg ≤ 100000) (hcells : cz + 1 ≤ R.cells) (hslots : sz + n.toNatClampNeg ≤ R.slots) (hdg : decode cc pc = .ok (.newarray .boolean, 2)) (kk : MW p l e R s m args below meth c nL ca dC dI base b Q (pc + 2) L (.ref P.length :: r) (P ++ [(9, List.replicate n.toNatClampNeg (.int 0))]) (cz + 1) (sz + n.toNatClampNeg)) : MW p l e R s m args below meth c nL ca dC dI base b Q pc L (.int n :: r) P cz sz := by
  obtain ⟨hx, hb, -, hown, hts, ⟨hK, -, -, -⟩, -, -⟩ := X
  intro ls H locs hl hH hS
  have hby : n.toNatClampNeg * componentBytes (newarray.typeOf .boolean) ≤ 536870912 := by
    show n.toNatClampNeg * 1 ≤ 536870912
    omega
  refine va_newaK (atype := .boolean) hx hb (hts _ marr_word.2) rfl hdg rfl hn rfl hby hcells hslots hH.2 fun H1 cA e1 z1 o1 hAr hNm => ?_
  have hca : cA = ca 9 := Option.some.inj (hNm.symm.trans (hK.2 1 _ rfl).2)
  subst hca
  have hat : va_at (dC, dI) vwCl (base + P.length, mE ca base b (9, List.replicate n.toNatClampNeg (.int 0))) H1 := by
    rw [mE_bool]
    show H1[base + P.length]? = some (vp_cell _ _)
    rw [e1, vp_cell_i, List.length_replicate]
    exact congrArg (fun f => some (arrV (ca 9) n.toNatClampNeg f)) (mrep_int _).symm
  obtain ⟨hH', hS'⟩ := mH_app hH hS hat (by rw [z1, hH.2]) (fun x hx => o1 x (by rw [← hH.2]; exact hx))
  exact kk ls H1 locs hl hH' hS'
theorem mr_anew (X : mX p s m args meth c cc nL o ini ca dC dI base) {i ci kd : Nat} (hkd : (kd = 10 ∧ ci = 2) ∨ (kd = 11 ∧ ci = 5)) (hc0 : mcls o i = some ci) {n : Int32} (hn : ¬ n < 0) (hN : n.toNatClampNeg ≤ 100000) (hcells : cz + 1 ≤ R.cells) (hslots : sz + n.toNatClampNeg ≤ R.slots) (hdg : decode cc pc = .ok (.anewarray i, 3)) (kk : MW p l e R s m args below meth c nL ca dC dI base b Q (pc + 3) L (.ref P.length :: r) (P ++ [(kd, List.replicate n.toNatClampNeg .null)]) (cz + 1) (sz + n.toNatClampNeg)) : MW p l e R s m args below meth c nL ca dC dI base b Q pc L (.int n :: r) P cz sz := by
  obtain ⟨hx, hb, -, hown, hts, ⟨hK, -, ho2, ho5⟩, -, -⟩ := X
  obtain ⟨hci, hcw⟩ := mcls_ok hc0
  intro ls H locs hl hH hS
  have hby : n.toNatClampNeg * 4 ≤ 536870912 := by omega
  have key : ∀ (t0 : Nat) (C : String), cN ci = C → va_AO C s → (mT ca)[t0]? = some (ca kd, .object C) → mE ca base b (kd, List.replicate n.toNatClampNeg .null) = .inl (ca kd, (List.replicate n.toNatClampNeg Value.null).length, .inr (.inr (.inr (.inr (fun j => mref base ((List.replicate n.toNatClampNeg Value.null).getD j .null)))))) → W p l e R s m args below meth c H locs cz sz Q (F0 m pc ls ((Value.int n :: r).map (msh base b))) := by
    intro t0 C hC hov ht hE
    subst hC
    refine W.anew hx hb hown (hts _ hcw) (va_AO.use hov) rfl hdg rfl hn hby hcells hslots fun cA kA comp f1 f2 f3 f4 => ?_
    generalize hH1 : H.push ({ cls := cA, slots := Array.replicate n.toNatClampNeg .null, vm := .none } : Cell) = H1
    have z1 : H1.size = H.size + 1 := by rw [← hH1, Array.size_push]
    have e1 : H1[H.size]? = some (arrV cA n.toNatClampNeg (fun _ => .null)) := by rw [← hH1, Array.getElem?_push_size, ← arrV_new]
    have o1 : ∀ q : Nat, q < H.size → H1[q]? = H[q]? := fun q hq => by rw [← hH1, Array.getElem?_push, if_neg (Nat.ne_of_lt hq)]
    obtain ⟨kA', comp', -, -, -, k4⟩ := (hK.2 t0 _ ht).2
    have hca : cA = ca kd := Option.some.inj (f1.symm.trans k4)
    subst hca
    have hat : va_at (dC, dI) vwCl (base + P.length, mE ca base b (kd, List.replicate n.toNatClampNeg .null)) H1 := by
      rw [hE]
      show H1[base + P.length]? = some (vp_cell _ _)
      rw [← hH.2, e1, vp_cell_q, List.length_replicate]
      exact congrArg (fun f => some (arrV (ca kd) n.toNatClampNeg f)) (mrep_ref base _).symm
    obtain ⟨hH', hS'⟩ := mH_app hH hS hat z1 o1
    have kk := kk ls H1 locs hl hH' hS'
    rw [List.map_cons, show msh base b (.ref P.length) = .ref H.size by rw [hH.2]; rfl] at kk
    exact kk
  rcases hkd with ⟨rfl, rfl⟩ | ⟨rfl, rfl⟩
  · exact key 2 RX2 rfl ho2 rfl mE_refP
  · exact key 3 RX5 rfl ho5 rfl mE_refS
end MR
