/-! what holds all along -/
def GS (s : Nat → Int32) : Prop := (0 ≤ (s 0).toInt ∧ (s 0).toInt ≤ 8) ∧ (1 ≤ (s 1).toInt ∧ (s 1).toInt ≤ 99) ∧ (smF (fun k => wpM s k) (s 0).toInt.toNat).toInt ≤ (s 1).toInt ∧ ∀ k : Nat, (k : Int) < (s 0).toInt → GP s (3 + 19 * k)
theorem GS.wp {s : Nat → Int32} (h : GS s) {k : Nat} (hk : k < (s 0).toInt.toNat) : 0 ≤ (wpM s k).toInt ∧ (wpM s k).toInt ≤ 144 := (h.2.2.2 k (by omega)).wp
theorem GS.row {s s' : Nat → Int32} (h : GS s) (g : ∀ j : Nat, j < 155 → s' j = s j) : GS s' := by
  have e0 := g 0 (by omega)
  have e1 := g 1 (by omega)
  obtain ⟨h0, h1, h2, h3⟩ := h
  refine ⟨by rw [e0]; exact h0, by rw [e1]; exact h1, ?_, fun k hk => ?_⟩
  · rw [e0, e1, smF_congr (g := fun k => wpM s k) (fun k hk => ?_)]
    · exact h2
    · have q := (h3 k (by omega)).1
      rw [show 3 + 19 * k + 1 = 4 + 19 * k by omega] at q
      exact wpM_row (by omega) (fun j hj => g _ (by omega))
  · rw [e0] at hk
    exact (h3 k hk).row (fun j hj => g _ (by omega))
def TXT (P : mP) : Prop := (fv P 289 1).toInt = (fv P 301 23).toInt ∧ ∀ j : Nat, (j : Int) < (fv P 301 23).toInt → fv P 290 j = fv P 314 j
def SIM (P : mP) : Prop := SN P (sr P) ∧ HR P ∧ SNAP P ∧ TXT P ∧ (fv P 79 3).toInt = 0 ∧ GS (sr P) ∧ (∀ i : Nat, i < 8 → (i : Int) < (fv P 301 4).toInt → GS (fun j => fv P 305 (155 * i + j))) ∧ ((fv P 301 8).toInt = 1 → GS (fun j => fv P 304 j))
theorem fv_out {P : mP} {a r j : Nat} (h : Typ P) (hr : rl a = r) (hn : r ≠ 99) (hj : (rsp r).2.1 ≤ j) : fv P a j = mint .null := by
  obtain ⟨vs, h1, h2, -⟩ := h.cell hr hn
  rw [fv_at h1 j, List.getD_eq_getElem?_getD, List.getElem?_eq_none (by omega)]
  rfl
theorem rl_cls {x : Nat} (hx : x < 301) : (rl x < 17 ∨ (31 ≤ rl x ∧ rl x ≤ 33)) := by
  have h : (List.range 301).all (fun x => decide (rl x < 17 ∨ (31 ≤ rl x ∧ rl x ≤ 33))) = true := by decide +kernel
  exact of_decide_eq_true (List.all_eq_true.mp h x (List.mem_range.mpr hx))
theorem rl_mod {x : Nat} (h1 : 301 ≤ x) (h2 : x < 315) : 17 ≤ rl x ∧ rl x < 31 := by
  have h : (List.range 315).all (fun x => decide (x < 301 ∨ (17 ≤ rl x ∧ rl x < 31))) = true := by decide +kernel
  exact (of_decide_eq_true (List.all_eq_true.mp h x (List.mem_range.mpr h2))).resolve_left (by omega)
theorem isO_len {r : Nat} (h : isO r = true) : (rsp r).2.1 ≤ 64 := by
  have h2 : [0, 1, 3, 6, 8, 10, 13, 17, 31, 33].all (fun r => decide ((rsp r).2.1 ≤ 64)) = true := by decide +kernel
  exact of_decide_eq_true (List.all_eq_true.mp h2 r (List.contains_iff_mem.mp h))
theorem ec_bnd {r j : Nat} (h : isO r = false ∨ j < 64) : 64 * r ≤ ec r j ∧ ec r j < 64 * r + 64 := by
  unfold ec
  rcases h with h | h
  · rw [h]
    exact ⟨Nat.le_refl _, by show 64 * r < _; omega⟩
  · cases isO r
    · exact ⟨Nat.le_refl _, by show 64 * r < _; omega⟩
    · exact ⟨by show 64 * r ≤ 64 * r + j; omega, by show 64 * r + j < _; omega⟩
theorem all_nc {W : List Nat} {p : Nat → Bool} {n : Nat} (h : W.all p = true) (hn : p n = false) : W.contains n = false := by
  cases e : W.contains n with
  | false => rfl
  | true =>
    have := List.all_eq_true.mp h n (List.contains_iff_mem.mp e)
    rw [hn] at this
    cases this
/-- the reference leaves the class's cells alone, the class the reference's -/
theorem KW.low {W : List Nat} {P Q : mP} (h : KW W P Q) (hT : Typ P) (hQ : Typ Q) (hw : W.all (fun c => decide (1088 ≤ c ∧ c < 1984)) = true) {x : Nat} (hx : x < 301) (j : Nat) : fv Q x j = fv P x j := by
  have hr := rl_cls hx
  by_cases hj : isO (rl x) = false ∨ j < 64
  · have b := ec_bnd (r := rl x) hj
    exact h.1 x j (all_nc hw (decide_eq_false (by omega)))
  · have h1 : isO (rl x) = true := by cases e : isO (rl x) with | true => rfl | false => exact absurd (Or.inl e) hj
    have h2 := isO_len h1
    rw [fv_out hT rfl (by omega) (by omega), fv_out hQ rfl (by omega) (by omega)]
theorem KW.high {W : List Nat} {P Q : mP} (h : KW W P Q) (hT : Typ P) (hQ : Typ Q) (hw : W.all (fun c => decide (c < 1088 ∨ 1984 ≤ c)) = true) {x : Nat} (h1 : 301 ≤ x) (h2 : x < 315) (j : Nat) : fv Q x j = fv P x j := by
  have hr := rl_mod h1 h2
  by_cases hj : isO (rl x) = false ∨ j < 64
  · have b := ec_bnd (r := rl x) hj
    exact h.1 x j (all_nc hw (decide_eq_false (by omega)))
  · have h1 : isO (rl x) = true := by cases e : isO (rl x) with | true => rfl | false => exact absurd (Or.inl e) hj
    have h2 := isO_len h1
    rw [fv_out hT rfl (by omega) (by omega), fv_out hQ rfl (by omega) (by omega)]
theorem KW.rvs {W : List Nat} {P Q : mP} (h : KW W P Q) (hw : W.contains 2048 = false) (k : Nat) : rv Q 2 k = rv P 2 k := h.2.2 hw k
/-- what an op did to the stage's own state: nothing, or a change -/
def OUTC (P P1 : mP) (s s' : Nat → Int32) (x : Int) : Prop := (-1003 ≤ x ∧ x ≤ -1001 ∧ NCH P P1 ∧ ∀ j : Nat, s' j = s j) ∨ (0 ≤ x ∧ PSH P P1 ∧ SN P1 s' ∧ GS s')
theorem PS.cls {P Q : mP} {b : Nat} {s : Nat → Int32} {o : Nat} (h : PS P b s o) (f : ∀ x j : Nat, b ≤ x → x < b + 3 → fv Q x j = fv P x j) : PS Q b s o := ⟨(f _ _ (by omega) (by omega)).trans h.1, (f _ _ (by omega) (by omega)).trans h.2.1, (f _ _ (by omega) (by omega)).trans h.2.2.1, fun j h1 h2 => (f _ _ (by omega) (by omega)).trans (h.2.2.2.1 j h1 h2), fun j h1 h2 => (f _ _ (by omega) (by omega)).trans (h.2.2.2.2 j h1 h2)⟩
theorem SN.cls {P Q : mP} {s s' : Nat → Int32} (h : SN P s) (hT : Typ P) (f : ∀ x j : Nat, 1 ≤ x → x < 27 → fv Q x j = fv P x j) (fr : ∀ k : Nat, rv Q 2 k = rv P 2 k) (g : ∀ j : Nat, s' j = s j) : SN Q s' := by
  have e : s' = s := funext g
  subst e
  refine ⟨(f _ _ (by omega) (by omega)).trans h.1, (f _ _ (by omega) (by omega)).trans h.2.1, (f _ _ (by omega) (by omega)).trans h.2.2.1, fun k hk hz => ?_⟩
  rw [fr k]
  have r := (rv_np hT k hk).2
  exact (h.2.2.2 k hk hz).cls (fun x j h1 h2 => f _ _ (by omega) (by omega))
/-- an op on both sides keeps what holds all along -/
theorem SIM.fin {P P1 P2 : mP} {x y : Int} (hS : SIM P) (hT : Typ P) (hT1 : Typ P1) (kp : KPX P P1) (hh : ∀ a j : Nat, 301 ≤ a → a < 315 → fv P1 a j = fv P a j) (tp : TOPM P1 P2 y) (hl : ∀ a j : Nat, a < 301 → fv P2 a j = fv P1 a j) (hr : ∀ k : Nat, rv P2 2 k = rv P1 2 k) (e : x = y) (oc : OUTC P P1 (sr P) (sr P2) x) : SIM P2 := by
  obtain ⟨s1, s2, s3, s4, s5, s6, s7, s8⟩ := hS
  obtain ⟨t1, t2, t3, t4, t5⟩ := tp
  have g8 : fv P2 301 8 = fv P 301 8 := t1.trans (hh _ _ (by omega) (by omega))
  have g304 : ∀ j : Nat, fv P2 304 j = fv P 304 j := fun j => (t2 j).trans (hh _ _ (by omega) (by omega))
  have g314 : ∀ j : Nat, fv P2 314 j = fv P 314 j := fun j => (t3 j).trans (hh _ _ (by omega) (by omega))
  have g23 : fv P2 301 23 = fv P 301 23 := t4.trans (hh _ _ (by omega) (by omega))
  have k8 : fv P2 0 8 = fv P 0 8 := (hl _ _ (by omega)).trans kp.1
  have kx : ∀ a j : Nat, (27 ≤ a ∧ a < 79) ∨ a = 289 ∨ a = 290 → fv P2 a j = fv P a j := fun a j ha => (hl _ _ (by omega)).trans (kp.2 a j ha)
  have r3 : SNAP P2 := s3.same k8 g8 (fun a j h1 h2 => kx a j (by omega)) g304
  have r4 : TXT P2 := ⟨by rw [kx 289 1 (by omega), g23]; exact s4.1, fun j hj => by rw [g23] at hj; rw [kx 290 j (by omega), g314]; exact s4.2 j hj⟩
  have r8 : (fv P2 301 8).toInt = 1 → GS (fun j => fv P2 304 j) := fun h => by rw [g8] at h; exact (s8 h).row (fun j _ => g304 j)
  rcases oc with ⟨o1, o2, ⟨o3, o3r⟩, o4⟩ | ⟨o1, o2, o3, o4⟩
  · rcases t5 with ⟨u1, u2, u3, u4⟩ | ⟨u1, _⟩
    · have g4 : fv P2 301 4 = fv P 301 4 := u3.trans (hh _ _ (by omega) (by omega))
      have g305 : ∀ j : Nat, fv P2 305 j = fv P 305 j := fun j => (u4 j).trans (hh _ _ (by omega) (by omega))
      have cl : ∀ a j : Nat, 1 ≤ a → a < 289 → fv P2 a j = fv P a j := fun a j h1 h2 => (hl _ _ (by omega)).trans (o3 a j h1 (by omega))
      exact ⟨s1.cls hT (fun a j h1 h2 => cl a j h1 (by omega)) (fun k => (hr k).trans (o3r k)) o4, s2.same (fun a j h1 h2 => cl a j (by omega) h2) g4 g305, r3, r4, by rw [cl 79 3 (by omega) (by omega)]; exact s5, s6.row (fun j _ => o4 j), fun i hi hz => by rw [g4] at hz; exact (s7 i hi hz).row (fun j _ => g305 _), r8⟩
    · omega
  · rcases t5 with ⟨u1, u2, _⟩ | ⟨_, u2, u3⟩
    · omega
    · have e4 : fv P1 301 4 = fv P 301 4 := hh _ _ (by omega) (by omega)
      have e302 : ∀ j : Nat, fv P1 302 j = fv P 302 j := fun j => hh _ _ (by omega) (by omega)
      have e305 : ∀ j : Nat, fv P1 305 j = fv P 305 j := fun j => hh _ _ (by omega) (by omega)
      rw [e4] at u2
      have u3' : ∀ c j : Nat, c < 8 → j < 155 → fv P2 305 (155 * c + j) = if (fv P 301 4).toInt.toNat = 8 then (if c < 7 then fv P 305 (155 * (c + 1) + j) else fv P 302 j) else (if c = (fv P 301 4).toInt.toNat then fv P 302 j else fv P 305 (155 * c + j)) := by
        intro c j hc hj
        rw [u3 c j hc hj, e4, e302, e305, e305]
      obtain ⟨p0, p1 | ⟨p1, p2, p3, p4, p5⟩⟩ := o2
      · omega
      · have b1 := Typ.rng (lo := 0) (hi := 7) hT rl_79 (by decide) (k := 1) (by decide) rfl
        have b2 := Typ.rng (lo := 0) (hi := 8) hT rl_301 (by decide) (k := 4) (by decide) rfl
        refine ⟨o3.cls hT1 (fun a j h1 h2 => hl _ _ (by omega)) hr (fun _ => rfl), ?_, r3, r4, by rw [hl 79 3 (by omega), p0]; exact s5, o4, ?_, r8⟩
        · refine s2.push s1 b1 b2 (by rw [hl 79 1 (by omega)]; exact p2) (by rw [hl 79 2 (by omega)]; exact p3) u2 ?_ (fun a j h1 h2 h3 => (hl _ _ (by omega)).trans (p5 a j h1 h2 h3)) u3'
          exact ⟨(hl _ _ (by omega)).trans p4.1, (hl _ _ (by omega)).trans p4.2.1, (hl _ _ (by omega)).trans p4.2.2.1, fun k hk hz => by
            have q := p4.2.2.2 k hk hz
            exact ⟨(hl _ _ (by omega)).trans q.1, (hl _ _ (by omega)).trans q.2.1, (hl _ _ (by omega)).trans q.2.2.1, fun j hj => (hl _ _ (by omega)).trans (q.2.2.2.1 j hj), fun j hj => (hl _ _ (by omega)).trans (q.2.2.2.2 j hj)⟩⟩
        · intro i hi hz
          by_cases h8 : (fv P 301 4).toInt = 8
          · by_cases h7 : i < 7
            · exact (s7 (i + 1) (by omega) (by omega)).row (fun j hj => by rw [u3' i j hi hj, if_pos (by omega), if_pos h7])
            · exact s6.row (fun j hj => by rw [u3' i j hi hj, if_pos (by omega), if_neg h7])
          · by_cases h7 : i = (fv P 301 4).toInt.toNat
            · exact s6.row (fun j hj => by rw [u3' i j hi hj, if_neg (by omega), if_pos h7])
            · exact (s7 i hi (by omega)).row (fun j hj => by rw [u3' i j hi hj, if_neg (by omega), if_neg h7])
