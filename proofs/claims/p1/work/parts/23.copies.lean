/-! copies of the reference -/
theorem dX7_copies_0 : decode cX7_copies 0 = .ok (.iconst 0, 1) := by decide +kernel
theorem dX7_copies_1 : decode cX7_copies 1 = .ok (.istore 4, 2) := by decide +kernel
theorem dX7_copies_3 : decode cX7_copies 3 = .ok (.iload 4, 2) := by decide +kernel
theorem dX7_copies_5 : decode cX7_copies 5 = .ok (.sipush 155, 3) := by decide +kernel
theorem dX7_copies_8 : decode cX7_copies 8 = .ok (.if_icmp .ge 21, 3) := by decide +kernel
theorem dX7_copies_11 : decode cX7_copies 11 = .ok (.aload_n 2, 1) := by decide +kernel
theorem dX7_copies_12 : decode cX7_copies 12 = .ok (.iload_n 3, 1) := by decide +kernel
theorem dX7_copies_13 : decode cX7_copies 13 = .ok (.iload 4, 2) := by decide +kernel
theorem dX7_copies_15 : decode cX7_copies 15 = .ok (.iadd, 1) := by decide +kernel
theorem dX7_copies_16 : decode cX7_copies 16 = .ok (.aload_n 0, 1) := by decide +kernel
theorem dX7_copies_17 : decode cX7_copies 17 = .ok (.iload_n 1, 1) := by decide +kernel
theorem dX7_copies_18 : decode cX7_copies 18 = .ok (.iload 4, 2) := by decide +kernel
theorem dX7_copies_20 : decode cX7_copies 20 = .ok (.iadd, 1) := by decide +kernel
theorem dX7_copies_21 : decode cX7_copies 21 = .ok (.iaload, 1) := by decide +kernel
theorem dX7_copies_22 : decode cX7_copies 22 = .ok (.iastore, 1) := by decide +kernel
theorem dX7_copies_23 : decode cX7_copies 23 = .ok (.iinc 4 1, 3) := by decide +kernel
theorem dX7_copies_26 : decode cX7_copies 26 = .ok (.goto (-23), 3) := by decide +kernel
theorem dX7_copies_29 : decode cX7_copies 29 = .ok (.return_, 1) := by decide +kernel
def q_125 : mQ := (yX7_copies, cX7_copies, 5, none, 4, 7, 0, 0)
theorem qm_125 : mtL[125]? = some q_125 := rfl
/-- what copies writes: k numbers of vs from i on, into ws from j on -/
def cpw (vs : List Value) (i j : Nat) (ws : List Value) : Nat → List Value
  | 0 => ws
  | k + 1 => (cpw vs i j ws k).set (j + k) (.int (mint (vs.getD (i + k) .null)))
theorem cpw_len (vs : List Value) (i j : Nat) (ws : List Value) : ∀ k, (cpw vs i j ws k).length = ws.length
  | 0 => rfl
  | k + 1 => by rw [cpw, List.length_set, cpw_len vs i j ws k]
theorem i_in {n N : Nat} (h : n < N) (hN : N < 2 ^ 31) : ¬ (nI n < 0 ∨ N ≤ (nI n).toNatClampNeg) := vp_in_nI h hN
set_option maxHeartbeats 4000000 in
theorem m_copies_loop {P : mP} {a b i j : Nat} {vs ws : List Value} (ha : P[a]? = some (8, vs)) (hb : P[b]? = some (8, ws)) (hab : a ≠ b) (hi : i + 155 ≤ vs.length) (hj : j + 155 ≤ ws.length) (hv : vs.length < 2 ^ 31) (hw : ws.length < 2 ^ 31) : ∀ n k : Nat, k + n = 155 → MEvP 0 none q_125 3 [(4, .int (nI k)), (0, .ref a), (1, .int (nI i)), (2, .ref b), (3, .int (nI j))] [] (P.set b (8, cpw vs i j ws k)) 0 0 (fun r P' => r = none ∧ P' = P.set b (8, cpw vs i j ws 155)) := by
  intro n
  induction n with
  | zero =>
    intro k hk
    have hk : k = 155 := by omega
    subst hk
    refine mp_a (a_iload dX7_copies_3 rfl) (mpp 5 rfl ?_)
    refine mp_a (a_sipush (v := 155) dX7_copies_5 rfl) (mpp 8 rfl ?_)
    refine mp_Tt (t := 29) (j_icmp_ge dX7_copies_8) (by decide) (by decide) ?_
    exact mp_ret ⟨rfl, rfl⟩ dX7_copies_29 rfl
  | succ n ih =>
    intro k hk
    have hc : ¬ (155 : Int32) ≤ nI k := by
      show ¬ nI 155 ≤ nI k
      rw [nI_leI (by omega) (by omega)]
      omega
    have h1 : (P.set b (8, cpw vs i j ws k))[a]? = some (8, vs) := mset_ne ha (Ne.symm hab)
    have h2 : (P.set b (8, cpw vs i j ws k))[b]? = some (8, cpw vs i j ws k) := mset_eq hb
    have hl := cpw_len vs i j ws k
    refine mp_a (a_iload dX7_copies_3 rfl) (mpp 5 rfl ?_)
    refine mp_a (a_sipush (v := 155) dX7_copies_5 rfl) (mpp 8 rfl ?_)
    refine mp_Tf (t := 29) (j_icmp_ge dX7_copies_8) hc (by decide) (mpp 11 rfl ?_)
    refine mp_a (a_aload_n dX7_copies_11 rfl) (mpp 12 rfl ?_)
    refine mp_a (a_iload_n dX7_copies_12 rfl) (mpp 13 rfl ?_)
    refine mp_a (a_iload dX7_copies_13 rfl) (mpp 15 rfl ?_)
    refine mp_t (s_iadd (v := nI (j + k)) dX7_copies_15 (nI_add j k)) (mpp 16 rfl ?_)
    refine mp_a (a_aload_n dX7_copies_16 rfl) (mpp 17 rfl ?_)
    refine mp_a (a_iload_n dX7_copies_17 rfl) (mpp 18 rfl ?_)
    refine mp_a (a_iload dX7_copies_18 rfl) (mpp 20 rfl ?_)
    refine mp_t (s_iadd (v := nI (i + k)) dX7_copies_20 (nI_add i k)) (mpp 21 rfl ?_)
    refine mp_ial (v := mint (vs.getD (i + k) .null)) dX7_copies_21 h1 rfl (i_in (by omega) hv) (by rw [nI_clamp (by omega)]) (mpp 22 rfl ?_)
    refine mp_ias dX7_copies_22 h2 hl (i_in (by omega) hw) (mpp 23 rfl ?_)
    have e : (P.set b (8, cpw vs i j ws k)).set b (8, (cpw vs i j ws k).set (nI (j + k)).toNatClampNeg (.int (mint (vs.getD (i + k) .null)))) = P.set b (8, cpw vs i j ws (k + 1)) := by rw [List.set_set, nI_clamp (by omega)]; rfl
    rw [e]
    refine mp_a (a_iinc (v := nI (k + 1)) (L' := [(4, .int (nI (k + 1))), (0, .ref a), (1, .int (nI i)), (2, .ref b), (3, .int (nI j))]) dX7_copies_23 (by decide) rfl (nI_1 k) rfl) (mpp 26 rfl ?_)
    refine mp_a (a_goto (t := 3) dX7_copies_26 (by decide)) ?_
    exact ih (k + 1) (by omega)
theorem m_copies {P : mP} {a b i j : Nat} {vs ws : List Value} (ha : P[a]? = some (8, vs)) (hb : P[b]? = some (8, ws)) (hab : a ≠ b) (hi : i + 155 ≤ vs.length) (hj : j + 155 ≤ ws.length) (hv : vs.length < 2 ^ 31) (hw : ws.length < 2 ^ 31) : EvP 1 125 [.ref a, .int (nI i), .ref b, .int (nI j)] P (fun r P' => r = none ∧ P' = P.set b (8, cpw vs i j ws 155)) := by
  refine EvP.of qm_125 (Nat.le_of_ble_eq_true rfl) rfl ?_
  show MEvP _ none q_125 0 [(0, .ref a), (1, .int (nI i)), (2, .ref b), (3, .int (nI j))] [] _ 0 0 _
  refine mp_a (a_iconst (v := 0) dX7_copies_0 rfl) (mpp 1 rfl ?_)
  refine mp_a (a_istore (L' := [(4, .int (nI 0)), (0, .ref a), (1, .int (nI i)), (2, .ref b), (3, .int (nI j))]) dX7_copies_1 (by decide) rfl) (mpp 3 rfl ?_)
  have e : P = P.set b (8, cpw vs i j ws 0) := by
    obtain ⟨hlt, hg⟩ := List.getElem?_eq_some_iff.mp hb
    show P = P.set b (8, ws)
    rw [← hg, List.set_getElem_self]
  rw [e]
  have h := m_copies_loop ha hb hab hi hj hv hw 155 0 rfl
  rw [← e] at h ⊢
  exact h
/-- the reference's part of a pool, was apart: that holds some numbers -/
def MODK (P : mP) : Prop := (∀ j : Nat, 301 ≤ j → j ≠ 303 → P[j]? = P0[j]?) ∧ ∃ w : List Value, P[303]? = some (8, w) ∧ w.length = 155
theorem MODK.of {P : mP} (h : MOD P) : MODK P := ⟨fun j hj _ => h j hj, _, h.f (by decide) p0_303, by rw [List.length_replicate]⟩
theorem MODK.f {P : mP} {j : Nat} {c : Option (Nat × List Value)} (h : MODK P) (hj : 301 ≤ j) (hn : j ≠ 303) (hc : P0[j]? = c) : P[j]? = c := (h.1 j hj hn).trans hc
