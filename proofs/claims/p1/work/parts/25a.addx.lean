theorem dX2_takeSizes_20 : decode cX2_takeSizes 20 = .ok (.iload 4, 2) := by decide +kernel
theorem dX2_takeSizes_22 : decode cX2_takeSizes 22 = .ok (.bipush 8, 2) := by decide +kernel
theorem dX2_takeSizes_24 : decode cX2_takeSizes 24 = .ok (.if_icmp .ge 28, 3) := by decide +kernel
theorem dX2_takeSizes_27 : decode cX2_takeSizes 27 = .ok (.iload_n 3, 1) := by decide +kernel
theorem dX2_takeSizes_28 : decode cX2_takeSizes 28 = .ok (.ifCond .le 24, 3) := by decide +kernel
theorem dX2_takeSizes_31 : decode cX2_takeSizes 31 = .ok (.iload_n 3, 1) := by decide +kernel
theorem dX2_takeSizes_32 : decode cX2_takeSizes 32 = .ok (.bipush 10, 2) := by decide +kernel
theorem dX2_takeSizes_34 : decode cX2_takeSizes 34 = .ok (.idiv, 1) := by decide +kernel
theorem dX2_takeSizes_35 : decode cX2_takeSizes 35 = .ok (.istore_n 3, 1) := by decide +kernel
theorem dX2_takeSizes_36 : decode cX2_takeSizes 36 = .ok (.aload_n 0, 1) := by decide +kernel
theorem dX2_takeSizes_37 : decode cX2_takeSizes 37 = .ok (.dup, 1) := by decide +kernel
theorem dX2_takeSizes_38 : decode cX2_takeSizes 38 = .ok (.getfield 26, 3) := by decide +kernel
theorem dX2_takeSizes_41 : decode cX2_takeSizes 41 = .ok (.iconst 1, 1) := by decide +kernel
theorem dX2_takeSizes_42 : decode cX2_takeSizes 42 = .ok (.iadd, 1) := by decide +kernel
theorem dX2_takeSizes_43 : decode cX2_takeSizes 43 = .ok (.putfield 26, 3) := by decide +kernel
theorem dX2_takeSizes_46 : decode cX2_takeSizes 46 = .ok (.iinc 4 1, 3) := by decide +kernel
theorem dX2_takeSizes_49 : decode cX2_takeSizes 49 = .ok (.goto (-29), 3) := by decide +kernel
theorem dX7_digits_0 : decode cX7_digits 0 = .ok (.iconst 0, 1) := by decide +kernel
theorem dX7_digits_1 : decode cX7_digits 1 = .ok (.istore_n 1, 1) := by decide +kernel
theorem dX7_digits_2 : decode cX7_digits 2 = .ok (.iload_n 0, 1) := by decide +kernel
theorem dX7_digits_3 : decode cX7_digits 3 = .ok (.istore_n 2, 1) := by decide +kernel
theorem dX7_digits_4 : decode cX7_digits 4 = .ok (.iload_n 2, 1) := by decide +kernel
theorem dX7_digits_5 : decode cX7_digits 5 = .ok (.ifCond .le 14, 3) := by decide +kernel
theorem dX7_digits_8 : decode cX7_digits 8 = .ok (.iinc 1 1, 3) := by decide +kernel
theorem dX7_digits_11 : decode cX7_digits 11 = .ok (.iload_n 2, 1) := by decide +kernel
theorem dX7_digits_12 : decode cX7_digits 12 = .ok (.bipush 10, 2) := by decide +kernel
theorem dX7_digits_14 : decode cX7_digits 14 = .ok (.idiv, 1) := by decide +kernel
theorem dX7_digits_15 : decode cX7_digits 15 = .ok (.istore_n 2, 1) := by decide +kernel
theorem dX7_digits_16 : decode cX7_digits 16 = .ok (.goto (-12), 3) := by decide +kernel
theorem dX7_digits_19 : decode cX7_digits 19 = .ok (.iload_n 1, 1) := by decide +kernel
theorem dX7_digits_20 : decode cX7_digits 20 = .ok (.ireturn, 1) := by decide +kernel
def q_21 : mQ := (yX2_takeSizes, cX2_takeSizes, 5, (some FieldType.boolean), 2, 2, 0, 0)
theorem qm_21 : mtL[21]? = some q_21 := rfl
def q_129 : mQ := (yX7_digits, cX7_digits, 3, (some FieldType.int), 1, 7, 0, 0)
theorem qm_129 : mtL[129]? = some q_129 := rfl
/-! add on a fresh object: digits, sizes, creases -/
theorem i_div10 {w : Nat} (h : w < 2 ^ 31) : nI w / 10 = nI (w / 10) := pk_div (d := 10) h (by decide) (by decide)
theorem i_rem10 {w : Nat} (h : w < 2 ^ 31) : nI w - nI w / 10 * 10 = nI (w % 10) := pk_rem (d := 10) h (by decide) (by decide)
theorem i_m1 (x : Int32) : x + Int32.ofInt (-1) = x - 1 := by
  rw [Int32.sub_eq_add_neg]
  rfl
def ndf : Nat → Nat → Nat
  | 0, _ => 0
  | f + 1, w => if w = 0 then 0 else ndf f (w / 10) + 1
theorem ndf_le : ∀ f w, ndf f w ≤ f
  | 0, _ => Nat.le_refl _
  | f + 1, w => by
    unfold ndf
    split
    · omega
    · have := ndf_le f (w / 10)
      omega
theorem ndf_0 : ∀ f, ndf f 0 = 0
  | 0 => rfl
  | f + 1 => rfl
theorem ndf_s {f w : Nat} (h : ¬ w = 0) : ndf (f + 1) w = ndf f (w / 10) + 1 := by
  show (if w = 0 then 0 else ndf f (w / 10) + 1) = _
  rw [if_neg h]
def okS : Nat → Nat → Bool
  | 0, _ => true
  | j + 1, w => !(w % 10 == 0) && okS j (w / 10)
def wr : Nat → Nat → List Value → List Value
  | 0, _, A => A
  | j + 1, w, A => wr j (w / 10) (A.set j (.int (nI (w % 10))))
theorem wr_len : ∀ (j w : Nat) (A : List Value), (wr j w A).length = A.length
  | 0, _, _ => rfl
  | j + 1, w, A => by rw [wr, wr_len j, List.length_set]
def sm (A : List Value) : Nat → Int32
  | 0 => 0
  | i + 1 => sm A i + mint (A.getD i .null)
theorem pow10 {f w : Nat} (h : w < 10 ^ (f + 1)) : w / 10 < 10 ^ f := by
  rw [Nat.pow_succ] at h
  omega

set_option maxHeartbeats 4000000 in
theorem m_digits_loop {P : mP} {u0 : Int32} : ∀ f w c : Nat, w < 10 ^ f → w < 2 ^ 31 → c + f < 2 ^ 31 → MEvP 0 none q_129 4 [(2, .int (nI w)), (1, .int (nI c)), (0, .int u0)] [] P 0 0 (fun r P' => r = some (.int (nI (c + ndf f w))) ∧ P' = P) := by
  intro f
  induction f with
  | zero =>
    intro w c hw hw2 hc
    have h0 : w = 0 := by simpa using hw
    refine mp_a (a_iload_n dX7_digits_4 rfl) (mpp 5 rfl ?_)
    refine mp_Tt (t := 19) (j_if_le dX7_digits_5) (((nI_leI (a := w) (b := 0) (by omega) (by omega)).mpr (by omega))) (by decide) ?_
    refine mp_a (a_iload_n dX7_digits_19 rfl) (mpp 20 rfl ?_)
    exact mp_iret (⟨rfl, rfl⟩) dX7_digits_20 (Or.inl rfl)
  | succ f ih =>
    intro w c hw hw2 hc
    by_cases h0 : w = 0
    · have e : c + ndf (f + 1) w = c := by rw [h0, ndf_0]; rfl
      rw [e]
      refine mp_a (a_iload_n dX7_digits_4 rfl) (mpp 5 rfl ?_)
      refine mp_Tt (t := 19) (j_if_le dX7_digits_5) (((nI_leI (a := w) (b := 0) (by omega) (by omega)).mpr (by omega))) (by decide) ?_
      refine mp_a (a_iload_n dX7_digits_19 rfl) (mpp 20 rfl ?_)
      exact mp_iret (⟨rfl, rfl⟩) dX7_digits_20 (Or.inl rfl)
    · have hw := hw
      refine mp_a (a_iload_n dX7_digits_4 rfl) (mpp 5 rfl ?_)
      refine mp_Tf (t := 19) (j_if_le dX7_digits_5) (fun q => absurd ((nI_leI (a := w) (b := 0) (by omega) (by omega)).mp q) (by omega)) (by decide) (mpp 8 rfl ?_)
      refine mp_a (a_iinc (v := (nI (c + 1))) (L' := [(1, .int (nI (c + 1))), (2, .int (nI w)), (0, .int u0)]) dX7_digits_8 (by decide) rfl (nI_1 (c)) rfl) (mpp 11 rfl ?_)
      refine mp_a (a_iload_n dX7_digits_11 rfl) (mpp 12 rfl ?_)
      refine mp_a (a_bipush (v := 10) dX7_digits_12 rfl) (mpp 14 rfl ?_)
      refine mp_t (s_idiv (v := (nI (w / 10))) dX7_digits_14 (by decide) (i_div10 (by omega))) (mpp 15 rfl ?_)
      refine mp_a (a_istore_n (L' := [(2, .int (nI (w / 10))), (1, .int (nI (c + 1))), (0, .int u0)]) dX7_digits_15 (by decide) rfl) (mpp 16 rfl ?_)
      refine mp_a (a_goto (t := 4) dX7_digits_16 (by decide)) ?_
      have h := ih (w / 10) (c + 1) (pow10 hw) (by omega) (by omega)
      rw [show c + 1 + ndf f (w / 10) = c + ndf (f + 1) w by rw [ndf_s h0]; omega] at h
      exact h

theorem m_digits {P : mP} {w : Nat} (hw : w < 2 ^ 31) : EvP 1 129 [.int (nI w)] P (fun r P' => r = some (.int (nI (ndf 10 w))) ∧ P' = P) := by
  refine EvP.of qm_129 (Nat.le_of_ble_eq_true rfl) rfl ?_
  show MEvP _ none q_129 0 [(0, .int (nI w))] [] _ 0 0 _
  refine mp_a (a_iconst (v := 0) dX7_digits_0 rfl) (mpp 1 rfl ?_)
  refine mp_a (a_istore_n (L' := [(1, .int 0), (0, .int (nI w))]) dX7_digits_1 (by decide) rfl) (mpp 2 rfl ?_)
  refine mp_a (a_iload_n dX7_digits_2 rfl) (mpp 3 rfl ?_)
  refine mp_a (a_istore_n (L' := [(2, .int (nI w)), (1, .int 0), (0, .int (nI w))]) dX7_digits_3 (by decide) rfl) (mpp 4 rfl ?_)
  have h := m_digits_loop (P := P) (u0 := nI w) 10 w 0 (by omega) hw (by omega)
  rw [Nat.zero_add] at h
  exact h


set_option maxHeartbeats 4000000 in
theorem x_ts1 {d : Nat} {kd nz : Int32} {Φ : Option Value → mP → Prop} : ∀ (f w i : Nat) (Q : mP), w < 10 ^ f → w < 2 ^ 31 → i ≤ 8 → Q[298]? = some (2, [.int kd, .int (nI i), .int 0, .ref 299, .ref 300]) → (∀ (Q' : mP) (n' w' : Nat) (z4 : Value), (∀ j : Nat, j ≠ 298 → Q'[j]? = Q[j]?) → w' < 2 ^ 31 → n' ≤ 8 → ((w' = 0 ∧ n' = i + ndf f w) ∨ (¬ w' = 0 ∧ 8 < i + ndf f w)) → Q'[298]? = some (2, [.int kd, .int (nI n'), .int 0, .ref 299, .ref 300]) → MEvP d none q_21 52 [(4, z4), (3, .int (nI w')), (0, .ref 298), (1, .int kd), (2, .int nz)] [] Q' 0 0 Φ) → MEvP d none q_21 20 [(4, .int (nI i)), (3, .int (nI w)), (0, .ref 298), (1, .int kd), (2, .int nz)] [] Q 0 0 Φ := by
  intro f
  induction f with
  | zero =>
    intro w i Q hw hw2 hi hQ kk
    have h0 : w = 0 := by simpa using hw
    by_cases h8 : i = 8
    · have hw := hw
      refine mp_a (a_iload dX2_takeSizes_20 rfl) (mpp 22 rfl ?_)
      refine mp_a (a_bipush (v := 8) dX2_takeSizes_22 rfl) (mpp 24 rfl ?_)
      refine mp_Tt (t := 52) (j_icmp_ge dX2_takeSizes_24) (((nI_leI (a := 8) (b := i) (by omega) (by omega)).mpr (by omega))) (by decide) ?_
      exact kk Q i w _ (fun _ _ => rfl) hw2 hi (Or.inl ⟨h0, by rw [h0, ndf_0]; rfl⟩) hQ
    · have hw := hw
      refine mp_a (a_iload dX2_takeSizes_20 rfl) (mpp 22 rfl ?_)
      refine mp_a (a_bipush (v := 8) dX2_takeSizes_22 rfl) (mpp 24 rfl ?_)
      refine mp_Tf (t := 52) (j_icmp_ge dX2_takeSizes_24) (fun q => absurd ((nI_leI (a := 8) (b := i) (by omega) (by omega)).mp q) (by omega)) (by decide) (mpp 27 rfl ?_)
      refine mp_a (a_iload_n dX2_takeSizes_27 rfl) (mpp 28 rfl ?_)
      refine mp_Tt (t := 52) (j_if_le dX2_takeSizes_28) (((nI_leI (a := w) (b := 0) (by omega) (by omega)).mpr (by omega))) (by decide) ?_
      exact kk Q i w _ (fun _ _ => rfl) hw2 hi (Or.inl ⟨h0, by rw [h0, ndf_0]; rfl⟩) hQ
  | succ f ih =>
    intro w i Q hw hw2 hi hQ kk
    by_cases h8 : i = 8
    · have hw := hw
      refine mp_a (a_iload dX2_takeSizes_20 rfl) (mpp 22 rfl ?_)
      refine mp_a (a_bipush (v := 8) dX2_takeSizes_22 rfl) (mpp 24 rfl ?_)
      refine mp_Tt (t := 52) (j_icmp_ge dX2_takeSizes_24) (((nI_leI (a := 8) (b := i) (by omega) (by omega)).mpr (by omega))) (by decide) ?_
      by_cases h0 : w = 0
      · exact kk Q i w _ (fun _ _ => rfl) hw2 hi (Or.inl ⟨h0, by rw [h0, ndf_0]; rfl⟩) hQ
      · exact kk Q i w _ (fun _ _ => rfl) hw2 hi (Or.inr ⟨h0, by rw [ndf_s h0]; omega⟩) hQ
    · by_cases h0 : w = 0
      · have hw := hw
        refine mp_a (a_iload dX2_takeSizes_20 rfl) (mpp 22 rfl ?_)
        refine mp_a (a_bipush (v := 8) dX2_takeSizes_22 rfl) (mpp 24 rfl ?_)
        refine mp_Tf (t := 52) (j_icmp_ge dX2_takeSizes_24) (fun q => absurd ((nI_leI (a := 8) (b := i) (by omega) (by omega)).mp q) (by omega)) (by decide) (mpp 27 rfl ?_)
        refine mp_a (a_iload_n dX2_takeSizes_27 rfl) (mpp 28 rfl ?_)
        refine mp_Tt (t := 52) (j_if_le dX2_takeSizes_28) (((nI_leI (a := w) (b := 0) (by omega) (by omega)).mpr (by omega))) (by decide) ?_
        exact kk Q i w _ (fun _ _ => rfl) hw2 hi (Or.inl ⟨h0, by rw [h0, ndf_0]; rfl⟩) hQ
      · have hw := hw
        refine mp_a (a_iload dX2_takeSizes_20 rfl) (mpp 22 rfl ?_)
        refine mp_a (a_bipush (v := 8) dX2_takeSizes_22 rfl) (mpp 24 rfl ?_)
        refine mp_Tf (t := 52) (j_icmp_ge dX2_takeSizes_24) (fun q => absurd ((nI_leI (a := 8) (b := i) (by omega) (by omega)).mp q) (by omega)) (by decide) (mpp 27 rfl ?_)
        refine mp_a (a_iload_n dX2_takeSizes_27 rfl) (mpp 28 rfl ?_)
        refine mp_Tf (t := 52) (j_if_le dX2_takeSizes_28) (fun q => absurd ((nI_leI (a := w) (b := 0) (by omega) (by omega)).mp q) (by omega)) (by decide) (mpp 31 rfl ?_)
        refine mp_a (a_iload_n dX2_takeSizes_31 rfl) (mpp 32 rfl ?_)
        refine mp_a (a_bipush (v := 10) dX2_takeSizes_32 rfl) (mpp 34 rfl ?_)
        refine mp_t (s_idiv (v := (nI (w / 10))) dX2_takeSizes_34 (by decide) (i_div10 (by omega))) (mpp 35 rfl ?_)
        refine mp_a (a_istore_n (L' := [(3, .int (nI (w / 10))), (4, .int (nI i)), (0, .ref 298), (1, .int kd), (2, .int nz)]) dX2_takeSizes_35 (by decide) rfl) (mpp 36 rfl ?_)
        refine mp_a (a_aload_n dX2_takeSizes_36 rfl) (mpp 37 rfl ?_)
        refine mp_t (s_dup dX2_takeSizes_37 rfl) (mpp 38 rfl ?_)
        refine mp_get (i := 26) (v := .int (nI i)) dX2_takeSizes_38 rfl hQ rfl (mpp 41 rfl ?_)
        refine mp_a (a_iconst (v := 1) dX2_takeSizes_41 rfl) (mpp 42 rfl ?_)
        refine mp_t (s_iadd (v := (nI (i + 1))) dX2_takeSizes_42 (nI_1 (i))) (mpp 43 rfl ?_)
        refine mp_put (i := 26) dX2_takeSizes_43 rfl hQ (Nat.le_of_ble_eq_true rfl) rfl (Or.inl rfl) (mpp 46 rfl ?_)
        refine mp_a (a_iinc (v := (nI (i + 1))) (L' := [(4, .int (nI (i + 1))), (3, .int (nI (w / 10))), (0, .ref 298), (1, .int kd), (2, .int nz)]) dX2_takeSizes_46 (by decide) rfl (nI_1 (i)) rfl) (mpp 49 rfl ?_)
        refine mp_a (a_goto (t := 20) dX2_takeSizes_49 (by decide)) ?_
        refine ih (w / 10) (i + 1) _ (pow10 hw) (by omega) (by omega) (mset_eq hQ) (fun Q' n' w' z4 hf h1 h2 h3 h4 => kk Q' n' w' z4 (fun j hj => (hf j hj).trans (List.getElem?_set_ne (Ne.symm hj))) h1 h2 ?_ h4)
        rw [ndf_s h0]
        omega
