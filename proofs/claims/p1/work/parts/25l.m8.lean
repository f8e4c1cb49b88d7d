set_option maxHeartbeats 4000000 in
theorem m_lc0 {nz n2 : Int32} {Φ : Option Value → mP → Prop} : ∀ (j : Nat) (v : Int32) (A : List Value) (Q : mP), j ≤ 8 → A.length = 8 → Q[301]? = some (7, [.ref 302, .ref 303, .ref 304, .ref 305, .int 0, .int 0, .int 0, .int (-1004), .int 0, .ref 306, .ref 307, .ref 308, .ref 309, .int 0, .int 0, .ref 310, .ref 311, .ref 312, .ref 313, .int 0, .int 0, .int 0, .ref 314, .int 0, .int 0, .int 0, .int 0, .int 0, .int 0, .int 0]) → Q[307]? = some (8, A) → (∀ Q' : mP, (∀ t : Nat, t ≠ 307 → Q'[t]? = Q[t]?) → (∃ B : List Value, Q'[307]? = some (8, B) ∧ B.length = 8) → Φ (some (.int 0)) Q') → MEvP 2 none q_132 24 [(5, .int (nI j - 1)), (4, .int 0), (3, .int v), (0, .ref 301), (1, .int nz), (2, .int n2)] [] Q 0 0 Φ := by
  intro j
  induction j with
  | zero =>
    intro v A Q hj hA hQ hR kk
    refine mp_a (a_iload dX7_laysCreases_24 rfl) (mpp 26 rfl ?_)
    refine mp_Tt (t := 74) (j_if_lt dX7_laysCreases_26) (by decide) (by decide) ?_
    refine mp_a (a_iload dX7_laysCreases_74 rfl) (mpp 76 rfl ?_)
    exact mp_iret (kk Q (fun _ _ => rfl) ⟨A, hR, hA⟩) dX7_laysCreases_76 (Or.inr ⟨rfl, by decide⟩)
  | succ j ih =>
    intro v A Q hj hA hQ hR kk
    rw [nI_pred]
    refine mp_a (a_iload dX7_laysCreases_24 rfl) (mpp 26 rfl ?_)
    refine mp_Tf (t := 74) (j_if_lt dX7_laysCreases_26) (fun q => absurd ((nI_ltI (a := j) (b := 0) (by omega) (by omega)).mp q) (by omega)) (by decide) (mpp 29 rfl ?_)
    refine mp_a (a_aload_n dX7_laysCreases_29 rfl) (mpp 30 rfl ?_)
    refine mp_get (i := 25) (v := .ref 307) dX7_laysCreases_30 rfl hQ rfl (mpp 33 rfl ?_)
    refine mp_a (a_iload dX7_laysCreases_33 rfl) (mpp 35 rfl ?_)
    refine mp_a (a_iload_n dX7_laysCreases_35 rfl) (mpp 36 rfl ?_)
    refine mp_a (a_bipush (v := 10) dX7_laysCreases_36 rfl) (mpp 38 rfl ?_)
    refine mp_t (s_irem (v := (v - v / 10 * 10)) dX7_laysCreases_38 (by decide) rfl) (mpp 39 rfl ?_)
    refine mp_ias (N := 8) dX7_laysCreases_39 hR hA (i_in (by omega) (by decide)) (mpp 40 rfl ?_)
    rw [show (nI (j)).toNatClampNeg = j from nI_clamp (by omega)]
    refine mp_a (a_iload_n dX7_laysCreases_40 rfl) (mpp 41 rfl ?_)
    refine mp_a (a_bipush (v := 10) dX7_laysCreases_41 rfl) (mpp 43 rfl ?_)
    refine mp_t (s_idiv (v := (v / 10)) dX7_laysCreases_43 (by decide) rfl) (mpp 44 rfl ?_)
    refine mp_a (a_istore_n (L' := [(3, .int (v / 10)), (5, .int (nI j)), (4, .int 0), (0, .ref 301), (1, .int nz), (2, .int n2)]) dX7_laysCreases_44 (by decide) rfl) (mpp 45 rfl ?_)
    refine mp_a (a_iload dX7_laysCreases_45 rfl) (mpp 47 rfl ?_)
    refine mp_Tt (t := 65) (j_if_eq dX7_laysCreases_47) (by decide) (by decide) ?_
    refine mp_a (a_iconst (v := 0) dX7_laysCreases_65 rfl) (mpp 66 rfl ?_)
    refine mp_a (a_istore (L' := [(4, .int 0), (3, .int (v / 10)), (5, .int (nI j)), (0, .ref 301), (1, .int nz), (2, .int n2)]) dX7_laysCreases_66 (by decide) rfl) (mpp 68 rfl ?_)
    refine mp_a (a_iinc (v := ((nI j) - 1)) (L' := [(5, .int ((nI j) - 1)), (4, .int 0), (3, .int (v / 10)), (0, .ref 301), (1, .int nz), (2, .int n2)]) dX7_laysCreases_68 (by decide) rfl (i_m1 (nI j)) rfl) (mpp 71 rfl ?_)
    refine mp_a (a_goto (t := 24) dX7_laysCreases_71 (by decide)) ?_
    exact ih _ _ _ (by omega) (List.length_set.trans hA) (mset_ne hQ (by decide)) (mset_eq hR) (fun Q' hf hB => kk Q' (fun t ht => (hf t ht).trans (List.getElem?_set_ne (Ne.symm ht))) hB)
theorem m_lc1 {nz n2 : Int32} {Φ : Option Value → mP → Prop} : ∀ (j w : Nat) (A : List Value) (Q : mP), j ≤ 8 → w < 2 ^ 31 → A.length = 8 → Q[301]? = some (7, [.ref 302, .ref 303, .ref 304, .ref 305, .int 0, .int 0, .int 0, .int (-1004), .int 0, .ref 306, .ref 307, .ref 308, .ref 309, .int 0, .int 0, .ref 310, .ref 311, .ref 312, .ref 313, .int 0, .int 0, .int 0, .ref 314, .int 0, .int 0, .int 0, .int 0, .int 0, .int 0, .int 0]) → Q[307]? = some (8, A) → (∀ Q' : mP, (∀ t : Nat, t ≠ 307 → Q'[t]? = Q[t]?) → (∃ B : List Value, Q'[307]? = some (8, B) ∧ B.length = 8) → Φ (some (.int (if okC j w = true then 1 else 0))) Q') → MEvP 2 none q_132 24 [(5, .int (nI j - 1)), (4, .int 1), (3, .int (nI w)), (0, .ref 301), (1, .int nz), (2, .int n2)] [] Q 0 0 Φ := by
  intro j
  induction j with
  | zero =>
    intro w A Q hj hw hA hQ hR kk
    refine mp_a (a_iload dX7_laysCreases_24 rfl) (mpp 26 rfl ?_)
    refine mp_Tt (t := 74) (j_if_lt dX7_laysCreases_26) (by decide) (by decide) ?_
    refine mp_a (a_iload dX7_laysCreases_74 rfl) (mpp 76 rfl ?_)
    exact mp_iret (kk Q (fun _ _ => rfl) ⟨A, hR, hA⟩) dX7_laysCreases_76 (Or.inr ⟨rfl, by decide⟩)
  | succ j ih =>
    intro w A Q hj hw hA hQ hR kk
    rw [nI_pred]
    by_cases hz : w % 10 ≤ 2
    · have e : okC (j + 1) w = okC j (w / 10) := by simp [okC, hz]
      rw [e] at kk
      refine mp_a (a_iload dX7_laysCreases_24 rfl) (mpp 26 rfl ?_)
      refine mp_Tf (t := 74) (j_if_lt dX7_laysCreases_26) (fun q => absurd ((nI_ltI (a := j) (b := 0) (by omega) (by omega)).mp q) (by omega)) (by decide) (mpp 29 rfl ?_)
      refine mp_a (a_aload_n dX7_laysCreases_29 rfl) (mpp 30 rfl ?_)
      refine mp_get (i := 25) (v := .ref 307) dX7_laysCreases_30 rfl hQ rfl (mpp 33 rfl ?_)
      refine mp_a (a_iload dX7_laysCreases_33 rfl) (mpp 35 rfl ?_)
      refine mp_a (a_iload_n dX7_laysCreases_35 rfl) (mpp 36 rfl ?_)
      refine mp_a (a_bipush (v := 10) dX7_laysCreases_36 rfl) (mpp 38 rfl ?_)
      refine mp_t (s_irem (v := (nI (w % 10))) dX7_laysCreases_38 (by decide) (i_rem10 (by omega))) (mpp 39 rfl ?_)
      refine mp_ias (N := 8) dX7_laysCreases_39 hR hA (i_in (by omega) (by decide)) (mpp 40 rfl ?_)
      rw [show (nI (j)).toNatClampNeg = j from nI_clamp (by omega)]
      refine mp_a (a_iload_n dX7_laysCreases_40 rfl) (mpp 41 rfl ?_)
      refine mp_a (a_bipush (v := 10) dX7_laysCreases_41 rfl) (mpp 43 rfl ?_)
      refine mp_t (s_idiv (v := (nI (w / 10))) dX7_laysCreases_43 (by decide) (i_div10 (by omega))) (mpp 44 rfl ?_)
      refine mp_a (a_istore_n (L' := [(3, .int (nI (w / 10))), (5, .int (nI j)), (4, .int 1), (0, .ref 301), (1, .int nz), (2, .int n2)]) dX7_laysCreases_44 (by decide) rfl) (mpp 45 rfl ?_)
      refine mp_a (a_iload dX7_laysCreases_45 rfl) (mpp 47 rfl ?_)
      refine mp_Tf (t := 65) (j_if_eq dX7_laysCreases_47) (by decide) (by decide) (mpp 50 rfl ?_)
      refine mp_a (a_aload_n dX7_laysCreases_50 rfl) (mpp 51 rfl ?_)
      refine mp_get (i := 25) (v := .ref 307) dX7_laysCreases_51 rfl (mset_ne hQ (by decide)) rfl (mpp 54 rfl ?_)
      refine mp_a (a_iload dX7_laysCreases_54 rfl) (mpp 56 rfl ?_)
      refine mp_ial (N := 8) (v := (nI (w % 10))) dX7_laysCreases_56 (mset_eq hR) (List.length_set.trans hA) (i_in (by omega) (by decide)) (by rw [nI_clamp (by omega)]; exact mgs (by omega)) (mpp 57 rfl ?_)
      refine mp_a (a_iconst (v := 2) dX7_laysCreases_57 rfl) (mpp 58 rfl ?_)
      refine mp_Tf (t := 65) (j_icmp_gt dX7_laysCreases_58) (fun q => absurd ((nI_ltI (a := 2) (b := (w % 10)) (by omega) (by omega)).mp q) (by omega)) (by decide) (mpp 61 rfl ?_)
      refine mp_a (a_iconst (v := 1) dX7_laysCreases_61 rfl) (mpp 62 rfl ?_)
      refine mp_a (a_goto (t := 66) dX7_laysCreases_62 (by decide)) ?_
      refine mp_a (a_istore (L' := [(4, .int 1), (3, .int (nI (w / 10))), (5, .int (nI j)), (0, .ref 301), (1, .int nz), (2, .int n2)]) dX7_laysCreases_66 (by decide) rfl) (mpp 68 rfl ?_)
      refine mp_a (a_iinc (v := ((nI j) - 1)) (L' := [(5, .int ((nI j) - 1)), (4, .int 1), (3, .int (nI (w / 10))), (0, .ref 301), (1, .int nz), (2, .int n2)]) dX7_laysCreases_68 (by decide) rfl (i_m1 (nI j)) rfl) (mpp 71 rfl ?_)
      refine mp_a (a_goto (t := 24) dX7_laysCreases_71 (by decide)) ?_
      exact ih (w / 10) _ _ (by omega) (by omega) (List.length_set.trans hA) (mset_ne hQ (by decide)) (mset_eq hR) (fun Q' hf hB => kk Q' (fun t ht => (hf t ht).trans (List.getElem?_set_ne (Ne.symm ht))) hB)
    · have e : (if okC (j + 1) w = true then (1 : Int32) else 0) = 0 := by simp [okC, hz]
      rw [e] at kk
      refine mp_a (a_iload dX7_laysCreases_24 rfl) (mpp 26 rfl ?_)
      refine mp_Tf (t := 74) (j_if_lt dX7_laysCreases_26) (fun q => absurd ((nI_ltI (a := j) (b := 0) (by omega) (by omega)).mp q) (by omega)) (by decide) (mpp 29 rfl ?_)
      refine mp_a (a_aload_n dX7_laysCreases_29 rfl) (mpp 30 rfl ?_)
      refine mp_get (i := 25) (v := .ref 307) dX7_laysCreases_30 rfl hQ rfl (mpp 33 rfl ?_)
      refine mp_a (a_iload dX7_laysCreases_33 rfl) (mpp 35 rfl ?_)
      refine mp_a (a_iload_n dX7_laysCreases_35 rfl) (mpp 36 rfl ?_)
      refine mp_a (a_bipush (v := 10) dX7_laysCreases_36 rfl) (mpp 38 rfl ?_)
      refine mp_t (s_irem (v := (nI (w % 10))) dX7_laysCreases_38 (by decide) (i_rem10 (by omega))) (mpp 39 rfl ?_)
      refine mp_ias (N := 8) dX7_laysCreases_39 hR hA (i_in (by omega) (by decide)) (mpp 40 rfl ?_)
      rw [show (nI (j)).toNatClampNeg = j from nI_clamp (by omega)]
      refine mp_a (a_iload_n dX7_laysCreases_40 rfl) (mpp 41 rfl ?_)
      refine mp_a (a_bipush (v := 10) dX7_laysCreases_41 rfl) (mpp 43 rfl ?_)
      refine mp_t (s_idiv (v := (nI (w / 10))) dX7_laysCreases_43 (by decide) (i_div10 (by omega))) (mpp 44 rfl ?_)
      refine mp_a (a_istore_n (L' := [(3, .int (nI (w / 10))), (5, .int (nI j)), (4, .int 1), (0, .ref 301), (1, .int nz), (2, .int n2)]) dX7_laysCreases_44 (by decide) rfl) (mpp 45 rfl ?_)
      refine mp_a (a_iload dX7_laysCreases_45 rfl) (mpp 47 rfl ?_)
      refine mp_Tf (t := 65) (j_if_eq dX7_laysCreases_47) (by decide) (by decide) (mpp 50 rfl ?_)
      refine mp_a (a_aload_n dX7_laysCreases_50 rfl) (mpp 51 rfl ?_)
      refine mp_get (i := 25) (v := .ref 307) dX7_laysCreases_51 rfl (mset_ne hQ (by decide)) rfl (mpp 54 rfl ?_)
      refine mp_a (a_iload dX7_laysCreases_54 rfl) (mpp 56 rfl ?_)
      refine mp_ial (N := 8) (v := (nI (w % 10))) dX7_laysCreases_56 (mset_eq hR) (List.length_set.trans hA) (i_in (by omega) (by decide)) (by rw [nI_clamp (by omega)]; exact mgs (by omega)) (mpp 57 rfl ?_)
      refine mp_a (a_iconst (v := 2) dX7_laysCreases_57 rfl) (mpp 58 rfl ?_)
      refine mp_Tt (t := 65) (j_icmp_gt dX7_laysCreases_58) (((nI_ltI (a := 2) (b := (w % 10)) (by omega) (by omega)).mpr (by omega))) (by decide) ?_
      refine mp_a (a_iconst (v := 0) dX7_laysCreases_65 rfl) (mpp 66 rfl ?_)
      refine mp_a (a_istore (L' := [(4, .int 0), (3, .int (nI (w / 10))), (5, .int (nI j)), (0, .ref 301), (1, .int nz), (2, .int n2)]) dX7_laysCreases_66 (by decide) rfl) (mpp 68 rfl ?_)
      refine mp_a (a_iinc (v := ((nI j) - 1)) (L' := [(5, .int ((nI j) - 1)), (4, .int 0), (3, .int (nI (w / 10))), (0, .ref 301), (1, .int nz), (2, .int n2)]) dX7_laysCreases_68 (by decide) rfl (i_m1 (nI j)) rfl) (mpp 71 rfl ?_)
      refine mp_a (a_goto (t := 24) dX7_laysCreases_71 (by decide)) ?_
      exact m_lc0 j _ _ _ (by omega) (List.length_set.trans hA) (mset_ne hQ (by decide)) (mset_eq hR) (fun Q' hf hB => kk Q' (fun t ht => (hf t ht).trans (List.getElem?_set_ne (Ne.symm ht))) hB)

