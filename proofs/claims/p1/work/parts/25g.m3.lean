set_option maxHeartbeats 4000000 in
theorem m_ls0 {nz nn : Int32} {Φ : Option Value → mP → Prop} : ∀ (j : Nat) (v : Int32) (A : List Value) (Q : mP), j ≤ 8 → A.length = 8 → Q[301]? = some (7, [.ref 302, .ref 303, .ref 304, .ref 305, .int 0, .int 0, .int 0, .int (-1004), .int 0, .ref 306, .ref 307, .ref 308, .ref 309, .int 0, .int 0, .ref 310, .ref 311, .ref 312, .ref 313, .int 0, .int 0, .int 0, .ref 314, .int 0, .int 0, .int 0, .int 0, .int 0, .int 0, .int 0]) → Q[306]? = some (8, A) → (∀ Q' : mP, (∀ t : Nat, t ≠ 306 → Q'[t]? = Q[t]?) → Φ (some (.int 0)) Q') → MEvP 2 none q_128 35 [(5, .int (nI j - 1)), (4, .int 0), (3, .int v), (2, .int nn), (0, .ref 301), (1, .int nz)] [] Q 0 0 Φ := by
  intro j
  induction j with
  | zero =>
    intro v A Q hj hA hQ hR kk
    refine mp_a (a_iload dX7_laysSizes_35 rfl) (mpp 37 rfl ?_)
    refine mp_Tt (t := 84) (j_if_lt dX7_laysSizes_37) (by decide) (by decide) ?_
    refine mp_a (a_iload dX7_laysSizes_84 rfl) (mpp 86 rfl ?_)
    refine mp_Tt (t := 93) (j_if_eq dX7_laysSizes_86) (by decide) (by decide) ?_
    refine mp_a (a_iconst (v := 0) dX7_laysSizes_93 rfl) (mpp 94 rfl ?_)
    exact mp_iret (kk Q (fun _ _ => rfl)) dX7_laysSizes_94 (Or.inl rfl)
  | succ j ih =>
    intro v A Q hj hA hQ hR kk
    rw [nI_pred]
    refine mp_a (a_iload dX7_laysSizes_35 rfl) (mpp 37 rfl ?_)
    refine mp_Tf (t := 84) (j_if_lt dX7_laysSizes_37) (fun q => absurd ((nI_ltI (a := j) (b := 0) (by omega) (by omega)).mp q) (by omega)) (by decide) (mpp 40 rfl ?_)
    refine mp_a (a_aload_n dX7_laysSizes_40 rfl) (mpp 41 rfl ?_)
    refine mp_get (i := 22) (v := .ref 306) dX7_laysSizes_41 rfl hQ rfl (mpp 44 rfl ?_)
    refine mp_a (a_iload dX7_laysSizes_44 rfl) (mpp 46 rfl ?_)
    refine mp_a (a_iload_n dX7_laysSizes_46 rfl) (mpp 47 rfl ?_)
    refine mp_a (a_bipush (v := 10) dX7_laysSizes_47 rfl) (mpp 49 rfl ?_)
    refine mp_t (s_irem (v := (v - v / 10 * 10)) dX7_laysSizes_49 (by decide) rfl) (mpp 50 rfl ?_)
    refine mp_ias (N := 8) dX7_laysSizes_50 hR hA (i_in (by omega) (by decide)) (mpp 51 rfl ?_)
    rw [show (nI (j)).toNatClampNeg = j from nI_clamp (by omega)]
    refine mp_a (a_iload_n dX7_laysSizes_51 rfl) (mpp 52 rfl ?_)
    refine mp_a (a_bipush (v := 10) dX7_laysSizes_52 rfl) (mpp 54 rfl ?_)
    refine mp_t (s_idiv (v := (v / 10)) dX7_laysSizes_54 (by decide) rfl) (mpp 55 rfl ?_)
    refine mp_a (a_istore_n (L' := [(3, .int (v / 10)), (5, .int (nI j)), (4, .int 0), (2, .int nn), (0, .ref 301), (1, .int nz)]) dX7_laysSizes_55 (by decide) rfl) (mpp 56 rfl ?_)
    refine mp_a (a_iload dX7_laysSizes_56 rfl) (mpp 58 rfl ?_)
    refine mp_Tt (t := 75) (j_if_eq dX7_laysSizes_58) (by decide) (by decide) ?_
    refine mp_a (a_iconst (v := 0) dX7_laysSizes_75 rfl) (mpp 76 rfl ?_)
    refine mp_a (a_istore (L' := [(4, .int 0), (3, .int (v / 10)), (5, .int (nI j)), (2, .int nn), (0, .ref 301), (1, .int nz)]) dX7_laysSizes_76 (by decide) rfl) (mpp 78 rfl ?_)
    refine mp_a (a_iinc (v := ((nI j) - 1)) (L' := [(5, .int ((nI j) - 1)), (4, .int 0), (3, .int (v / 10)), (2, .int nn), (0, .ref 301), (1, .int nz)]) dX7_laysSizes_78 (by decide) rfl (i_m1 (nI j)) rfl) (mpp 81 rfl ?_)
    refine mp_a (a_goto (t := 35) dX7_laysSizes_81 (by decide)) ?_
    exact ih _ _ _ (by omega) (List.length_set.trans hA) (mset_ne hQ (by decide)) (mset_eq hR) (fun Q' hf => kk Q' (fun t ht => (hf t ht).trans (List.getElem?_set_ne (Ne.symm ht))))
theorem m_ls1 {nz nn : Int32} {Φ : Option Value → mP → Prop} : ∀ (j w : Nat) (A : List Value) (Q : mP), j ≤ 8 → w < 2 ^ 31 → A.length = 8 → Q[301]? = some (7, [.ref 302, .ref 303, .ref 304, .ref 305, .int 0, .int 0, .int 0, .int (-1004), .int 0, .ref 306, .ref 307, .ref 308, .ref 309, .int 0, .int 0, .ref 310, .ref 311, .ref 312, .ref 313, .int 0, .int 0, .int 0, .ref 314, .int 0, .int 0, .int 0, .int 0, .int 0, .int 0, .int 0]) → Q[306]? = some (8, A) → (okS j w = true → ∀ Q' : mP, (∀ t : Nat, t ≠ 306 → Q'[t]? = Q[t]?) → Q'[306]? = some (8, wr j w A) → Φ (some (.int nn)) Q') → (okS j w = false → ∀ Q' : mP, (∀ t : Nat, t ≠ 306 → Q'[t]? = Q[t]?) → Φ (some (.int 0)) Q') → MEvP 2 none q_128 35 [(5, .int (nI j - 1)), (4, .int 1), (3, .int (nI w)), (2, .int nn), (0, .ref 301), (1, .int nz)] [] Q 0 0 Φ := by
  intro j
  induction j with
  | zero =>
    intro w A Q hj hw hA hQ hR kOK kNo
    refine mp_a (a_iload dX7_laysSizes_35 rfl) (mpp 37 rfl ?_)
    refine mp_Tt (t := 84) (j_if_lt dX7_laysSizes_37) (by decide) (by decide) ?_
    refine mp_a (a_iload dX7_laysSizes_84 rfl) (mpp 86 rfl ?_)
    refine mp_Tf (t := 93) (j_if_eq dX7_laysSizes_86) (by decide) (by decide) (mpp 89 rfl ?_)
    refine mp_a (a_iload_n dX7_laysSizes_89 rfl) (mpp 90 rfl ?_)
    refine mp_a (a_goto (t := 94) dX7_laysSizes_90 (by decide)) ?_
    exact mp_iret (kOK rfl Q (fun _ _ => rfl) hR) dX7_laysSizes_94 (Or.inl rfl)
  | succ j ih =>
    intro w A Q hj hw hA hQ hR kOK kNo
    rw [nI_pred]
    by_cases hz : w % 10 = 0
    · have hz' : okS (j + 1) w = false := by simp [okS, hz]
      refine mp_a (a_iload dX7_laysSizes_35 rfl) (mpp 37 rfl ?_)
      refine mp_Tf (t := 84) (j_if_lt dX7_laysSizes_37) (fun q => absurd ((nI_ltI (a := j) (b := 0) (by omega) (by omega)).mp q) (by omega)) (by decide) (mpp 40 rfl ?_)
      refine mp_a (a_aload_n dX7_laysSizes_40 rfl) (mpp 41 rfl ?_)
      refine mp_get (i := 22) (v := .ref 306) dX7_laysSizes_41 rfl hQ rfl (mpp 44 rfl ?_)
      refine mp_a (a_iload dX7_laysSizes_44 rfl) (mpp 46 rfl ?_)
      refine mp_a (a_iload_n dX7_laysSizes_46 rfl) (mpp 47 rfl ?_)
      refine mp_a (a_bipush (v := 10) dX7_laysSizes_47 rfl) (mpp 49 rfl ?_)
      refine mp_t (s_irem (v := (nI (w % 10))) dX7_laysSizes_49 (by decide) (i_rem10 (by omega))) (mpp 50 rfl ?_)
      refine mp_ias (N := 8) dX7_laysSizes_50 hR hA (i_in (by omega) (by decide)) (mpp 51 rfl ?_)
      rw [show (nI (j)).toNatClampNeg = j from nI_clamp (by omega)]
      refine mp_a (a_iload_n dX7_laysSizes_51 rfl) (mpp 52 rfl ?_)
      refine mp_a (a_bipush (v := 10) dX7_laysSizes_52 rfl) (mpp 54 rfl ?_)
      refine mp_t (s_idiv (v := (nI (w / 10))) dX7_laysSizes_54 (by decide) (i_div10 (by omega))) (mpp 55 rfl ?_)
      refine mp_a (a_istore_n (L' := [(3, .int (nI (w / 10))), (5, .int (nI j)), (4, .int 1), (2, .int nn), (0, .ref 301), (1, .int nz)]) dX7_laysSizes_55 (by decide) rfl) (mpp 56 rfl ?_)
      refine mp_a (a_iload dX7_laysSizes_56 rfl) (mpp 58 rfl ?_)
      refine mp_Tf (t := 75) (j_if_eq dX7_laysSizes_58) (by decide) (by decide) (mpp 61 rfl ?_)
      refine mp_a (a_aload_n dX7_laysSizes_61 rfl) (mpp 62 rfl ?_)
      refine mp_get (i := 22) (v := .ref 306) dX7_laysSizes_62 rfl (mset_ne hQ (by decide)) rfl (mpp 65 rfl ?_)
      refine mp_a (a_iload dX7_laysSizes_65 rfl) (mpp 67 rfl ?_)
      refine mp_ial (N := 8) (v := (nI (w % 10))) dX7_laysSizes_67 (mset_eq hR) (List.length_set.trans hA) (i_in (by omega) (by decide)) (by rw [nI_clamp (by omega)]; exact mgs (by omega)) (mpp 68 rfl ?_)
      refine mp_Tt (t := 75) (j_if_le dX7_laysSizes_68) (((nI_leI (a := (w % 10)) (b := 0) (by omega) (by omega)).mpr (by omega))) (by decide) ?_
      refine mp_a (a_iconst (v := 0) dX7_laysSizes_75 rfl) (mpp 76 rfl ?_)
      refine mp_a (a_istore (L' := [(4, .int 0), (3, .int (nI (w / 10))), (5, .int (nI j)), (2, .int nn), (0, .ref 301), (1, .int nz)]) dX7_laysSizes_76 (by decide) rfl) (mpp 78 rfl ?_)
      refine mp_a (a_iinc (v := ((nI j) - 1)) (L' := [(5, .int ((nI j) - 1)), (4, .int 0), (3, .int (nI (w / 10))), (2, .int nn), (0, .ref 301), (1, .int nz)]) dX7_laysSizes_78 (by decide) rfl (i_m1 (nI j)) rfl) (mpp 81 rfl ?_)
      refine mp_a (a_goto (t := 35) dX7_laysSizes_81 (by decide)) ?_
      exact m_ls0 j _ _ _ (by omega) (List.length_set.trans hA) (mset_ne hQ (by decide)) (mset_eq hR) (fun Q' hf => kNo hz' Q' (fun t ht => (hf t ht).trans (List.getElem?_set_ne (Ne.symm ht))))
    · have hz' : okS (j + 1) w = okS j (w / 10) := by simp [okS, hz]
      refine mp_a (a_iload dX7_laysSizes_35 rfl) (mpp 37 rfl ?_)
      refine mp_Tf (t := 84) (j_if_lt dX7_laysSizes_37) (fun q => absurd ((nI_ltI (a := j) (b := 0) (by omega) (by omega)).mp q) (by omega)) (by decide) (mpp 40 rfl ?_)
      refine mp_a (a_aload_n dX7_laysSizes_40 rfl) (mpp 41 rfl ?_)
      refine mp_get (i := 22) (v := .ref 306) dX7_laysSizes_41 rfl hQ rfl (mpp 44 rfl ?_)
      refine mp_a (a_iload dX7_laysSizes_44 rfl) (mpp 46 rfl ?_)
      refine mp_a (a_iload_n dX7_laysSizes_46 rfl) (mpp 47 rfl ?_)
      refine mp_a (a_bipush (v := 10) dX7_laysSizes_47 rfl) (mpp 49 rfl ?_)
      refine mp_t (s_irem (v := (nI (w % 10))) dX7_laysSizes_49 (by decide) (i_rem10 (by omega))) (mpp 50 rfl ?_)
      refine mp_ias (N := 8) dX7_laysSizes_50 hR hA (i_in (by omega) (by decide)) (mpp 51 rfl ?_)
      rw [show (nI (j)).toNatClampNeg = j from nI_clamp (by omega)]
      refine mp_a (a_iload_n dX7_laysSizes_51 rfl) (mpp 52 rfl ?_)
      refine mp_a (a_bipush (v := 10) dX7_laysSizes_52 rfl) (mpp 54 rfl ?_)
      refine mp_t (s_idiv (v := (nI (w / 10))) dX7_laysSizes_54 (by decide) (i_div10 (by omega))) (mpp 55 rfl ?_)
      refine mp_a (a_istore_n (L' := [(3, .int (nI (w / 10))), (5, .int (nI j)), (4, .int 1), (2, .int nn), (0, .ref 301), (1, .int nz)]) dX7_laysSizes_55 (by decide) rfl) (mpp 56 rfl ?_)
      refine mp_a (a_iload dX7_laysSizes_56 rfl) (mpp 58 rfl ?_)
      refine mp_Tf (t := 75) (j_if_eq dX7_laysSizes_58) (by decide) (by decide) (mpp 61 rfl ?_)
      refine mp_a (a_aload_n dX7_laysSizes_61 rfl) (mpp 62 rfl ?_)
      refine mp_get (i := 22) (v := .ref 306) dX7_laysSizes_62 rfl (mset_ne hQ (by decide)) rfl (mpp 65 rfl ?_)
      refine mp_a (a_iload dX7_laysSizes_65 rfl) (mpp 67 rfl ?_)
      refine mp_ial (N := 8) (v := (nI (w % 10))) dX7_laysSizes_67 (mset_eq hR) (List.length_set.trans hA) (i_in (by omega) (by decide)) (by rw [nI_clamp (by omega)]; exact mgs (by omega)) (mpp 68 rfl ?_)
      refine mp_Tf (t := 75) (j_if_le dX7_laysSizes_68) (fun q => absurd ((nI_leI (a := (w % 10)) (b := 0) (by omega) (by omega)).mp q) (by omega)) (by decide) (mpp 71 rfl ?_)
      refine mp_a (a_iconst (v := 1) dX7_laysSizes_71 rfl) (mpp 72 rfl ?_)
      refine mp_a (a_goto (t := 76) dX7_laysSizes_72 (by decide)) ?_
      refine mp_a (a_istore (L' := [(4, .int 1), (3, .int (nI (w / 10))), (5, .int (nI j)), (2, .int nn), (0, .ref 301), (1, .int nz)]) dX7_laysSizes_76 (by decide) rfl) (mpp 78 rfl ?_)
      refine mp_a (a_iinc (v := ((nI j) - 1)) (L' := [(5, .int ((nI j) - 1)), (4, .int 1), (3, .int (nI (w / 10))), (2, .int nn), (0, .ref 301), (1, .int nz)]) dX7_laysSizes_78 (by decide) rfl (i_m1 (nI j)) rfl) (mpp 81 rfl ?_)
      refine mp_a (a_goto (t := 35) dX7_laysSizes_81 (by decide)) ?_
      exact ih (w / 10) _ _ (by omega) (by omega) (List.length_set.trans hA) (mset_ne hQ (by decide)) (mset_eq hR) (fun ho Q' hf hg => kOK (hz'.trans ho) Q' (fun t ht => (hf t ht).trans (List.getElem?_set_ne (Ne.symm ht))) hg) (fun ho Q' hf => kNo (hz'.trans ho) Q' (fun t ht => (hf t ht).trans (List.getElem?_set_ne (Ne.symm ht))))

