set_option maxHeartbeats 4000000 in
theorem m_sum_loop {P : mP} {n : Nat} {A : List Value} (hn8 : n ≤ 8) (hA : A.length = 8) (h301 : P[301]? = some (7, [.ref 302, .ref 303, .ref 304, .ref 305, .int 0, .int 0, .int 0, .int (-1004), .int 0, .ref 306, .ref 307, .ref 308, .ref 309, .int 0, .int 0, .ref 310, .ref 311, .ref 312, .ref 313, .int 0, .int 0, .int 0, .ref 314, .int 0, .int 0, .int 0, .int 0, .int 0, .int 0, .int 0])) (h306 : P[306]? = some (8, A)) : ∀ m i : Nat, i + m = n → MEvP 1 none q_131 4 [(3, .int (nI i)), (2, .int (sm A i)), (0, .ref 301), (1, .int (nI n))] [] P 0 0 (fun r P' => r = some (.int (sm A n)) ∧ P' = P) := by
  intro m
  induction m with
  | zero =>
    intro i hi
    have hi : i = n := by omega
    subst hi
    refine mp_a (a_iload_n dX7_sumOfNew_4 rfl) (mpp 5 rfl ?_)
    refine mp_a (a_iload_n dX7_sumOfNew_5 rfl) (mpp 6 rfl ?_)
    refine mp_Tt (t := 24) (j_icmp_ge dX7_sumOfNew_6) (((nI_leI (a := i) (b := i) (by omega) (by omega)).mpr (by omega))) (by decide) ?_
    refine mp_a (a_iload_n dX7_sumOfNew_24 rfl) (mpp 25 rfl ?_)
    exact mp_iret (⟨rfl, rfl⟩) dX7_sumOfNew_25 (Or.inl rfl)
  | succ m ih =>
    intro i hi
    refine mp_a (a_iload_n dX7_sumOfNew_4 rfl) (mpp 5 rfl ?_)
    refine mp_a (a_iload_n dX7_sumOfNew_5 rfl) (mpp 6 rfl ?_)
    refine mp_Tf (t := 24) (j_icmp_ge dX7_sumOfNew_6) (fun q => absurd ((nI_leI (a := n) (b := i) (by omega) (by omega)).mp q) (by omega)) (by decide) (mpp 9 rfl ?_)
    refine mp_a (a_iload_n dX7_sumOfNew_9 rfl) (mpp 10 rfl ?_)
    refine mp_a (a_aload_n dX7_sumOfNew_10 rfl) (mpp 11 rfl ?_)
    refine mp_get (i := 22) (v := .ref 306) dX7_sumOfNew_11 rfl h301 rfl (mpp 14 rfl ?_)
    refine mp_a (a_iload_n dX7_sumOfNew_14 rfl) (mpp 15 rfl ?_)
    refine mp_ial (N := 8) (v := (mint (A.getD (i) .null))) dX7_sumOfNew_15 h306 hA (i_in (by omega) (by decide)) (by rw [nI_clamp (by omega)]) (mpp 16 rfl ?_)
    refine mp_t (s_iadd (v := (sm A (i + 1))) dX7_sumOfNew_16 rfl) (mpp 17 rfl ?_)
    refine mp_a (a_istore_n (L' := [(2, .int (sm A (i + 1))), (3, .int (nI i)), (0, .ref 301), (1, .int (nI n))]) dX7_sumOfNew_17 (by decide) rfl) (mpp 18 rfl ?_)
    refine mp_a (a_iinc (v := (nI (i + 1))) (L' := [(3, .int (nI (i + 1))), (2, .int (sm A (i + 1))), (0, .ref 301), (1, .int (nI n))]) dX7_sumOfNew_18 (by decide) rfl (nI_1 (i)) rfl) (mpp 21 rfl ?_)
    refine mp_a (a_goto (t := 4) dX7_sumOfNew_21 (by decide)) ?_
    exact ih (i + 1) (by omega)
theorem m_sumOfNew {P : mP} {n : Nat} {A : List Value} (hn8 : n ≤ 8) (hA : A.length = 8) (h301 : P[301]? = some (7, [.ref 302, .ref 303, .ref 304, .ref 305, .int 0, .int 0, .int 0, .int (-1004), .int 0, .ref 306, .ref 307, .ref 308, .ref 309, .int 0, .int 0, .ref 310, .ref 311, .ref 312, .ref 313, .int 0, .int 0, .int 0, .ref 314, .int 0, .int 0, .int 0, .int 0, .int 0, .int 0, .int 0])) (h306 : P[306]? = some (8, A)) : EvP 2 131 [.ref 301, .int (nI n)] P (fun r P' => r = some (.int (sm A n)) ∧ P' = P) := by
  refine EvP.of qm_131 (Nat.le_of_ble_eq_true rfl) rfl ?_
  show MEvP _ none q_131 0 [(0, .ref 301), (1, .int (nI n))] [] _ 0 0 _
  refine mp_a (a_iconst (v := 0) dX7_sumOfNew_0 rfl) (mpp 1 rfl ?_)
  refine mp_a (a_istore_n (L' := [(2, .int 0), (0, .ref 301), (1, .int (nI n))]) dX7_sumOfNew_1 (by decide) rfl) (mpp 2 rfl ?_)
  refine mp_a (a_iconst (v := 0) dX7_sumOfNew_2 rfl) (mpp 3 rfl ?_)
  refine mp_a (a_istore_n (L' := [(3, .int 0), (2, .int 0), (0, .ref 301), (1, .int (nI n))]) dX7_sumOfNew_3 (by decide) rfl) (mpp 4 rfl ?_)
  exact m_sum_loop hn8 hA h301 h306 n 0 (by omega)
