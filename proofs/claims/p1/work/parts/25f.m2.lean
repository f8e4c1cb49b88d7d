set_option maxRecDepth 100000 in
set_option maxHeartbeats 4000000 in
theorem m_isIn_0_1_8 {P : mP}  : EvP 1 127 [.int 0, .int 1, .int 8] P (fun r P' => r = some (.int 0) ∧ P' = P) := by
  refine EvP.of qm_127 (Nat.le_of_ble_eq_true rfl) rfl ?_
  show MEvP _ none q_127 0 [(0, .int 0), (1, .int 1), (2, .int 8)] [] _ 0 0 _
  refine mp_a (a_iload_n dX7_isIn_0 rfl) (mpp 1 rfl ?_)
  refine mp_a (a_iload_n dX7_isIn_1 rfl) (mpp 2 rfl ?_)
  refine mp_Tt (t := 14) (j_icmp_lt dX7_isIn_2) (by decide) (by decide) ?_
  refine mp_a (a_iconst (v := 0) dX7_isIn_14 rfl) (mpp 15 rfl ?_)
  exact mp_iret (⟨rfl, rfl⟩) dX7_isIn_15 (Or.inr ⟨rfl, by decide⟩)

theorem m_laysSizesN {P : mP} {nz : Int32} (h1 : nz < 0) (h301 : P[301]? = some (7, [.ref 302, .ref 303, .ref 304, .ref 305, .int 0, .int 0, .int 0, .int (-1004), .int 0, .ref 306, .ref 307, .ref 308, .ref 309, .int 0, .int 0, .ref 310, .ref 311, .ref 312, .ref 313, .int 0, .int 0, .int 0, .ref 314, .int 0, .int 0, .int 0, .int 0, .int 0, .int 0, .int 0])) : EvP 3 128 [.ref 301, .int nz] P (fun r P' => r = some (.int 0) ∧ P' = P) := by
  refine EvP.of qm_128 (Nat.le_of_ble_eq_true rfl) rfl ?_
  show MEvP _ none q_128 0 [(0, .ref 301), (1, .int nz)] [] _ 0 0 _
  refine mp_a (a_iload_n dX7_laysSizes_0 rfl) (mpp 1 rfl ?_)
  refine mp_Tf (t := 8) (j_if_ge dX7_laysSizes_1) (fun q => absurd h1 (Int32.not_lt.mpr q)) (by decide) (mpp 4 rfl ?_)
  refine mp_a (a_iconst (v := 0) dX7_laysSizes_4 rfl) (mpp 5 rfl ?_)
  refine mp_a (a_goto (t := 12) dX7_laysSizes_5 (by decide)) ?_
  refine mp_a (a_istore_n (L' := [(2, .int 0), (0, .ref 301), (1, .int nz)]) dX7_laysSizes_12 (by decide) rfl) (mpp 13 rfl ?_)
  refine mp_a (a_iload_n dX7_laysSizes_13 rfl) (mpp 14 rfl ?_)
  refine mp_a (a_iconst (v := 1) dX7_laysSizes_14 rfl) (mpp 15 rfl ?_)
  refine mp_a (a_bipush (v := 8) dX7_laysSizes_15 rfl) (mpp 17 rfl ?_)
  refine mp_calls (i := 61) (q' := q_127) (As := [.int 0, .int 1, .int 8]) (rest := []) dX7_laysSizes_17 rfl qm_127 (by decide) rfl (Nat.le_of_ble_eq_true rfl) rfl ⟨rfl, rfl⟩ ⟨Nat.le_of_ble_eq_true rfl, Nat.le_of_ble_eq_true rfl⟩ (EvP.mono (by decide) m_isIn_0_1_8) (fun r1 P1 g1 => mpp 20 rfl ?_)
  obtain ⟨rfl, rfl⟩ := g1
  show MEvP _ none q_128 20 [(2, .int 0), (0, .ref 301), (1, .int nz)] [.int 0] _ _ _ _
  refine mp_Tf (t := 25) (j_if_ne dX7_laysSizes_20) (by decide) (by decide) (mpp 23 rfl ?_)
  refine mp_a (a_iconst (v := 0) dX7_laysSizes_23 rfl) (mpp 24 rfl ?_)
  exact mp_iret (⟨rfl, rfl⟩) dX7_laysSizes_24 (Or.inl rfl)
