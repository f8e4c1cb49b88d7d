set_option maxRecDepth 100000 in
set_option maxHeartbeats 4000000 in
theorem mo_add_k1 {P : mP} {a1 a2 a3 : Int32} (h : MOD P) (h1 : a1 < 0) : EvP 10 123 [.ref 301, .int a1, .int a2, .int a3] P (fun r P' => r = some (.int (-1002))) := by
  have h := MODK.of h
  refine EvP.of qm_123 (Nat.le_of_ble_eq_true rfl) rfl ?_
  show MEvP _ none q_123 0 [(0, .ref 301), (1, .int a1), (2, .int a2), (3, .int a3)] [] _ 0 0 _
  refine mp_a (a_aload_n dX7_add_0 rfl) (mpp 1 rfl ?_)
  refine mp_callv (i := 117) (q' := q_124) (As := []) (rest := []) dX7_add_1 rfl qm_124 (by decide) rfl (h.f (by decide) (by decide) p0_301) (by decide) (Nat.le_of_ble_eq_true rfl) rfl ⟨rfl, rfl⟩ ⟨Nat.le_of_ble_eq_true rfl, Nat.le_of_ble_eq_true rfl⟩ (EvP.mono (by decide) (m_keeps h)) (fun r1 P1 g1 => mpp 4 rfl ?_)
  obtain ⟨rfl, h⟩ := g1
  show MEvP _ none q_123 4 [(0, .ref 301), (1, .int a1), (2, .int a2), (3, .int a3)] [] _ _ _ _
  refine mp_a (a_aload_n dX7_add_4 rfl) (mpp 5 rfl ?_)
  refine mp_a (a_aload_n dX7_add_5 rfl) (mpp 6 rfl ?_)
  refine mp_a (a_iload_n dX7_add_6 rfl) (mpp 7 rfl ?_)
  refine mp_a (a_iload_n dX7_add_7 rfl) (mpp 8 rfl ?_)
  refine mp_a (a_iload_n dX7_add_8 rfl) (mpp 9 rfl ?_)
  refine mp_callv (i := 120) (q' := q_126) (As := [.int a1, .int a2, .int a3]) (rest := [.ref 301]) dX7_add_9 rfl qm_126 (by decide) rfl (h.f (by decide) (by decide) p0_301) (by decide) (Nat.le_of_ble_eq_true rfl) rfl ⟨rfl, rfl⟩ ⟨Nat.le_of_ble_eq_true rfl, Nat.le_of_ble_eq_true rfl⟩ (EvP.mono (by decide) (m_told_k1 h h1)) (fun r1 P1 g2 => mpp 12 rfl ?_)
  obtain ⟨rfl, h⟩ := g2
  show MEvP _ none q_123 12 [(0, .ref 301), (1, .int a1), (2, .int a2), (3, .int a3)] [.int (-1002), .ref 301] _ _ _ _
  refine mp_callv (i := 124) (q' := q_139) (As := [.int (-1002)]) (rest := []) dX7_add_12 rfl qm_139 (by decide) rfl h.1 (by decide) (Nat.le_of_ble_eq_true rfl) rfl ⟨rfl, rfl⟩ ⟨Nat.le_of_ble_eq_true rfl, Nat.le_of_ble_eq_true rfl⟩ (EvP.mono (by decide) (m_endsE_n1002 h)) (fun r1 P1 g3 => mpp 15 rfl ?_)
  obtain rfl := g3
  show MEvP _ none q_123 15 [(0, .ref 301), (1, .int a1), (2, .int a2), (3, .int a3)] [.int (-1002)] _ _ _ _
  exact mp_iret (rfl) dX7_add_15 (Or.inl rfl)

set_option maxRecDepth 100000 in
set_option maxHeartbeats 4000000 in
theorem mo_add_k2 {P : mP} {a1 a2 a3 : Int32} (h : MOD P) (h1 : ¬ a1 < 0) (h2 : 1 < a1) : EvP 10 123 [.ref 301, .int a1, .int a2, .int a3] P (fun r P' => r = some (.int (-1002))) := by
  have h := MODK.of h
  refine EvP.of qm_123 (Nat.le_of_ble_eq_true rfl) rfl ?_
  show MEvP _ none q_123 0 [(0, .ref 301), (1, .int a1), (2, .int a2), (3, .int a3)] [] _ 0 0 _
  refine mp_a (a_aload_n dX7_add_0 rfl) (mpp 1 rfl ?_)
  refine mp_callv (i := 117) (q' := q_124) (As := []) (rest := []) dX7_add_1 rfl qm_124 (by decide) rfl (h.f (by decide) (by decide) p0_301) (by decide) (Nat.le_of_ble_eq_true rfl) rfl ⟨rfl, rfl⟩ ⟨Nat.le_of_ble_eq_true rfl, Nat.le_of_ble_eq_true rfl⟩ (EvP.mono (by decide) (m_keeps h)) (fun r1 P1 g1 => mpp 4 rfl ?_)
  obtain ⟨rfl, h⟩ := g1
  show MEvP _ none q_123 4 [(0, .ref 301), (1, .int a1), (2, .int a2), (3, .int a3)] [] _ _ _ _
  refine mp_a (a_aload_n dX7_add_4 rfl) (mpp 5 rfl ?_)
  refine mp_a (a_aload_n dX7_add_5 rfl) (mpp 6 rfl ?_)
  refine mp_a (a_iload_n dX7_add_6 rfl) (mpp 7 rfl ?_)
  refine mp_a (a_iload_n dX7_add_7 rfl) (mpp 8 rfl ?_)
  refine mp_a (a_iload_n dX7_add_8 rfl) (mpp 9 rfl ?_)
  refine mp_callv (i := 120) (q' := q_126) (As := [.int a1, .int a2, .int a3]) (rest := [.ref 301]) dX7_add_9 rfl qm_126 (by decide) rfl (h.f (by decide) (by decide) p0_301) (by decide) (Nat.le_of_ble_eq_true rfl) rfl ⟨rfl, rfl⟩ ⟨Nat.le_of_ble_eq_true rfl, Nat.le_of_ble_eq_true rfl⟩ (EvP.mono (by decide) (m_told_k2 h h1 h2)) (fun r1 P1 g2 => mpp 12 rfl ?_)
  obtain ⟨rfl, h⟩ := g2
  show MEvP _ none q_123 12 [(0, .ref 301), (1, .int a1), (2, .int a2), (3, .int a3)] [.int (-1002), .ref 301] _ _ _ _
  refine mp_callv (i := 124) (q' := q_139) (As := [.int (-1002)]) (rest := []) dX7_add_12 rfl qm_139 (by decide) rfl h.1 (by decide) (Nat.le_of_ble_eq_true rfl) rfl ⟨rfl, rfl⟩ ⟨Nat.le_of_ble_eq_true rfl, Nat.le_of_ble_eq_true rfl⟩ (EvP.mono (by decide) (m_endsE_n1002 h)) (fun r1 P1 g3 => mpp 15 rfl ?_)
  obtain rfl := g3
  show MEvP _ none q_123 15 [(0, .ref 301), (1, .int a1), (2, .int a2), (3, .int a3)] [.int (-1002)] _ _ _ _
  exact mp_iret (rfl) dX7_add_15 (Or.inl rfl)

set_option maxRecDepth 100000 in
set_option maxHeartbeats 4000000 in
theorem mo_add_n0 {P : mP} {a2 a3 : Int32} (h : MOD P) (h1 : a2 < 0) : EvP 10 123 [.ref 301, .int 0, .int a2, .int a3] P (fun r P' => r = some (.int (-1002))) := by
  have h := MODK.of h
  refine EvP.of qm_123 (Nat.le_of_ble_eq_true rfl) rfl ?_
  show MEvP _ none q_123 0 [(0, .ref 301), (1, .int 0), (2, .int a2), (3, .int a3)] [] _ 0 0 _
  refine mp_a (a_aload_n dX7_add_0 rfl) (mpp 1 rfl ?_)
  refine mp_callv (i := 117) (q' := q_124) (As := []) (rest := []) dX7_add_1 rfl qm_124 (by decide) rfl (h.f (by decide) (by decide) p0_301) (by decide) (Nat.le_of_ble_eq_true rfl) rfl ⟨rfl, rfl⟩ ⟨Nat.le_of_ble_eq_true rfl, Nat.le_of_ble_eq_true rfl⟩ (EvP.mono (by decide) (m_keeps h)) (fun r1 P1 g1 => mpp 4 rfl ?_)
  obtain ⟨rfl, h⟩ := g1
  show MEvP _ none q_123 4 [(0, .ref 301), (1, .int 0), (2, .int a2), (3, .int a3)] [] _ _ _ _
  refine mp_a (a_aload_n dX7_add_4 rfl) (mpp 5 rfl ?_)
  refine mp_a (a_aload_n dX7_add_5 rfl) (mpp 6 rfl ?_)
  refine mp_a (a_iload_n dX7_add_6 rfl) (mpp 7 rfl ?_)
  refine mp_a (a_iload_n dX7_add_7 rfl) (mpp 8 rfl ?_)
  refine mp_a (a_iload_n dX7_add_8 rfl) (mpp 9 rfl ?_)
  refine mp_callv (i := 120) (q' := q_126) (As := [.int 0, .int a2, .int a3]) (rest := [.ref 301]) dX7_add_9 rfl qm_126 (by decide) rfl (h.f (by decide) (by decide) p0_301) (by decide) (Nat.le_of_ble_eq_true rfl) rfl ⟨rfl, rfl⟩ ⟨Nat.le_of_ble_eq_true rfl, Nat.le_of_ble_eq_true rfl⟩ (EvP.mono (by decide) (m_told_n0 h h1)) (fun r1 P1 g2 => mpp 12 rfl ?_)
  obtain ⟨rfl, h⟩ := g2
  show MEvP _ none q_123 12 [(0, .ref 301), (1, .int 0), (2, .int a2), (3, .int a3)] [.int (-1002), .ref 301] _ _ _ _
  refine mp_callv (i := 124) (q' := q_139) (As := [.int (-1002)]) (rest := []) dX7_add_12 rfl qm_139 (by decide) rfl h.1 (by decide) (Nat.le_of_ble_eq_true rfl) rfl ⟨rfl, rfl⟩ ⟨Nat.le_of_ble_eq_true rfl, Nat.le_of_ble_eq_true rfl⟩ (EvP.mono (by decide) (m_endsE_n1002 h)) (fun r1 P1 g3 => mpp 15 rfl ?_)
  obtain rfl := g3
  show MEvP _ none q_123 15 [(0, .ref 301), (1, .int 0), (2, .int a2), (3, .int a3)] [.int (-1002)] _ _ _ _
  exact mp_iret (rfl) dX7_add_15 (Or.inl rfl)

set_option maxRecDepth 100000 in
set_option maxHeartbeats 4000000 in
theorem mo_add_s0 {P : mP} {w : Nat} {a3 : Int32} (h : MOD P) (hw : w < 2 ^ 31) (hA : ¬ (1 ≤ ndf 10 w ∧ ndf 10 w ≤ 8 ∧ okS (ndf 10 w) w = true)) : EvP 10 123 [.ref 301, .int 0, .int (nI w), .int a3] P (fun r P' => r = some (.int (-1002))) := by
  have h := MODK.of h
  refine EvP.of qm_123 (Nat.le_of_ble_eq_true rfl) rfl ?_
  show MEvP _ none q_123 0 [(0, .ref 301), (1, .int 0), (2, .int (nI w)), (3, .int a3)] [] _ 0 0 _
  refine mp_a (a_aload_n dX7_add_0 rfl) (mpp 1 rfl ?_)
  refine mp_callv (i := 117) (q' := q_124) (As := []) (rest := []) dX7_add_1 rfl qm_124 (by decide) rfl (h.f (by decide) (by decide) p0_301) (by decide) (Nat.le_of_ble_eq_true rfl) rfl ⟨rfl, rfl⟩ ⟨Nat.le_of_ble_eq_true rfl, Nat.le_of_ble_eq_true rfl⟩ (EvP.mono (by decide) (m_keeps h)) (fun r1 P1 g1 => mpp 4 rfl ?_)
  obtain ⟨rfl, h⟩ := g1
  show MEvP _ none q_123 4 [(0, .ref 301), (1, .int 0), (2, .int (nI w)), (3, .int a3)] [] _ _ _ _
  refine mp_a (a_aload_n dX7_add_4 rfl) (mpp 5 rfl ?_)
  refine mp_a (a_aload_n dX7_add_5 rfl) (mpp 6 rfl ?_)
  refine mp_a (a_iload_n dX7_add_6 rfl) (mpp 7 rfl ?_)
  refine mp_a (a_iload_n dX7_add_7 rfl) (mpp 8 rfl ?_)
  refine mp_a (a_iload_n dX7_add_8 rfl) (mpp 9 rfl ?_)
  refine mp_callv (i := 120) (q' := q_126) (As := [.int 0, .int (nI w), .int a3]) (rest := [.ref 301]) dX7_add_9 rfl qm_126 (by decide) rfl (h.f (by decide) (by decide) p0_301) (by decide) (Nat.le_of_ble_eq_true rfl) rfl ⟨rfl, rfl⟩ ⟨Nat.le_of_ble_eq_true rfl, Nat.le_of_ble_eq_true rfl⟩ (EvP.mono (by decide) (m_told_s0 h hw hA)) (fun r1 P1 g2 => mpp 12 rfl ?_)
  obtain ⟨rfl, h⟩ := g2
  show MEvP _ none q_123 12 [(0, .ref 301), (1, .int 0), (2, .int (nI w)), (3, .int a3)] [.int (-1002), .ref 301] _ _ _ _
  refine mp_callv (i := 124) (q' := q_139) (As := [.int (-1002)]) (rest := []) dX7_add_12 rfl qm_139 (by decide) rfl h.1 (by decide) (Nat.le_of_ble_eq_true rfl) rfl ⟨rfl, rfl⟩ ⟨Nat.le_of_ble_eq_true rfl, Nat.le_of_ble_eq_true rfl⟩ (EvP.mono (by decide) (m_endsE_n1002 h)) (fun r1 P1 g3 => mpp 15 rfl ?_)
  obtain rfl := g3
  show MEvP _ none q_123 15 [(0, .ref 301), (1, .int 0), (2, .int (nI w)), (3, .int a3)] [.int (-1002)] _ _ _ _
  exact mp_iret (rfl) dX7_add_15 (Or.inl rfl)

set_option maxRecDepth 100000 in
set_option maxHeartbeats 4000000 in
theorem mo_add_a0 {P : mP} {w : Nat} {a3 : Int32} (h : MOD P) (hw : w < 2 ^ 31) (hA : 1 ≤ ndf 10 w ∧ ndf 10 w ≤ 8 ∧ okS (ndf 10 w) w = true) (hs : szok 0 w = false) : EvP 10 123 [.ref 301, .int 0, .int (nI w), .int a3] P (fun r P' => r = some (.int (-1002))) := by
  have h := MODK.of h
  refine EvP.of qm_123 (Nat.le_of_ble_eq_true rfl) rfl ?_
  show MEvP _ none q_123 0 [(0, .ref 301), (1, .int 0), (2, .int (nI w)), (3, .int a3)] [] _ 0 0 _
  refine mp_a (a_aload_n dX7_add_0 rfl) (mpp 1 rfl ?_)
  refine mp_callv (i := 117) (q' := q_124) (As := []) (rest := []) dX7_add_1 rfl qm_124 (by decide) rfl (h.f (by decide) (by decide) p0_301) (by decide) (Nat.le_of_ble_eq_true rfl) rfl ⟨rfl, rfl⟩ ⟨Nat.le_of_ble_eq_true rfl, Nat.le_of_ble_eq_true rfl⟩ (EvP.mono (by decide) (m_keeps h)) (fun r1 P1 g1 => mpp 4 rfl ?_)
  obtain ⟨rfl, h⟩ := g1
  show MEvP _ none q_123 4 [(0, .ref 301), (1, .int 0), (2, .int (nI w)), (3, .int a3)] [] _ _ _ _
  refine mp_a (a_aload_n dX7_add_4 rfl) (mpp 5 rfl ?_)
  refine mp_a (a_aload_n dX7_add_5 rfl) (mpp 6 rfl ?_)
  refine mp_a (a_iload_n dX7_add_6 rfl) (mpp 7 rfl ?_)
  refine mp_a (a_iload_n dX7_add_7 rfl) (mpp 8 rfl ?_)
  refine mp_a (a_iload_n dX7_add_8 rfl) (mpp 9 rfl ?_)
  refine mp_callv (i := 120) (q' := q_126) (As := [.int 0, .int (nI w), .int a3]) (rest := [.ref 301]) dX7_add_9 rfl qm_126 (by decide) rfl (h.f (by decide) (by decide) p0_301) (by decide) (Nat.le_of_ble_eq_true rfl) rfl ⟨rfl, rfl⟩ ⟨Nat.le_of_ble_eq_true rfl, Nat.le_of_ble_eq_true rfl⟩ (EvP.mono (by decide) (m_told_a0 h hw hA hs)) (fun r1 P1 g2 => mpp 12 rfl ?_)
  obtain ⟨rfl, h⟩ := g2
  show MEvP _ none q_123 12 [(0, .ref 301), (1, .int 0), (2, .int (nI w)), (3, .int a3)] [.int (-1002), .ref 301] _ _ _ _
  refine mp_callv (i := 124) (q' := q_139) (As := [.int (-1002)]) (rest := []) dX7_add_12 rfl qm_139 (by decide) rfl h.1 (by decide) (Nat.le_of_ble_eq_true rfl) rfl ⟨rfl, rfl⟩ ⟨Nat.le_of_ble_eq_true rfl, Nat.le_of_ble_eq_true rfl⟩ (EvP.mono (by decide) (m_endsE_n1002 h)) (fun r1 P1 g3 => mpp 15 rfl ?_)
  obtain rfl := g3
  show MEvP _ none q_123 15 [(0, .ref 301), (1, .int 0), (2, .int (nI w)), (3, .int a3)] [.int (-1002)] _ _ _ _
  exact mp_iret (rfl) dX7_add_15 (Or.inl rfl)

set_option maxRecDepth 100000 in
set_option maxHeartbeats 4000000 in
theorem mo_add_c0 {P : mP} {w m : Nat} {a3 : Int32} (h : MOD P) (hw : w < 2 ^ 31) (hs : szok 0 w = true) (hm : ndf 10 w = (m + 1)) (h2 : a3 < 0) : EvP 10 123 [.ref 301, .int 0, .int (nI w), .int a3] P (fun r P' => r = some (.int (-1002))) := by
  have h := MODK.of h
  refine EvP.of qm_123 (Nat.le_of_ble_eq_true rfl) rfl ?_
  show MEvP _ none q_123 0 [(0, .ref 301), (1, .int 0), (2, .int (nI w)), (3, .int a3)] [] _ 0 0 _
  refine mp_a (a_aload_n dX7_add_0 rfl) (mpp 1 rfl ?_)
  refine mp_callv (i := 117) (q' := q_124) (As := []) (rest := []) dX7_add_1 rfl qm_124 (by decide) rfl (h.f (by decide) (by decide) p0_301) (by decide) (Nat.le_of_ble_eq_true rfl) rfl ⟨rfl, rfl⟩ ⟨Nat.le_of_ble_eq_true rfl, Nat.le_of_ble_eq_true rfl⟩ (EvP.mono (by decide) (m_keeps h)) (fun r1 P1 g1 => mpp 4 rfl ?_)
  obtain ⟨rfl, h⟩ := g1
  show MEvP _ none q_123 4 [(0, .ref 301), (1, .int 0), (2, .int (nI w)), (3, .int a3)] [] _ _ _ _
  refine mp_a (a_aload_n dX7_add_4 rfl) (mpp 5 rfl ?_)
  refine mp_a (a_aload_n dX7_add_5 rfl) (mpp 6 rfl ?_)
  refine mp_a (a_iload_n dX7_add_6 rfl) (mpp 7 rfl ?_)
  refine mp_a (a_iload_n dX7_add_7 rfl) (mpp 8 rfl ?_)
  refine mp_a (a_iload_n dX7_add_8 rfl) (mpp 9 rfl ?_)
  refine mp_callv (i := 120) (q' := q_126) (As := [.int 0, .int (nI w), .int a3]) (rest := [.ref 301]) dX7_add_9 rfl qm_126 (by decide) rfl (h.f (by decide) (by decide) p0_301) (by decide) (Nat.le_of_ble_eq_true rfl) rfl ⟨rfl, rfl⟩ ⟨Nat.le_of_ble_eq_true rfl, Nat.le_of_ble_eq_true rfl⟩ (EvP.mono (by decide) (m_told_c0 h hw hs hm h2)) (fun r1 P1 g2 => mpp 12 rfl ?_)
  obtain ⟨rfl, h⟩ := g2
  show MEvP _ none q_123 12 [(0, .ref 301), (1, .int 0), (2, .int (nI w)), (3, .int a3)] [.int (-1002), .ref 301] _ _ _ _
  refine mp_callv (i := 124) (q' := q_139) (As := [.int (-1002)]) (rest := []) dX7_add_12 rfl qm_139 (by decide) rfl h.1 (by decide) (Nat.le_of_ble_eq_true rfl) rfl ⟨rfl, rfl⟩ ⟨Nat.le_of_ble_eq_true rfl, Nat.le_of_ble_eq_true rfl⟩ (EvP.mono (by decide) (m_endsE_n1002 h)) (fun r1 P1 g3 => mpp 15 rfl ?_)
  obtain rfl := g3
  show MEvP _ none q_123 15 [(0, .ref 301), (1, .int 0), (2, .int (nI w)), (3, .int a3)] [.int (-1002)] _ _ _ _
  exact mp_iret (rfl) dX7_add_15 (Or.inl rfl)

set_option maxRecDepth 100000 in
set_option maxHeartbeats 4000000 in
theorem mo_add_f0 {P : mP} {w m v : Nat} (h : MOD P) (hw : w < 2 ^ 31) (hs : szok 0 w = true) (hm : ndf 10 w = (m + 1)) (hv : v < 2 ^ 31) (hk : crok m v = false) : EvP 10 123 [.ref 301, .int 0, .int (nI w), .int (nI v)] P (fun r P' => r = some (.int (-1002))) := by
  have h := MODK.of h
  refine EvP.of qm_123 (Nat.le_of_ble_eq_true rfl) rfl ?_
  show MEvP _ none q_123 0 [(0, .ref 301), (1, .int 0), (2, .int (nI w)), (3, .int (nI v))] [] _ 0 0 _
  refine mp_a (a_aload_n dX7_add_0 rfl) (mpp 1 rfl ?_)
  refine mp_callv (i := 117) (q' := q_124) (As := []) (rest := []) dX7_add_1 rfl qm_124 (by decide) rfl (h.f (by decide) (by decide) p0_301) (by decide) (Nat.le_of_ble_eq_true rfl) rfl ⟨rfl, rfl⟩ ⟨Nat.le_of_ble_eq_true rfl, Nat.le_of_ble_eq_true rfl⟩ (EvP.mono (by decide) (m_keeps h)) (fun r1 P1 g1 => mpp 4 rfl ?_)
  obtain ⟨rfl, h⟩ := g1
  show MEvP _ none q_123 4 [(0, .ref 301), (1, .int 0), (2, .int (nI w)), (3, .int (nI v))] [] _ _ _ _
  refine mp_a (a_aload_n dX7_add_4 rfl) (mpp 5 rfl ?_)
  refine mp_a (a_aload_n dX7_add_5 rfl) (mpp 6 rfl ?_)
  refine mp_a (a_iload_n dX7_add_6 rfl) (mpp 7 rfl ?_)
  refine mp_a (a_iload_n dX7_add_7 rfl) (mpp 8 rfl ?_)
  refine mp_a (a_iload_n dX7_add_8 rfl) (mpp 9 rfl ?_)
  refine mp_callv (i := 120) (q' := q_126) (As := [.int 0, .int (nI w), .int (nI v)]) (rest := [.ref 301]) dX7_add_9 rfl qm_126 (by decide) rfl (h.f (by decide) (by decide) p0_301) (by decide) (Nat.le_of_ble_eq_true rfl) rfl ⟨rfl, rfl⟩ ⟨Nat.le_of_ble_eq_true rfl, Nat.le_of_ble_eq_true rfl⟩ (EvP.mono (by decide) (m_told_f0 h hw hs hm hv hk)) (fun r1 P1 g2 => mpp 12 rfl ?_)
  obtain ⟨rfl, h⟩ := g2
  show MEvP _ none q_123 12 [(0, .ref 301), (1, .int 0), (2, .int (nI w)), (3, .int (nI v))] [.int (-1002), .ref 301] _ _ _ _
  refine mp_callv (i := 124) (q' := q_139) (As := [.int (-1002)]) (rest := []) dX7_add_12 rfl qm_139 (by decide) rfl h.1 (by decide) (Nat.le_of_ble_eq_true rfl) rfl ⟨rfl, rfl⟩ ⟨Nat.le_of_ble_eq_true rfl, Nat.le_of_ble_eq_true rfl⟩ (EvP.mono (by decide) (m_endsE_n1002 h)) (fun r1 P1 g3 => mpp 15 rfl ?_)
  obtain rfl := g3
  show MEvP _ none q_123 15 [(0, .ref 301), (1, .int 0), (2, .int (nI w)), (3, .int (nI v))] [.int (-1002)] _ _ _ _
  exact mp_iret (rfl) dX7_add_15 (Or.inl rfl)

set_option maxRecDepth 100000 in
set_option maxHeartbeats 4000000 in
theorem mo_add_t0 {P : mP} {w m v : Nat} (h : MOD P) (hw : w < 2 ^ 31) (hs : szok 0 w = true) (hm : ndf 10 w = (m + 1)) (hv : v < 2 ^ 31) (hk : crok m v = true) : EvP 10 123 [.ref 301, .int 0, .int (nI w), .int (nI v)] P (fun r P' => r = some (.int 0)) := by
  have h := MODK.of h
  refine EvP.of qm_123 (Nat.le_of_ble_eq_true rfl) rfl ?_
  show MEvP _ none q_123 0 [(0, .ref 301), (1, .int 0), (2, .int (nI w)), (3, .int (nI v))] [] _ 0 0 _
  refine mp_a (a_aload_n dX7_add_0 rfl) (mpp 1 rfl ?_)
  refine mp_callv (i := 117) (q' := q_124) (As := []) (rest := []) dX7_add_1 rfl qm_124 (by decide) rfl (h.f (by decide) (by decide) p0_301) (by decide) (Nat.le_of_ble_eq_true rfl) rfl ⟨rfl, rfl⟩ ⟨Nat.le_of_ble_eq_true rfl, Nat.le_of_ble_eq_true rfl⟩ (EvP.mono (by decide) (m_keeps h)) (fun r1 P1 g1 => mpp 4 rfl ?_)
  obtain ⟨rfl, h⟩ := g1
  show MEvP _ none q_123 4 [(0, .ref 301), (1, .int 0), (2, .int (nI w)), (3, .int (nI v))] [] _ _ _ _
  refine mp_a (a_aload_n dX7_add_4 rfl) (mpp 5 rfl ?_)
  refine mp_a (a_aload_n dX7_add_5 rfl) (mpp 6 rfl ?_)
  refine mp_a (a_iload_n dX7_add_6 rfl) (mpp 7 rfl ?_)
  refine mp_a (a_iload_n dX7_add_7 rfl) (mpp 8 rfl ?_)
  refine mp_a (a_iload_n dX7_add_8 rfl) (mpp 9 rfl ?_)
  refine mp_callv (i := 120) (q' := q_126) (As := [.int 0, .int (nI w), .int (nI v)]) (rest := [.ref 301]) dX7_add_9 rfl qm_126 (by decide) rfl (h.f (by decide) (by decide) p0_301) (by decide) (Nat.le_of_ble_eq_true rfl) rfl ⟨rfl, rfl⟩ ⟨Nat.le_of_ble_eq_true rfl, Nat.le_of_ble_eq_true rfl⟩ (EvP.mono (by decide) (m_told_t0 h hw hs hm hv hk)) (fun r1 P1 g2 => mpp 12 rfl ?_)
  obtain ⟨rfl, h⟩ := g2
  show MEvP _ none q_123 12 [(0, .ref 301), (1, .int 0), (2, .int (nI w)), (3, .int (nI v))] [.int 0, .ref 301] _ _ _ _
  refine mp_callv (i := 124) (q' := q_139) (As := [.int 0]) (rest := []) dX7_add_12 rfl qm_139 (by decide) rfl h.1 (by decide) (Nat.le_of_ble_eq_true rfl) rfl ⟨rfl, rfl⟩ ⟨Nat.le_of_ble_eq_true rfl, Nat.le_of_ble_eq_true rfl⟩ (EvP.mono (by decide) (m_endsE_0 h)) (fun r1 P1 g3 => mpp 15 rfl ?_)
  obtain rfl := g3
  show MEvP _ none q_123 15 [(0, .ref 301), (1, .int 0), (2, .int (nI w)), (3, .int (nI v))] [.int 0] _ _ _ _
  exact mp_iret (rfl) dX7_add_15 (Or.inl rfl)

set_option maxRecDepth 100000 in
set_option maxHeartbeats 4000000 in
theorem mo_add_n1 {P : mP} {a2 a3 : Int32} (h : MOD P) (h1 : a2 < 0) : EvP 10 123 [.ref 301, .int 1, .int a2, .int a3] P (fun r P' => r = some (.int (-1002))) := by
  have h := MODK.of h
  refine EvP.of qm_123 (Nat.le_of_ble_eq_true rfl) rfl ?_
  show MEvP _ none q_123 0 [(0, .ref 301), (1, .int 1), (2, .int a2), (3, .int a3)] [] _ 0 0 _
  refine mp_a (a_aload_n dX7_add_0 rfl) (mpp 1 rfl ?_)
  refine mp_callv (i := 117) (q' := q_124) (As := []) (rest := []) dX7_add_1 rfl qm_124 (by decide) rfl (h.f (by decide) (by decide) p0_301) (by decide) (Nat.le_of_ble_eq_true rfl) rfl ⟨rfl, rfl⟩ ⟨Nat.le_of_ble_eq_true rfl, Nat.le_of_ble_eq_true rfl⟩ (EvP.mono (by decide) (m_keeps h)) (fun r1 P1 g1 => mpp 4 rfl ?_)
  obtain ⟨rfl, h⟩ := g1
  show MEvP _ none q_123 4 [(0, .ref 301), (1, .int 1), (2, .int a2), (3, .int a3)] [] _ _ _ _
  refine mp_a (a_aload_n dX7_add_4 rfl) (mpp 5 rfl ?_)
  refine mp_a (a_aload_n dX7_add_5 rfl) (mpp 6 rfl ?_)
  refine mp_a (a_iload_n dX7_add_6 rfl) (mpp 7 rfl ?_)
  refine mp_a (a_iload_n dX7_add_7 rfl) (mpp 8 rfl ?_)
  refine mp_a (a_iload_n dX7_add_8 rfl) (mpp 9 rfl ?_)
  refine mp_callv (i := 120) (q' := q_126) (As := [.int 1, .int a2, .int a3]) (rest := [.ref 301]) dX7_add_9 rfl qm_126 (by decide) rfl (h.f (by decide) (by decide) p0_301) (by decide) (Nat.le_of_ble_eq_true rfl) rfl ⟨rfl, rfl⟩ ⟨Nat.le_of_ble_eq_true rfl, Nat.le_of_ble_eq_true rfl⟩ (EvP.mono (by decide) (m_told_n1 h h1)) (fun r1 P1 g2 => mpp 12 rfl ?_)
  obtain ⟨rfl, h⟩ := g2
  show MEvP _ none q_123 12 [(0, .ref 301), (1, .int 1), (2, .int a2), (3, .int a3)] [.int (-1002), .ref 301] _ _ _ _
  refine mp_callv (i := 124) (q' := q_139) (As := [.int (-1002)]) (rest := []) dX7_add_12 rfl qm_139 (by decide) rfl h.1 (by decide) (Nat.le_of_ble_eq_true rfl) rfl ⟨rfl, rfl⟩ ⟨Nat.le_of_ble_eq_true rfl, Nat.le_of_ble_eq_true rfl⟩ (EvP.mono (by decide) (m_endsE_n1002 h)) (fun r1 P1 g3 => mpp 15 rfl ?_)
  obtain rfl := g3
  show MEvP _ none q_123 15 [(0, .ref 301), (1, .int 1), (2, .int a2), (3, .int a3)] [.int (-1002)] _ _ _ _
  exact mp_iret (rfl) dX7_add_15 (Or.inl rfl)

set_option maxRecDepth 100000 in
set_option maxHeartbeats 4000000 in
theorem mo_add_s1 {P : mP} {w : Nat} {a3 : Int32} (h : MOD P) (hw : w < 2 ^ 31) (hA : ¬ (1 ≤ ndf 10 w ∧ ndf 10 w ≤ 8 ∧ okS (ndf 10 w) w = true)) : EvP 10 123 [.ref 301, .int 1, .int (nI w), .int a3] P (fun r P' => r = some (.int (-1002))) := by
  have h := MODK.of h
  refine EvP.of qm_123 (Nat.le_of_ble_eq_true rfl) rfl ?_
  show MEvP _ none q_123 0 [(0, .ref 301), (1, .int 1), (2, .int (nI w)), (3, .int a3)] [] _ 0 0 _
  refine mp_a (a_aload_n dX7_add_0 rfl) (mpp 1 rfl ?_)
  refine mp_callv (i := 117) (q' := q_124) (As := []) (rest := []) dX7_add_1 rfl qm_124 (by decide) rfl (h.f (by decide) (by decide) p0_301) (by decide) (Nat.le_of_ble_eq_true rfl) rfl ⟨rfl, rfl⟩ ⟨Nat.le_of_ble_eq_true rfl, Nat.le_of_ble_eq_true rfl⟩ (EvP.mono (by decide) (m_keeps h)) (fun r1 P1 g1 => mpp 4 rfl ?_)
  obtain ⟨rfl, h⟩ := g1
  show MEvP _ none q_123 4 [(0, .ref 301), (1, .int 1), (2, .int (nI w)), (3, .int a3)] [] _ _ _ _
  refine mp_a (a_aload_n dX7_add_4 rfl) (mpp 5 rfl ?_)
  refine mp_a (a_aload_n dX7_add_5 rfl) (mpp 6 rfl ?_)
  refine mp_a (a_iload_n dX7_add_6 rfl) (mpp 7 rfl ?_)
  refine mp_a (a_iload_n dX7_add_7 rfl) (mpp 8 rfl ?_)
  refine mp_a (a_iload_n dX7_add_8 rfl) (mpp 9 rfl ?_)
  refine mp_callv (i := 120) (q' := q_126) (As := [.int 1, .int (nI w), .int a3]) (rest := [.ref 301]) dX7_add_9 rfl qm_126 (by decide) rfl (h.f (by decide) (by decide) p0_301) (by decide) (Nat.le_of_ble_eq_true rfl) rfl ⟨rfl, rfl⟩ ⟨Nat.le_of_ble_eq_true rfl, Nat.le_of_ble_eq_true rfl⟩ (EvP.mono (by decide) (m_told_s1 h hw hA)) (fun r1 P1 g2 => mpp 12 rfl ?_)
  obtain ⟨rfl, h⟩ := g2
  show MEvP _ none q_123 12 [(0, .ref 301), (1, .int 1), (2, .int (nI w)), (3, .int a3)] [.int (-1002), .ref 301] _ _ _ _
  refine mp_callv (i := 124) (q' := q_139) (As := [.int (-1002)]) (rest := []) dX7_add_12 rfl qm_139 (by decide) rfl h.1 (by decide) (Nat.le_of_ble_eq_true rfl) rfl ⟨rfl, rfl⟩ ⟨Nat.le_of_ble_eq_true rfl, Nat.le_of_ble_eq_true rfl⟩ (EvP.mono (by decide) (m_endsE_n1002 h)) (fun r1 P1 g3 => mpp 15 rfl ?_)
  obtain rfl := g3
  show MEvP _ none q_123 15 [(0, .ref 301), (1, .int 1), (2, .int (nI w)), (3, .int a3)] [.int (-1002)] _ _ _ _
  exact mp_iret (rfl) dX7_add_15 (Or.inl rfl)

set_option maxRecDepth 100000 in
set_option maxHeartbeats 4000000 in
theorem mo_add_a1 {P : mP} {w : Nat} {a3 : Int32} (h : MOD P) (hw : w < 2 ^ 31) (hA : 1 ≤ ndf 10 w ∧ ndf 10 w ≤ 8 ∧ okS (ndf 10 w) w = true) (hs : szok 1 w = false) : EvP 10 123 [.ref 301, .int 1, .int (nI w), .int a3] P (fun r P' => r = some (.int (-1002))) := by
  have h := MODK.of h
  refine EvP.of qm_123 (Nat.le_of_ble_eq_true rfl) rfl ?_
  show MEvP _ none q_123 0 [(0, .ref 301), (1, .int 1), (2, .int (nI w)), (3, .int a3)] [] _ 0 0 _
  refine mp_a (a_aload_n dX7_add_0 rfl) (mpp 1 rfl ?_)
  refine mp_callv (i := 117) (q' := q_124) (As := []) (rest := []) dX7_add_1 rfl qm_124 (by decide) rfl (h.f (by decide) (by decide) p0_301) (by decide) (Nat.le_of_ble_eq_true rfl) rfl ⟨rfl, rfl⟩ ⟨Nat.le_of_ble_eq_true rfl, Nat.le_of_ble_eq_true rfl⟩ (EvP.mono (by decide) (m_keeps h)) (fun r1 P1 g1 => mpp 4 rfl ?_)
  obtain ⟨rfl, h⟩ := g1
  show MEvP _ none q_123 4 [(0, .ref 301), (1, .int 1), (2, .int (nI w)), (3, .int a3)] [] _ _ _ _
  refine mp_a (a_aload_n dX7_add_4 rfl) (mpp 5 rfl ?_)
  refine mp_a (a_aload_n dX7_add_5 rfl) (mpp 6 rfl ?_)
  refine mp_a (a_iload_n dX7_add_6 rfl) (mpp 7 rfl ?_)
  refine mp_a (a_iload_n dX7_add_7 rfl) (mpp 8 rfl ?_)
  refine mp_a (a_iload_n dX7_add_8 rfl) (mpp 9 rfl ?_)
  refine mp_callv (i := 120) (q' := q_126) (As := [.int 1, .int (nI w), .int a3]) (rest := [.ref 301]) dX7_add_9 rfl qm_126 (by decide) rfl (h.f (by decide) (by decide) p0_301) (by decide) (Nat.le_of_ble_eq_true rfl) rfl ⟨rfl, rfl⟩ ⟨Nat.le_of_ble_eq_true rfl, Nat.le_of_ble_eq_true rfl⟩ (EvP.mono (by decide) (m_told_a1 h hw hA hs)) (fun r1 P1 g2 => mpp 12 rfl ?_)
  obtain ⟨rfl, h⟩ := g2
  show MEvP _ none q_123 12 [(0, .ref 301), (1, .int 1), (2, .int (nI w)), (3, .int a3)] [.int (-1002), .ref 301] _ _ _ _
  refine mp_callv (i := 124) (q' := q_139) (As := [.int (-1002)]) (rest := []) dX7_add_12 rfl qm_139 (by decide) rfl h.1 (by decide) (Nat.le_of_ble_eq_true rfl) rfl ⟨rfl, rfl⟩ ⟨Nat.le_of_ble_eq_true rfl, Nat.le_of_ble_eq_true rfl⟩ (EvP.mono (by decide) (m_endsE_n1002 h)) (fun r1 P1 g3 => mpp 15 rfl ?_)
  obtain rfl := g3
  show MEvP _ none q_123 15 [(0, .ref 301), (1, .int 1), (2, .int (nI w)), (3, .int a3)] [.int (-1002)] _ _ _ _
  exact mp_iret (rfl) dX7_add_15 (Or.inl rfl)

set_option maxRecDepth 100000 in
set_option maxHeartbeats 4000000 in
theorem mo_add_c1 {P : mP} {w m : Nat} {a3 : Int32} (h : MOD P) (hw : w < 2 ^ 31) (hs : szok 1 w = true) (hm : ndf 10 w = m) (h2 : a3 < 0) : EvP 10 123 [.ref 301, .int 1, .int (nI w), .int a3] P (fun r P' => r = some (.int (-1002))) := by
  have h := MODK.of h
  refine EvP.of qm_123 (Nat.le_of_ble_eq_true rfl) rfl ?_
  show MEvP _ none q_123 0 [(0, .ref 301), (1, .int 1), (2, .int (nI w)), (3, .int a3)] [] _ 0 0 _
  refine mp_a (a_aload_n dX7_add_0 rfl) (mpp 1 rfl ?_)
  refine mp_callv (i := 117) (q' := q_124) (As := []) (rest := []) dX7_add_1 rfl qm_124 (by decide) rfl (h.f (by decide) (by decide) p0_301) (by decide) (Nat.le_of_ble_eq_true rfl) rfl ⟨rfl, rfl⟩ ⟨Nat.le_of_ble_eq_true rfl, Nat.le_of_ble_eq_true rfl⟩ (EvP.mono (by decide) (m_keeps h)) (fun r1 P1 g1 => mpp 4 rfl ?_)
  obtain ⟨rfl, h⟩ := g1
  show MEvP _ none q_123 4 [(0, .ref 301), (1, .int 1), (2, .int (nI w)), (3, .int a3)] [] _ _ _ _
  refine mp_a (a_aload_n dX7_add_4 rfl) (mpp 5 rfl ?_)
  refine mp_a (a_aload_n dX7_add_5 rfl) (mpp 6 rfl ?_)
  refine mp_a (a_iload_n dX7_add_6 rfl) (mpp 7 rfl ?_)
  refine mp_a (a_iload_n dX7_add_7 rfl) (mpp 8 rfl ?_)
  refine mp_a (a_iload_n dX7_add_8 rfl) (mpp 9 rfl ?_)
  refine mp_callv (i := 120) (q' := q_126) (As := [.int 1, .int (nI w), .int a3]) (rest := [.ref 301]) dX7_add_9 rfl qm_126 (by decide) rfl (h.f (by decide) (by decide) p0_301) (by decide) (Nat.le_of_ble_eq_true rfl) rfl ⟨rfl, rfl⟩ ⟨Nat.le_of_ble_eq_true rfl, Nat.le_of_ble_eq_true rfl⟩ (EvP.mono (by decide) (m_told_c1 h hw hs hm h2)) (fun r1 P1 g2 => mpp 12 rfl ?_)
  obtain ⟨rfl, h⟩ := g2
  show MEvP _ none q_123 12 [(0, .ref 301), (1, .int 1), (2, .int (nI w)), (3, .int a3)] [.int (-1002), .ref 301] _ _ _ _
  refine mp_callv (i := 124) (q' := q_139) (As := [.int (-1002)]) (rest := []) dX7_add_12 rfl qm_139 (by decide) rfl h.1 (by decide) (Nat.le_of_ble_eq_true rfl) rfl ⟨rfl, rfl⟩ ⟨Nat.le_of_ble_eq_true rfl, Nat.le_of_ble_eq_true rfl⟩ (EvP.mono (by decide) (m_endsE_n1002 h)) (fun r1 P1 g3 => mpp 15 rfl ?_)
  obtain rfl := g3
  show MEvP _ none q_123 15 [(0, .ref 301), (1, .int 1), (2, .int (nI w)), (3, .int a3)] [.int (-1002)] _ _ _ _
  exact mp_iret (rfl) dX7_add_15 (Or.inl rfl)

set_option maxRecDepth 100000 in
set_option maxHeartbeats 4000000 in
theorem mo_add_f1 {P : mP} {w m v : Nat} (h : MOD P) (hw : w < 2 ^ 31) (hs : szok 1 w = true) (hm : ndf 10 w = m) (hv : v < 2 ^ 31) (hk : crok m v = false) : EvP 10 123 [.ref 301, .int 1, .int (nI w), .int (nI v)] P (fun r P' => r = some (.int (-1002))) := by
  have h := MODK.of h
  refine EvP.of qm_123 (Nat.le_of_ble_eq_true rfl) rfl ?_
  show MEvP _ none q_123 0 [(0, .ref 301), (1, .int 1), (2, .int (nI w)), (3, .int (nI v))] [] _ 0 0 _
  refine mp_a (a_aload_n dX7_add_0 rfl) (mpp 1 rfl ?_)
  refine mp_callv (i := 117) (q' := q_124) (As := []) (rest := []) dX7_add_1 rfl qm_124 (by decide) rfl (h.f (by decide) (by decide) p0_301) (by decide) (Nat.le_of_ble_eq_true rfl) rfl ⟨rfl, rfl⟩ ⟨Nat.le_of_ble_eq_true rfl, Nat.le_of_ble_eq_true rfl⟩ (EvP.mono (by decide) (m_keeps h)) (fun r1 P1 g1 => mpp 4 rfl ?_)
  obtain ⟨rfl, h⟩ := g1
  show MEvP _ none q_123 4 [(0, .ref 301), (1, .int 1), (2, .int (nI w)), (3, .int (nI v))] [] _ _ _ _
  refine mp_a (a_aload_n dX7_add_4 rfl) (mpp 5 rfl ?_)
  refine mp_a (a_aload_n dX7_add_5 rfl) (mpp 6 rfl ?_)
  refine mp_a (a_iload_n dX7_add_6 rfl) (mpp 7 rfl ?_)
  refine mp_a (a_iload_n dX7_add_7 rfl) (mpp 8 rfl ?_)
  refine mp_a (a_iload_n dX7_add_8 rfl) (mpp 9 rfl ?_)
  refine mp_callv (i := 120) (q' := q_126) (As := [.int 1, .int (nI w), .int (nI v)]) (rest := [.ref 301]) dX7_add_9 rfl qm_126 (by decide) rfl (h.f (by decide) (by decide) p0_301) (by decide) (Nat.le_of_ble_eq_true rfl) rfl ⟨rfl, rfl⟩ ⟨Nat.le_of_ble_eq_true rfl, Nat.le_of_ble_eq_true rfl⟩ (EvP.mono (by decide) (m_told_f1 h hw hs hm hv hk)) (fun r1 P1 g2 => mpp 12 rfl ?_)
  obtain ⟨rfl, h⟩ := g2
  show MEvP _ none q_123 12 [(0, .ref 301), (1, .int 1), (2, .int (nI w)), (3, .int (nI v))] [.int (-1002), .ref 301] _ _ _ _
  refine mp_callv (i := 124) (q' := q_139) (As := [.int (-1002)]) (rest := []) dX7_add_12 rfl qm_139 (by decide) rfl h.1 (by decide) (Nat.le_of_ble_eq_true rfl) rfl ⟨rfl, rfl⟩ ⟨Nat.le_of_ble_eq_true rfl, Nat.le_of_ble_eq_true rfl⟩ (EvP.mono (by decide) (m_endsE_n1002 h)) (fun r1 P1 g3 => mpp 15 rfl ?_)
  obtain rfl := g3
  show MEvP _ none q_123 15 [(0, .ref 301), (1, .int 1), (2, .int (nI w)), (3, .int (nI v))] [.int (-1002)] _ _ _ _
  exact mp_iret (rfl) dX7_add_15 (Or.inl rfl)

set_option maxRecDepth 100000 in
set_option maxHeartbeats 4000000 in
theorem mo_add_t1 {P : mP} {w m v : Nat} (h : MOD P) (hw : w < 2 ^ 31) (hs : szok 1 w = true) (hm : ndf 10 w = m) (hv : v < 2 ^ 31) (hk : crok m v = true) : EvP 10 123 [.ref 301, .int 1, .int (nI w), .int (nI v)] P (fun r P' => r = some (.int 0)) := by
  have h := MODK.of h
  refine EvP.of qm_123 (Nat.le_of_ble_eq_true rfl) rfl ?_
  show MEvP _ none q_123 0 [(0, .ref 301), (1, .int 1), (2, .int (nI w)), (3, .int (nI v))] [] _ 0 0 _
  refine mp_a (a_aload_n dX7_add_0 rfl) (mpp 1 rfl ?_)
  refine mp_callv (i := 117) (q' := q_124) (As := []) (rest := []) dX7_add_1 rfl qm_124 (by decide) rfl (h.f (by decide) (by decide) p0_301) (by decide) (Nat.le_of_ble_eq_true rfl) rfl ⟨rfl, rfl⟩ ⟨Nat.le_of_ble_eq_true rfl, Nat.le_of_ble_eq_true rfl⟩ (EvP.mono (by decide) (m_keeps h)) (fun r1 P1 g1 => mpp 4 rfl ?_)
  obtain ⟨rfl, h⟩ := g1
  show MEvP _ none q_123 4 [(0, .ref 301), (1, .int 1), (2, .int (nI w)), (3, .int (nI v))] [] _ _ _ _
  refine mp_a (a_aload_n dX7_add_4 rfl) (mpp 5 rfl ?_)
  refine mp_a (a_aload_n dX7_add_5 rfl) (mpp 6 rfl ?_)
  refine mp_a (a_iload_n dX7_add_6 rfl) (mpp 7 rfl ?_)
  refine mp_a (a_iload_n dX7_add_7 rfl) (mpp 8 rfl ?_)
  refine mp_a (a_iload_n dX7_add_8 rfl) (mpp 9 rfl ?_)
  refine mp_callv (i := 120) (q' := q_126) (As := [.int 1, .int (nI w), .int (nI v)]) (rest := [.ref 301]) dX7_add_9 rfl qm_126 (by decide) rfl (h.f (by decide) (by decide) p0_301) (by decide) (Nat.le_of_ble_eq_true rfl) rfl ⟨rfl, rfl⟩ ⟨Nat.le_of_ble_eq_true rfl, Nat.le_of_ble_eq_true rfl⟩ (EvP.mono (by decide) (m_told_t1 h hw hs hm hv hk)) (fun r1 P1 g2 => mpp 12 rfl ?_)
  obtain ⟨rfl, h⟩ := g2
  show MEvP _ none q_123 12 [(0, .ref 301), (1, .int 1), (2, .int (nI w)), (3, .int (nI v))] [.int 0, .ref 301] _ _ _ _
  refine mp_callv (i := 124) (q' := q_139) (As := [.int 0]) (rest := []) dX7_add_12 rfl qm_139 (by decide) rfl h.1 (by decide) (Nat.le_of_ble_eq_true rfl) rfl ⟨rfl, rfl⟩ ⟨Nat.le_of_ble_eq_true rfl, Nat.le_of_ble_eq_true rfl⟩ (EvP.mono (by decide) (m_endsE_0 h)) (fun r1 P1 g3 => mpp 15 rfl ?_)
  obtain rfl := g3
  show MEvP _ none q_123 15 [(0, .ref 301), (1, .int 1), (2, .int (nI w)), (3, .int (nI v))] [.int 0] _ _ _ _
  exact mp_iret (rfl) dX7_add_15 (Or.inl rfl)

