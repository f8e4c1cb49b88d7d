theorem arec_hm {kd w c : Nat} {A : List Value} (h : ndf 10 w = c) : arec kd (ndf 10 w) A = arec kd c A := by rw [h]
set_option maxRecDepth 100000 in
set_option maxHeartbeats 4000000 in
theorem m_told_k1 {P : mP} {a1 a2 a3 : Int32} (h : MODK P) (h1 : a1 < 0) : EvP 8 126 [.ref 301, .int a1, .int a2, .int a3] P (fun r P' => r = some (.int (-1002)) ∧ MODE P') := by
  refine EvP.of qm_126 (Nat.le_of_ble_eq_true rfl) rfl ?_
  show MEvP _ none q_126 0 [(0, .ref 301), (1, .int a1), (2, .int a2), (3, .int a3)] [] _ 0 0 _
  refine mp_a (a_iload_n dX7_addsTold_0 rfl) (mpp 1 rfl ?_)
  refine mp_a (a_iconst (v := 0) dX7_addsTold_1 rfl) (mpp 2 rfl ?_)
  refine mp_a (a_iconst (v := 1) dX7_addsTold_2 rfl) (mpp 3 rfl ?_)
  refine mp_calls (i := 61) (q' := q_127) (As := [.int a1, .int 0, .int 1]) (rest := []) dX7_addsTold_3 rfl qm_127 (by decide) rfl (Nat.le_of_ble_eq_true rfl) rfl ⟨rfl, rfl⟩ ⟨Nat.le_of_ble_eq_true rfl, Nat.le_of_ble_eq_true rfl⟩ (EvP.mono (by decide) (m_isIn_lt h1)) (fun r1 P1 g1 => mpp 6 rfl ?_)
  obtain ⟨rfl, rfl⟩ := g1
  show MEvP _ none q_126 6 [(0, .ref 301), (1, .int a1), (2, .int a2), (3, .int a3)] [.int 0] _ _ _ _
  refine mp_Tt (t := 17) (j_if_eq dX7_addsTold_6) (by decide) (by decide) ?_
  refine mp_a (a_iconst (v := 0) dX7_addsTold_17 rfl) (mpp 18 rfl ?_)
  refine mp_a (a_istore (L' := [(4, .int 0), (0, .ref 301), (1, .int a1), (2, .int a2), (3, .int a3)]) dX7_addsTold_18 (by decide) rfl) (mpp 20 rfl ?_)
  refine mp_a (a_iload dX7_addsTold_20 rfl) (mpp 22 rfl ?_)
  refine mp_Tt (t := 56) (j_if_eq dX7_addsTold_22) (by decide) (by decide) ?_
  refine mp_a (a_sipush (v := -1002) dX7_addsTold_56 rfl) (mpp 59 rfl ?_)
  exact mp_iret (⟨rfl, h.e⟩) dX7_addsTold_59 (Or.inl rfl)

set_option maxRecDepth 100000 in
set_option maxHeartbeats 4000000 in
theorem m_told_k2 {P : mP} {a1 a2 a3 : Int32} (h : MODK P) (h1 : ¬ a1 < 0) (h2 : 1 < a1) : EvP 8 126 [.ref 301, .int a1, .int a2, .int a3] P (fun r P' => r = some (.int (-1002)) ∧ MODE P') := by
  refine EvP.of qm_126 (Nat.le_of_ble_eq_true rfl) rfl ?_
  show MEvP _ none q_126 0 [(0, .ref 301), (1, .int a1), (2, .int a2), (3, .int a3)] [] _ 0 0 _
  refine mp_a (a_iload_n dX7_addsTold_0 rfl) (mpp 1 rfl ?_)
  refine mp_a (a_iconst (v := 0) dX7_addsTold_1 rfl) (mpp 2 rfl ?_)
  refine mp_a (a_iconst (v := 1) dX7_addsTold_2 rfl) (mpp 3 rfl ?_)
  refine mp_calls (i := 61) (q' := q_127) (As := [.int a1, .int 0, .int 1]) (rest := []) dX7_addsTold_3 rfl qm_127 (by decide) rfl (Nat.le_of_ble_eq_true rfl) rfl ⟨rfl, rfl⟩ ⟨Nat.le_of_ble_eq_true rfl, Nat.le_of_ble_eq_true rfl⟩ (EvP.mono (by decide) (m_isIn_gt h1 h2)) (fun r1 P1 g1 => mpp 6 rfl ?_)
  obtain ⟨rfl, rfl⟩ := g1
  show MEvP _ none q_126 6 [(0, .ref 301), (1, .int a1), (2, .int a2), (3, .int a3)] [.int 0] _ _ _ _
  refine mp_Tt (t := 17) (j_if_eq dX7_addsTold_6) (by decide) (by decide) ?_
  refine mp_a (a_iconst (v := 0) dX7_addsTold_17 rfl) (mpp 18 rfl ?_)
  refine mp_a (a_istore (L' := [(4, .int 0), (0, .ref 301), (1, .int a1), (2, .int a2), (3, .int a3)]) dX7_addsTold_18 (by decide) rfl) (mpp 20 rfl ?_)
  refine mp_a (a_iload dX7_addsTold_20 rfl) (mpp 22 rfl ?_)
  refine mp_Tt (t := 56) (j_if_eq dX7_addsTold_22) (by decide) (by decide) ?_
  refine mp_a (a_sipush (v := -1002) dX7_addsTold_56 rfl) (mpp 59 rfl ?_)
  exact mp_iret (⟨rfl, h.e⟩) dX7_addsTold_59 (Or.inl rfl)

set_option maxRecDepth 100000 in
set_option maxHeartbeats 4000000 in
theorem m_isIn_0_0_1 {P : mP}  : EvP 1 127 [.int 0, .int 0, .int 1] P (fun r P' => r = some (.int 1) ∧ P' = P) := by
  refine EvP.of qm_127 (Nat.le_of_ble_eq_true rfl) rfl ?_
  show MEvP _ none q_127 0 [(0, .int 0), (1, .int 0), (2, .int 1)] [] _ 0 0 _
  refine mp_a (a_iload_n dX7_isIn_0 rfl) (mpp 1 rfl ?_)
  refine mp_a (a_iload_n dX7_isIn_1 rfl) (mpp 2 rfl ?_)
  refine mp_Tf (t := 14) (j_icmp_lt dX7_isIn_2) (by decide) (by decide) (mpp 5 rfl ?_)
  refine mp_a (a_iload_n dX7_isIn_5 rfl) (mpp 6 rfl ?_)
  refine mp_a (a_iload_n dX7_isIn_6 rfl) (mpp 7 rfl ?_)
  refine mp_Tf (t := 14) (j_icmp_gt dX7_isIn_7) (by decide) (by decide) (mpp 10 rfl ?_)
  refine mp_a (a_iconst (v := 1) dX7_isIn_10 rfl) (mpp 11 rfl ?_)
  refine mp_a (a_goto (t := 15) dX7_isIn_11 (by decide)) ?_
  exact mp_iret (⟨rfl, rfl⟩) dX7_isIn_15 (Or.inr ⟨rfl, by decide⟩)

set_option maxRecDepth 100000 in
set_option maxHeartbeats 4000000 in
theorem m_told_n0 {P : mP} {a2 a3 : Int32} (h : MODK P) (h1 : a2 < 0) : EvP 8 126 [.ref 301, .int 0, .int a2, .int a3] P (fun r P' => r = some (.int (-1002)) ∧ MODE P') := by
  refine EvP.of qm_126 (Nat.le_of_ble_eq_true rfl) rfl ?_
  show MEvP _ none q_126 0 [(0, .ref 301), (1, .int 0), (2, .int a2), (3, .int a3)] [] _ 0 0 _
  refine mp_a (a_iload_n dX7_addsTold_0 rfl) (mpp 1 rfl ?_)
  refine mp_a (a_iconst (v := 0) dX7_addsTold_1 rfl) (mpp 2 rfl ?_)
  refine mp_a (a_iconst (v := 1) dX7_addsTold_2 rfl) (mpp 3 rfl ?_)
  refine mp_calls (i := 61) (q' := q_127) (As := [.int 0, .int 0, .int 1]) (rest := []) dX7_addsTold_3 rfl qm_127 (by decide) rfl (Nat.le_of_ble_eq_true rfl) rfl ⟨rfl, rfl⟩ ⟨Nat.le_of_ble_eq_true rfl, Nat.le_of_ble_eq_true rfl⟩ (EvP.mono (by decide) m_isIn_0_0_1) (fun r1 P1 g1 => mpp 6 rfl ?_)
  obtain ⟨rfl, rfl⟩ := g1
  show MEvP _ none q_126 6 [(0, .ref 301), (1, .int 0), (2, .int a2), (3, .int a3)] [.int 1] _ _ _ _
  refine mp_Tf (t := 17) (j_if_eq dX7_addsTold_6) (by decide) (by decide) (mpp 9 rfl ?_)
  refine mp_a (a_aload_n dX7_addsTold_9 rfl) (mpp 10 rfl ?_)
  refine mp_a (a_iload_n dX7_addsTold_10 rfl) (mpp 11 rfl ?_)
  refine mp_callv (i := 104) (q' := q_128) (As := [.int a2]) (rest := []) dX7_addsTold_11 rfl qm_128 (by decide) rfl (h.f (by decide) (by decide) p0_301) (by decide) (Nat.le_of_ble_eq_true rfl) rfl ⟨rfl, rfl⟩ ⟨Nat.le_of_ble_eq_true rfl, Nat.le_of_ble_eq_true rfl⟩ (EvP.mono (by decide) (m_laysSizesN h1 (h.f (by decide) (by decide) p0_301))) (fun r1 P1 g2 => mpp 14 rfl ?_)
  obtain ⟨rfl, rfl⟩ := g2
  show MEvP _ none q_126 14 [(0, .ref 301), (1, .int 0), (2, .int a2), (3, .int a3)] [.int 0] _ _ _ _
  refine mp_a (a_goto (t := 18) dX7_addsTold_14 (by decide)) ?_
  refine mp_a (a_istore (L' := [(4, .int 0), (0, .ref 301), (1, .int 0), (2, .int a2), (3, .int a3)]) dX7_addsTold_18 (by decide) rfl) (mpp 20 rfl ?_)
  refine mp_a (a_iload dX7_addsTold_20 rfl) (mpp 22 rfl ?_)
  refine mp_Tt (t := 56) (j_if_eq dX7_addsTold_22) (by decide) (by decide) ?_
  refine mp_a (a_sipush (v := -1002) dX7_addsTold_56 rfl) (mpp 59 rfl ?_)
  exact mp_iret (⟨rfl, h.e⟩) dX7_addsTold_59 (Or.inl rfl)

set_option maxRecDepth 100000 in
set_option maxHeartbeats 4000000 in
theorem m_told_s0 {P : mP} {w : Nat} {a3 : Int32} (h : MODK P) (hw : w < 2 ^ 31) (hA : ¬ (1 ≤ ndf 10 w ∧ ndf 10 w ≤ 8 ∧ okS (ndf 10 w) w = true)) : EvP 8 126 [.ref 301, .int 0, .int (nI w), .int a3] P (fun r P' => r = some (.int (-1002)) ∧ MODE P') := by
  refine EvP.of qm_126 (Nat.le_of_ble_eq_true rfl) rfl ?_
  show MEvP _ none q_126 0 [(0, .ref 301), (1, .int 0), (2, .int (nI w)), (3, .int a3)] [] _ 0 0 _
  refine mp_a (a_iload_n dX7_addsTold_0 rfl) (mpp 1 rfl ?_)
  refine mp_a (a_iconst (v := 0) dX7_addsTold_1 rfl) (mpp 2 rfl ?_)
  refine mp_a (a_iconst (v := 1) dX7_addsTold_2 rfl) (mpp 3 rfl ?_)
  refine mp_calls (i := 61) (q' := q_127) (As := [.int 0, .int 0, .int 1]) (rest := []) dX7_addsTold_3 rfl qm_127 (by decide) rfl (Nat.le_of_ble_eq_true rfl) rfl ⟨rfl, rfl⟩ ⟨Nat.le_of_ble_eq_true rfl, Nat.le_of_ble_eq_true rfl⟩ (EvP.mono (by decide) m_isIn_0_0_1) (fun r1 P1 g1 => mpp 6 rfl ?_)
  obtain ⟨rfl, rfl⟩ := g1
  show MEvP _ none q_126 6 [(0, .ref 301), (1, .int 0), (2, .int (nI w)), (3, .int a3)] [.int 1] _ _ _ _
  refine mp_Tf (t := 17) (j_if_eq dX7_addsTold_6) (by decide) (by decide) (mpp 9 rfl ?_)
  refine mp_a (a_aload_n dX7_addsTold_9 rfl) (mpp 10 rfl ?_)
  refine mp_a (a_iload_n dX7_addsTold_10 rfl) (mpp 11 rfl ?_)
  refine mp_callv (i := 104) (q' := q_128) (As := [.int (nI w)]) (rest := []) dX7_addsTold_11 rfl qm_128 (by decide) rfl (h.f (by decide) (by decide) p0_301) (by decide) (Nat.le_of_ble_eq_true rfl) rfl ⟨rfl, rfl⟩ ⟨Nat.le_of_ble_eq_true rfl, Nat.le_of_ble_eq_true rfl⟩ (EvP.mono (by decide) (m_lsF hw hA (h.f (by decide) (by decide) p0_301) (h.f (by decide) (by decide) p0_306))) (fun r1 P1 g2 => mpp 14 rfl ?_)
  obtain ⟨rfl, g2⟩ := g2
  show MEvP _ none q_126 14 [(0, .ref 301), (1, .int 0), (2, .int (nI w)), (3, .int a3)] [.int 0] _ _ _ _
  refine mp_a (a_goto (t := 18) dX7_addsTold_14 (by decide)) ?_
  refine mp_a (a_istore (L' := [(4, .int 0), (0, .ref 301), (1, .int 0), (2, .int (nI w)), (3, .int a3)]) dX7_addsTold_18 (by decide) rfl) (mpp 20 rfl ?_)
  refine mp_a (a_iload dX7_addsTold_20 rfl) (mpp 22 rfl ?_)
  refine mp_Tt (t := 56) (j_if_eq dX7_addsTold_22) (by decide) (by decide) ?_
  refine mp_a (a_sipush (v := -1002) dX7_addsTold_56 rfl) (mpp 59 rfl ?_)
  exact mp_iret (⟨rfl, (MODE.fr h.e (fun t h6 h7 => g2 t h6))⟩) dX7_addsTold_59 (Or.inl rfl)

set_option maxRecDepth 100000 in
set_option maxHeartbeats 4000000 in
theorem m_told_a0 {P : mP} {w : Nat} {a3 : Int32} (h : MODK P) (hw : w < 2 ^ 31) (hA : 1 ≤ ndf 10 w ∧ ndf 10 w ≤ 8 ∧ okS (ndf 10 w) w = true) (hs : szok 0 w = false) : EvP 8 126 [.ref 301, .int 0, .int (nI w), .int a3] P (fun r P' => r = some (.int (-1002)) ∧ MODE P') := by
  have hb := (szok_eq hA.2).symm.trans hs
  refine EvP.of qm_126 (Nat.le_of_ble_eq_true rfl) rfl ?_
  show MEvP _ none q_126 0 [(0, .ref 301), (1, .int 0), (2, .int (nI w)), (3, .int a3)] [] _ 0 0 _
  refine mp_a (a_iload_n dX7_addsTold_0 rfl) (mpp 1 rfl ?_)
  refine mp_a (a_iconst (v := 0) dX7_addsTold_1 rfl) (mpp 2 rfl ?_)
  refine mp_a (a_iconst (v := 1) dX7_addsTold_2 rfl) (mpp 3 rfl ?_)
  refine mp_calls (i := 61) (q' := q_127) (As := [.int 0, .int 0, .int 1]) (rest := []) dX7_addsTold_3 rfl qm_127 (by decide) rfl (Nat.le_of_ble_eq_true rfl) rfl ⟨rfl, rfl⟩ ⟨Nat.le_of_ble_eq_true rfl, Nat.le_of_ble_eq_true rfl⟩ (EvP.mono (by decide) m_isIn_0_0_1) (fun r1 P1 g1 => mpp 6 rfl ?_)
  obtain ⟨rfl, rfl⟩ := g1
  show MEvP _ none q_126 6 [(0, .ref 301), (1, .int 0), (2, .int (nI w)), (3, .int a3)] [.int 1] _ _ _ _
  refine mp_Tf (t := 17) (j_if_eq dX7_addsTold_6) (by decide) (by decide) (mpp 9 rfl ?_)
  refine mp_a (a_aload_n dX7_addsTold_9 rfl) (mpp 10 rfl ?_)
  refine mp_a (a_iload_n dX7_addsTold_10 rfl) (mpp 11 rfl ?_)
  refine mp_callv (i := 104) (q' := q_128) (As := [.int (nI w)]) (rest := []) dX7_addsTold_11 rfl qm_128 (by decide) rfl (h.f (by decide) (by decide) p0_301) (by decide) (Nat.le_of_ble_eq_true rfl) rfl ⟨rfl, rfl⟩ ⟨Nat.le_of_ble_eq_true rfl, Nat.le_of_ble_eq_true rfl⟩ (EvP.mono (by decide) (m_lsT hw hA (h.f (by decide) (by decide) p0_301) (h.f (by decide) (by decide) p0_306))) (fun r1 P1 g2 => mpp 14 rfl ?_)
  obtain ⟨rfl, g2, hZ⟩ := g2
  show MEvP _ none q_126 14 [(0, .ref 301), (1, .int 0), (2, .int (nI w)), (3, .int a3)] [.int (nI (ndf 10 w))] _ _ _ _
  refine mp_a (a_goto (t := 18) dX7_addsTold_14 (by decide)) ?_
  refine mp_a (a_istore (L' := [(4, .int (nI (ndf 10 w))), (0, .ref 301), (1, .int 0), (2, .int (nI w)), (3, .int a3)]) dX7_addsTold_18 (by decide) rfl) (mpp 20 rfl ?_)
  refine mp_a (a_iload dX7_addsTold_20 rfl) (mpp 22 rfl ?_)
  refine mp_Tb (t := 56) (j_if_eq dX7_addsTold_22) (by decide) (fun c3 => ?_) (fun c3 => mpp 25 rfl ?_)
  · refine mp_a (a_sipush (v := -1002) dX7_addsTold_56 rfl) (mpp 59 rfl ?_)
    exact mp_iret (⟨rfl, (MODE.fr h.e (fun t h6 h7 => g2 t h6))⟩) dX7_addsTold_59 (Or.inl rfl)
  · refine mp_a (a_aload_n dX7_addsTold_25 rfl) (mpp 26 rfl ?_)
    refine mp_a (a_iload_n dX7_addsTold_26 rfl) (mpp 27 rfl ?_)
    refine mp_a (a_iload dX7_addsTold_27 rfl) (mpp 29 rfl ?_)
    refine mp_callv (i := 107) (q' := q_130) (As := [.int 0, .int (nI (ndf 10 w))]) (rest := []) dX7_addsTold_29 rfl qm_130 (by decide) rfl ((g2 301 (by decide)).trans (h.f (by decide) (by decide) p0_301)) (by decide) (Nat.le_of_ble_eq_true rfl) rfl ⟨rfl, rfl⟩ ⟨Nat.le_of_ble_eq_true rfl, Nat.le_of_ble_eq_true rfl⟩ (EvP.mono (by decide) (m_areSizes0 hA.2.1 ((wr_len _ _ _).trans rfl) hb ((g2 301 (by decide)).trans (h.f (by decide) (by decide) p0_301)) hZ)) (fun r1 P1 g4 => mpp 32 rfl ?_)
    obtain ⟨rfl, rfl⟩ := g4
    show MEvP _ none q_126 32 [(4, .int (nI (ndf 10 w))), (0, .ref 301), (1, .int 0), (2, .int (nI w)), (3, .int a3)] [.int 0] _ _ _ _
    refine mp_Tt (t := 56) (j_if_eq dX7_addsTold_32) (by decide) (by decide) ?_
    refine mp_a (a_sipush (v := -1002) dX7_addsTold_56 rfl) (mpp 59 rfl ?_)
    exact mp_iret (⟨rfl, (MODE.fr h.e (fun t h6 h7 => g2 t h6))⟩) dX7_addsTold_59 (Or.inl rfl)

set_option maxRecDepth 100000 in
set_option maxHeartbeats 4000000 in
theorem m_told_c0 {P : mP} {w m : Nat} {a3 : Int32} (h : MODK P) (hw : w < 2 ^ 31) (hs : szok 0 w = true) (hm : ndf 10 w = (m + 1)) (h2 : a3 < 0) : EvP 8 126 [.ref 301, .int 0, .int (nI w), .int a3] P (fun r P' => r = some (.int (-1002)) ∧ MODE P') := by
  have hA := szok_ok hs
  have hb := (szok_eq hA.2).symm.trans hs
  have hm8 := hA.2.1
  rw [hm] at hm8
  rw [arec_hm hm] at hb
  have hm1 := hA.1
  rw [hm] at hm1
  refine EvP.of qm_126 (Nat.le_of_ble_eq_true rfl) rfl ?_
  show MEvP _ none q_126 0 [(0, .ref 301), (1, .int 0), (2, .int (nI w)), (3, .int a3)] [] _ 0 0 _
  refine mp_a (a_iload_n dX7_addsTold_0 rfl) (mpp 1 rfl ?_)
  refine mp_a (a_iconst (v := 0) dX7_addsTold_1 rfl) (mpp 2 rfl ?_)
  refine mp_a (a_iconst (v := 1) dX7_addsTold_2 rfl) (mpp 3 rfl ?_)
  refine mp_calls (i := 61) (q' := q_127) (As := [.int 0, .int 0, .int 1]) (rest := []) dX7_addsTold_3 rfl qm_127 (by decide) rfl (Nat.le_of_ble_eq_true rfl) rfl ⟨rfl, rfl⟩ ⟨Nat.le_of_ble_eq_true rfl, Nat.le_of_ble_eq_true rfl⟩ (EvP.mono (by decide) m_isIn_0_0_1) (fun r1 P1 g1 => mpp 6 rfl ?_)
  obtain ⟨rfl, rfl⟩ := g1
  show MEvP _ none q_126 6 [(0, .ref 301), (1, .int 0), (2, .int (nI w)), (3, .int a3)] [.int 1] _ _ _ _
  refine mp_Tf (t := 17) (j_if_eq dX7_addsTold_6) (by decide) (by decide) (mpp 9 rfl ?_)
  refine mp_a (a_aload_n dX7_addsTold_9 rfl) (mpp 10 rfl ?_)
  refine mp_a (a_iload_n dX7_addsTold_10 rfl) (mpp 11 rfl ?_)
  refine mp_callv (i := 104) (q' := q_128) (As := [.int (nI w)]) (rest := []) dX7_addsTold_11 rfl qm_128 (by decide) rfl (h.f (by decide) (by decide) p0_301) (by decide) (Nat.le_of_ble_eq_true rfl) rfl ⟨rfl, rfl⟩ ⟨Nat.le_of_ble_eq_true rfl, Nat.le_of_ble_eq_true rfl⟩ (EvP.mono (by decide) (m_lsTm hw hA hm (h.f (by decide) (by decide) p0_301) (h.f (by decide) (by decide) p0_306))) (fun r1 P1 g2 => mpp 14 rfl ?_)
  obtain ⟨rfl, g2, hZ⟩ := g2
  show MEvP _ none q_126 14 [(0, .ref 301), (1, .int 0), (2, .int (nI w)), (3, .int a3)] [.int (nI (m + 1))] _ _ _ _
  refine mp_a (a_goto (t := 18) dX7_addsTold_14 (by decide)) ?_
  refine mp_a (a_istore (L' := [(4, .int (nI (m + 1))), (0, .ref 301), (1, .int 0), (2, .int (nI w)), (3, .int a3)]) dX7_addsTold_18 (by decide) rfl) (mpp 20 rfl ?_)
  refine mp_a (a_iload dX7_addsTold_20 rfl) (mpp 22 rfl ?_)
  refine mp_Tf (t := 56) (j_if_eq dX7_addsTold_22) (fun q => absurd ((nI_eq (a := (m + 1)) (b := 0) (by omega) (by omega)).mp q) (by omega)) (by decide) (mpp 25 rfl ?_)
  refine mp_a (a_aload_n dX7_addsTold_25 rfl) (mpp 26 rfl ?_)
  refine mp_a (a_iload_n dX7_addsTold_26 rfl) (mpp 27 rfl ?_)
  refine mp_a (a_iload dX7_addsTold_27 rfl) (mpp 29 rfl ?_)
  refine mp_callv (i := 107) (q' := q_130) (As := [.int 0, .int (nI (m + 1))]) (rest := []) dX7_addsTold_29 rfl qm_130 (by decide) rfl ((g2 301 (by decide)).trans (h.f (by decide) (by decide) p0_301)) (by decide) (Nat.le_of_ble_eq_true rfl) rfl ⟨rfl, rfl⟩ ⟨Nat.le_of_ble_eq_true rfl, Nat.le_of_ble_eq_true rfl⟩ (EvP.mono (by decide) (m_areSizes0 hm8 ((wr_len _ _ _).trans rfl) hb ((g2 301 (by decide)).trans (h.f (by decide) (by decide) p0_301)) hZ)) (fun r1 P1 g3 => mpp 32 rfl ?_)
  obtain ⟨rfl, rfl⟩ := g3
  show MEvP _ none q_126 32 [(4, .int (nI (m + 1))), (0, .ref 301), (1, .int 0), (2, .int (nI w)), (3, .int a3)] [.int 1] _ _ _ _
  refine mp_Tf (t := 56) (j_if_eq dX7_addsTold_32) (by decide) (by decide) (mpp 35 rfl ?_)
  refine mp_a (a_aload_n dX7_addsTold_35 rfl) (mpp 36 rfl ?_)
  refine mp_a (a_iload_n dX7_addsTold_36 rfl) (mpp 37 rfl ?_)
  refine mp_a (a_iload_n dX7_addsTold_37 rfl) (mpp 38 rfl ?_)
  refine mp_Tf (t := 48) (j_if_ne dX7_addsTold_38) (by decide) (by decide) (mpp 41 rfl ?_)
  refine mp_a (a_iload dX7_addsTold_41 rfl) (mpp 43 rfl ?_)
  refine mp_a (a_iconst (v := 1) dX7_addsTold_43 rfl) (mpp 44 rfl ?_)
  refine mp_t (s_isub (v := (nI m)) dX7_addsTold_44 (nI_pred m)) (mpp 45 rfl ?_)
  refine mp_a (a_goto (t := 50) dX7_addsTold_45 (by decide)) ?_
  refine mp_callv (i := 111) (q' := q_132) (As := [.int a3, .int (nI m)]) (rest := []) dX7_addsTold_50 rfl qm_132 (by decide) rfl ((g2 301 (by decide)).trans (h.f (by decide) (by decide) p0_301)) (by decide) (Nat.le_of_ble_eq_true rfl) rfl ⟨rfl, rfl⟩ ⟨Nat.le_of_ble_eq_true rfl, Nat.le_of_ble_eq_true rfl⟩ (EvP.mono (by decide) (m_lcN h2 ((g2 301 (by decide)).trans (h.f (by decide) (by decide) p0_301)) ((g2 307 (by decide)).trans (h.f (by decide) (by decide) p0_307)))) (fun r1 P1 g4 => mpp 53 rfl ?_)
  obtain ⟨rfl, g4, C, hC, hCl⟩ := g4
  show MEvP _ none q_126 53 [(4, .int (nI (m + 1))), (0, .ref 301), (1, .int 0), (2, .int (nI w)), (3, .int a3)] [.int 0] _ _ _ _
  refine mp_Tf (t := 60) (j_if_ne dX7_addsTold_53) (by decide) (by decide) (mpp 56 rfl ?_)
  refine mp_a (a_sipush (v := -1002) dX7_addsTold_56 rfl) (mpp 59 rfl ?_)
  exact mp_iret (⟨rfl, (MODE.fr (MODE.fr h.e (fun t h6 h7 => g2 t h6)) (fun t h6 h7 => g4 t h7))⟩) dX7_addsTold_59 (Or.inl rfl)

set_option maxRecDepth 100000 in
set_option maxHeartbeats 4000000 in
theorem m_told_f0 {P : mP} {w m v : Nat} (h : MODK P) (hw : w < 2 ^ 31) (hs : szok 0 w = true) (hm : ndf 10 w = (m + 1)) (hv : v < 2 ^ 31) (hk : crok m v = false) : EvP 8 126 [.ref 301, .int 0, .int (nI w), .int (nI v)] P (fun r P' => r = some (.int (-1002)) ∧ MODE P') := by
  have hA := szok_ok hs
  have hb := (szok_eq hA.2).symm.trans hs
  have hm8 := hA.2.1
  rw [hm] at hm8
  rw [arec_hm hm] at hb
  have hm1 := hA.1
  rw [hm] at hm1
  refine EvP.of qm_126 (Nat.le_of_ble_eq_true rfl) rfl ?_
  show MEvP _ none q_126 0 [(0, .ref 301), (1, .int 0), (2, .int (nI w)), (3, .int (nI v))] [] _ 0 0 _
  refine mp_a (a_iload_n dX7_addsTold_0 rfl) (mpp 1 rfl ?_)
  refine mp_a (a_iconst (v := 0) dX7_addsTold_1 rfl) (mpp 2 rfl ?_)
  refine mp_a (a_iconst (v := 1) dX7_addsTold_2 rfl) (mpp 3 rfl ?_)
  refine mp_calls (i := 61) (q' := q_127) (As := [.int 0, .int 0, .int 1]) (rest := []) dX7_addsTold_3 rfl qm_127 (by decide) rfl (Nat.le_of_ble_eq_true rfl) rfl ⟨rfl, rfl⟩ ⟨Nat.le_of_ble_eq_true rfl, Nat.le_of_ble_eq_true rfl⟩ (EvP.mono (by decide) m_isIn_0_0_1) (fun r1 P1 g1 => mpp 6 rfl ?_)
  obtain ⟨rfl, rfl⟩ := g1
  show MEvP _ none q_126 6 [(0, .ref 301), (1, .int 0), (2, .int (nI w)), (3, .int (nI v))] [.int 1] _ _ _ _
  refine mp_Tf (t := 17) (j_if_eq dX7_addsTold_6) (by decide) (by decide) (mpp 9 rfl ?_)
  refine mp_a (a_aload_n dX7_addsTold_9 rfl) (mpp 10 rfl ?_)
  refine mp_a (a_iload_n dX7_addsTold_10 rfl) (mpp 11 rfl ?_)
  refine mp_callv (i := 104) (q' := q_128) (As := [.int (nI w)]) (rest := []) dX7_addsTold_11 rfl qm_128 (by decide) rfl (h.f (by decide) (by decide) p0_301) (by decide) (Nat.le_of_ble_eq_true rfl) rfl ⟨rfl, rfl⟩ ⟨Nat.le_of_ble_eq_true rfl, Nat.le_of_ble_eq_true rfl⟩ (EvP.mono (by decide) (m_lsTm hw hA hm (h.f (by decide) (by decide) p0_301) (h.f (by decide) (by decide) p0_306))) (fun r1 P1 g2 => mpp 14 rfl ?_)
  obtain ⟨rfl, g2, hZ⟩ := g2
  show MEvP _ none q_126 14 [(0, .ref 301), (1, .int 0), (2, .int (nI w)), (3, .int (nI v))] [.int (nI (m + 1))] _ _ _ _
  refine mp_a (a_goto (t := 18) dX7_addsTold_14 (by decide)) ?_
  refine mp_a (a_istore (L' := [(4, .int (nI (m + 1))), (0, .ref 301), (1, .int 0), (2, .int (nI w)), (3, .int (nI v))]) dX7_addsTold_18 (by decide) rfl) (mpp 20 rfl ?_)
  refine mp_a (a_iload dX7_addsTold_20 rfl) (mpp 22 rfl ?_)
  refine mp_Tf (t := 56) (j_if_eq dX7_addsTold_22) (fun q => absurd ((nI_eq (a := (m + 1)) (b := 0) (by omega) (by omega)).mp q) (by omega)) (by decide) (mpp 25 rfl ?_)
  refine mp_a (a_aload_n dX7_addsTold_25 rfl) (mpp 26 rfl ?_)
  refine mp_a (a_iload_n dX7_addsTold_26 rfl) (mpp 27 rfl ?_)
  refine mp_a (a_iload dX7_addsTold_27 rfl) (mpp 29 rfl ?_)
  refine mp_callv (i := 107) (q' := q_130) (As := [.int 0, .int (nI (m + 1))]) (rest := []) dX7_addsTold_29 rfl qm_130 (by decide) rfl ((g2 301 (by decide)).trans (h.f (by decide) (by decide) p0_301)) (by decide) (Nat.le_of_ble_eq_true rfl) rfl ⟨rfl, rfl⟩ ⟨Nat.le_of_ble_eq_true rfl, Nat.le_of_ble_eq_true rfl⟩ (EvP.mono (by decide) (m_areSizes0 hm8 ((wr_len _ _ _).trans rfl) hb ((g2 301 (by decide)).trans (h.f (by decide) (by decide) p0_301)) hZ)) (fun r1 P1 g3 => mpp 32 rfl ?_)
  obtain ⟨rfl, rfl⟩ := g3
  show MEvP _ none q_126 32 [(4, .int (nI (m + 1))), (0, .ref 301), (1, .int 0), (2, .int (nI w)), (3, .int (nI v))] [.int 1] _ _ _ _
  refine mp_Tf (t := 56) (j_if_eq dX7_addsTold_32) (by decide) (by decide) (mpp 35 rfl ?_)
  refine mp_a (a_aload_n dX7_addsTold_35 rfl) (mpp 36 rfl ?_)
  refine mp_a (a_iload_n dX7_addsTold_36 rfl) (mpp 37 rfl ?_)
  refine mp_a (a_iload_n dX7_addsTold_37 rfl) (mpp 38 rfl ?_)
  refine mp_Tf (t := 48) (j_if_ne dX7_addsTold_38) (by decide) (by decide) (mpp 41 rfl ?_)
  refine mp_a (a_iload dX7_addsTold_41 rfl) (mpp 43 rfl ?_)
  refine mp_a (a_iconst (v := 1) dX7_addsTold_43 rfl) (mpp 44 rfl ?_)
  refine mp_t (s_isub (v := (nI m)) dX7_addsTold_44 (nI_pred m)) (mpp 45 rfl ?_)
  refine mp_a (a_goto (t := 50) dX7_addsTold_45 (by decide)) ?_
  refine mp_callv (i := 111) (q' := q_132) (As := [.int (nI v), .int (nI m)]) (rest := []) dX7_addsTold_50 rfl qm_132 (by decide) rfl ((g2 301 (by decide)).trans (h.f (by decide) (by decide) p0_301)) (by decide) (Nat.le_of_ble_eq_true rfl) rfl ⟨rfl, rfl⟩ ⟨Nat.le_of_ble_eq_true rfl, Nat.le_of_ble_eq_true rfl⟩ (EvP.mono (by decide) (m_lc hv hk (by omega) ((g2 301 (by decide)).trans (h.f (by decide) (by decide) p0_301)) ((g2 307 (by decide)).trans (h.f (by decide) (by decide) p0_307)))) (fun r1 P1 g4 => mpp 53 rfl ?_)
  obtain ⟨rfl, g4, C, hC, hCl⟩ := g4
  show MEvP _ none q_126 53 [(4, .int (nI (m + 1))), (0, .ref 301), (1, .int 0), (2, .int (nI w)), (3, .int (nI v))] [.int 0] _ _ _ _
  refine mp_Tf (t := 60) (j_if_ne dX7_addsTold_53) (by decide) (by decide) (mpp 56 rfl ?_)
  refine mp_a (a_sipush (v := -1002) dX7_addsTold_56 rfl) (mpp 59 rfl ?_)
  exact mp_iret (⟨rfl, (MODE.fr (MODE.fr h.e (fun t h6 h7 => g2 t h6)) (fun t h6 h7 => g4 t h7))⟩) dX7_addsTold_59 (Or.inl rfl)

set_option maxRecDepth 100000 in
set_option maxHeartbeats 4000000 in
theorem m_told_t0 {P : mP} {w m v : Nat} (h : MODK P) (hw : w < 2 ^ 31) (hs : szok 0 w = true) (hm : ndf 10 w = (m + 1)) (hv : v < 2 ^ 31) (hk : crok m v = true) : EvP 8 126 [.ref 301, .int 0, .int (nI w), .int (nI v)] P (fun r P' => r = some (.int 0) ∧ MODE P') := by
  have hA := szok_ok hs
  have hb := (szok_eq hA.2).symm.trans hs
  have hm8 := hA.2.1
  rw [hm] at hm8
  rw [arec_hm hm] at hb
  have hm1 := hA.1
  rw [hm] at hm1
  refine EvP.of qm_126 (Nat.le_of_ble_eq_true rfl) rfl ?_
  show MEvP _ none q_126 0 [(0, .ref 301), (1, .int 0), (2, .int (nI w)), (3, .int (nI v))] [] _ 0 0 _
  refine mp_a (a_iload_n dX7_addsTold_0 rfl) (mpp 1 rfl ?_)
  refine mp_a (a_iconst (v := 0) dX7_addsTold_1 rfl) (mpp 2 rfl ?_)
  refine mp_a (a_iconst (v := 1) dX7_addsTold_2 rfl) (mpp 3 rfl ?_)
  refine mp_calls (i := 61) (q' := q_127) (As := [.int 0, .int 0, .int 1]) (rest := []) dX7_addsTold_3 rfl qm_127 (by decide) rfl (Nat.le_of_ble_eq_true rfl) rfl ⟨rfl, rfl⟩ ⟨Nat.le_of_ble_eq_true rfl, Nat.le_of_ble_eq_true rfl⟩ (EvP.mono (by decide) m_isIn_0_0_1) (fun r1 P1 g1 => mpp 6 rfl ?_)
  obtain ⟨rfl, rfl⟩ := g1
  show MEvP _ none q_126 6 [(0, .ref 301), (1, .int 0), (2, .int (nI w)), (3, .int (nI v))] [.int 1] _ _ _ _
  refine mp_Tf (t := 17) (j_if_eq dX7_addsTold_6) (by decide) (by decide) (mpp 9 rfl ?_)
  refine mp_a (a_aload_n dX7_addsTold_9 rfl) (mpp 10 rfl ?_)
  refine mp_a (a_iload_n dX7_addsTold_10 rfl) (mpp 11 rfl ?_)
  refine mp_callv (i := 104) (q' := q_128) (As := [.int (nI w)]) (rest := []) dX7_addsTold_11 rfl qm_128 (by decide) rfl (h.f (by decide) (by decide) p0_301) (by decide) (Nat.le_of_ble_eq_true rfl) rfl ⟨rfl, rfl⟩ ⟨Nat.le_of_ble_eq_true rfl, Nat.le_of_ble_eq_true rfl⟩ (EvP.mono (by decide) (m_lsTm hw hA hm (h.f (by decide) (by decide) p0_301) (h.f (by decide) (by decide) p0_306))) (fun r1 P1 g2 => mpp 14 rfl ?_)
  obtain ⟨rfl, g2, hZ⟩ := g2
  show MEvP _ none q_126 14 [(0, .ref 301), (1, .int 0), (2, .int (nI w)), (3, .int (nI v))] [.int (nI (m + 1))] _ _ _ _
  refine mp_a (a_goto (t := 18) dX7_addsTold_14 (by decide)) ?_
  refine mp_a (a_istore (L' := [(4, .int (nI (m + 1))), (0, .ref 301), (1, .int 0), (2, .int (nI w)), (3, .int (nI v))]) dX7_addsTold_18 (by decide) rfl) (mpp 20 rfl ?_)
  refine mp_a (a_iload dX7_addsTold_20 rfl) (mpp 22 rfl ?_)
  refine mp_Tf (t := 56) (j_if_eq dX7_addsTold_22) (fun q => absurd ((nI_eq (a := (m + 1)) (b := 0) (by omega) (by omega)).mp q) (by omega)) (by decide) (mpp 25 rfl ?_)
  refine mp_a (a_aload_n dX7_addsTold_25 rfl) (mpp 26 rfl ?_)
  refine mp_a (a_iload_n dX7_addsTold_26 rfl) (mpp 27 rfl ?_)
  refine mp_a (a_iload dX7_addsTold_27 rfl) (mpp 29 rfl ?_)
  refine mp_callv (i := 107) (q' := q_130) (As := [.int 0, .int (nI (m + 1))]) (rest := []) dX7_addsTold_29 rfl qm_130 (by decide) rfl ((g2 301 (by decide)).trans (h.f (by decide) (by decide) p0_301)) (by decide) (Nat.le_of_ble_eq_true rfl) rfl ⟨rfl, rfl⟩ ⟨Nat.le_of_ble_eq_true rfl, Nat.le_of_ble_eq_true rfl⟩ (EvP.mono (by decide) (m_areSizes0 hm8 ((wr_len _ _ _).trans rfl) hb ((g2 301 (by decide)).trans (h.f (by decide) (by decide) p0_301)) hZ)) (fun r1 P1 g3 => mpp 32 rfl ?_)
  obtain ⟨rfl, rfl⟩ := g3
  show MEvP _ none q_126 32 [(4, .int (nI (m + 1))), (0, .ref 301), (1, .int 0), (2, .int (nI w)), (3, .int (nI v))] [.int 1] _ _ _ _
  refine mp_Tf (t := 56) (j_if_eq dX7_addsTold_32) (by decide) (by decide) (mpp 35 rfl ?_)
  refine mp_a (a_aload_n dX7_addsTold_35 rfl) (mpp 36 rfl ?_)
  refine mp_a (a_iload_n dX7_addsTold_36 rfl) (mpp 37 rfl ?_)
  refine mp_a (a_iload_n dX7_addsTold_37 rfl) (mpp 38 rfl ?_)
  refine mp_Tf (t := 48) (j_if_ne dX7_addsTold_38) (by decide) (by decide) (mpp 41 rfl ?_)
  refine mp_a (a_iload dX7_addsTold_41 rfl) (mpp 43 rfl ?_)
  refine mp_a (a_iconst (v := 1) dX7_addsTold_43 rfl) (mpp 44 rfl ?_)
  refine mp_t (s_isub (v := (nI m)) dX7_addsTold_44 (nI_pred m)) (mpp 45 rfl ?_)
  refine mp_a (a_goto (t := 50) dX7_addsTold_45 (by decide)) ?_
  refine mp_callv (i := 111) (q' := q_132) (As := [.int (nI v), .int (nI m)]) (rest := []) dX7_addsTold_50 rfl qm_132 (by decide) rfl ((g2 301 (by decide)).trans (h.f (by decide) (by decide) p0_301)) (by decide) (Nat.le_of_ble_eq_true rfl) rfl ⟨rfl, rfl⟩ ⟨Nat.le_of_ble_eq_true rfl, Nat.le_of_ble_eq_true rfl⟩ (EvP.mono (by decide) (m_lc hv hk (by omega) ((g2 301 (by decide)).trans (h.f (by decide) (by decide) p0_301)) ((g2 307 (by decide)).trans (h.f (by decide) (by decide) p0_307)))) (fun r1 P1 g4 => mpp 53 rfl ?_)
  obtain ⟨rfl, g4, C, hC, hCl⟩ := g4
  show MEvP _ none q_126 53 [(4, .int (nI (m + 1))), (0, .ref 301), (1, .int 0), (2, .int (nI w)), (3, .int (nI v))] [.int 1] _ _ _ _
  refine mp_Tt (t := 60) (j_if_ne dX7_addsTold_53) (by decide) (by decide) ?_
  refine mp_a (a_aload_n dX7_addsTold_60 rfl) (mpp 61 rfl ?_)
  refine mp_a (a_iload_n dX7_addsTold_61 rfl) (mpp 62 rfl ?_)
  refine mp_a (a_iload dX7_addsTold_62 rfl) (mpp 64 rfl ?_)
  refine mp_callv (i := 114) (q' := q_133) (As := [.int 0, .int (nI (m + 1))]) (rest := []) dX7_addsTold_64 rfl qm_133 (by decide) rfl ((g4 301 (by decide)).trans ((g2 301 (by decide)).trans (h.f (by decide) (by decide) p0_301))) (by decide) (Nat.le_of_ble_eq_true rfl) rfl ⟨rfl, rfl⟩ ⟨Nat.le_of_ble_eq_true rfl, Nat.le_of_ble_eq_true rfl⟩ (EvP.mono (by decide) (m_adds0 (n := (m + 1)) (by omega) (MODE.fr (MODE.fr h.e (fun t h6 h7 => g2 t h6)) (fun t h6 h7 => g4 t h7)) ((g4 302 (by decide)).trans ((g2 302 (by decide)).trans (h.f (by decide) (by decide) p0_302))) ((g4 306 (by decide)).trans hZ) ((wr_len _ _ _).trans rfl) hC hCl)) (fun r1 P1 g5 => mpp 67 rfl ?_)
  obtain ⟨rfl, hE⟩ := g5
  show MEvP _ none q_126 67 [(4, .int (nI (m + 1))), (0, .ref 301), (1, .int 0), (2, .int (nI w)), (3, .int (nI v))] [.int 0] _ _ _ _
  exact mp_iret (⟨rfl, hE⟩) dX7_addsTold_67 (Or.inl rfl)

set_option maxRecDepth 100000 in
set_option maxHeartbeats 4000000 in
theorem m_isIn_1_0_1 {P : mP}  : EvP 1 127 [.int 1, .int 0, .int 1] P (fun r P' => r = some (.int 1) ∧ P' = P) := by
  refine EvP.of qm_127 (Nat.le_of_ble_eq_true rfl) rfl ?_
  show MEvP _ none q_127 0 [(0, .int 1), (1, .int 0), (2, .int 1)] [] _ 0 0 _
  refine mp_a (a_iload_n dX7_isIn_0 rfl) (mpp 1 rfl ?_)
  refine mp_a (a_iload_n dX7_isIn_1 rfl) (mpp 2 rfl ?_)
  refine mp_Tf (t := 14) (j_icmp_lt dX7_isIn_2) (by decide) (by decide) (mpp 5 rfl ?_)
  refine mp_a (a_iload_n dX7_isIn_5 rfl) (mpp 6 rfl ?_)
  refine mp_a (a_iload_n dX7_isIn_6 rfl) (mpp 7 rfl ?_)
  refine mp_Tf (t := 14) (j_icmp_gt dX7_isIn_7) (by decide) (by decide) (mpp 10 rfl ?_)
  refine mp_a (a_iconst (v := 1) dX7_isIn_10 rfl) (mpp 11 rfl ?_)
  refine mp_a (a_goto (t := 15) dX7_isIn_11 (by decide)) ?_
  exact mp_iret (⟨rfl, rfl⟩) dX7_isIn_15 (Or.inr ⟨rfl, by decide⟩)

set_option maxRecDepth 100000 in
set_option maxHeartbeats 4000000 in
theorem m_told_n1 {P : mP} {a2 a3 : Int32} (h : MODK P) (h1 : a2 < 0) : EvP 8 126 [.ref 301, .int 1, .int a2, .int a3] P (fun r P' => r = some (.int (-1002)) ∧ MODE P') := by
  refine EvP.of qm_126 (Nat.le_of_ble_eq_true rfl) rfl ?_
  show MEvP _ none q_126 0 [(0, .ref 301), (1, .int 1), (2, .int a2), (3, .int a3)] [] _ 0 0 _
  refine mp_a (a_iload_n dX7_addsTold_0 rfl) (mpp 1 rfl ?_)
  refine mp_a (a_iconst (v := 0) dX7_addsTold_1 rfl) (mpp 2 rfl ?_)
  refine mp_a (a_iconst (v := 1) dX7_addsTold_2 rfl) (mpp 3 rfl ?_)
  refine mp_calls (i := 61) (q' := q_127) (As := [.int 1, .int 0, .int 1]) (rest := []) dX7_addsTold_3 rfl qm_127 (by decide) rfl (Nat.le_of_ble_eq_true rfl) rfl ⟨rfl, rfl⟩ ⟨Nat.le_of_ble_eq_true rfl, Nat.le_of_ble_eq_true rfl⟩ (EvP.mono (by decide) m_isIn_1_0_1) (fun r1 P1 g1 => mpp 6 rfl ?_)
  obtain ⟨rfl, rfl⟩ := g1
  show MEvP _ none q_126 6 [(0, .ref 301), (1, .int 1), (2, .int a2), (3, .int a3)] [.int 1] _ _ _ _
  refine mp_Tf (t := 17) (j_if_eq dX7_addsTold_6) (by decide) (by decide) (mpp 9 rfl ?_)
  refine mp_a (a_aload_n dX7_addsTold_9 rfl) (mpp 10 rfl ?_)
  refine mp_a (a_iload_n dX7_addsTold_10 rfl) (mpp 11 rfl ?_)
  refine mp_callv (i := 104) (q' := q_128) (As := [.int a2]) (rest := []) dX7_addsTold_11 rfl qm_128 (by decide) rfl (h.f (by decide) (by decide) p0_301) (by decide) (Nat.le_of_ble_eq_true rfl) rfl ⟨rfl, rfl⟩ ⟨Nat.le_of_ble_eq_true rfl, Nat.le_of_ble_eq_true rfl⟩ (EvP.mono (by decide) (m_laysSizesN h1 (h.f (by decide) (by decide) p0_301))) (fun r1 P1 g2 => mpp 14 rfl ?_)
  obtain ⟨rfl, rfl⟩ := g2
  show MEvP _ none q_126 14 [(0, .ref 301), (1, .int 1), (2, .int a2), (3, .int a3)] [.int 0] _ _ _ _
  refine mp_a (a_goto (t := 18) dX7_addsTold_14 (by decide)) ?_
  refine mp_a (a_istore (L' := [(4, .int 0), (0, .ref 301), (1, .int 1), (2, .int a2), (3, .int a3)]) dX7_addsTold_18 (by decide) rfl) (mpp 20 rfl ?_)
  refine mp_a (a_iload dX7_addsTold_20 rfl) (mpp 22 rfl ?_)
  refine mp_Tt (t := 56) (j_if_eq dX7_addsTold_22) (by decide) (by decide) ?_
  refine mp_a (a_sipush (v := -1002) dX7_addsTold_56 rfl) (mpp 59 rfl ?_)
  exact mp_iret (⟨rfl, h.e⟩) dX7_addsTold_59 (Or.inl rfl)

set_option maxRecDepth 100000 in
set_option maxHeartbeats 4000000 in
theorem m_told_s1 {P : mP} {w : Nat} {a3 : Int32} (h : MODK P) (hw : w < 2 ^ 31) (hA : ¬ (1 ≤ ndf 10 w ∧ ndf 10 w ≤ 8 ∧ okS (ndf 10 w) w = true)) : EvP 8 126 [.ref 301, .int 1, .int (nI w), .int a3] P (fun r P' => r = some (.int (-1002)) ∧ MODE P') := by
  refine EvP.of qm_126 (Nat.le_of_ble_eq_true rfl) rfl ?_
  show MEvP _ none q_126 0 [(0, .ref 301), (1, .int 1), (2, .int (nI w)), (3, .int a3)] [] _ 0 0 _
  refine mp_a (a_iload_n dX7_addsTold_0 rfl) (mpp 1 rfl ?_)
  refine mp_a (a_iconst (v := 0) dX7_addsTold_1 rfl) (mpp 2 rfl ?_)
  refine mp_a (a_iconst (v := 1) dX7_addsTold_2 rfl) (mpp 3 rfl ?_)
  refine mp_calls (i := 61) (q' := q_127) (As := [.int 1, .int 0, .int 1]) (rest := []) dX7_addsTold_3 rfl qm_127 (by decide) rfl (Nat.le_of_ble_eq_true rfl) rfl ⟨rfl, rfl⟩ ⟨Nat.le_of_ble_eq_true rfl, Nat.le_of_ble_eq_true rfl⟩ (EvP.mono (by decide) m_isIn_1_0_1) (fun r1 P1 g1 => mpp 6 rfl ?_)
  obtain ⟨rfl, rfl⟩ := g1
  show MEvP _ none q_126 6 [(0, .ref 301), (1, .int 1), (2, .int (nI w)), (3, .int a3)] [.int 1] _ _ _ _
  refine mp_Tf (t := 17) (j_if_eq dX7_addsTold_6) (by decide) (by decide) (mpp 9 rfl ?_)
  refine mp_a (a_aload_n dX7_addsTold_9 rfl) (mpp 10 rfl ?_)
  refine mp_a (a_iload_n dX7_addsTold_10 rfl) (mpp 11 rfl ?_)
  refine mp_callv (i := 104) (q' := q_128) (As := [.int (nI w)]) (rest := []) dX7_addsTold_11 rfl qm_128 (by decide) rfl (h.f (by decide) (by decide) p0_301) (by decide) (Nat.le_of_ble_eq_true rfl) rfl ⟨rfl, rfl⟩ ⟨Nat.le_of_ble_eq_true rfl, Nat.le_of_ble_eq_true rfl⟩ (EvP.mono (by decide) (m_lsF hw hA (h.f (by decide) (by decide) p0_301) (h.f (by decide) (by decide) p0_306))) (fun r1 P1 g2 => mpp 14 rfl ?_)
  obtain ⟨rfl, g2⟩ := g2
  show MEvP _ none q_126 14 [(0, .ref 301), (1, .int 1), (2, .int (nI w)), (3, .int a3)] [.int 0] _ _ _ _
  refine mp_a (a_goto (t := 18) dX7_addsTold_14 (by decide)) ?_
  refine mp_a (a_istore (L' := [(4, .int 0), (0, .ref 301), (1, .int 1), (2, .int (nI w)), (3, .int a3)]) dX7_addsTold_18 (by decide) rfl) (mpp 20 rfl ?_)
  refine mp_a (a_iload dX7_addsTold_20 rfl) (mpp 22 rfl ?_)
  refine mp_Tt (t := 56) (j_if_eq dX7_addsTold_22) (by decide) (by decide) ?_
  refine mp_a (a_sipush (v := -1002) dX7_addsTold_56 rfl) (mpp 59 rfl ?_)
  exact mp_iret (⟨rfl, (MODE.fr h.e (fun t h6 h7 => g2 t h6))⟩) dX7_addsTold_59 (Or.inl rfl)

set_option maxRecDepth 100000 in
set_option maxHeartbeats 4000000 in
theorem m_told_a1 {P : mP} {w : Nat} {a3 : Int32} (h : MODK P) (hw : w < 2 ^ 31) (hA : 1 ≤ ndf 10 w ∧ ndf 10 w ≤ 8 ∧ okS (ndf 10 w) w = true) (hs : szok 1 w = false) : EvP 8 126 [.ref 301, .int 1, .int (nI w), .int a3] P (fun r P' => r = some (.int (-1002)) ∧ MODE P') := by
  have hb := (szok_eq hA.2).symm.trans hs
  refine EvP.of qm_126 (Nat.le_of_ble_eq_true rfl) rfl ?_
  show MEvP _ none q_126 0 [(0, .ref 301), (1, .int 1), (2, .int (nI w)), (3, .int a3)] [] _ 0 0 _
  refine mp_a (a_iload_n dX7_addsTold_0 rfl) (mpp 1 rfl ?_)
  refine mp_a (a_iconst (v := 0) dX7_addsTold_1 rfl) (mpp 2 rfl ?_)
  refine mp_a (a_iconst (v := 1) dX7_addsTold_2 rfl) (mpp 3 rfl ?_)
  refine mp_calls (i := 61) (q' := q_127) (As := [.int 1, .int 0, .int 1]) (rest := []) dX7_addsTold_3 rfl qm_127 (by decide) rfl (Nat.le_of_ble_eq_true rfl) rfl ⟨rfl, rfl⟩ ⟨Nat.le_of_ble_eq_true rfl, Nat.le_of_ble_eq_true rfl⟩ (EvP.mono (by decide) m_isIn_1_0_1) (fun r1 P1 g1 => mpp 6 rfl ?_)
  obtain ⟨rfl, rfl⟩ := g1
  show MEvP _ none q_126 6 [(0, .ref 301), (1, .int 1), (2, .int (nI w)), (3, .int a3)] [.int 1] _ _ _ _
  refine mp_Tf (t := 17) (j_if_eq dX7_addsTold_6) (by decide) (by decide) (mpp 9 rfl ?_)
  refine mp_a (a_aload_n dX7_addsTold_9 rfl) (mpp 10 rfl ?_)
  refine mp_a (a_iload_n dX7_addsTold_10 rfl) (mpp 11 rfl ?_)
  refine mp_callv (i := 104) (q' := q_128) (As := [.int (nI w)]) (rest := []) dX7_addsTold_11 rfl qm_128 (by decide) rfl (h.f (by decide) (by decide) p0_301) (by decide) (Nat.le_of_ble_eq_true rfl) rfl ⟨rfl, rfl⟩ ⟨Nat.le_of_ble_eq_true rfl, Nat.le_of_ble_eq_true rfl⟩ (EvP.mono (by decide) (m_lsT hw hA (h.f (by decide) (by decide) p0_301) (h.f (by decide) (by decide) p0_306))) (fun r1 P1 g2 => mpp 14 rfl ?_)
  obtain ⟨rfl, g2, hZ⟩ := g2
  show MEvP _ none q_126 14 [(0, .ref 301), (1, .int 1), (2, .int (nI w)), (3, .int a3)] [.int (nI (ndf 10 w))] _ _ _ _
  refine mp_a (a_goto (t := 18) dX7_addsTold_14 (by decide)) ?_
  refine mp_a (a_istore (L' := [(4, .int (nI (ndf 10 w))), (0, .ref 301), (1, .int 1), (2, .int (nI w)), (3, .int a3)]) dX7_addsTold_18 (by decide) rfl) (mpp 20 rfl ?_)
  refine mp_a (a_iload dX7_addsTold_20 rfl) (mpp 22 rfl ?_)
  refine mp_Tb (t := 56) (j_if_eq dX7_addsTold_22) (by decide) (fun c3 => ?_) (fun c3 => mpp 25 rfl ?_)
  · refine mp_a (a_sipush (v := -1002) dX7_addsTold_56 rfl) (mpp 59 rfl ?_)
    exact mp_iret (⟨rfl, (MODE.fr h.e (fun t h6 h7 => g2 t h6))⟩) dX7_addsTold_59 (Or.inl rfl)
  · refine mp_a (a_aload_n dX7_addsTold_25 rfl) (mpp 26 rfl ?_)
    refine mp_a (a_iload_n dX7_addsTold_26 rfl) (mpp 27 rfl ?_)
    refine mp_a (a_iload dX7_addsTold_27 rfl) (mpp 29 rfl ?_)
    refine mp_callv (i := 107) (q' := q_130) (As := [.int 1, .int (nI (ndf 10 w))]) (rest := []) dX7_addsTold_29 rfl qm_130 (by decide) rfl ((g2 301 (by decide)).trans (h.f (by decide) (by decide) p0_301)) (by decide) (Nat.le_of_ble_eq_true rfl) rfl ⟨rfl, rfl⟩ ⟨Nat.le_of_ble_eq_true rfl, Nat.le_of_ble_eq_true rfl⟩ (EvP.mono (by decide) (m_areSizes1 hA.2.1 ((wr_len _ _ _).trans rfl) hb ((g2 301 (by decide)).trans (h.f (by decide) (by decide) p0_301)) hZ)) (fun r1 P1 g4 => mpp 32 rfl ?_)
    obtain ⟨rfl, rfl⟩ := g4
    show MEvP _ none q_126 32 [(4, .int (nI (ndf 10 w))), (0, .ref 301), (1, .int 1), (2, .int (nI w)), (3, .int a3)] [.int 0] _ _ _ _
    refine mp_Tt (t := 56) (j_if_eq dX7_addsTold_32) (by decide) (by decide) ?_
    refine mp_a (a_sipush (v := -1002) dX7_addsTold_56 rfl) (mpp 59 rfl ?_)
    exact mp_iret (⟨rfl, (MODE.fr h.e (fun t h6 h7 => g2 t h6))⟩) dX7_addsTold_59 (Or.inl rfl)

set_option maxRecDepth 100000 in
set_option maxHeartbeats 4000000 in
theorem m_told_c1 {P : mP} {w m : Nat} {a3 : Int32} (h : MODK P) (hw : w < 2 ^ 31) (hs : szok 1 w = true) (hm : ndf 10 w = m) (h2 : a3 < 0) : EvP 8 126 [.ref 301, .int 1, .int (nI w), .int a3] P (fun r P' => r = some (.int (-1002)) ∧ MODE P') := by
  have hA := szok_ok hs
  have hb := (szok_eq hA.2).symm.trans hs
  have hm8 := hA.2.1
  rw [hm] at hm8
  rw [arec_hm hm] at hb
  have hm1 := hA.1
  rw [hm] at hm1
  refine EvP.of qm_126 (Nat.le_of_ble_eq_true rfl) rfl ?_
  show MEvP _ none q_126 0 [(0, .ref 301), (1, .int 1), (2, .int (nI w)), (3, .int a3)] [] _ 0 0 _
  refine mp_a (a_iload_n dX7_addsTold_0 rfl) (mpp 1 rfl ?_)
  refine mp_a (a_iconst (v := 0) dX7_addsTold_1 rfl) (mpp 2 rfl ?_)
  refine mp_a (a_iconst (v := 1) dX7_addsTold_2 rfl) (mpp 3 rfl ?_)
  refine mp_calls (i := 61) (q' := q_127) (As := [.int 1, .int 0, .int 1]) (rest := []) dX7_addsTold_3 rfl qm_127 (by decide) rfl (Nat.le_of_ble_eq_true rfl) rfl ⟨rfl, rfl⟩ ⟨Nat.le_of_ble_eq_true rfl, Nat.le_of_ble_eq_true rfl⟩ (EvP.mono (by decide) m_isIn_1_0_1) (fun r1 P1 g1 => mpp 6 rfl ?_)
  obtain ⟨rfl, rfl⟩ := g1
  show MEvP _ none q_126 6 [(0, .ref 301), (1, .int 1), (2, .int (nI w)), (3, .int a3)] [.int 1] _ _ _ _
  refine mp_Tf (t := 17) (j_if_eq dX7_addsTold_6) (by decide) (by decide) (mpp 9 rfl ?_)
  refine mp_a (a_aload_n dX7_addsTold_9 rfl) (mpp 10 rfl ?_)
  refine mp_a (a_iload_n dX7_addsTold_10 rfl) (mpp 11 rfl ?_)
  refine mp_callv (i := 104) (q' := q_128) (As := [.int (nI w)]) (rest := []) dX7_addsTold_11 rfl qm_128 (by decide) rfl (h.f (by decide) (by decide) p0_301) (by decide) (Nat.le_of_ble_eq_true rfl) rfl ⟨rfl, rfl⟩ ⟨Nat.le_of_ble_eq_true rfl, Nat.le_of_ble_eq_true rfl⟩ (EvP.mono (by decide) (m_lsTm hw hA hm (h.f (by decide) (by decide) p0_301) (h.f (by decide) (by decide) p0_306))) (fun r1 P1 g2 => mpp 14 rfl ?_)
  obtain ⟨rfl, g2, hZ⟩ := g2
  show MEvP _ none q_126 14 [(0, .ref 301), (1, .int 1), (2, .int (nI w)), (3, .int a3)] [.int (nI m)] _ _ _ _
  refine mp_a (a_goto (t := 18) dX7_addsTold_14 (by decide)) ?_
  refine mp_a (a_istore (L' := [(4, .int (nI m)), (0, .ref 301), (1, .int 1), (2, .int (nI w)), (3, .int a3)]) dX7_addsTold_18 (by decide) rfl) (mpp 20 rfl ?_)
  refine mp_a (a_iload dX7_addsTold_20 rfl) (mpp 22 rfl ?_)
  refine mp_Tf (t := 56) (j_if_eq dX7_addsTold_22) (fun q => absurd ((nI_eq (a := m) (b := 0) (by omega) (by omega)).mp q) (by omega)) (by decide) (mpp 25 rfl ?_)
  refine mp_a (a_aload_n dX7_addsTold_25 rfl) (mpp 26 rfl ?_)
  refine mp_a (a_iload_n dX7_addsTold_26 rfl) (mpp 27 rfl ?_)
  refine mp_a (a_iload dX7_addsTold_27 rfl) (mpp 29 rfl ?_)
  refine mp_callv (i := 107) (q' := q_130) (As := [.int 1, .int (nI m)]) (rest := []) dX7_addsTold_29 rfl qm_130 (by decide) rfl ((g2 301 (by decide)).trans (h.f (by decide) (by decide) p0_301)) (by decide) (Nat.le_of_ble_eq_true rfl) rfl ⟨rfl, rfl⟩ ⟨Nat.le_of_ble_eq_true rfl, Nat.le_of_ble_eq_true rfl⟩ (EvP.mono (by decide) (m_areSizes1 hm8 ((wr_len _ _ _).trans rfl) hb ((g2 301 (by decide)).trans (h.f (by decide) (by decide) p0_301)) hZ)) (fun r1 P1 g3 => mpp 32 rfl ?_)
  obtain ⟨rfl, rfl⟩ := g3
  show MEvP _ none q_126 32 [(4, .int (nI m)), (0, .ref 301), (1, .int 1), (2, .int (nI w)), (3, .int a3)] [.int 1] _ _ _ _
  refine mp_Tf (t := 56) (j_if_eq dX7_addsTold_32) (by decide) (by decide) (mpp 35 rfl ?_)
  refine mp_a (a_aload_n dX7_addsTold_35 rfl) (mpp 36 rfl ?_)
  refine mp_a (a_iload_n dX7_addsTold_36 rfl) (mpp 37 rfl ?_)
  refine mp_a (a_iload_n dX7_addsTold_37 rfl) (mpp 38 rfl ?_)
  refine mp_Tt (t := 48) (j_if_ne dX7_addsTold_38) (by decide) (by decide) ?_
  refine mp_a (a_iload dX7_addsTold_48 rfl) (mpp 50 rfl ?_)
  refine mp_callv (i := 111) (q' := q_132) (As := [.int a3, .int (nI m)]) (rest := []) dX7_addsTold_50 rfl qm_132 (by decide) rfl ((g2 301 (by decide)).trans (h.f (by decide) (by decide) p0_301)) (by decide) (Nat.le_of_ble_eq_true rfl) rfl ⟨rfl, rfl⟩ ⟨Nat.le_of_ble_eq_true rfl, Nat.le_of_ble_eq_true rfl⟩ (EvP.mono (by decide) (m_lcN h2 ((g2 301 (by decide)).trans (h.f (by decide) (by decide) p0_301)) ((g2 307 (by decide)).trans (h.f (by decide) (by decide) p0_307)))) (fun r1 P1 g4 => mpp 53 rfl ?_)
  obtain ⟨rfl, g4, C, hC, hCl⟩ := g4
  show MEvP _ none q_126 53 [(4, .int (nI m)), (0, .ref 301), (1, .int 1), (2, .int (nI w)), (3, .int a3)] [.int 0] _ _ _ _
  refine mp_Tf (t := 60) (j_if_ne dX7_addsTold_53) (by decide) (by decide) (mpp 56 rfl ?_)
  refine mp_a (a_sipush (v := -1002) dX7_addsTold_56 rfl) (mpp 59 rfl ?_)
  exact mp_iret (⟨rfl, (MODE.fr (MODE.fr h.e (fun t h6 h7 => g2 t h6)) (fun t h6 h7 => g4 t h7))⟩) dX7_addsTold_59 (Or.inl rfl)

set_option maxRecDepth 100000 in
set_option maxHeartbeats 4000000 in
theorem m_told_f1 {P : mP} {w m v : Nat} (h : MODK P) (hw : w < 2 ^ 31) (hs : szok 1 w = true) (hm : ndf 10 w = m) (hv : v < 2 ^ 31) (hk : crok m v = false) : EvP 8 126 [.ref 301, .int 1, .int (nI w), .int (nI v)] P (fun r P' => r = some (.int (-1002)) ∧ MODE P') := by
  have hA := szok_ok hs
  have hb := (szok_eq hA.2).symm.trans hs
  have hm8 := hA.2.1
  rw [hm] at hm8
  rw [arec_hm hm] at hb
  have hm1 := hA.1
  rw [hm] at hm1
  refine EvP.of qm_126 (Nat.le_of_ble_eq_true rfl) rfl ?_
  show MEvP _ none q_126 0 [(0, .ref 301), (1, .int 1), (2, .int (nI w)), (3, .int (nI v))] [] _ 0 0 _
  refine mp_a (a_iload_n dX7_addsTold_0 rfl) (mpp 1 rfl ?_)
  refine mp_a (a_iconst (v := 0) dX7_addsTold_1 rfl) (mpp 2 rfl ?_)
  refine mp_a (a_iconst (v := 1) dX7_addsTold_2 rfl) (mpp 3 rfl ?_)
  refine mp_calls (i := 61) (q' := q_127) (As := [.int 1, .int 0, .int 1]) (rest := []) dX7_addsTold_3 rfl qm_127 (by decide) rfl (Nat.le_of_ble_eq_true rfl) rfl ⟨rfl, rfl⟩ ⟨Nat.le_of_ble_eq_true rfl, Nat.le_of_ble_eq_true rfl⟩ (EvP.mono (by decide) m_isIn_1_0_1) (fun r1 P1 g1 => mpp 6 rfl ?_)
  obtain ⟨rfl, rfl⟩ := g1
  show MEvP _ none q_126 6 [(0, .ref 301), (1, .int 1), (2, .int (nI w)), (3, .int (nI v))] [.int 1] _ _ _ _
  refine mp_Tf (t := 17) (j_if_eq dX7_addsTold_6) (by decide) (by decide) (mpp 9 rfl ?_)
  refine mp_a (a_aload_n dX7_addsTold_9 rfl) (mpp 10 rfl ?_)
  refine mp_a (a_iload_n dX7_addsTold_10 rfl) (mpp 11 rfl ?_)
  refine mp_callv (i := 104) (q' := q_128) (As := [.int (nI w)]) (rest := []) dX7_addsTold_11 rfl qm_128 (by decide) rfl (h.f (by decide) (by decide) p0_301) (by decide) (Nat.le_of_ble_eq_true rfl) rfl ⟨rfl, rfl⟩ ⟨Nat.le_of_ble_eq_true rfl, Nat.le_of_ble_eq_true rfl⟩ (EvP.mono (by decide) (m_lsTm hw hA hm (h.f (by decide) (by decide) p0_301) (h.f (by decide) (by decide) p0_306))) (fun r1 P1 g2 => mpp 14 rfl ?_)
  obtain ⟨rfl, g2, hZ⟩ := g2
  show MEvP _ none q_126 14 [(0, .ref 301), (1, .int 1), (2, .int (nI w)), (3, .int (nI v))] [.int (nI m)] _ _ _ _
  refine mp_a (a_goto (t := 18) dX7_addsTold_14 (by decide)) ?_
  refine mp_a (a_istore (L' := [(4, .int (nI m)), (0, .ref 301), (1, .int 1), (2, .int (nI w)), (3, .int (nI v))]) dX7_addsTold_18 (by decide) rfl) (mpp 20 rfl ?_)
  refine mp_a (a_iload dX7_addsTold_20 rfl) (mpp 22 rfl ?_)
  refine mp_Tf (t := 56) (j_if_eq dX7_addsTold_22) (fun q => absurd ((nI_eq (a := m) (b := 0) (by omega) (by omega)).mp q) (by omega)) (by decide) (mpp 25 rfl ?_)
  refine mp_a (a_aload_n dX7_addsTold_25 rfl) (mpp 26 rfl ?_)
  refine mp_a (a_iload_n dX7_addsTold_26 rfl) (mpp 27 rfl ?_)
  refine mp_a (a_iload dX7_addsTold_27 rfl) (mpp 29 rfl ?_)
  refine mp_callv (i := 107) (q' := q_130) (As := [.int 1, .int (nI m)]) (rest := []) dX7_addsTold_29 rfl qm_130 (by decide) rfl ((g2 301 (by decide)).trans (h.f (by decide) (by decide) p0_301)) (by decide) (Nat.le_of_ble_eq_true rfl) rfl ⟨rfl, rfl⟩ ⟨Nat.le_of_ble_eq_true rfl, Nat.le_of_ble_eq_true rfl⟩ (EvP.mono (by decide) (m_areSizes1 hm8 ((wr_len _ _ _).trans rfl) hb ((g2 301 (by decide)).trans (h.f (by decide) (by decide) p0_301)) hZ)) (fun r1 P1 g3 => mpp 32 rfl ?_)
  obtain ⟨rfl, rfl⟩ := g3
  show MEvP _ none q_126 32 [(4, .int (nI m)), (0, .ref 301), (1, .int 1), (2, .int (nI w)), (3, .int (nI v))] [.int 1] _ _ _ _
  refine mp_Tf (t := 56) (j_if_eq dX7_addsTold_32) (by decide) (by decide) (mpp 35 rfl ?_)
  refine mp_a (a_aload_n dX7_addsTold_35 rfl) (mpp 36 rfl ?_)
  refine mp_a (a_iload_n dX7_addsTold_36 rfl) (mpp 37 rfl ?_)
  refine mp_a (a_iload_n dX7_addsTold_37 rfl) (mpp 38 rfl ?_)
  refine mp_Tt (t := 48) (j_if_ne dX7_addsTold_38) (by decide) (by decide) ?_
  refine mp_a (a_iload dX7_addsTold_48 rfl) (mpp 50 rfl ?_)
  refine mp_callv (i := 111) (q' := q_132) (As := [.int (nI v), .int (nI m)]) (rest := []) dX7_addsTold_50 rfl qm_132 (by decide) rfl ((g2 301 (by decide)).trans (h.f (by decide) (by decide) p0_301)) (by decide) (Nat.le_of_ble_eq_true rfl) rfl ⟨rfl, rfl⟩ ⟨Nat.le_of_ble_eq_true rfl, Nat.le_of_ble_eq_true rfl⟩ (EvP.mono (by decide) (m_lc hv hk (by omega) ((g2 301 (by decide)).trans (h.f (by decide) (by decide) p0_301)) ((g2 307 (by decide)).trans (h.f (by decide) (by decide) p0_307)))) (fun r1 P1 g4 => mpp 53 rfl ?_)
  obtain ⟨rfl, g4, C, hC, hCl⟩ := g4
  show MEvP _ none q_126 53 [(4, .int (nI m)), (0, .ref 301), (1, .int 1), (2, .int (nI w)), (3, .int (nI v))] [.int 0] _ _ _ _
  refine mp_Tf (t := 60) (j_if_ne dX7_addsTold_53) (by decide) (by decide) (mpp 56 rfl ?_)
  refine mp_a (a_sipush (v := -1002) dX7_addsTold_56 rfl) (mpp 59 rfl ?_)
  exact mp_iret (⟨rfl, (MODE.fr (MODE.fr h.e (fun t h6 h7 => g2 t h6)) (fun t h6 h7 => g4 t h7))⟩) dX7_addsTold_59 (Or.inl rfl)

set_option maxRecDepth 100000 in
set_option maxHeartbeats 4000000 in
theorem m_told_t1 {P : mP} {w m v : Nat} (h : MODK P) (hw : w < 2 ^ 31) (hs : szok 1 w = true) (hm : ndf 10 w = m) (hv : v < 2 ^ 31) (hk : crok m v = true) : EvP 8 126 [.ref 301, .int 1, .int (nI w), .int (nI v)] P (fun r P' => r = some (.int 0) ∧ MODE P') := by
  have hA := szok_ok hs
  have hb := (szok_eq hA.2).symm.trans hs
  have hm8 := hA.2.1
  rw [hm] at hm8
  rw [arec_hm hm] at hb
  have hm1 := hA.1
  rw [hm] at hm1
  refine EvP.of qm_126 (Nat.le_of_ble_eq_true rfl) rfl ?_
  show MEvP _ none q_126 0 [(0, .ref 301), (1, .int 1), (2, .int (nI w)), (3, .int (nI v))] [] _ 0 0 _
  refine mp_a (a_iload_n dX7_addsTold_0 rfl) (mpp 1 rfl ?_)
  refine mp_a (a_iconst (v := 0) dX7_addsTold_1 rfl) (mpp 2 rfl ?_)
  refine mp_a (a_iconst (v := 1) dX7_addsTold_2 rfl) (mpp 3 rfl ?_)
  refine mp_calls (i := 61) (q' := q_127) (As := [.int 1, .int 0, .int 1]) (rest := []) dX7_addsTold_3 rfl qm_127 (by decide) rfl (Nat.le_of_ble_eq_true rfl) rfl ⟨rfl, rfl⟩ ⟨Nat.le_of_ble_eq_true rfl, Nat.le_of_ble_eq_true rfl⟩ (EvP.mono (by decide) m_isIn_1_0_1) (fun r1 P1 g1 => mpp 6 rfl ?_)
  obtain ⟨rfl, rfl⟩ := g1
  show MEvP _ none q_126 6 [(0, .ref 301), (1, .int 1), (2, .int (nI w)), (3, .int (nI v))] [.int 1] _ _ _ _
  refine mp_Tf (t := 17) (j_if_eq dX7_addsTold_6) (by decide) (by decide) (mpp 9 rfl ?_)
  refine mp_a (a_aload_n dX7_addsTold_9 rfl) (mpp 10 rfl ?_)
  refine mp_a (a_iload_n dX7_addsTold_10 rfl) (mpp 11 rfl ?_)
  refine mp_callv (i := 104) (q' := q_128) (As := [.int (nI w)]) (rest := []) dX7_addsTold_11 rfl qm_128 (by decide) rfl (h.f (by decide) (by decide) p0_301) (by decide) (Nat.le_of_ble_eq_true rfl) rfl ⟨rfl, rfl⟩ ⟨Nat.le_of_ble_eq_true rfl, Nat.le_of_ble_eq_true rfl⟩ (EvP.mono (by decide) (m_lsTm hw hA hm (h.f (by decide) (by decide) p0_301) (h.f (by decide) (by decide) p0_306))) (fun r1 P1 g2 => mpp 14 rfl ?_)
  obtain ⟨rfl, g2, hZ⟩ := g2
  show MEvP _ none q_126 14 [(0, .ref 301), (1, .int 1), (2, .int (nI w)), (3, .int (nI v))] [.int (nI m)] _ _ _ _
  refine mp_a (a_goto (t := 18) dX7_addsTold_14 (by decide)) ?_
  refine mp_a (a_istore (L' := [(4, .int (nI m)), (0, .ref 301), (1, .int 1), (2, .int (nI w)), (3, .int (nI v))]) dX7_addsTold_18 (by decide) rfl) (mpp 20 rfl ?_)
  refine mp_a (a_iload dX7_addsTold_20 rfl) (mpp 22 rfl ?_)
  refine mp_Tf (t := 56) (j_if_eq dX7_addsTold_22) (fun q => absurd ((nI_eq (a := m) (b := 0) (by omega) (by omega)).mp q) (by omega)) (by decide) (mpp 25 rfl ?_)
  refine mp_a (a_aload_n dX7_addsTold_25 rfl) (mpp 26 rfl ?_)
  refine mp_a (a_iload_n dX7_addsTold_26 rfl) (mpp 27 rfl ?_)
  refine mp_a (a_iload dX7_addsTold_27 rfl) (mpp 29 rfl ?_)
  refine mp_callv (i := 107) (q' := q_130) (As := [.int 1, .int (nI m)]) (rest := []) dX7_addsTold_29 rfl qm_130 (by decide) rfl ((g2 301 (by decide)).trans (h.f (by decide) (by decide) p0_301)) (by decide) (Nat.le_of_ble_eq_true rfl) rfl ⟨rfl, rfl⟩ ⟨Nat.le_of_ble_eq_true rfl, Nat.le_of_ble_eq_true rfl⟩ (EvP.mono (by decide) (m_areSizes1 hm8 ((wr_len _ _ _).trans rfl) hb ((g2 301 (by decide)).trans (h.f (by decide) (by decide) p0_301)) hZ)) (fun r1 P1 g3 => mpp 32 rfl ?_)
  obtain ⟨rfl, rfl⟩ := g3
  show MEvP _ none q_126 32 [(4, .int (nI m)), (0, .ref 301), (1, .int 1), (2, .int (nI w)), (3, .int (nI v))] [.int 1] _ _ _ _
  refine mp_Tf (t := 56) (j_if_eq dX7_addsTold_32) (by decide) (by decide) (mpp 35 rfl ?_)
  refine mp_a (a_aload_n dX7_addsTold_35 rfl) (mpp 36 rfl ?_)
  refine mp_a (a_iload_n dX7_addsTold_36 rfl) (mpp 37 rfl ?_)
  refine mp_a (a_iload_n dX7_addsTold_37 rfl) (mpp 38 rfl ?_)
  refine mp_Tt (t := 48) (j_if_ne dX7_addsTold_38) (by decide) (by decide) ?_
  refine mp_a (a_iload dX7_addsTold_48 rfl) (mpp 50 rfl ?_)
  refine mp_callv (i := 111) (q' := q_132) (As := [.int (nI v), .int (nI m)]) (rest := []) dX7_addsTold_50 rfl qm_132 (by decide) rfl ((g2 301 (by decide)).trans (h.f (by decide) (by decide) p0_301)) (by decide) (Nat.le_of_ble_eq_true rfl) rfl ⟨rfl, rfl⟩ ⟨Nat.le_of_ble_eq_true rfl, Nat.le_of_ble_eq_true rfl⟩ (EvP.mono (by decide) (m_lc hv hk (by omega) ((g2 301 (by decide)).trans (h.f (by decide) (by decide) p0_301)) ((g2 307 (by decide)).trans (h.f (by decide) (by decide) p0_307)))) (fun r1 P1 g4 => mpp 53 rfl ?_)
  obtain ⟨rfl, g4, C, hC, hCl⟩ := g4
  show MEvP _ none q_126 53 [(4, .int (nI m)), (0, .ref 301), (1, .int 1), (2, .int (nI w)), (3, .int (nI v))] [.int 1] _ _ _ _
  refine mp_Tt (t := 60) (j_if_ne dX7_addsTold_53) (by decide) (by decide) ?_
  refine mp_a (a_aload_n dX7_addsTold_60 rfl) (mpp 61 rfl ?_)
  refine mp_a (a_iload_n dX7_addsTold_61 rfl) (mpp 62 rfl ?_)
  refine mp_a (a_iload dX7_addsTold_62 rfl) (mpp 64 rfl ?_)
  refine mp_callv (i := 114) (q' := q_133) (As := [.int 1, .int (nI m)]) (rest := []) dX7_addsTold_64 rfl qm_133 (by decide) rfl ((g4 301 (by decide)).trans ((g2 301 (by decide)).trans (h.f (by decide) (by decide) p0_301))) (by decide) (Nat.le_of_ble_eq_true rfl) rfl ⟨rfl, rfl⟩ ⟨Nat.le_of_ble_eq_true rfl, Nat.le_of_ble_eq_true rfl⟩ (EvP.mono (by decide) (m_adds1 (n := m) (by omega) (MODE.fr (MODE.fr h.e (fun t h6 h7 => g2 t h6)) (fun t h6 h7 => g4 t h7)) ((g4 302 (by decide)).trans ((g2 302 (by decide)).trans (h.f (by decide) (by decide) p0_302))) ((g4 306 (by decide)).trans hZ) ((wr_len _ _ _).trans rfl) hC hCl)) (fun r1 P1 g5 => mpp 67 rfl ?_)
  obtain ⟨rfl, hE⟩ := g5
  show MEvP _ none q_126 67 [(4, .int (nI m)), (0, .ref 301), (1, .int 1), (2, .int (nI w)), (3, .int (nI v))] [.int 0] _ _ _ _
  exact mp_iret (⟨rfl, hE⟩) dX7_addsTold_67 (Or.inl rfl)

