def arec (kd n : Nat) (A : List Value) : Bool := if kd = 0 then decide (2 ≤ n) && decide (n ≤ 7) else (decide (n = 4) || decide (n = 6) || decide (n = 8)) && decide (sm A n = 24)
theorem szok_eq {kd w : Nat} (h : ndf 10 w ≤ 8 ∧ okS (ndf 10 w) w = true) : szok kd w = arec kd (ndf 10 w) (wr (ndf 10 w) w A8) := by simp [szok, arec, h.1, h.2]
theorem szok_ok {kd w : Nat} (h : szok kd w = true) : 1 ≤ ndf 10 w ∧ ndf 10 w ≤ 8 ∧ okS (ndf 10 w) w = true := by
  unfold szok at h
  simp only [Bool.and_eq_true, decide_eq_true_eq] at h
  obtain ⟨⟨h1, h2⟩, h3⟩ := h
  refine ⟨?_, h1, h2⟩
  split at h3
  · simp only [Bool.and_eq_true, decide_eq_true_eq] at h3
    omega
  · simp only [Bool.and_eq_true, Bool.or_eq_true, decide_eq_true_eq] at h3
    omega
set_option maxHeartbeats 4000000 in
theorem m_areSizes0 {P : mP} {n : Nat} {A : List Value} {b : Bool} (hn8 : n ≤ 8) (hA : A.length = 8) (hb : arec 0 n A = b) (h301 : P[301]? = some (7, [.ref 302, .ref 303, .ref 304, .ref 305, .int 0, .int 0, .int 0, .int (-1004), .int 0, .ref 306, .ref 307, .ref 308, .ref 309, .int 0, .int 0, .ref 310, .ref 311, .ref 312, .ref 313, .int 0, .int 0, .int 0, .ref 314, .int 0, .int 0, .int 0, .int 0, .int 0, .int 0, .int 0])) (h306 : P[306]? = some (8, A)) : EvP 4 130 [.ref 301, .int 0, .int (nI n)] P (fun r P' => r = some (.int (if b = true then 1 else 0)) ∧ P' = P) := by
  subst hb
  refine EvP.of qm_130 (Nat.le_of_ble_eq_true rfl) rfl ?_
  show MEvP _ none q_130 0 [(0, .ref 301), (1, .int 0), (2, .int (nI n))] [] _ 0 0 _
  by_cases i2 : n < 2
  · have e : (if arec 0 n A = true then (1 : Int32) else 0) = 0 := by
      have : ¬ 2 ≤ n := by omega
      simp [arec, this]
    rw [e]
    refine mp_a (a_iload_n dX7_areSizes_0 rfl) (mpp 1 rfl ?_)
    refine mp_Tf (t := 14) (j_if_ne dX7_areSizes_1) (by decide) (by decide) (mpp 4 rfl ?_)
    refine mp_a (a_iload_n dX7_areSizes_4 rfl) (mpp 5 rfl ?_)
    refine mp_a (a_iconst (v := 2) dX7_areSizes_5 rfl) (mpp 6 rfl ?_)
    refine mp_a (a_bipush (v := 7) dX7_areSizes_6 rfl) (mpp 8 rfl ?_)
    refine mp_calls (i := 61) (q' := q_127) (As := [.int (nI n), .int 2, .int 7]) (rest := []) dX7_areSizes_8 rfl qm_127 (by decide) rfl (Nat.le_of_ble_eq_true rfl) rfl ⟨rfl, rfl⟩ ⟨Nat.le_of_ble_eq_true rfl, Nat.le_of_ble_eq_true rfl⟩ (EvP.mono (by decide) (m_isIn_lt (((nI_ltI (a := n) (b := 2) (by omega) (by omega)).mpr (by omega))))) (fun r1 P1 g1 => mpp 11 rfl ?_)
    obtain ⟨rfl, rfl⟩ := g1
    show MEvP _ none q_130 11 [(0, .ref 301), (1, .int 0), (2, .int (nI n))] [.int 0] _ _ _ _
    refine mp_a (a_goto (t := 46) dX7_areSizes_11 (by decide)) ?_
    exact mp_iret (⟨rfl, rfl⟩) dX7_areSizes_46 (Or.inr ⟨rfl, by decide⟩)
  · by_cases i7 : 7 < n
    · have e : (if arec 0 n A = true then (1 : Int32) else 0) = 0 := by
        have : ¬ n ≤ 7 := by omega
        simp [arec, this]
      rw [e]
      refine mp_a (a_iload_n dX7_areSizes_0 rfl) (mpp 1 rfl ?_)
      refine mp_Tf (t := 14) (j_if_ne dX7_areSizes_1) (by decide) (by decide) (mpp 4 rfl ?_)
      refine mp_a (a_iload_n dX7_areSizes_4 rfl) (mpp 5 rfl ?_)
      refine mp_a (a_iconst (v := 2) dX7_areSizes_5 rfl) (mpp 6 rfl ?_)
      refine mp_a (a_bipush (v := 7) dX7_areSizes_6 rfl) (mpp 8 rfl ?_)
      refine mp_calls (i := 61) (q' := q_127) (As := [.int (nI n), .int 2, .int 7]) (rest := []) dX7_areSizes_8 rfl qm_127 (by decide) rfl (Nat.le_of_ble_eq_true rfl) rfl ⟨rfl, rfl⟩ ⟨Nat.le_of_ble_eq_true rfl, Nat.le_of_ble_eq_true rfl⟩ (EvP.mono (by decide) (m_isIn_gt (fun q => absurd ((nI_ltI (a := n) (b := 2) (by omega) (by omega)).mp q) (by omega)) (((nI_ltI (a := 7) (b := n) (by omega) (by omega)).mpr (by omega))))) (fun r1 P1 g1 => mpp 11 rfl ?_)
      obtain ⟨rfl, rfl⟩ := g1
      show MEvP _ none q_130 11 [(0, .ref 301), (1, .int 0), (2, .int (nI n))] [.int 0] _ _ _ _
      refine mp_a (a_goto (t := 46) dX7_areSizes_11 (by decide)) ?_
      exact mp_iret (⟨rfl, rfl⟩) dX7_areSizes_46 (Or.inr ⟨rfl, by decide⟩)
    · have e : (if arec 0 n A = true then (1 : Int32) else 0) = 1 := by
        have h1 : 2 ≤ n := by omega
        have h2 : n ≤ 7 := by omega
        simp [arec, h1, h2]
      rw [e]
      refine mp_a (a_iload_n dX7_areSizes_0 rfl) (mpp 1 rfl ?_)
      refine mp_Tf (t := 14) (j_if_ne dX7_areSizes_1) (by decide) (by decide) (mpp 4 rfl ?_)
      refine mp_a (a_iload_n dX7_areSizes_4 rfl) (mpp 5 rfl ?_)
      refine mp_a (a_iconst (v := 2) dX7_areSizes_5 rfl) (mpp 6 rfl ?_)
      refine mp_a (a_bipush (v := 7) dX7_areSizes_6 rfl) (mpp 8 rfl ?_)
      refine mp_calls (i := 61) (q' := q_127) (As := [.int (nI n), .int 2, .int 7]) (rest := []) dX7_areSizes_8 rfl qm_127 (by decide) rfl (Nat.le_of_ble_eq_true rfl) rfl ⟨rfl, rfl⟩ ⟨Nat.le_of_ble_eq_true rfl, Nat.le_of_ble_eq_true rfl⟩ (EvP.mono (by decide) (m_isIn_in (fun q => absurd ((nI_ltI (a := n) (b := 2) (by omega) (by omega)).mp q) (by omega)) (fun q => absurd ((nI_ltI (a := 7) (b := n) (by omega) (by omega)).mp q) (by omega)))) (fun r1 P1 g1 => mpp 11 rfl ?_)
      obtain ⟨rfl, rfl⟩ := g1
      show MEvP _ none q_130 11 [(0, .ref 301), (1, .int 0), (2, .int (nI n))] [.int 1] _ _ _ _
      refine mp_a (a_goto (t := 46) dX7_areSizes_11 (by decide)) ?_
      exact mp_iret (⟨rfl, rfl⟩) dX7_areSizes_46 (Or.inr ⟨rfl, by decide⟩)

