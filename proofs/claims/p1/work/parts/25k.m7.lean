set_option maxHeartbeats 4000000 in
theorem m_areSizes1 {P : mP} {n : Nat} {A : List Value} {b : Bool} (hn8 : n ≤ 8) (hA : A.length = 8) (hb : arec 1 n A = b) (h301 : P[301]? = some (7, [.ref 302, .ref 303, .ref 304, .ref 305, .int 0, .int 0, .int 0, .int (-1004), .int 0, .ref 306, .ref 307, .ref 308, .ref 309, .int 0, .int 0, .ref 310, .ref 311, .ref 312, .ref 313, .int 0, .int 0, .int 0, .ref 314, .int 0, .int 0, .int 0, .int 0, .int 0, .int 0, .int 0])) (h306 : P[306]? = some (8, A)) : EvP 4 130 [.ref 301, .int 1, .int (nI n)] P (fun r P' => r = some (.int (if b = true then 1 else 0)) ∧ P' = P) := by
  subst hb
  refine EvP.of qm_130 (Nat.le_of_ble_eq_true rfl) rfl ?_
  show MEvP _ none q_130 0 [(0, .ref 301), (1, .int 1), (2, .int (nI n))] [] _ 0 0 _
  by_cases h4 : n = 4
  · have hx := h4
    by_cases h24 : sm A n = 24
    · have e : (if arec 1 n A = true then (1 : Int32) else 0) = 1 := by
        have hq : (decide (n = 4) || decide (n = 6) || decide (n = 8)) = true := by simp [h4]
        simp only [arec, h24, hq]
        rfl
      rw [e]
      refine mp_a (a_iload_n dX7_areSizes_0 rfl) (mpp 1 rfl ?_)
      refine mp_Tt (t := 14) (j_if_ne dX7_areSizes_1) (by decide) (by decide) ?_
      refine mp_a (a_iload_n dX7_areSizes_14 rfl) (mpp 15 rfl ?_)
      refine mp_a (a_iconst (v := 4) dX7_areSizes_15 rfl) (mpp 16 rfl ?_)
      refine mp_Tt (t := 31) (j_icmp_eq dX7_areSizes_16) (((nI_eq (a := n) (b := 4) (by omega) (by omega)).mpr (by omega))) (by decide) ?_
      refine mp_a (a_aload_n dX7_areSizes_31 rfl) (mpp 32 rfl ?_)
      refine mp_a (a_iload_n dX7_areSizes_32 rfl) (mpp 33 rfl ?_)
      refine mp_callv (i := 98) (q' := q_131) (As := [.int (nI n)]) (rest := []) dX7_areSizes_33 rfl qm_131 (by decide) rfl h301 (by decide) (Nat.le_of_ble_eq_true rfl) rfl ⟨rfl, rfl⟩ ⟨Nat.le_of_ble_eq_true rfl, Nat.le_of_ble_eq_true rfl⟩ (EvP.mono (by decide) (m_sumOfNew hn8 hA h301 h306)) (fun r1 P1 g1 => mpp 36 rfl ?_)
      obtain ⟨rfl, rfl⟩ := g1
      show MEvP _ none q_130 36 [(0, .ref 301), (1, .int 1), (2, .int (nI n))] [.int (sm A n)] _ _ _ _
      refine mp_a (a_bipush (v := 24) dX7_areSizes_36 rfl) (mpp 38 rfl ?_)
      refine mp_Tf (t := 45) (j_icmp_ne dX7_areSizes_38) (fun q => q h24) (by decide) (mpp 41 rfl ?_)
      refine mp_a (a_iconst (v := 1) dX7_areSizes_41 rfl) (mpp 42 rfl ?_)
      refine mp_a (a_goto (t := 46) dX7_areSizes_42 (by decide)) ?_
      exact mp_iret (⟨rfl, rfl⟩) dX7_areSizes_46 (Or.inr ⟨rfl, by decide⟩)
    · have e : (if arec 1 n A = true then (1 : Int32) else 0) = 0 := by simp [arec, h24]
      rw [e]
      refine mp_a (a_iload_n dX7_areSizes_0 rfl) (mpp 1 rfl ?_)
      refine mp_Tt (t := 14) (j_if_ne dX7_areSizes_1) (by decide) (by decide) ?_
      refine mp_a (a_iload_n dX7_areSizes_14 rfl) (mpp 15 rfl ?_)
      refine mp_a (a_iconst (v := 4) dX7_areSizes_15 rfl) (mpp 16 rfl ?_)
      refine mp_Tt (t := 31) (j_icmp_eq dX7_areSizes_16) (((nI_eq (a := n) (b := 4) (by omega) (by omega)).mpr (by omega))) (by decide) ?_
      refine mp_a (a_aload_n dX7_areSizes_31 rfl) (mpp 32 rfl ?_)
      refine mp_a (a_iload_n dX7_areSizes_32 rfl) (mpp 33 rfl ?_)
      refine mp_callv (i := 98) (q' := q_131) (As := [.int (nI n)]) (rest := []) dX7_areSizes_33 rfl qm_131 (by decide) rfl h301 (by decide) (Nat.le_of_ble_eq_true rfl) rfl ⟨rfl, rfl⟩ ⟨Nat.le_of_ble_eq_true rfl, Nat.le_of_ble_eq_true rfl⟩ (EvP.mono (by decide) (m_sumOfNew hn8 hA h301 h306)) (fun r1 P1 g1 => mpp 36 rfl ?_)
      obtain ⟨rfl, rfl⟩ := g1
      show MEvP _ none q_130 36 [(0, .ref 301), (1, .int 1), (2, .int (nI n))] [.int (sm A n)] _ _ _ _
      refine mp_a (a_bipush (v := 24) dX7_areSizes_36 rfl) (mpp 38 rfl ?_)
      refine mp_Tt (t := 45) (j_icmp_ne dX7_areSizes_38) h24 (by decide) ?_
      refine mp_a (a_iconst (v := 0) dX7_areSizes_45 rfl) (mpp 46 rfl ?_)
      exact mp_iret (⟨rfl, rfl⟩) dX7_areSizes_46 (Or.inr ⟨rfl, by decide⟩)
  · by_cases h6 : n = 6
    · have hx := h6
      by_cases h24 : sm A n = 24
      · have e : (if arec 1 n A = true then (1 : Int32) else 0) = 1 := by
          have hq : (decide (n = 4) || decide (n = 6) || decide (n = 8)) = true := by simp [h6]
          simp only [arec, h24, hq]
          rfl
        rw [e]
        refine mp_a (a_iload_n dX7_areSizes_0 rfl) (mpp 1 rfl ?_)
        refine mp_Tt (t := 14) (j_if_ne dX7_areSizes_1) (by decide) (by decide) ?_
        refine mp_a (a_iload_n dX7_areSizes_14 rfl) (mpp 15 rfl ?_)
        refine mp_a (a_iconst (v := 4) dX7_areSizes_15 rfl) (mpp 16 rfl ?_)
        refine mp_Tf (t := 31) (j_icmp_eq dX7_areSizes_16) (fun q => absurd ((nI_eq (a := n) (b := 4) (by omega) (by omega)).mp q) (by omega)) (by decide) (mpp 19 rfl ?_)
        refine mp_a (a_iload_n dX7_areSizes_19 rfl) (mpp 20 rfl ?_)
        refine mp_a (a_bipush (v := 6) dX7_areSizes_20 rfl) (mpp 22 rfl ?_)
        refine mp_Tt (t := 31) (j_icmp_eq dX7_areSizes_22) (((nI_eq (a := n) (b := 6) (by omega) (by omega)).mpr (by omega))) (by decide) ?_
        refine mp_a (a_aload_n dX7_areSizes_31 rfl) (mpp 32 rfl ?_)
        refine mp_a (a_iload_n dX7_areSizes_32 rfl) (mpp 33 rfl ?_)
        refine mp_callv (i := 98) (q' := q_131) (As := [.int (nI n)]) (rest := []) dX7_areSizes_33 rfl qm_131 (by decide) rfl h301 (by decide) (Nat.le_of_ble_eq_true rfl) rfl ⟨rfl, rfl⟩ ⟨Nat.le_of_ble_eq_true rfl, Nat.le_of_ble_eq_true rfl⟩ (EvP.mono (by decide) (m_sumOfNew hn8 hA h301 h306)) (fun r1 P1 g1 => mpp 36 rfl ?_)
        obtain ⟨rfl, rfl⟩ := g1
        show MEvP _ none q_130 36 [(0, .ref 301), (1, .int 1), (2, .int (nI n))] [.int (sm A n)] _ _ _ _
        refine mp_a (a_bipush (v := 24) dX7_areSizes_36 rfl) (mpp 38 rfl ?_)
        refine mp_Tf (t := 45) (j_icmp_ne dX7_areSizes_38) (fun q => q h24) (by decide) (mpp 41 rfl ?_)
        refine mp_a (a_iconst (v := 1) dX7_areSizes_41 rfl) (mpp 42 rfl ?_)
        refine mp_a (a_goto (t := 46) dX7_areSizes_42 (by decide)) ?_
        exact mp_iret (⟨rfl, rfl⟩) dX7_areSizes_46 (Or.inr ⟨rfl, by decide⟩)
      · have e : (if arec 1 n A = true then (1 : Int32) else 0) = 0 := by simp [arec, h24]
        rw [e]
        refine mp_a (a_iload_n dX7_areSizes_0 rfl) (mpp 1 rfl ?_)
        refine mp_Tt (t := 14) (j_if_ne dX7_areSizes_1) (by decide) (by decide) ?_
        refine mp_a (a_iload_n dX7_areSizes_14 rfl) (mpp 15 rfl ?_)
        refine mp_a (a_iconst (v := 4) dX7_areSizes_15 rfl) (mpp 16 rfl ?_)
        refine mp_Tf (t := 31) (j_icmp_eq dX7_areSizes_16) (fun q => absurd ((nI_eq (a := n) (b := 4) (by omega) (by omega)).mp q) (by omega)) (by decide) (mpp 19 rfl ?_)
        refine mp_a (a_iload_n dX7_areSizes_19 rfl) (mpp 20 rfl ?_)
        refine mp_a (a_bipush (v := 6) dX7_areSizes_20 rfl) (mpp 22 rfl ?_)
        refine mp_Tt (t := 31) (j_icmp_eq dX7_areSizes_22) (((nI_eq (a := n) (b := 6) (by omega) (by omega)).mpr (by omega))) (by decide) ?_
        refine mp_a (a_aload_n dX7_areSizes_31 rfl) (mpp 32 rfl ?_)
        refine mp_a (a_iload_n dX7_areSizes_32 rfl) (mpp 33 rfl ?_)
        refine mp_callv (i := 98) (q' := q_131) (As := [.int (nI n)]) (rest := []) dX7_areSizes_33 rfl qm_131 (by decide) rfl h301 (by decide) (Nat.le_of_ble_eq_true rfl) rfl ⟨rfl, rfl⟩ ⟨Nat.le_of_ble_eq_true rfl, Nat.le_of_ble_eq_true rfl⟩ (EvP.mono (by decide) (m_sumOfNew hn8 hA h301 h306)) (fun r1 P1 g1 => mpp 36 rfl ?_)
        obtain ⟨rfl, rfl⟩ := g1
        show MEvP _ none q_130 36 [(0, .ref 301), (1, .int 1), (2, .int (nI n))] [.int (sm A n)] _ _ _ _
        refine mp_a (a_bipush (v := 24) dX7_areSizes_36 rfl) (mpp 38 rfl ?_)
        refine mp_Tt (t := 45) (j_icmp_ne dX7_areSizes_38) h24 (by decide) ?_
        refine mp_a (a_iconst (v := 0) dX7_areSizes_45 rfl) (mpp 46 rfl ?_)
        exact mp_iret (⟨rfl, rfl⟩) dX7_areSizes_46 (Or.inr ⟨rfl, by decide⟩)
    · by_cases h8 : n = 8
      · have hx := h8
        by_cases h24 : sm A n = 24
        · have e : (if arec 1 n A = true then (1 : Int32) else 0) = 1 := by
            have hq : (decide (n = 4) || decide (n = 6) || decide (n = 8)) = true := by simp [h8]
            simp only [arec, h24, hq]
            rfl
          rw [e]
          refine mp_a (a_iload_n dX7_areSizes_0 rfl) (mpp 1 rfl ?_)
          refine mp_Tt (t := 14) (j_if_ne dX7_areSizes_1) (by decide) (by decide) ?_
          refine mp_a (a_iload_n dX7_areSizes_14 rfl) (mpp 15 rfl ?_)
          refine mp_a (a_iconst (v := 4) dX7_areSizes_15 rfl) (mpp 16 rfl ?_)
          refine mp_Tf (t := 31) (j_icmp_eq dX7_areSizes_16) (fun q => absurd ((nI_eq (a := n) (b := 4) (by omega) (by omega)).mp q) (by omega)) (by decide) (mpp 19 rfl ?_)
          refine mp_a (a_iload_n dX7_areSizes_19 rfl) (mpp 20 rfl ?_)
          refine mp_a (a_bipush (v := 6) dX7_areSizes_20 rfl) (mpp 22 rfl ?_)
          refine mp_Tf (t := 31) (j_icmp_eq dX7_areSizes_22) (fun q => absurd ((nI_eq (a := n) (b := 6) (by omega) (by omega)).mp q) (by omega)) (by decide) (mpp 25 rfl ?_)
          refine mp_a (a_iload_n dX7_areSizes_25 rfl) (mpp 26 rfl ?_)
          refine mp_a (a_bipush (v := 8) dX7_areSizes_26 rfl) (mpp 28 rfl ?_)
          refine mp_Tf (t := 45) (j_icmp_ne dX7_areSizes_28) (fun q => q (((nI_eq (a := n) (b := 8) (by omega) (by omega)).mpr (by omega)))) (by decide) (mpp 31 rfl ?_)
          refine mp_a (a_aload_n dX7_areSizes_31 rfl) (mpp 32 rfl ?_)
          refine mp_a (a_iload_n dX7_areSizes_32 rfl) (mpp 33 rfl ?_)
          refine mp_callv (i := 98) (q' := q_131) (As := [.int (nI n)]) (rest := []) dX7_areSizes_33 rfl qm_131 (by decide) rfl h301 (by decide) (Nat.le_of_ble_eq_true rfl) rfl ⟨rfl, rfl⟩ ⟨Nat.le_of_ble_eq_true rfl, Nat.le_of_ble_eq_true rfl⟩ (EvP.mono (by decide) (m_sumOfNew hn8 hA h301 h306)) (fun r1 P1 g1 => mpp 36 rfl ?_)
          obtain ⟨rfl, rfl⟩ := g1
          show MEvP _ none q_130 36 [(0, .ref 301), (1, .int 1), (2, .int (nI n))] [.int (sm A n)] _ _ _ _
          refine mp_a (a_bipush (v := 24) dX7_areSizes_36 rfl) (mpp 38 rfl ?_)
          refine mp_Tf (t := 45) (j_icmp_ne dX7_areSizes_38) (fun q => q h24) (by decide) (mpp 41 rfl ?_)
          refine mp_a (a_iconst (v := 1) dX7_areSizes_41 rfl) (mpp 42 rfl ?_)
          refine mp_a (a_goto (t := 46) dX7_areSizes_42 (by decide)) ?_
          exact mp_iret (⟨rfl, rfl⟩) dX7_areSizes_46 (Or.inr ⟨rfl, by decide⟩)
        · have e : (if arec 1 n A = true then (1 : Int32) else 0) = 0 := by simp [arec, h24]
          rw [e]
          refine mp_a (a_iload_n dX7_areSizes_0 rfl) (mpp 1 rfl ?_)
          refine mp_Tt (t := 14) (j_if_ne dX7_areSizes_1) (by decide) (by decide) ?_
          refine mp_a (a_iload_n dX7_areSizes_14 rfl) (mpp 15 rfl ?_)
          refine mp_a (a_iconst (v := 4) dX7_areSizes_15 rfl) (mpp 16 rfl ?_)
          refine mp_Tf (t := 31) (j_icmp_eq dX7_areSizes_16) (fun q => absurd ((nI_eq (a := n) (b := 4) (by omega) (by omega)).mp q) (by omega)) (by decide) (mpp 19 rfl ?_)
          refine mp_a (a_iload_n dX7_areSizes_19 rfl) (mpp 20 rfl ?_)
          refine mp_a (a_bipush (v := 6) dX7_areSizes_20 rfl) (mpp 22 rfl ?_)
          refine mp_Tf (t := 31) (j_icmp_eq dX7_areSizes_22) (fun q => absurd ((nI_eq (a := n) (b := 6) (by omega) (by omega)).mp q) (by omega)) (by decide) (mpp 25 rfl ?_)
          refine mp_a (a_iload_n dX7_areSizes_25 rfl) (mpp 26 rfl ?_)
          refine mp_a (a_bipush (v := 8) dX7_areSizes_26 rfl) (mpp 28 rfl ?_)
          refine mp_Tf (t := 45) (j_icmp_ne dX7_areSizes_28) (fun q => q (((nI_eq (a := n) (b := 8) (by omega) (by omega)).mpr (by omega)))) (by decide) (mpp 31 rfl ?_)
          refine mp_a (a_aload_n dX7_areSizes_31 rfl) (mpp 32 rfl ?_)
          refine mp_a (a_iload_n dX7_areSizes_32 rfl) (mpp 33 rfl ?_)
          refine mp_callv (i := 98) (q' := q_131) (As := [.int (nI n)]) (rest := []) dX7_areSizes_33 rfl qm_131 (by decide) rfl h301 (by decide) (Nat.le_of_ble_eq_true rfl) rfl ⟨rfl, rfl⟩ ⟨Nat.le_of_ble_eq_true rfl, Nat.le_of_ble_eq_true rfl⟩ (EvP.mono (by decide) (m_sumOfNew hn8 hA h301 h306)) (fun r1 P1 g1 => mpp 36 rfl ?_)
          obtain ⟨rfl, rfl⟩ := g1
          show MEvP _ none q_130 36 [(0, .ref 301), (1, .int 1), (2, .int (nI n))] [.int (sm A n)] _ _ _ _
          refine mp_a (a_bipush (v := 24) dX7_areSizes_36 rfl) (mpp 38 rfl ?_)
          refine mp_Tt (t := 45) (j_icmp_ne dX7_areSizes_38) h24 (by decide) ?_
          refine mp_a (a_iconst (v := 0) dX7_areSizes_45 rfl) (mpp 46 rfl ?_)
          exact mp_iret (⟨rfl, rfl⟩) dX7_areSizes_46 (Or.inr ⟨rfl, by decide⟩)
      · have e : (if arec 1 n A = true then (1 : Int32) else 0) = 0 := by simp [arec, h4, h6, h8]
        rw [e]
        refine mp_a (a_iload_n dX7_areSizes_0 rfl) (mpp 1 rfl ?_)
        refine mp_Tt (t := 14) (j_if_ne dX7_areSizes_1) (by decide) (by decide) ?_
        refine mp_a (a_iload_n dX7_areSizes_14 rfl) (mpp 15 rfl ?_)
        refine mp_a (a_iconst (v := 4) dX7_areSizes_15 rfl) (mpp 16 rfl ?_)
        refine mp_Tf (t := 31) (j_icmp_eq dX7_areSizes_16) (fun q => absurd ((nI_eq (a := n) (b := 4) (by omega) (by omega)).mp q) (by omega)) (by decide) (mpp 19 rfl ?_)
        refine mp_a (a_iload_n dX7_areSizes_19 rfl) (mpp 20 rfl ?_)
        refine mp_a (a_bipush (v := 6) dX7_areSizes_20 rfl) (mpp 22 rfl ?_)
        refine mp_Tf (t := 31) (j_icmp_eq dX7_areSizes_22) (fun q => absurd ((nI_eq (a := n) (b := 6) (by omega) (by omega)).mp q) (by omega)) (by decide) (mpp 25 rfl ?_)
        refine mp_a (a_iload_n dX7_areSizes_25 rfl) (mpp 26 rfl ?_)
        refine mp_a (a_bipush (v := 8) dX7_areSizes_26 rfl) (mpp 28 rfl ?_)
        refine mp_Tt (t := 45) (j_icmp_ne dX7_areSizes_28) (fun q => absurd ((nI_eq (a := n) (b := 8) (by omega) (by omega)).mp q) (by omega)) (by decide) ?_
        refine mp_a (a_iconst (v := 0) dX7_areSizes_45 rfl) (mpp 46 rfl ?_)
        exact mp_iret (⟨rfl, rfl⟩) dX7_areSizes_46 (Or.inr ⟨rfl, by decide⟩)

