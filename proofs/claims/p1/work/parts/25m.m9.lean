set_option maxHeartbeats 4000000 in
theorem m_lcN {P : mP} {m : Nat} {nz : Int32} (hn : nz < 0) (h301 : P[301]? = some (7, [.ref 302, .ref 303, .ref 304, .ref 305, .int 0, .int 0, .int 0, .int (-1004), .int 0, .ref 306, .ref 307, .ref 308, .ref 309, .int 0, .int 0, .ref 310, .ref 311, .ref 312, .ref 313, .int 0, .int 0, .int 0, .ref 314, .int 0, .int 0, .int 0, .int 0, .int 0, .int 0, .int 0])) (h307 : P[307]? = some (8, A8)) : EvP 3 132 [.ref 301, .int nz, .int (nI m)] P (fun r P' => r = some (.int 0) ∧ (∀ t : Nat, t ≠ 307 → P'[t]? = P[t]?) ∧ (∃ B : List Value, P'[307]? = some (8, B) ∧ B.length = 8)) := by
  refine EvP.of qm_132 (Nat.le_of_ble_eq_true rfl) rfl ?_
  show MEvP _ none q_132 0 [(0, .ref 301), (1, .int nz), (2, .int (nI m))] [] _ 0 0 _
  refine mp_a (a_iload_n dX7_laysCreases_0 rfl) (mpp 1 rfl ?_)
  refine mp_Tt (t := 12) (j_if_lt dX7_laysCreases_1) hn (by decide) ?_
  refine mp_a (a_iconst (v := 0) dX7_laysCreases_12 rfl) (mpp 13 rfl ?_)
  exact mp_iret (⟨rfl, fun _ _ => rfl, _, h307, rfl⟩) dX7_laysCreases_13 (Or.inr ⟨rfl, by decide⟩)
set_option maxHeartbeats 4000000 in
theorem m_lc {P : mP} {m w : Nat} {b : Bool} (hw : w < 2 ^ 31) (hk : crok m w = b) (hm : m ≤ 8) (h301 : P[301]? = some (7, [.ref 302, .ref 303, .ref 304, .ref 305, .int 0, .int 0, .int 0, .int (-1004), .int 0, .ref 306, .ref 307, .ref 308, .ref 309, .int 0, .int 0, .ref 310, .ref 311, .ref 312, .ref 313, .int 0, .int 0, .int 0, .ref 314, .int 0, .int 0, .int 0, .int 0, .int 0, .int 0, .int 0])) (h307 : P[307]? = some (8, A8)) : EvP 3 132 [.ref 301, .int (nI w), .int (nI m)] P (fun r P' => r = some (.int (if b = true then 1 else 0)) ∧ (∀ t : Nat, t ≠ 307 → P'[t]? = P[t]?) ∧ (∃ B : List Value, P'[307]? = some (8, B) ∧ B.length = 8)) := by
  rw [crok_eq m 10 w (by omega)] at hk
  subst hk
  have hle := ndf_le 10 w
  refine EvP.of qm_132 (Nat.le_of_ble_eq_true rfl) rfl ?_
  show MEvP _ none q_132 0 [(0, .ref 301), (1, .int (nI w)), (2, .int (nI m))] [] _ 0 0 _
  by_cases hd : ndf 10 w ≤ m
  · have e : (decide (ndf 10 w ≤ m) && okC m w) = okC m w := by simp [hd]
    rw [e]
    refine mp_a (a_iload_n dX7_laysCreases_0 rfl) (mpp 1 rfl ?_)
    refine mp_Tf (t := 12) (j_if_lt dX7_laysCreases_1) (fun q => absurd ((nI_ltI (a := w) (b := 0) (by omega) (by omega)).mp q) (by omega)) (by decide) (mpp 4 rfl ?_)
    refine mp_a (a_iload_n dX7_laysCreases_4 rfl) (mpp 5 rfl ?_)
    refine mp_calls (i := 95) (q' := q_129) (As := [.int (nI w)]) (rest := []) dX7_laysCreases_5 rfl qm_129 (by decide) rfl (Nat.le_of_ble_eq_true rfl) rfl ⟨rfl, rfl⟩ ⟨Nat.le_of_ble_eq_true rfl, Nat.le_of_ble_eq_true rfl⟩ (EvP.mono (by decide) (m_digits hw)) (fun r1 P1 g1 => mpp 8 rfl ?_)
    obtain ⟨rfl, rfl⟩ := g1
    show MEvP _ none q_132 8 [(0, .ref 301), (1, .int (nI w)), (2, .int (nI m))] [.int (nI (ndf 10 w))] _ _ _ _
    refine mp_a (a_iload_n dX7_laysCreases_8 rfl) (mpp 9 rfl ?_)
    refine mp_Tt (t := 14) (j_icmp_le dX7_laysCreases_9) (((nI_leI (a := (ndf 10 w)) (b := m) (by omega) (by omega)).mpr (by omega))) (by decide) ?_
    refine mp_a (a_iload_n dX7_laysCreases_14 rfl) (mpp 15 rfl ?_)
    refine mp_a (a_istore_n (L' := [(3, .int (nI w)), (0, .ref 301), (1, .int (nI w)), (2, .int (nI m))]) dX7_laysCreases_15 (by decide) rfl) (mpp 16 rfl ?_)
    refine mp_a (a_iconst (v := 1) dX7_laysCreases_16 rfl) (mpp 17 rfl ?_)
    refine mp_a (a_istore (L' := [(4, .int 1), (3, .int (nI w)), (0, .ref 301), (1, .int (nI w)), (2, .int (nI m))]) dX7_laysCreases_17 (by decide) rfl) (mpp 19 rfl ?_)
    refine mp_a (a_iload_n dX7_laysCreases_19 rfl) (mpp 20 rfl ?_)
    refine mp_a (a_iconst (v := 1) dX7_laysCreases_20 rfl) (mpp 21 rfl ?_)
    refine mp_t (s_isub (v := ((nI m) - 1)) dX7_laysCreases_21 rfl) (mpp 22 rfl ?_)
    refine mp_a (a_istore (L' := [(5, .int ((nI m) - 1)), (4, .int 1), (3, .int (nI w)), (0, .ref 301), (1, .int (nI w)), (2, .int (nI m))]) dX7_laysCreases_22 (by decide) rfl) (mpp 24 rfl ?_)
    exact m_lc1 m w A8 _ hm hw rfl h301 h307 (fun Q' hf hB => ⟨rfl, hf, hB⟩)
  · have e : (decide (ndf 10 w ≤ m) && okC m w) = false := by simp [hd]
    rw [e]
    refine mp_a (a_iload_n dX7_laysCreases_0 rfl) (mpp 1 rfl ?_)
    refine mp_Tf (t := 12) (j_if_lt dX7_laysCreases_1) (fun q => absurd ((nI_ltI (a := w) (b := 0) (by omega) (by omega)).mp q) (by omega)) (by decide) (mpp 4 rfl ?_)
    refine mp_a (a_iload_n dX7_laysCreases_4 rfl) (mpp 5 rfl ?_)
    refine mp_calls (i := 95) (q' := q_129) (As := [.int (nI w)]) (rest := []) dX7_laysCreases_5 rfl qm_129 (by decide) rfl (Nat.le_of_ble_eq_true rfl) rfl ⟨rfl, rfl⟩ ⟨Nat.le_of_ble_eq_true rfl, Nat.le_of_ble_eq_true rfl⟩ (EvP.mono (by decide) (m_digits hw)) (fun r1 P1 g1 => mpp 8 rfl ?_)
    obtain ⟨rfl, rfl⟩ := g1
    show MEvP _ none q_132 8 [(0, .ref 301), (1, .int (nI w)), (2, .int (nI m))] [.int (nI (ndf 10 w))] _ _ _ _
    refine mp_a (a_iload_n dX7_laysCreases_8 rfl) (mpp 9 rfl ?_)
    refine mp_Tf (t := 14) (j_icmp_le dX7_laysCreases_9) (fun q => absurd ((nI_leI (a := (ndf 10 w)) (b := m) (by omega) (by omega)).mp q) (by omega)) (by decide) (mpp 12 rfl ?_)
    refine mp_a (a_iconst (v := 0) dX7_laysCreases_12 rfl) (mpp 13 rfl ?_)
    exact mp_iret (⟨rfl, fun _ _ => rfl, _, h307, rfl⟩) dX7_laysCreases_13 (Or.inr ⟨rfl, by decide⟩)

