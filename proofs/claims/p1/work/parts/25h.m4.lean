set_option maxHeartbeats 4000000 in
theorem m_lsF {P : mP} {w : Nat} (hw : w < 2 ^ 31) (hA : ¬ (1 ≤ ndf 10 w ∧ ndf 10 w ≤ 8 ∧ okS (ndf 10 w) w = true)) (h301 : P[301]? = some (7, [.ref 302, .ref 303, .ref 304, .ref 305, .int 0, .int 0, .int 0, .int (-1004), .int 0, .ref 306, .ref 307, .ref 308, .ref 309, .int 0, .int 0, .ref 310, .ref 311, .ref 312, .ref 313, .int 0, .int 0, .int 0, .ref 314, .int 0, .int 0, .int 0, .int 0, .int 0, .int 0, .int 0])) (h306 : P[306]? = some (8, A8)) : EvP 3 128 [.ref 301, .int (nI w)] P (fun r P' => r = some (.int 0) ∧ ∀ t : Nat, t ≠ 306 → P'[t]? = P[t]?) := by
  have hle := ndf_le 10 w
  refine EvP.of qm_128 (Nat.le_of_ble_eq_true rfl) rfl ?_
  show MEvP _ none q_128 0 [(0, .ref 301), (1, .int (nI w))] [] _ 0 0 _
  by_cases i1 : ndf 10 w < 1
  · have hx := i1
    refine mp_a (a_iload_n dX7_laysSizes_0 rfl) (mpp 1 rfl ?_)
    refine mp_Tt (t := 8) (j_if_ge dX7_laysSizes_1) (nI_pos' hw) (by decide) ?_
    refine mp_a (a_iload_n dX7_laysSizes_8 rfl) (mpp 9 rfl ?_)
    refine mp_calls (i := 95) (q' := q_129) (As := [.int (nI w)]) (rest := []) dX7_laysSizes_9 rfl qm_129 (by decide) rfl (Nat.le_of_ble_eq_true rfl) rfl ⟨rfl, rfl⟩ ⟨Nat.le_of_ble_eq_true rfl, Nat.le_of_ble_eq_true rfl⟩ (EvP.mono (by decide) (m_digits hw)) (fun r1 P1 g1 => mpp 12 rfl ?_)
    obtain ⟨rfl, rfl⟩ := g1
    show MEvP _ none q_128 12 [(0, .ref 301), (1, .int (nI w))] [.int (nI (ndf 10 w))] _ _ _ _
    refine mp_a (a_istore_n (L' := [(2, .int (nI (ndf 10 w))), (0, .ref 301), (1, .int (nI w))]) dX7_laysSizes_12 (by decide) rfl) (mpp 13 rfl ?_)
    refine mp_a (a_iload_n dX7_laysSizes_13 rfl) (mpp 14 rfl ?_)
    refine mp_a (a_iconst (v := 1) dX7_laysSizes_14 rfl) (mpp 15 rfl ?_)
    refine mp_a (a_bipush (v := 8) dX7_laysSizes_15 rfl) (mpp 17 rfl ?_)
    refine mp_calls (i := 61) (q' := q_127) (As := [.int (nI (ndf 10 w)), .int 1, .int 8]) (rest := []) dX7_laysSizes_17 rfl qm_127 (by decide) rfl (Nat.le_of_ble_eq_true rfl) rfl ⟨rfl, rfl⟩ ⟨Nat.le_of_ble_eq_true rfl, Nat.le_of_ble_eq_true rfl⟩ (EvP.mono (by decide) (m_isIn_lt (((nI_ltI (a := (ndf 10 w)) (b := 1) (by omega) (by omega)).mpr (by omega))))) (fun r1 P1 g2 => mpp 20 rfl ?_)
    obtain ⟨rfl, rfl⟩ := g2
    show MEvP _ none q_128 20 [(2, .int (nI (ndf 10 w))), (0, .ref 301), (1, .int (nI w))] [.int 0] _ _ _ _
    refine mp_Tf (t := 25) (j_if_ne dX7_laysSizes_20) (by decide) (by decide) (mpp 23 rfl ?_)
    refine mp_a (a_iconst (v := 0) dX7_laysSizes_23 rfl) (mpp 24 rfl ?_)
    exact mp_iret (⟨rfl, fun _ _ => rfl⟩) dX7_laysSizes_24 (Or.inl rfl)
  · by_cases i8 : 8 < ndf 10 w
    · have hx := i8
      refine mp_a (a_iload_n dX7_laysSizes_0 rfl) (mpp 1 rfl ?_)
      refine mp_Tt (t := 8) (j_if_ge dX7_laysSizes_1) (nI_pos' hw) (by decide) ?_
      refine mp_a (a_iload_n dX7_laysSizes_8 rfl) (mpp 9 rfl ?_)
      refine mp_calls (i := 95) (q' := q_129) (As := [.int (nI w)]) (rest := []) dX7_laysSizes_9 rfl qm_129 (by decide) rfl (Nat.le_of_ble_eq_true rfl) rfl ⟨rfl, rfl⟩ ⟨Nat.le_of_ble_eq_true rfl, Nat.le_of_ble_eq_true rfl⟩ (EvP.mono (by decide) (m_digits hw)) (fun r1 P1 g1 => mpp 12 rfl ?_)
      obtain ⟨rfl, rfl⟩ := g1
      show MEvP _ none q_128 12 [(0, .ref 301), (1, .int (nI w))] [.int (nI (ndf 10 w))] _ _ _ _
      refine mp_a (a_istore_n (L' := [(2, .int (nI (ndf 10 w))), (0, .ref 301), (1, .int (nI w))]) dX7_laysSizes_12 (by decide) rfl) (mpp 13 rfl ?_)
      refine mp_a (a_iload_n dX7_laysSizes_13 rfl) (mpp 14 rfl ?_)
      refine mp_a (a_iconst (v := 1) dX7_laysSizes_14 rfl) (mpp 15 rfl ?_)
      refine mp_a (a_bipush (v := 8) dX7_laysSizes_15 rfl) (mpp 17 rfl ?_)
      refine mp_calls (i := 61) (q' := q_127) (As := [.int (nI (ndf 10 w)), .int 1, .int 8]) (rest := []) dX7_laysSizes_17 rfl qm_127 (by decide) rfl (Nat.le_of_ble_eq_true rfl) rfl ⟨rfl, rfl⟩ ⟨Nat.le_of_ble_eq_true rfl, Nat.le_of_ble_eq_true rfl⟩ (EvP.mono (by decide) (m_isIn_gt (fun q => absurd ((nI_ltI (a := (ndf 10 w)) (b := 1) (by omega) (by omega)).mp q) (by omega)) (((nI_ltI (a := 8) (b := (ndf 10 w)) (by omega) (by omega)).mpr (by omega))))) (fun r1 P1 g2 => mpp 20 rfl ?_)
      obtain ⟨rfl, rfl⟩ := g2
      show MEvP _ none q_128 20 [(2, .int (nI (ndf 10 w))), (0, .ref 301), (1, .int (nI w))] [.int 0] _ _ _ _
      refine mp_Tf (t := 25) (j_if_ne dX7_laysSizes_20) (by decide) (by decide) (mpp 23 rfl ?_)
      refine mp_a (a_iconst (v := 0) dX7_laysSizes_23 rfl) (mpp 24 rfl ?_)
      exact mp_iret (⟨rfl, fun _ _ => rfl⟩) dX7_laysSizes_24 (Or.inl rfl)
    · have ho : okS (ndf 10 w) w = false := by
        cases hb : okS (ndf 10 w) w with
        | true => exact absurd ⟨by omega, by omega, hb⟩ hA
        | false => rfl
      refine mp_a (a_iload_n dX7_laysSizes_0 rfl) (mpp 1 rfl ?_)
      refine mp_Tt (t := 8) (j_if_ge dX7_laysSizes_1) (nI_pos' hw) (by decide) ?_
      refine mp_a (a_iload_n dX7_laysSizes_8 rfl) (mpp 9 rfl ?_)
      refine mp_calls (i := 95) (q' := q_129) (As := [.int (nI w)]) (rest := []) dX7_laysSizes_9 rfl qm_129 (by decide) rfl (Nat.le_of_ble_eq_true rfl) rfl ⟨rfl, rfl⟩ ⟨Nat.le_of_ble_eq_true rfl, Nat.le_of_ble_eq_true rfl⟩ (EvP.mono (by decide) (m_digits hw)) (fun r1 P1 g1 => mpp 12 rfl ?_)
      obtain ⟨rfl, rfl⟩ := g1
      show MEvP _ none q_128 12 [(0, .ref 301), (1, .int (nI w))] [.int (nI (ndf 10 w))] _ _ _ _
      refine mp_a (a_istore_n (L' := [(2, .int (nI (ndf 10 w))), (0, .ref 301), (1, .int (nI w))]) dX7_laysSizes_12 (by decide) rfl) (mpp 13 rfl ?_)
      refine mp_a (a_iload_n dX7_laysSizes_13 rfl) (mpp 14 rfl ?_)
      refine mp_a (a_iconst (v := 1) dX7_laysSizes_14 rfl) (mpp 15 rfl ?_)
      refine mp_a (a_bipush (v := 8) dX7_laysSizes_15 rfl) (mpp 17 rfl ?_)
      refine mp_calls (i := 61) (q' := q_127) (As := [.int (nI (ndf 10 w)), .int 1, .int 8]) (rest := []) dX7_laysSizes_17 rfl qm_127 (by decide) rfl (Nat.le_of_ble_eq_true rfl) rfl ⟨rfl, rfl⟩ ⟨Nat.le_of_ble_eq_true rfl, Nat.le_of_ble_eq_true rfl⟩ (EvP.mono (by decide) (m_isIn_in (fun q => absurd ((nI_ltI (a := (ndf 10 w)) (b := 1) (by omega) (by omega)).mp q) (by omega)) (fun q => absurd ((nI_ltI (a := 8) (b := (ndf 10 w)) (by omega) (by omega)).mp q) (by omega)))) (fun r1 P1 g2 => mpp 20 rfl ?_)
      obtain ⟨rfl, rfl⟩ := g2
      show MEvP _ none q_128 20 [(2, .int (nI (ndf 10 w))), (0, .ref 301), (1, .int (nI w))] [.int 1] _ _ _ _
      refine mp_Tt (t := 25) (j_if_ne dX7_laysSizes_20) (by decide) (by decide) ?_
      refine mp_a (a_iload_n dX7_laysSizes_25 rfl) (mpp 26 rfl ?_)
      refine mp_a (a_istore_n (L' := [(3, .int (nI w)), (2, .int (nI (ndf 10 w))), (0, .ref 301), (1, .int (nI w))]) dX7_laysSizes_26 (by decide) rfl) (mpp 27 rfl ?_)
      refine mp_a (a_iconst (v := 1) dX7_laysSizes_27 rfl) (mpp 28 rfl ?_)
      refine mp_a (a_istore (L' := [(4, .int 1), (3, .int (nI w)), (2, .int (nI (ndf 10 w))), (0, .ref 301), (1, .int (nI w))]) dX7_laysSizes_28 (by decide) rfl) (mpp 30 rfl ?_)
      refine mp_a (a_iload_n dX7_laysSizes_30 rfl) (mpp 31 rfl ?_)
      refine mp_a (a_iconst (v := 1) dX7_laysSizes_31 rfl) (mpp 32 rfl ?_)
      refine mp_t (s_isub (v := ((nI (ndf 10 w)) - 1)) dX7_laysSizes_32 rfl) (mpp 33 rfl ?_)
      refine mp_a (a_istore (L' := [(5, .int ((nI (ndf 10 w)) - 1)), (4, .int 1), (3, .int (nI w)), (2, .int (nI (ndf 10 w))), (0, .ref 301), (1, .int (nI w))]) dX7_laysSizes_33 (by decide) rfl) (mpp 35 rfl ?_)
      exact m_ls1 (ndf 10 w) w A8 _ (by omega) hw rfl h301 h306 (fun h => absurd h (by rw [ho]; decide)) (fun _ Q' hf => ⟨rfl, hf⟩)
theorem m_lsT {P : mP} {w : Nat} (hw : w < 2 ^ 31) (hA : 1 ≤ ndf 10 w ∧ ndf 10 w ≤ 8 ∧ okS (ndf 10 w) w = true) (h301 : P[301]? = some (7, [.ref 302, .ref 303, .ref 304, .ref 305, .int 0, .int 0, .int 0, .int (-1004), .int 0, .ref 306, .ref 307, .ref 308, .ref 309, .int 0, .int 0, .ref 310, .ref 311, .ref 312, .ref 313, .int 0, .int 0, .int 0, .ref 314, .int 0, .int 0, .int 0, .int 0, .int 0, .int 0, .int 0])) (h306 : P[306]? = some (8, A8)) : EvP 3 128 [.ref 301, .int (nI w)] P (fun r P' => r = some (.int (nI (ndf 10 w))) ∧ (∀ t : Nat, t ≠ 306 → P'[t]? = P[t]?) ∧ P'[306]? = some (8, wr (ndf 10 w) w A8)) := by
  obtain ⟨i1, i8, ho⟩ := hA
  refine EvP.of qm_128 (Nat.le_of_ble_eq_true rfl) rfl ?_
  show MEvP _ none q_128 0 [(0, .ref 301), (1, .int (nI w))] [] _ 0 0 _
  refine mp_a (a_iload_n dX7_laysSizes_0 rfl) (mpp 1 rfl ?_)
  refine mp_Tt (t := 8) (j_if_ge dX7_laysSizes_1) (nI_pos' hw) (by decide) ?_
  refine mp_a (a_iload_n dX7_laysSizes_8 rfl) (mpp 9 rfl ?_)
  refine mp_calls (i := 95) (q' := q_129) (As := [.int (nI w)]) (rest := []) dX7_laysSizes_9 rfl qm_129 (by decide) rfl (Nat.le_of_ble_eq_true rfl) rfl ⟨rfl, rfl⟩ ⟨Nat.le_of_ble_eq_true rfl, Nat.le_of_ble_eq_true rfl⟩ (EvP.mono (by decide) (m_digits hw)) (fun r1 P1 g1 => mpp 12 rfl ?_)
  obtain ⟨rfl, rfl⟩ := g1
  show MEvP _ none q_128 12 [(0, .ref 301), (1, .int (nI w))] [.int (nI (ndf 10 w))] _ _ _ _
  refine mp_a (a_istore_n (L' := [(2, .int (nI (ndf 10 w))), (0, .ref 301), (1, .int (nI w))]) dX7_laysSizes_12 (by decide) rfl) (mpp 13 rfl ?_)
  refine mp_a (a_iload_n dX7_laysSizes_13 rfl) (mpp 14 rfl ?_)
  refine mp_a (a_iconst (v := 1) dX7_laysSizes_14 rfl) (mpp 15 rfl ?_)
  refine mp_a (a_bipush (v := 8) dX7_laysSizes_15 rfl) (mpp 17 rfl ?_)
  refine mp_calls (i := 61) (q' := q_127) (As := [.int (nI (ndf 10 w)), .int 1, .int 8]) (rest := []) dX7_laysSizes_17 rfl qm_127 (by decide) rfl (Nat.le_of_ble_eq_true rfl) rfl ⟨rfl, rfl⟩ ⟨Nat.le_of_ble_eq_true rfl, Nat.le_of_ble_eq_true rfl⟩ (EvP.mono (by decide) (m_isIn_in (fun q => absurd ((nI_ltI (a := (ndf 10 w)) (b := 1) (by omega) (by omega)).mp q) (by omega)) (fun q => absurd ((nI_ltI (a := 8) (b := (ndf 10 w)) (by omega) (by omega)).mp q) (by omega)))) (fun r1 P1 g2 => mpp 20 rfl ?_)
  obtain ⟨rfl, rfl⟩ := g2
  show MEvP _ none q_128 20 [(2, .int (nI (ndf 10 w))), (0, .ref 301), (1, .int (nI w))] [.int 1] _ _ _ _
  refine mp_Tt (t := 25) (j_if_ne dX7_laysSizes_20) (by decide) (by decide) ?_
  refine mp_a (a_iload_n dX7_laysSizes_25 rfl) (mpp 26 rfl ?_)
  refine mp_a (a_istore_n (L' := [(3, .int (nI w)), (2, .int (nI (ndf 10 w))), (0, .ref 301), (1, .int (nI w))]) dX7_laysSizes_26 (by decide) rfl) (mpp 27 rfl ?_)
  refine mp_a (a_iconst (v := 1) dX7_laysSizes_27 rfl) (mpp 28 rfl ?_)
  refine mp_a (a_istore (L' := [(4, .int 1), (3, .int (nI w)), (2, .int (nI (ndf 10 w))), (0, .ref 301), (1, .int (nI w))]) dX7_laysSizes_28 (by decide) rfl) (mpp 30 rfl ?_)
  refine mp_a (a_iload_n dX7_laysSizes_30 rfl) (mpp 31 rfl ?_)
  refine mp_a (a_iconst (v := 1) dX7_laysSizes_31 rfl) (mpp 32 rfl ?_)
  refine mp_t (s_isub (v := ((nI (ndf 10 w)) - 1)) dX7_laysSizes_32 rfl) (mpp 33 rfl ?_)
  refine mp_a (a_istore (L' := [(5, .int ((nI (ndf 10 w)) - 1)), (4, .int 1), (3, .int (nI w)), (2, .int (nI (ndf 10 w))), (0, .ref 301), (1, .int (nI w))]) dX7_laysSizes_33 (by decide) rfl) (mpp 35 rfl ?_)
  exact m_ls1 (ndf 10 w) w A8 _ (by omega) hw rfl h301 h306 (fun _ Q' hf hg => ⟨rfl, hf, hg⟩) (fun h => absurd h (by rw [ho]; decide))
theorem m_lsTm {P : mP} {w n : Nat} (hw : w < 2 ^ 31) (hA : 1 ≤ ndf 10 w ∧ ndf 10 w ≤ 8 ∧ okS (ndf 10 w) w = true) (hm : ndf 10 w = n) (h301 : P[301]? = some (7, [.ref 302, .ref 303, .ref 304, .ref 305, .int 0, .int 0, .int 0, .int (-1004), .int 0, .ref 306, .ref 307, .ref 308, .ref 309, .int 0, .int 0, .ref 310, .ref 311, .ref 312, .ref 313, .int 0, .int 0, .int 0, .ref 314, .int 0, .int 0, .int 0, .int 0, .int 0, .int 0, .int 0])) (h306 : P[306]? = some (8, A8)) : EvP 3 128 [.ref 301, .int (nI w)] P (fun r P' => r = some (.int (nI n)) ∧ (∀ t : Nat, t ≠ 306 → P'[t]? = P[t]?) ∧ P'[306]? = some (8, wr (ndf 10 w) w A8)) := by
  have h := m_lsT hw hA h301 h306
  rw [hm] at h ⊢
  exact h
