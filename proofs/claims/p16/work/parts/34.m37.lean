/-! methods on typed pools, 37 (written by a program) -/
set_option maxHeartbeats 4000000 in
theorem c_M_piece {Po : mP} {t1 : Int32} {t2 : Int32} (hT : Typ Po)   : EvP 6 194 [.ref 301, .int t1, .int t2] Po (fun r P' => (∃ x : Int32, r = some (.int x) ∧ (pieceM (sr Po) x.toInt t1.toInt t2.toInt)) ∧ P' = Po) := by
  refine EvP.of qm_194 (Nat.le_of_ble_eq_true rfl) rfl ?_
  show MEvP _ none q_194 0 [(0, .ref 301), (1, .int t1), (2, .int t2)] [] _ 0 0 _
  have w_t1 := ti_full t1
  have w_t2 := ti_full t2
  refine mp_a (a_aload_n dX7_piece_0 rfl) (mpp 1 rfl ?_)
  refine mp_a (a_iload_n dX7_piece_1 rfl) (mpp 2 rfl ?_)
  refine mt_callv (i := 85) (q' := q_144) (As := [.int t1]) (rest := []) hT dX7_piece_2 rfl qm_144 (by decide) rfl rl_301 (by decide) rfl (Nat.le_of_ble_eq_true rfl) rfl ⟨rfl, rfl⟩ ⟨Nat.le_of_ble_eq_true rfl, Nat.le_of_ble_eq_true rfl⟩ (EvP.mono (by decide) (c_M_isPiece hT )) (fun r1 P2 g3 => mpp 5 rfl ?_)
  obtain ⟨⟨x4, rfl, g5⟩, e6⟩ := g3
  have e6 := e6.symm
  subst e6
  have wx4 := ti_full x4
  replace g5 : 0 ≤ x4.toInt ∧ x4.toInt ≤ 1 ∧ ((x4.toInt = 1 ∧ 0 ≤ t1.toInt ∧ t1.toInt + 1 ≤ (fv Po 302 0).toInt ∧ t1.toInt ≤ 7) ∨ (x4.toInt = 0 ∧ (t1.toInt < 0 ∨ (fv Po 302 0).toInt ≤ t1.toInt))) := g5
  have g7 : (0 : Int) ≤ (fv Po 302 0).toInt ∧ (fv Po 302 0).toInt ≤ 8 := Typ.rng hT rl_302 (by decide) (by decide) rfl
  show MEvP _ none q_194 5 [(0, .ref 301), (1, .int t1), (2, .int t2)] [.int x4] _ _ _ _
  refine mp_Tb (t := 12) (j_if_ne dX7_piece_5) (by decide) (fun c8 => ?_) (fun c8 => mpp 8 rfl ?_)
  · have c8 : x4.toInt ≠ 0 := ti_ne c8
    refine mp_a (a_iload_n dX7_piece_12 rfl) (mpp 13 rfl ?_)
    have c9 : (t2.toInt < 0 ∨ 8 < t2.toInt) ∨ t2.toInt = 0 ∨ t2.toInt = 1 ∨ t2.toInt = 2 ∨ t2.toInt = 3 ∨ t2.toInt = 4 ∨ t2.toInt = 5 ∨ t2.toInt = 6 ∨ t2.toInt = 7 ∨ t2.toInt = 8 := by omega
    rcases c9 with c9 | c9 | c9 | c9 | c9 | c9 | c9 | c9 | c9 | c9
    · refine mp_t (s_tabOut (t := 124) dX7_piece_13 c9 (by decide)) ?_
      refine mp_a (a_sipush (v := -1002) dX7_piece_124 rfl) (mpp 127 rfl ?_)
      have u10 : pieceM (sr Po) (-1002 : Int) t1.toInt t2.toInt := (show ((-1002 : Int) = -1001 ∧ (t1.toInt < 0 ∨ (fv Po 302 (0)).toInt ≤ t1.toInt)) ∨ ((0 ≤ t1.toInt ∧ t1.toInt + 1 ≤ (fv Po 302 (0)).toInt ∧ t1.toInt ≤ 7) ∧ t2.toInt = 0 ∧ (-1002 : Int) = (fv Po 302 (3 + 19 * t1.toInt.toNat)).toInt) ∨ ((0 ≤ t1.toInt ∧ t1.toInt + 1 ≤ (fv Po 302 (0)).toInt ∧ t1.toInt ≤ 7) ∧ t2.toInt = 1 ∧ (-1002 : Int) = (fv Po 302 (4 + 19 * t1.toInt.toNat)).toInt) ∨ ((0 ≤ t1.toInt ∧ t1.toInt + 1 ≤ (fv Po 302 (0)).toInt ∧ t1.toInt ≤ 7) ∧ t2.toInt = 2 ∧ (((fv Po 302 (3 + 19 * t1.toInt.toNat)).toInt = 1 ∧ (-1002 : Int) = (fv Po 302 (4 + 19 * t1.toInt.toNat)).toInt) ∨ ((fv Po 302 (3 + 19 * t1.toInt.toNat)).toInt = 0 ∧ (-1002 : Int) = (fv Po 302 (4 + 19 * t1.toInt.toNat)).toInt - 1))) ∨ ((0 ≤ t1.toInt ∧ t1.toInt + 1 ≤ (fv Po 302 (0)).toInt ∧ t1.toInt ≤ 7) ∧ t2.toInt = 3 ∧ (-1002 : Int) = cntF (fun j : Nat => fv Po 302 (14 + 19 * t1.toInt.toNat + j)) 1 (nC (fv Po 302 (3 + 19 * t1.toInt.toNat)).toInt (fv Po 302 (4 + 19 * t1.toInt.toNat)).toInt)) ∨ ((0 ≤ t1.toInt ∧ t1.toInt + 1 ≤ (fv Po 302 (0)).toInt ∧ t1.toInt ≤ 7) ∧ t2.toInt = 4 ∧ (-1002 : Int) = cntF (fun j : Nat => fv Po 302 (14 + 19 * t1.toInt.toNat + j)) 2 (nC (fv Po 302 (3 + 19 * t1.toInt.toNat)).toInt (fv Po 302 (4 + 19 * t1.toInt.toNat)).toInt)) ∨ ((0 ≤ t1.toInt ∧ t1.toInt + 1 ≤ (fv Po 302 (0)).toInt ∧ t1.toInt ≤ 7) ∧ t2.toInt = 5 ∧ (-1002 : Int) = cntF (fun j : Nat => fv Po 302 (14 + 19 * t1.toInt.toNat + j)) 0 (nC (fv Po 302 (3 + 19 * t1.toInt.toNat)).toInt (fv Po 302 (4 + 19 * t1.toInt.toNat)).toInt)) ∨ ((0 ≤ t1.toInt ∧ t1.toInt + 1 ≤ (fv Po 302 (0)).toInt ∧ t1.toInt ≤ 7) ∧ t2.toInt = 6 ∧ (-1002 : Int) = (smF (fun j : Nat => fv Po 302 (6 + 19 * t1.toInt.toNat + j)) (fv Po 302 (4 + 19 * t1.toInt.toNat)).toInt.toNat).toInt) ∨ ((0 ≤ t1.toInt ∧ t1.toInt + 1 ≤ (fv Po 302 (0)).toInt ∧ t1.toInt ≤ 7) ∧ t2.toInt = 7 ∧ (-1002 : Int) = (fv Po 302 (5 + 19 * t1.toInt.toNat)).toInt) ∨ ((0 ≤ t1.toInt ∧ t1.toInt + 1 ≤ (fv Po 302 (0)).toInt ∧ t1.toInt ≤ 7) ∧ t2.toInt = 8 ∧ (-1002 : Int) = (wdF (fv Po 302 (3 + 19 * t1.toInt.toNat)).toInt (fun j : Nat => fv Po 302 (6 + 19 * t1.toInt.toNat + j)) (fv Po 302 (4 + 19 * t1.toInt.toNat)).toInt.toNat).toInt) ∨ ((0 ≤ t1.toInt ∧ t1.toInt + 1 ≤ (fv Po 302 (0)).toInt ∧ t1.toInt ≤ 7) ∧ (t2.toInt < 0 ∨ 8 < t2.toInt) ∧ (-1002 : Int) = -1002) from Or.inr (Or.inr (Or.inr (Or.inr (Or.inr (Or.inr (Or.inr (Or.inr (Or.inr (Or.inr (⟨by omega, by omega, by omega⟩)))))))))))
      exact mp_iret ⟨⟨_, rfl, u10⟩, rfl⟩ dX7_piece_127 (Or.inl rfl)
    · refine mp_t (s_tabIn (t := 64) (off := 51) dX7_piece_13 (by omega) (by rw [c9]; rfl) (by decide)) ?_
      refine mp_a (a_aload_n dX7_piece_64 rfl) (mpp 65 rfl ?_)
      refine mp_a (a_iload_n dX7_piece_65 rfl) (mpp 66 rfl ?_)
      refine mp_a (a_iconst (v := 0) dX7_piece_66 rfl) (mpp 67 rfl ?_)
      have p11 : 0 ≤ t1.toInt := by omega
      have p12 : t1.toInt ≤ 7 := by omega
      have p13 : 0 ≤ (0 : Int) := by omega
      have p14 : (0 : Int) ≤ 18 := by omega
      refine mt_callv (i := 78) (q' := q_137) (As := [.int t1, .int 0]) (rest := []) hT dX7_piece_67 rfl qm_137 (by decide) rfl rl_301 (by decide) rfl (Nat.le_of_ble_eq_true rfl) rfl ⟨rfl, rfl⟩ ⟨Nat.le_of_ble_eq_true rfl, Nat.le_of_ble_eq_true rfl⟩ (EvP.mono (by decide) (c_M_of_c0 hT p11 p12 p13 p14 )) (fun r15 P16 g17 => mpp 70 rfl ?_)
      obtain ⟨⟨x18, rfl, g19⟩, e20⟩ := g17
      have e20 := e20.symm
      subst e20
      have wx18 := ti_full x18
      replace g19 : x18.toInt = (fv Po 302 (3 + 19 * t1.toInt.toNat)).toInt ∧ 0 ≤ x18.toInt ∧ x18.toInt ≤ 1 := g19
      try have g21 : (0 : Int) ≤ (fv Po 302 (3 + 19 * t1.toInt.toNat)).toInt ∧ (fv Po 302 (3 + 19 * t1.toInt.toNat)).toInt ≤ 1 := s3_rng hT (by omega)
      show MEvP _ none q_194 70 [(0, .ref 301), (1, .int t1), (2, .int t2)] [.int x18] _ _ _ _
      have u22 : pieceM (sr Po) x18.toInt t1.toInt t2.toInt := (show (x18.toInt = -1001 ∧ (t1.toInt < 0 ∨ (fv Po 302 (0)).toInt ≤ t1.toInt)) ∨ ((0 ≤ t1.toInt ∧ t1.toInt + 1 ≤ (fv Po 302 (0)).toInt ∧ t1.toInt ≤ 7) ∧ t2.toInt = 0 ∧ x18.toInt = (fv Po 302 (3 + 19 * t1.toInt.toNat)).toInt) ∨ ((0 ≤ t1.toInt ∧ t1.toInt + 1 ≤ (fv Po 302 (0)).toInt ∧ t1.toInt ≤ 7) ∧ t2.toInt = 1 ∧ x18.toInt = (fv Po 302 (4 + 19 * t1.toInt.toNat)).toInt) ∨ ((0 ≤ t1.toInt ∧ t1.toInt + 1 ≤ (fv Po 302 (0)).toInt ∧ t1.toInt ≤ 7) ∧ t2.toInt = 2 ∧ (((fv Po 302 (3 + 19 * t1.toInt.toNat)).toInt = 1 ∧ x18.toInt = (fv Po 302 (4 + 19 * t1.toInt.toNat)).toInt) ∨ ((fv Po 302 (3 + 19 * t1.toInt.toNat)).toInt = 0 ∧ x18.toInt = (fv Po 302 (4 + 19 * t1.toInt.toNat)).toInt - 1))) ∨ ((0 ≤ t1.toInt ∧ t1.toInt + 1 ≤ (fv Po 302 (0)).toInt ∧ t1.toInt ≤ 7) ∧ t2.toInt = 3 ∧ x18.toInt = cntF (fun j : Nat => fv Po 302 (14 + 19 * t1.toInt.toNat + j)) 1 (nC (fv Po 302 (3 + 19 * t1.toInt.toNat)).toInt (fv Po 302 (4 + 19 * t1.toInt.toNat)).toInt)) ∨ ((0 ≤ t1.toInt ∧ t1.toInt + 1 ≤ (fv Po 302 (0)).toInt ∧ t1.toInt ≤ 7) ∧ t2.toInt = 4 ∧ x18.toInt = cntF (fun j : Nat => fv Po 302 (14 + 19 * t1.toInt.toNat + j)) 2 (nC (fv Po 302 (3 + 19 * t1.toInt.toNat)).toInt (fv Po 302 (4 + 19 * t1.toInt.toNat)).toInt)) ∨ ((0 ≤ t1.toInt ∧ t1.toInt + 1 ≤ (fv Po 302 (0)).toInt ∧ t1.toInt ≤ 7) ∧ t2.toInt = 5 ∧ x18.toInt = cntF (fun j : Nat => fv Po 302 (14 + 19 * t1.toInt.toNat + j)) 0 (nC (fv Po 302 (3 + 19 * t1.toInt.toNat)).toInt (fv Po 302 (4 + 19 * t1.toInt.toNat)).toInt)) ∨ ((0 ≤ t1.toInt ∧ t1.toInt + 1 ≤ (fv Po 302 (0)).toInt ∧ t1.toInt ≤ 7) ∧ t2.toInt = 6 ∧ x18.toInt = (smF (fun j : Nat => fv Po 302 (6 + 19 * t1.toInt.toNat + j)) (fv Po 302 (4 + 19 * t1.toInt.toNat)).toInt.toNat).toInt) ∨ ((0 ≤ t1.toInt ∧ t1.toInt + 1 ≤ (fv Po 302 (0)).toInt ∧ t1.toInt ≤ 7) ∧ t2.toInt = 7 ∧ x18.toInt = (fv Po 302 (5 + 19 * t1.toInt.toNat)).toInt) ∨ ((0 ≤ t1.toInt ∧ t1.toInt + 1 ≤ (fv Po 302 (0)).toInt ∧ t1.toInt ≤ 7) ∧ t2.toInt = 8 ∧ x18.toInt = (wdF (fv Po 302 (3 + 19 * t1.toInt.toNat)).toInt (fun j : Nat => fv Po 302 (6 + 19 * t1.toInt.toNat + j)) (fv Po 302 (4 + 19 * t1.toInt.toNat)).toInt.toNat).toInt) ∨ ((0 ≤ t1.toInt ∧ t1.toInt + 1 ≤ (fv Po 302 (0)).toInt ∧ t1.toInt ≤ 7) ∧ (t2.toInt < 0 ∨ 8 < t2.toInt) ∧ x18.toInt = -1002) from Or.inr (Or.inl (⟨by omega, by omega, by omega⟩)))
      exact mp_iret ⟨⟨_, rfl, u22⟩, rfl⟩ dX7_piece_70 (Or.inl rfl)
    · refine mp_t (s_tabIn (t := 71) (off := 58) dX7_piece_13 (by omega) (by rw [c9]; rfl) (by decide)) ?_
      refine mp_a (a_aload_n dX7_piece_71 rfl) (mpp 72 rfl ?_)
      refine mp_a (a_iload_n dX7_piece_72 rfl) (mpp 73 rfl ?_)
      refine mp_a (a_iconst (v := 1) dX7_piece_73 rfl) (mpp 74 rfl ?_)
      have p23 : 0 ≤ t1.toInt := by omega
      have p24 : t1.toInt ≤ 7 := by omega
      have p25 : 0 ≤ (1 : Int) := by omega
      have p26 : (1 : Int) ≤ 18 := by omega
      refine mt_callv (i := 78) (q' := q_137) (As := [.int t1, .int 1]) (rest := []) hT dX7_piece_74 rfl qm_137 (by decide) rfl rl_301 (by decide) rfl (Nat.le_of_ble_eq_true rfl) rfl ⟨rfl, rfl⟩ ⟨Nat.le_of_ble_eq_true rfl, Nat.le_of_ble_eq_true rfl⟩ (EvP.mono (by decide) (c_M_of_c1 hT p23 p24 p25 p26 )) (fun r27 P28 g29 => mpp 77 rfl ?_)
      obtain ⟨⟨x30, rfl, g31⟩, e32⟩ := g29
      have e32 := e32.symm
      subst e32
      have wx30 := ti_full x30
      replace g31 : x30.toInt = (fv Po 302 (4 + 19 * t1.toInt.toNat)).toInt ∧ 0 ≤ x30.toInt ∧ x30.toInt ≤ 8 := g31
      try have g33 : (0 : Int) ≤ (fv Po 302 (4 + 19 * t1.toInt.toNat)).toInt ∧ (fv Po 302 (4 + 19 * t1.toInt.toNat)).toInt ≤ 8 := s4_rng hT (by omega)
      show MEvP _ none q_194 77 [(0, .ref 301), (1, .int t1), (2, .int t2)] [.int x30] _ _ _ _
      have u34 : pieceM (sr Po) x30.toInt t1.toInt t2.toInt := (show (x30.toInt = -1001 ∧ (t1.toInt < 0 ∨ (fv Po 302 (0)).toInt ≤ t1.toInt)) ∨ ((0 ≤ t1.toInt ∧ t1.toInt + 1 ≤ (fv Po 302 (0)).toInt ∧ t1.toInt ≤ 7) ∧ t2.toInt = 0 ∧ x30.toInt = (fv Po 302 (3 + 19 * t1.toInt.toNat)).toInt) ∨ ((0 ≤ t1.toInt ∧ t1.toInt + 1 ≤ (fv Po 302 (0)).toInt ∧ t1.toInt ≤ 7) ∧ t2.toInt = 1 ∧ x30.toInt = (fv Po 302 (4 + 19 * t1.toInt.toNat)).toInt) ∨ ((0 ≤ t1.toInt ∧ t1.toInt + 1 ≤ (fv Po 302 (0)).toInt ∧ t1.toInt ≤ 7) ∧ t2.toInt = 2 ∧ (((fv Po 302 (3 + 19 * t1.toInt.toNat)).toInt = 1 ∧ x30.toInt = (fv Po 302 (4 + 19 * t1.toInt.toNat)).toInt) ∨ ((fv Po 302 (3 + 19 * t1.toInt.toNat)).toInt = 0 ∧ x30.toInt = (fv Po 302 (4 + 19 * t1.toInt.toNat)).toInt - 1))) ∨ ((0 ≤ t1.toInt ∧ t1.toInt + 1 ≤ (fv Po 302 (0)).toInt ∧ t1.toInt ≤ 7) ∧ t2.toInt = 3 ∧ x30.toInt = cntF (fun j : Nat => fv Po 302 (14 + 19 * t1.toInt.toNat + j)) 1 (nC (fv Po 302 (3 + 19 * t1.toInt.toNat)).toInt (fv Po 302 (4 + 19 * t1.toInt.toNat)).toInt)) ∨ ((0 ≤ t1.toInt ∧ t1.toInt + 1 ≤ (fv Po 302 (0)).toInt ∧ t1.toInt ≤ 7) ∧ t2.toInt = 4 ∧ x30.toInt = cntF (fun j : Nat => fv Po 302 (14 + 19 * t1.toInt.toNat + j)) 2 (nC (fv Po 302 (3 + 19 * t1.toInt.toNat)).toInt (fv Po 302 (4 + 19 * t1.toInt.toNat)).toInt)) ∨ ((0 ≤ t1.toInt ∧ t1.toInt + 1 ≤ (fv Po 302 (0)).toInt ∧ t1.toInt ≤ 7) ∧ t2.toInt = 5 ∧ x30.toInt = cntF (fun j : Nat => fv Po 302 (14 + 19 * t1.toInt.toNat + j)) 0 (nC (fv Po 302 (3 + 19 * t1.toInt.toNat)).toInt (fv Po 302 (4 + 19 * t1.toInt.toNat)).toInt)) ∨ ((0 ≤ t1.toInt ∧ t1.toInt + 1 ≤ (fv Po 302 (0)).toInt ∧ t1.toInt ≤ 7) ∧ t2.toInt = 6 ∧ x30.toInt = (smF (fun j : Nat => fv Po 302 (6 + 19 * t1.toInt.toNat + j)) (fv Po 302 (4 + 19 * t1.toInt.toNat)).toInt.toNat).toInt) ∨ ((0 ≤ t1.toInt ∧ t1.toInt + 1 ≤ (fv Po 302 (0)).toInt ∧ t1.toInt ≤ 7) ∧ t2.toInt = 7 ∧ x30.toInt = (fv Po 302 (5 + 19 * t1.toInt.toNat)).toInt) ∨ ((0 ≤ t1.toInt ∧ t1.toInt + 1 ≤ (fv Po 302 (0)).toInt ∧ t1.toInt ≤ 7) ∧ t2.toInt = 8 ∧ x30.toInt = (wdF (fv Po 302 (3 + 19 * t1.toInt.toNat)).toInt (fun j : Nat => fv Po 302 (6 + 19 * t1.toInt.toNat + j)) (fv Po 302 (4 + 19 * t1.toInt.toNat)).toInt.toNat).toInt) ∨ ((0 ≤ t1.toInt ∧ t1.toInt + 1 ≤ (fv Po 302 (0)).toInt ∧ t1.toInt ≤ 7) ∧ (t2.toInt < 0 ∨ 8 < t2.toInt) ∧ x30.toInt = -1002) from Or.inr (Or.inr (Or.inl (⟨by omega, by omega, by omega⟩))))
      exact mp_iret ⟨⟨_, rfl, u34⟩, rfl⟩ dX7_piece_77 (Or.inl rfl)
    · refine mp_t (s_tabIn (t := 78) (off := 65) dX7_piece_13 (by omega) (by rw [c9]; rfl) (by decide)) ?_
      refine mp_a (a_aload_n dX7_piece_78 rfl) (mpp 79 rfl ?_)
      refine mp_a (a_iload_n dX7_piece_79 rfl) (mpp 80 rfl ?_)
      have p35 : 0 ≤ t1.toInt := by omega
      have p36 : t1.toInt ≤ 7 := by omega
      refine mt_callv (i := 88) (q' := q_136) (As := [.int t1]) (rest := []) hT dX7_piece_80 rfl qm_136 (by decide) rfl rl_301 (by decide) rfl (Nat.le_of_ble_eq_true rfl) rfl ⟨rfl, rfl⟩ ⟨Nat.le_of_ble_eq_true rfl, Nat.le_of_ble_eq_true rfl⟩ (EvP.mono (by decide) (c_M_creases hT p35 p36 )) (fun r37 P38 g39 => mpp 83 rfl ?_)
      obtain ⟨⟨x40, rfl, g41⟩, e42⟩ := g39
      have e42 := e42.symm
      subst e42
      have wx40 := ti_full x40
      replace g41 : -1 ≤ x40.toInt ∧ x40.toInt ≤ 8 ∧ (((fv Po 302 (3 + 19 * t1.toInt.toNat)).toInt = 1 ∧ x40.toInt = (fv Po 302 (4 + 19 * t1.toInt.toNat)).toInt) ∨ ((fv Po 302 (3 + 19 * t1.toInt.toNat)).toInt = 0 ∧ x40.toInt = (fv Po 302 (4 + 19 * t1.toInt.toNat)).toInt - 1)) := g41
      try have g43 : (0 : Int) ≤ (fv Po 302 (3 + 19 * t1.toInt.toNat)).toInt ∧ (fv Po 302 (3 + 19 * t1.toInt.toNat)).toInt ≤ 1 := s3_rng hT (by omega)
      try have g44 : (0 : Int) ≤ (fv Po 302 (4 + 19 * t1.toInt.toNat)).toInt ∧ (fv Po 302 (4 + 19 * t1.toInt.toNat)).toInt ≤ 8 := s4_rng hT (by omega)
      show MEvP _ none q_194 83 [(0, .ref 301), (1, .int t1), (2, .int t2)] [.int x40] _ _ _ _
      have u45 : pieceM (sr Po) x40.toInt t1.toInt t2.toInt := (show (x40.toInt = -1001 ∧ (t1.toInt < 0 ∨ (fv Po 302 (0)).toInt ≤ t1.toInt)) ∨ ((0 ≤ t1.toInt ∧ t1.toInt + 1 ≤ (fv Po 302 (0)).toInt ∧ t1.toInt ≤ 7) ∧ t2.toInt = 0 ∧ x40.toInt = (fv Po 302 (3 + 19 * t1.toInt.toNat)).toInt) ∨ ((0 ≤ t1.toInt ∧ t1.toInt + 1 ≤ (fv Po 302 (0)).toInt ∧ t1.toInt ≤ 7) ∧ t2.toInt = 1 ∧ x40.toInt = (fv Po 302 (4 + 19 * t1.toInt.toNat)).toInt) ∨ ((0 ≤ t1.toInt ∧ t1.toInt + 1 ≤ (fv Po 302 (0)).toInt ∧ t1.toInt ≤ 7) ∧ t2.toInt = 2 ∧ (((fv Po 302 (3 + 19 * t1.toInt.toNat)).toInt = 1 ∧ x40.toInt = (fv Po 302 (4 + 19 * t1.toInt.toNat)).toInt) ∨ ((fv Po 302 (3 + 19 * t1.toInt.toNat)).toInt = 0 ∧ x40.toInt = (fv Po 302 (4 + 19 * t1.toInt.toNat)).toInt - 1))) ∨ ((0 ≤ t1.toInt ∧ t1.toInt + 1 ≤ (fv Po 302 (0)).toInt ∧ t1.toInt ≤ 7) ∧ t2.toInt = 3 ∧ x40.toInt = cntF (fun j : Nat => fv Po 302 (14 + 19 * t1.toInt.toNat + j)) 1 (nC (fv Po 302 (3 + 19 * t1.toInt.toNat)).toInt (fv Po 302 (4 + 19 * t1.toInt.toNat)).toInt)) ∨ ((0 ≤ t1.toInt ∧ t1.toInt + 1 ≤ (fv Po 302 (0)).toInt ∧ t1.toInt ≤ 7) ∧ t2.toInt = 4 ∧ x40.toInt = cntF (fun j : Nat => fv Po 302 (14 + 19 * t1.toInt.toNat + j)) 2 (nC (fv Po 302 (3 + 19 * t1.toInt.toNat)).toInt (fv Po 302 (4 + 19 * t1.toInt.toNat)).toInt)) ∨ ((0 ≤ t1.toInt ∧ t1.toInt + 1 ≤ (fv Po 302 (0)).toInt ∧ t1.toInt ≤ 7) ∧ t2.toInt = 5 ∧ x40.toInt = cntF (fun j : Nat => fv Po 302 (14 + 19 * t1.toInt.toNat + j)) 0 (nC (fv Po 302 (3 + 19 * t1.toInt.toNat)).toInt (fv Po 302 (4 + 19 * t1.toInt.toNat)).toInt)) ∨ ((0 ≤ t1.toInt ∧ t1.toInt + 1 ≤ (fv Po 302 (0)).toInt ∧ t1.toInt ≤ 7) ∧ t2.toInt = 6 ∧ x40.toInt = (smF (fun j : Nat => fv Po 302 (6 + 19 * t1.toInt.toNat + j)) (fv Po 302 (4 + 19 * t1.toInt.toNat)).toInt.toNat).toInt) ∨ ((0 ≤ t1.toInt ∧ t1.toInt + 1 ≤ (fv Po 302 (0)).toInt ∧ t1.toInt ≤ 7) ∧ t2.toInt = 7 ∧ x40.toInt = (fv Po 302 (5 + 19 * t1.toInt.toNat)).toInt) ∨ ((0 ≤ t1.toInt ∧ t1.toInt + 1 ≤ (fv Po 302 (0)).toInt ∧ t1.toInt ≤ 7) ∧ t2.toInt = 8 ∧ x40.toInt = (wdF (fv Po 302 (3 + 19 * t1.toInt.toNat)).toInt (fun j : Nat => fv Po 302 (6 + 19 * t1.toInt.toNat + j)) (fv Po 302 (4 + 19 * t1.toInt.toNat)).toInt.toNat).toInt) ∨ ((0 ≤ t1.toInt ∧ t1.toInt + 1 ≤ (fv Po 302 (0)).toInt ∧ t1.toInt ≤ 7) ∧ (t2.toInt < 0 ∨ 8 < t2.toInt) ∧ x40.toInt = -1002) from Or.inr (Or.inr (Or.inr (Or.inl (⟨by omega, by omega, by omega⟩)))))
      exact mp_iret ⟨⟨_, rfl, u45⟩, rfl⟩ dX7_piece_83 (Or.inl rfl)
    · refine mp_t (s_tabIn (t := 84) (off := 71) dX7_piece_13 (by omega) (by rw [c9]; rfl) (by decide)) ?_
      refine mp_a (a_aload_n dX7_piece_84 rfl) (mpp 85 rfl ?_)
      refine mp_a (a_iload_n dX7_piece_85 rfl) (mpp 86 rfl ?_)
      refine mp_a (a_iconst (v := 1) dX7_piece_86 rfl) (mpp 87 rfl ?_)
      have p46 : 0 ≤ t1.toInt := by omega
      have p47 : t1.toInt ≤ 7 := by omega
      refine mt_callv (i := 136) (q' := q_149) (As := [.int t1, .int 1]) (rest := []) hT dX7_piece_87 rfl qm_149 (by decide) rfl rl_301 (by decide) rfl (Nat.le_of_ble_eq_true rfl) rfl ⟨rfl, rfl⟩ ⟨Nat.le_of_ble_eq_true rfl, Nat.le_of_ble_eq_true rfl⟩ (EvP.mono (by decide) (c_M_countOf hT p46 p47 )) (fun r48 P49 g50 => mpp 90 rfl ?_)
      obtain ⟨⟨x51, rfl, g52⟩, e53⟩ := g50
      have e53 := e53.symm
      subst e53
      have wx51 := ti_full x51
      replace g52 : (x51.toInt ≤ 0 ∨ UD Po t1.toInt.toNat (1 : Int)) ∧ 0 ≤ x51.toInt ∧ x51.toInt ≤ 8 ∧ x51.toInt = cntF (fun j : Nat => fv Po 302 (14 + 19 * t1.toInt.toNat + j)) (1 : Int) (nC (fv Po 302 (3 + 19 * t1.toInt.toNat)).toInt (fv Po 302 (4 + 19 * t1.toInt.toNat)).toInt) := g52
      try have g54 : (0 : Int) ≤ (fv Po 302 (3 + 19 * t1.toInt.toNat)).toInt ∧ (fv Po 302 (3 + 19 * t1.toInt.toNat)).toInt ≤ 1 := s3_rng hT (by omega)
      try have g55 : (0 : Int) ≤ (fv Po 302 (4 + 19 * t1.toInt.toNat)).toInt ∧ (fv Po 302 (4 + 19 * t1.toInt.toNat)).toInt ≤ 8 := s4_rng hT (by omega)
      show MEvP _ none q_194 90 [(0, .ref 301), (1, .int t1), (2, .int t2)] [.int x51] _ _ _ _
      have u56 : pieceM (sr Po) x51.toInt t1.toInt t2.toInt := (show (x51.toInt = -1001 ∧ (t1.toInt < 0 ∨ (fv Po 302 (0)).toInt ≤ t1.toInt)) ∨ ((0 ≤ t1.toInt ∧ t1.toInt + 1 ≤ (fv Po 302 (0)).toInt ∧ t1.toInt ≤ 7) ∧ t2.toInt = 0 ∧ x51.toInt = (fv Po 302 (3 + 19 * t1.toInt.toNat)).toInt) ∨ ((0 ≤ t1.toInt ∧ t1.toInt + 1 ≤ (fv Po 302 (0)).toInt ∧ t1.toInt ≤ 7) ∧ t2.toInt = 1 ∧ x51.toInt = (fv Po 302 (4 + 19 * t1.toInt.toNat)).toInt) ∨ ((0 ≤ t1.toInt ∧ t1.toInt + 1 ≤ (fv Po 302 (0)).toInt ∧ t1.toInt ≤ 7) ∧ t2.toInt = 2 ∧ (((fv Po 302 (3 + 19 * t1.toInt.toNat)).toInt = 1 ∧ x51.toInt = (fv Po 302 (4 + 19 * t1.toInt.toNat)).toInt) ∨ ((fv Po 302 (3 + 19 * t1.toInt.toNat)).toInt = 0 ∧ x51.toInt = (fv Po 302 (4 + 19 * t1.toInt.toNat)).toInt - 1))) ∨ ((0 ≤ t1.toInt ∧ t1.toInt + 1 ≤ (fv Po 302 (0)).toInt ∧ t1.toInt ≤ 7) ∧ t2.toInt = 3 ∧ x51.toInt = cntF (fun j : Nat => fv Po 302 (14 + 19 * t1.toInt.toNat + j)) 1 (nC (fv Po 302 (3 + 19 * t1.toInt.toNat)).toInt (fv Po 302 (4 + 19 * t1.toInt.toNat)).toInt)) ∨ ((0 ≤ t1.toInt ∧ t1.toInt + 1 ≤ (fv Po 302 (0)).toInt ∧ t1.toInt ≤ 7) ∧ t2.toInt = 4 ∧ x51.toInt = cntF (fun j : Nat => fv Po 302 (14 + 19 * t1.toInt.toNat + j)) 2 (nC (fv Po 302 (3 + 19 * t1.toInt.toNat)).toInt (fv Po 302 (4 + 19 * t1.toInt.toNat)).toInt)) ∨ ((0 ≤ t1.toInt ∧ t1.toInt + 1 ≤ (fv Po 302 (0)).toInt ∧ t1.toInt ≤ 7) ∧ t2.toInt = 5 ∧ x51.toInt = cntF (fun j : Nat => fv Po 302 (14 + 19 * t1.toInt.toNat + j)) 0 (nC (fv Po 302 (3 + 19 * t1.toInt.toNat)).toInt (fv Po 302 (4 + 19 * t1.toInt.toNat)).toInt)) ∨ ((0 ≤ t1.toInt ∧ t1.toInt + 1 ≤ (fv Po 302 (0)).toInt ∧ t1.toInt ≤ 7) ∧ t2.toInt = 6 ∧ x51.toInt = (smF (fun j : Nat => fv Po 302 (6 + 19 * t1.toInt.toNat + j)) (fv Po 302 (4 + 19 * t1.toInt.toNat)).toInt.toNat).toInt) ∨ ((0 ≤ t1.toInt ∧ t1.toInt + 1 ≤ (fv Po 302 (0)).toInt ∧ t1.toInt ≤ 7) ∧ t2.toInt = 7 ∧ x51.toInt = (fv Po 302 (5 + 19 * t1.toInt.toNat)).toInt) ∨ ((0 ≤ t1.toInt ∧ t1.toInt + 1 ≤ (fv Po 302 (0)).toInt ∧ t1.toInt ≤ 7) ∧ t2.toInt = 8 ∧ x51.toInt = (wdF (fv Po 302 (3 + 19 * t1.toInt.toNat)).toInt (fun j : Nat => fv Po 302 (6 + 19 * t1.toInt.toNat + j)) (fv Po 302 (4 + 19 * t1.toInt.toNat)).toInt.toNat).toInt) ∨ ((0 ≤ t1.toInt ∧ t1.toInt + 1 ≤ (fv Po 302 (0)).toInt ∧ t1.toInt ≤ 7) ∧ (t2.toInt < 0 ∨ 8 < t2.toInt) ∧ x51.toInt = -1002) from Or.inr (Or.inr (Or.inr (Or.inr (Or.inl (⟨by omega, by omega, g52.2.2.2⟩))))))
      exact mp_iret ⟨⟨_, rfl, u56⟩, rfl⟩ dX7_piece_90 (Or.inl rfl)
    · refine mp_t (s_tabIn (t := 91) (off := 78) dX7_piece_13 (by omega) (by rw [c9]; rfl) (by decide)) ?_
      refine mp_a (a_aload_n dX7_piece_91 rfl) (mpp 92 rfl ?_)
      refine mp_a (a_iload_n dX7_piece_92 rfl) (mpp 93 rfl ?_)
      refine mp_a (a_iconst (v := 2) dX7_piece_93 rfl) (mpp 94 rfl ?_)
      have p57 : 0 ≤ t1.toInt := by omega
      have p58 : t1.toInt ≤ 7 := by omega
      refine mt_callv (i := 136) (q' := q_149) (As := [.int t1, .int 2]) (rest := []) hT dX7_piece_94 rfl qm_149 (by decide) rfl rl_301 (by decide) rfl (Nat.le_of_ble_eq_true rfl) rfl ⟨rfl, rfl⟩ ⟨Nat.le_of_ble_eq_true rfl, Nat.le_of_ble_eq_true rfl⟩ (EvP.mono (by decide) (c_M_countOf hT p57 p58 )) (fun r59 P60 g61 => mpp 97 rfl ?_)
      obtain ⟨⟨x62, rfl, g63⟩, e64⟩ := g61
      have e64 := e64.symm
      subst e64
      have wx62 := ti_full x62
      replace g63 : (x62.toInt ≤ 0 ∨ UD Po t1.toInt.toNat (2 : Int)) ∧ 0 ≤ x62.toInt ∧ x62.toInt ≤ 8 ∧ x62.toInt = cntF (fun j : Nat => fv Po 302 (14 + 19 * t1.toInt.toNat + j)) (2 : Int) (nC (fv Po 302 (3 + 19 * t1.toInt.toNat)).toInt (fv Po 302 (4 + 19 * t1.toInt.toNat)).toInt) := g63
      try have g65 : (0 : Int) ≤ (fv Po 302 (3 + 19 * t1.toInt.toNat)).toInt ∧ (fv Po 302 (3 + 19 * t1.toInt.toNat)).toInt ≤ 1 := s3_rng hT (by omega)
      try have g66 : (0 : Int) ≤ (fv Po 302 (4 + 19 * t1.toInt.toNat)).toInt ∧ (fv Po 302 (4 + 19 * t1.toInt.toNat)).toInt ≤ 8 := s4_rng hT (by omega)
      show MEvP _ none q_194 97 [(0, .ref 301), (1, .int t1), (2, .int t2)] [.int x62] _ _ _ _
      have u67 : pieceM (sr Po) x62.toInt t1.toInt t2.toInt := (show (x62.toInt = -1001 ∧ (t1.toInt < 0 ∨ (fv Po 302 (0)).toInt ≤ t1.toInt)) ∨ ((0 ≤ t1.toInt ∧ t1.toInt + 1 ≤ (fv Po 302 (0)).toInt ∧ t1.toInt ≤ 7) ∧ t2.toInt = 0 ∧ x62.toInt = (fv Po 302 (3 + 19 * t1.toInt.toNat)).toInt) ∨ ((0 ≤ t1.toInt ∧ t1.toInt + 1 ≤ (fv Po 302 (0)).toInt ∧ t1.toInt ≤ 7) ∧ t2.toInt = 1 ∧ x62.toInt = (fv Po 302 (4 + 19 * t1.toInt.toNat)).toInt) ∨ ((0 ≤ t1.toInt ∧ t1.toInt + 1 ≤ (fv Po 302 (0)).toInt ∧ t1.toInt ≤ 7) ∧ t2.toInt = 2 ∧ (((fv Po 302 (3 + 19 * t1.toInt.toNat)).toInt = 1 ∧ x62.toInt = (fv Po 302 (4 + 19 * t1.toInt.toNat)).toInt) ∨ ((fv Po 302 (3 + 19 * t1.toInt.toNat)).toInt = 0 ∧ x62.toInt = (fv Po 302 (4 + 19 * t1.toInt.toNat)).toInt - 1))) ∨ ((0 ≤ t1.toInt ∧ t1.toInt + 1 ≤ (fv Po 302 (0)).toInt ∧ t1.toInt ≤ 7) ∧ t2.toInt = 3 ∧ x62.toInt = cntF (fun j : Nat => fv Po 302 (14 + 19 * t1.toInt.toNat + j)) 1 (nC (fv Po 302 (3 + 19 * t1.toInt.toNat)).toInt (fv Po 302 (4 + 19 * t1.toInt.toNat)).toInt)) ∨ ((0 ≤ t1.toInt ∧ t1.toInt + 1 ≤ (fv Po 302 (0)).toInt ∧ t1.toInt ≤ 7) ∧ t2.toInt = 4 ∧ x62.toInt = cntF (fun j : Nat => fv Po 302 (14 + 19 * t1.toInt.toNat + j)) 2 (nC (fv Po 302 (3 + 19 * t1.toInt.toNat)).toInt (fv Po 302 (4 + 19 * t1.toInt.toNat)).toInt)) ∨ ((0 ≤ t1.toInt ∧ t1.toInt + 1 ≤ (fv Po 302 (0)).toInt ∧ t1.toInt ≤ 7) ∧ t2.toInt = 5 ∧ x62.toInt = cntF (fun j : Nat => fv Po 302 (14 + 19 * t1.toInt.toNat + j)) 0 (nC (fv Po 302 (3 + 19 * t1.toInt.toNat)).toInt (fv Po 302 (4 + 19 * t1.toInt.toNat)).toInt)) ∨ ((0 ≤ t1.toInt ∧ t1.toInt + 1 ≤ (fv Po 302 (0)).toInt ∧ t1.toInt ≤ 7) ∧ t2.toInt = 6 ∧ x62.toInt = (smF (fun j : Nat => fv Po 302 (6 + 19 * t1.toInt.toNat + j)) (fv Po 302 (4 + 19 * t1.toInt.toNat)).toInt.toNat).toInt) ∨ ((0 ≤ t1.toInt ∧ t1.toInt + 1 ≤ (fv Po 302 (0)).toInt ∧ t1.toInt ≤ 7) ∧ t2.toInt = 7 ∧ x62.toInt = (fv Po 302 (5 + 19 * t1.toInt.toNat)).toInt) ∨ ((0 ≤ t1.toInt ∧ t1.toInt + 1 ≤ (fv Po 302 (0)).toInt ∧ t1.toInt ≤ 7) ∧ t2.toInt = 8 ∧ x62.toInt = (wdF (fv Po 302 (3 + 19 * t1.toInt.toNat)).toInt (fun j : Nat => fv Po 302 (6 + 19 * t1.toInt.toNat + j)) (fv Po 302 (4 + 19 * t1.toInt.toNat)).toInt.toNat).toInt) ∨ ((0 ≤ t1.toInt ∧ t1.toInt + 1 ≤ (fv Po 302 (0)).toInt ∧ t1.toInt ≤ 7) ∧ (t2.toInt < 0 ∨ 8 < t2.toInt) ∧ x62.toInt = -1002) from Or.inr (Or.inr (Or.inr (Or.inr (Or.inr (Or.inl (⟨by omega, by omega, g63.2.2.2⟩)))))))
      exact mp_iret ⟨⟨_, rfl, u67⟩, rfl⟩ dX7_piece_97 (Or.inl rfl)
    · refine mp_t (s_tabIn (t := 98) (off := 85) dX7_piece_13 (by omega) (by rw [c9]; rfl) (by decide)) ?_
      refine mp_a (a_aload_n dX7_piece_98 rfl) (mpp 99 rfl ?_)
      refine mp_a (a_iload_n dX7_piece_99 rfl) (mpp 100 rfl ?_)
      refine mp_a (a_iconst (v := 0) dX7_piece_100 rfl) (mpp 101 rfl ?_)
      have p68 : 0 ≤ t1.toInt := by omega
      have p69 : t1.toInt ≤ 7 := by omega
      refine mt_callv (i := 136) (q' := q_149) (As := [.int t1, .int 0]) (rest := []) hT dX7_piece_101 rfl qm_149 (by decide) rfl rl_301 (by decide) rfl (Nat.le_of_ble_eq_true rfl) rfl ⟨rfl, rfl⟩ ⟨Nat.le_of_ble_eq_true rfl, Nat.le_of_ble_eq_true rfl⟩ (EvP.mono (by decide) (c_M_countOf hT p68 p69 )) (fun r70 P71 g72 => mpp 104 rfl ?_)
      obtain ⟨⟨x73, rfl, g74⟩, e75⟩ := g72
      have e75 := e75.symm
      subst e75
      have wx73 := ti_full x73
      replace g74 : (x73.toInt ≤ 0 ∨ UD Po t1.toInt.toNat (0 : Int)) ∧ 0 ≤ x73.toInt ∧ x73.toInt ≤ 8 ∧ x73.toInt = cntF (fun j : Nat => fv Po 302 (14 + 19 * t1.toInt.toNat + j)) (0 : Int) (nC (fv Po 302 (3 + 19 * t1.toInt.toNat)).toInt (fv Po 302 (4 + 19 * t1.toInt.toNat)).toInt) := g74
      try have g76 : (0 : Int) ≤ (fv Po 302 (3 + 19 * t1.toInt.toNat)).toInt ∧ (fv Po 302 (3 + 19 * t1.toInt.toNat)).toInt ≤ 1 := s3_rng hT (by omega)
      try have g77 : (0 : Int) ≤ (fv Po 302 (4 + 19 * t1.toInt.toNat)).toInt ∧ (fv Po 302 (4 + 19 * t1.toInt.toNat)).toInt ≤ 8 := s4_rng hT (by omega)
      show MEvP _ none q_194 104 [(0, .ref 301), (1, .int t1), (2, .int t2)] [.int x73] _ _ _ _
      have u78 : pieceM (sr Po) x73.toInt t1.toInt t2.toInt := (show (x73.toInt = -1001 ∧ (t1.toInt < 0 ∨ (fv Po 302 (0)).toInt ≤ t1.toInt)) ∨ ((0 ≤ t1.toInt ∧ t1.toInt + 1 ≤ (fv Po 302 (0)).toInt ∧ t1.toInt ≤ 7) ∧ t2.toInt = 0 ∧ x73.toInt = (fv Po 302 (3 + 19 * t1.toInt.toNat)).toInt) ∨ ((0 ≤ t1.toInt ∧ t1.toInt + 1 ≤ (fv Po 302 (0)).toInt ∧ t1.toInt ≤ 7) ∧ t2.toInt = 1 ∧ x73.toInt = (fv Po 302 (4 + 19 * t1.toInt.toNat)).toInt) ∨ ((0 ≤ t1.toInt ∧ t1.toInt + 1 ≤ (fv Po 302 (0)).toInt ∧ t1.toInt ≤ 7) ∧ t2.toInt = 2 ∧ (((fv Po 302 (3 + 19 * t1.toInt.toNat)).toInt = 1 ∧ x73.toInt = (fv Po 302 (4 + 19 * t1.toInt.toNat)).toInt) ∨ ((fv Po 302 (3 + 19 * t1.toInt.toNat)).toInt = 0 ∧ x73.toInt = (fv Po 302 (4 + 19 * t1.toInt.toNat)).toInt - 1))) ∨ ((0 ≤ t1.toInt ∧ t1.toInt + 1 ≤ (fv Po 302 (0)).toInt ∧ t1.toInt ≤ 7) ∧ t2.toInt = 3 ∧ x73.toInt = cntF (fun j : Nat => fv Po 302 (14 + 19 * t1.toInt.toNat + j)) 1 (nC (fv Po 302 (3 + 19 * t1.toInt.toNat)).toInt (fv Po 302 (4 + 19 * t1.toInt.toNat)).toInt)) ∨ ((0 ≤ t1.toInt ∧ t1.toInt + 1 ≤ (fv Po 302 (0)).toInt ∧ t1.toInt ≤ 7) ∧ t2.toInt = 4 ∧ x73.toInt = cntF (fun j : Nat => fv Po 302 (14 + 19 * t1.toInt.toNat + j)) 2 (nC (fv Po 302 (3 + 19 * t1.toInt.toNat)).toInt (fv Po 302 (4 + 19 * t1.toInt.toNat)).toInt)) ∨ ((0 ≤ t1.toInt ∧ t1.toInt + 1 ≤ (fv Po 302 (0)).toInt ∧ t1.toInt ≤ 7) ∧ t2.toInt = 5 ∧ x73.toInt = cntF (fun j : Nat => fv Po 302 (14 + 19 * t1.toInt.toNat + j)) 0 (nC (fv Po 302 (3 + 19 * t1.toInt.toNat)).toInt (fv Po 302 (4 + 19 * t1.toInt.toNat)).toInt)) ∨ ((0 ≤ t1.toInt ∧ t1.toInt + 1 ≤ (fv Po 302 (0)).toInt ∧ t1.toInt ≤ 7) ∧ t2.toInt = 6 ∧ x73.toInt = (smF (fun j : Nat => fv Po 302 (6 + 19 * t1.toInt.toNat + j)) (fv Po 302 (4 + 19 * t1.toInt.toNat)).toInt.toNat).toInt) ∨ ((0 ≤ t1.toInt ∧ t1.toInt + 1 ≤ (fv Po 302 (0)).toInt ∧ t1.toInt ≤ 7) ∧ t2.toInt = 7 ∧ x73.toInt = (fv Po 302 (5 + 19 * t1.toInt.toNat)).toInt) ∨ ((0 ≤ t1.toInt ∧ t1.toInt + 1 ≤ (fv Po 302 (0)).toInt ∧ t1.toInt ≤ 7) ∧ t2.toInt = 8 ∧ x73.toInt = (wdF (fv Po 302 (3 + 19 * t1.toInt.toNat)).toInt (fun j : Nat => fv Po 302 (6 + 19 * t1.toInt.toNat + j)) (fv Po 302 (4 + 19 * t1.toInt.toNat)).toInt.toNat).toInt) ∨ ((0 ≤ t1.toInt ∧ t1.toInt + 1 ≤ (fv Po 302 (0)).toInt ∧ t1.toInt ≤ 7) ∧ (t2.toInt < 0 ∨ 8 < t2.toInt) ∧ x73.toInt = -1002) from Or.inr (Or.inr (Or.inr (Or.inr (Or.inr (Or.inr (Or.inl (⟨by omega, by omega, g74.2.2.2⟩))))))))
      exact mp_iret ⟨⟨_, rfl, u78⟩, rfl⟩ dX7_piece_104 (Or.inl rfl)
    · refine mp_t (s_tabIn (t := 105) (off := 92) dX7_piece_13 (by omega) (by rw [c9]; rfl) (by decide)) ?_
      refine mp_a (a_aload_n dX7_piece_105 rfl) (mpp 106 rfl ?_)
      refine mp_a (a_iload_n dX7_piece_106 rfl) (mpp 107 rfl ?_)
      have p79 : 0 ≤ t1.toInt := by omega
      have p80 : t1.toInt ≤ 7 := by omega
      refine mt_callv (i := 249) (q' := q_195) (As := [.int t1]) (rest := []) hT dX7_piece_107 rfl qm_195 (by decide) rfl rl_301 (by decide) rfl (Nat.le_of_ble_eq_true rfl) rfl ⟨rfl, rfl⟩ ⟨Nat.le_of_ble_eq_true rfl, Nat.le_of_ble_eq_true rfl⟩ (EvP.mono (by decide) (c_M_sumOf hT p79 p80 )) (fun r81 P82 g83 => mpp 110 rfl ?_)
      obtain ⟨⟨x84, rfl, g85⟩, e86⟩ := g83
      have e86 := e86.symm
      subst e86
      have wx84 := ti_full x84
      replace g85 : x84.toInt = (smF (fun j : Nat => fv Po 302 (6 + 19 * t1.toInt.toNat + j)) (fv Po 302 (4 + 19 * t1.toInt.toNat)).toInt.toNat).toInt := g85
      try have g87 : (0 : Int) ≤ (fv Po 302 (4 + 19 * t1.toInt.toNat)).toInt ∧ (fv Po 302 (4 + 19 * t1.toInt.toNat)).toInt ≤ 8 := s4_rng hT (by omega)
      show MEvP _ none q_194 110 [(0, .ref 301), (1, .int t1), (2, .int t2)] [.int x84] _ _ _ _
      have u88 : pieceM (sr Po) x84.toInt t1.toInt t2.toInt := (show (x84.toInt = -1001 ∧ (t1.toInt < 0 ∨ (fv Po 302 (0)).toInt ≤ t1.toInt)) ∨ ((0 ≤ t1.toInt ∧ t1.toInt + 1 ≤ (fv Po 302 (0)).toInt ∧ t1.toInt ≤ 7) ∧ t2.toInt = 0 ∧ x84.toInt = (fv Po 302 (3 + 19 * t1.toInt.toNat)).toInt) ∨ ((0 ≤ t1.toInt ∧ t1.toInt + 1 ≤ (fv Po 302 (0)).toInt ∧ t1.toInt ≤ 7) ∧ t2.toInt = 1 ∧ x84.toInt = (fv Po 302 (4 + 19 * t1.toInt.toNat)).toInt) ∨ ((0 ≤ t1.toInt ∧ t1.toInt + 1 ≤ (fv Po 302 (0)).toInt ∧ t1.toInt ≤ 7) ∧ t2.toInt = 2 ∧ (((fv Po 302 (3 + 19 * t1.toInt.toNat)).toInt = 1 ∧ x84.toInt = (fv Po 302 (4 + 19 * t1.toInt.toNat)).toInt) ∨ ((fv Po 302 (3 + 19 * t1.toInt.toNat)).toInt = 0 ∧ x84.toInt = (fv Po 302 (4 + 19 * t1.toInt.toNat)).toInt - 1))) ∨ ((0 ≤ t1.toInt ∧ t1.toInt + 1 ≤ (fv Po 302 (0)).toInt ∧ t1.toInt ≤ 7) ∧ t2.toInt = 3 ∧ x84.toInt = cntF (fun j : Nat => fv Po 302 (14 + 19 * t1.toInt.toNat + j)) 1 (nC (fv Po 302 (3 + 19 * t1.toInt.toNat)).toInt (fv Po 302 (4 + 19 * t1.toInt.toNat)).toInt)) ∨ ((0 ≤ t1.toInt ∧ t1.toInt + 1 ≤ (fv Po 302 (0)).toInt ∧ t1.toInt ≤ 7) ∧ t2.toInt = 4 ∧ x84.toInt = cntF (fun j : Nat => fv Po 302 (14 + 19 * t1.toInt.toNat + j)) 2 (nC (fv Po 302 (3 + 19 * t1.toInt.toNat)).toInt (fv Po 302 (4 + 19 * t1.toInt.toNat)).toInt)) ∨ ((0 ≤ t1.toInt ∧ t1.toInt + 1 ≤ (fv Po 302 (0)).toInt ∧ t1.toInt ≤ 7) ∧ t2.toInt = 5 ∧ x84.toInt = cntF (fun j : Nat => fv Po 302 (14 + 19 * t1.toInt.toNat + j)) 0 (nC (fv Po 302 (3 + 19 * t1.toInt.toNat)).toInt (fv Po 302 (4 + 19 * t1.toInt.toNat)).toInt)) ∨ ((0 ≤ t1.toInt ∧ t1.toInt + 1 ≤ (fv Po 302 (0)).toInt ∧ t1.toInt ≤ 7) ∧ t2.toInt = 6 ∧ x84.toInt = (smF (fun j : Nat => fv Po 302 (6 + 19 * t1.toInt.toNat + j)) (fv Po 302 (4 + 19 * t1.toInt.toNat)).toInt.toNat).toInt) ∨ ((0 ≤ t1.toInt ∧ t1.toInt + 1 ≤ (fv Po 302 (0)).toInt ∧ t1.toInt ≤ 7) ∧ t2.toInt = 7 ∧ x84.toInt = (fv Po 302 (5 + 19 * t1.toInt.toNat)).toInt) ∨ ((0 ≤ t1.toInt ∧ t1.toInt + 1 ≤ (fv Po 302 (0)).toInt ∧ t1.toInt ≤ 7) ∧ t2.toInt = 8 ∧ x84.toInt = (wdF (fv Po 302 (3 + 19 * t1.toInt.toNat)).toInt (fun j : Nat => fv Po 302 (6 + 19 * t1.toInt.toNat + j)) (fv Po 302 (4 + 19 * t1.toInt.toNat)).toInt.toNat).toInt) ∨ ((0 ≤ t1.toInt ∧ t1.toInt + 1 ≤ (fv Po 302 (0)).toInt ∧ t1.toInt ≤ 7) ∧ (t2.toInt < 0 ∨ 8 < t2.toInt) ∧ x84.toInt = -1002) from Or.inr (Or.inr (Or.inr (Or.inr (Or.inr (Or.inr (Or.inr (Or.inl (⟨by omega, by omega, g85⟩)))))))))
      exact mp_iret ⟨⟨_, rfl, u88⟩, rfl⟩ dX7_piece_110 (Or.inl rfl)
    · refine mp_t (s_tabIn (t := 111) (off := 98) dX7_piece_13 (by omega) (by rw [c9]; rfl) (by decide)) ?_
      refine mp_a (a_aload_n dX7_piece_111 rfl) (mpp 112 rfl ?_)
      refine mp_a (a_iload_n dX7_piece_112 rfl) (mpp 113 rfl ?_)
      refine mp_a (a_iconst (v := 2) dX7_piece_113 rfl) (mpp 114 rfl ?_)
      have p89 : 0 ≤ t1.toInt := by omega
      have p90 : t1.toInt ≤ 7 := by omega
      have p91 : 0 ≤ (2 : Int) := by omega
      have p92 : (2 : Int) ≤ 18 := by omega
      refine mt_callv (i := 78) (q' := q_137) (As := [.int t1, .int 2]) (rest := []) hT dX7_piece_114 rfl qm_137 (by decide) rfl rl_301 (by decide) rfl (Nat.le_of_ble_eq_true rfl) rfl ⟨rfl, rfl⟩ ⟨Nat.le_of_ble_eq_true rfl, Nat.le_of_ble_eq_true rfl⟩ (EvP.mono (by decide) (c_M_of_c2 hT p89 p90 p91 p92 )) (fun r93 P94 g95 => mpp 117 rfl ?_)
      obtain ⟨⟨x96, rfl, g97⟩, e98⟩ := g95
      have e98 := e98.symm
      subst e98
      have wx96 := ti_full x96
      replace g97 : x96.toInt = (fv Po 302 (5 + 19 * t1.toInt.toNat)).toInt := g97
      have g99 := ti_full (fv Po 302 (5 + 19 * t1.toInt.toNat))
      show MEvP _ none q_194 117 [(0, .ref 301), (1, .int t1), (2, .int t2)] [.int x96] _ _ _ _
      have u100 : pieceM (sr Po) x96.toInt t1.toInt t2.toInt := (show (x96.toInt = -1001 ∧ (t1.toInt < 0 ∨ (fv Po 302 (0)).toInt ≤ t1.toInt)) ∨ ((0 ≤ t1.toInt ∧ t1.toInt + 1 ≤ (fv Po 302 (0)).toInt ∧ t1.toInt ≤ 7) ∧ t2.toInt = 0 ∧ x96.toInt = (fv Po 302 (3 + 19 * t1.toInt.toNat)).toInt) ∨ ((0 ≤ t1.toInt ∧ t1.toInt + 1 ≤ (fv Po 302 (0)).toInt ∧ t1.toInt ≤ 7) ∧ t2.toInt = 1 ∧ x96.toInt = (fv Po 302 (4 + 19 * t1.toInt.toNat)).toInt) ∨ ((0 ≤ t1.toInt ∧ t1.toInt + 1 ≤ (fv Po 302 (0)).toInt ∧ t1.toInt ≤ 7) ∧ t2.toInt = 2 ∧ (((fv Po 302 (3 + 19 * t1.toInt.toNat)).toInt = 1 ∧ x96.toInt = (fv Po 302 (4 + 19 * t1.toInt.toNat)).toInt) ∨ ((fv Po 302 (3 + 19 * t1.toInt.toNat)).toInt = 0 ∧ x96.toInt = (fv Po 302 (4 + 19 * t1.toInt.toNat)).toInt - 1))) ∨ ((0 ≤ t1.toInt ∧ t1.toInt + 1 ≤ (fv Po 302 (0)).toInt ∧ t1.toInt ≤ 7) ∧ t2.toInt = 3 ∧ x96.toInt = cntF (fun j : Nat => fv Po 302 (14 + 19 * t1.toInt.toNat + j)) 1 (nC (fv Po 302 (3 + 19 * t1.toInt.toNat)).toInt (fv Po 302 (4 + 19 * t1.toInt.toNat)).toInt)) ∨ ((0 ≤ t1.toInt ∧ t1.toInt + 1 ≤ (fv Po 302 (0)).toInt ∧ t1.toInt ≤ 7) ∧ t2.toInt = 4 ∧ x96.toInt = cntF (fun j : Nat => fv Po 302 (14 + 19 * t1.toInt.toNat + j)) 2 (nC (fv Po 302 (3 + 19 * t1.toInt.toNat)).toInt (fv Po 302 (4 + 19 * t1.toInt.toNat)).toInt)) ∨ ((0 ≤ t1.toInt ∧ t1.toInt + 1 ≤ (fv Po 302 (0)).toInt ∧ t1.toInt ≤ 7) ∧ t2.toInt = 5 ∧ x96.toInt = cntF (fun j : Nat => fv Po 302 (14 + 19 * t1.toInt.toNat + j)) 0 (nC (fv Po 302 (3 + 19 * t1.toInt.toNat)).toInt (fv Po 302 (4 + 19 * t1.toInt.toNat)).toInt)) ∨ ((0 ≤ t1.toInt ∧ t1.toInt + 1 ≤ (fv Po 302 (0)).toInt ∧ t1.toInt ≤ 7) ∧ t2.toInt = 6 ∧ x96.toInt = (smF (fun j : Nat => fv Po 302 (6 + 19 * t1.toInt.toNat + j)) (fv Po 302 (4 + 19 * t1.toInt.toNat)).toInt.toNat).toInt) ∨ ((0 ≤ t1.toInt ∧ t1.toInt + 1 ≤ (fv Po 302 (0)).toInt ∧ t1.toInt ≤ 7) ∧ t2.toInt = 7 ∧ x96.toInt = (fv Po 302 (5 + 19 * t1.toInt.toNat)).toInt) ∨ ((0 ≤ t1.toInt ∧ t1.toInt + 1 ≤ (fv Po 302 (0)).toInt ∧ t1.toInt ≤ 7) ∧ t2.toInt = 8 ∧ x96.toInt = (wdF (fv Po 302 (3 + 19 * t1.toInt.toNat)).toInt (fun j : Nat => fv Po 302 (6 + 19 * t1.toInt.toNat + j)) (fv Po 302 (4 + 19 * t1.toInt.toNat)).toInt.toNat).toInt) ∨ ((0 ≤ t1.toInt ∧ t1.toInt + 1 ≤ (fv Po 302 (0)).toInt ∧ t1.toInt ≤ 7) ∧ (t2.toInt < 0 ∨ 8 < t2.toInt) ∧ x96.toInt = -1002) from Or.inr (Or.inr (Or.inr (Or.inr (Or.inr (Or.inr (Or.inr (Or.inr (Or.inl (⟨by omega, by omega, by omega⟩))))))))))
      exact mp_iret ⟨⟨_, rfl, u100⟩, rfl⟩ dX7_piece_117 (Or.inl rfl)
    · refine mp_t (s_tabIn (t := 118) (off := 105) dX7_piece_13 (by omega) (by rw [c9]; rfl) (by decide)) ?_
      refine mp_a (a_aload_n dX7_piece_118 rfl) (mpp 119 rfl ?_)
      refine mp_a (a_iload_n dX7_piece_119 rfl) (mpp 120 rfl ?_)
      have p101 : 0 ≤ t1.toInt := by omega
      have p102 : t1.toInt ≤ 7 := by omega
      refine mt_callv (i := 228) (q' := q_185) (As := [.int t1]) (rest := []) hT dX7_piece_120 rfl qm_185 (by decide) rfl rl_301 (by decide) rfl (Nat.le_of_ble_eq_true rfl) rfl ⟨rfl, rfl⟩ ⟨Nat.le_of_ble_eq_true rfl, Nat.le_of_ble_eq_true rfl⟩ (EvP.mono (by decide) (c_M_widthOf hT p101 p102 )) (fun r103 P104 g105 => mpp 123 rfl ?_)
      obtain ⟨⟨x106, rfl, g107⟩, e108⟩ := g105
      have e108 := e108.symm
      subst e108
      have wx106 := ti_full x106
      replace g107 : x106.toInt = (wdF (fv Po 302 (3 + 19 * t1.toInt.toNat)).toInt (fun j : Nat => fv Po 302 (6 + 19 * t1.toInt.toNat + j)) (fv Po 302 (4 + 19 * t1.toInt.toNat)).toInt.toNat).toInt := g107
      try have g109 : (0 : Int) ≤ (fv Po 302 (3 + 19 * t1.toInt.toNat)).toInt ∧ (fv Po 302 (3 + 19 * t1.toInt.toNat)).toInt ≤ 1 := s3_rng hT (by omega)
      try have g110 : (0 : Int) ≤ (fv Po 302 (4 + 19 * t1.toInt.toNat)).toInt ∧ (fv Po 302 (4 + 19 * t1.toInt.toNat)).toInt ≤ 8 := s4_rng hT (by omega)
      show MEvP _ none q_194 123 [(0, .ref 301), (1, .int t1), (2, .int t2)] [.int x106] _ _ _ _
      have u111 : pieceM (sr Po) x106.toInt t1.toInt t2.toInt := (show (x106.toInt = -1001 ∧ (t1.toInt < 0 ∨ (fv Po 302 (0)).toInt ≤ t1.toInt)) ∨ ((0 ≤ t1.toInt ∧ t1.toInt + 1 ≤ (fv Po 302 (0)).toInt ∧ t1.toInt ≤ 7) ∧ t2.toInt = 0 ∧ x106.toInt = (fv Po 302 (3 + 19 * t1.toInt.toNat)).toInt) ∨ ((0 ≤ t1.toInt ∧ t1.toInt + 1 ≤ (fv Po 302 (0)).toInt ∧ t1.toInt ≤ 7) ∧ t2.toInt = 1 ∧ x106.toInt = (fv Po 302 (4 + 19 * t1.toInt.toNat)).toInt) ∨ ((0 ≤ t1.toInt ∧ t1.toInt + 1 ≤ (fv Po 302 (0)).toInt ∧ t1.toInt ≤ 7) ∧ t2.toInt = 2 ∧ (((fv Po 302 (3 + 19 * t1.toInt.toNat)).toInt = 1 ∧ x106.toInt = (fv Po 302 (4 + 19 * t1.toInt.toNat)).toInt) ∨ ((fv Po 302 (3 + 19 * t1.toInt.toNat)).toInt = 0 ∧ x106.toInt = (fv Po 302 (4 + 19 * t1.toInt.toNat)).toInt - 1))) ∨ ((0 ≤ t1.toInt ∧ t1.toInt + 1 ≤ (fv Po 302 (0)).toInt ∧ t1.toInt ≤ 7) ∧ t2.toInt = 3 ∧ x106.toInt = cntF (fun j : Nat => fv Po 302 (14 + 19 * t1.toInt.toNat + j)) 1 (nC (fv Po 302 (3 + 19 * t1.toInt.toNat)).toInt (fv Po 302 (4 + 19 * t1.toInt.toNat)).toInt)) ∨ ((0 ≤ t1.toInt ∧ t1.toInt + 1 ≤ (fv Po 302 (0)).toInt ∧ t1.toInt ≤ 7) ∧ t2.toInt = 4 ∧ x106.toInt = cntF (fun j : Nat => fv Po 302 (14 + 19 * t1.toInt.toNat + j)) 2 (nC (fv Po 302 (3 + 19 * t1.toInt.toNat)).toInt (fv Po 302 (4 + 19 * t1.toInt.toNat)).toInt)) ∨ ((0 ≤ t1.toInt ∧ t1.toInt + 1 ≤ (fv Po 302 (0)).toInt ∧ t1.toInt ≤ 7) ∧ t2.toInt = 5 ∧ x106.toInt = cntF (fun j : Nat => fv Po 302 (14 + 19 * t1.toInt.toNat + j)) 0 (nC (fv Po 302 (3 + 19 * t1.toInt.toNat)).toInt (fv Po 302 (4 + 19 * t1.toInt.toNat)).toInt)) ∨ ((0 ≤ t1.toInt ∧ t1.toInt + 1 ≤ (fv Po 302 (0)).toInt ∧ t1.toInt ≤ 7) ∧ t2.toInt = 6 ∧ x106.toInt = (smF (fun j : Nat => fv Po 302 (6 + 19 * t1.toInt.toNat + j)) (fv Po 302 (4 + 19 * t1.toInt.toNat)).toInt.toNat).toInt) ∨ ((0 ≤ t1.toInt ∧ t1.toInt + 1 ≤ (fv Po 302 (0)).toInt ∧ t1.toInt ≤ 7) ∧ t2.toInt = 7 ∧ x106.toInt = (fv Po 302 (5 + 19 * t1.toInt.toNat)).toInt) ∨ ((0 ≤ t1.toInt ∧ t1.toInt + 1 ≤ (fv Po 302 (0)).toInt ∧ t1.toInt ≤ 7) ∧ t2.toInt = 8 ∧ x106.toInt = (wdF (fv Po 302 (3 + 19 * t1.toInt.toNat)).toInt (fun j : Nat => fv Po 302 (6 + 19 * t1.toInt.toNat + j)) (fv Po 302 (4 + 19 * t1.toInt.toNat)).toInt.toNat).toInt) ∨ ((0 ≤ t1.toInt ∧ t1.toInt + 1 ≤ (fv Po 302 (0)).toInt ∧ t1.toInt ≤ 7) ∧ (t2.toInt < 0 ∨ 8 < t2.toInt) ∧ x106.toInt = -1002) from Or.inr (Or.inr (Or.inr (Or.inr (Or.inr (Or.inr (Or.inr (Or.inr (Or.inr (Or.inl (⟨by omega, by omega, g107⟩)))))))))))
      exact mp_iret ⟨⟨_, rfl, u111⟩, rfl⟩ dX7_piece_123 (Or.inl rfl)
  · have c8 : x4.toInt = 0 := ti_ne_n c8
    refine mp_a (a_sipush (v := -1001) dX7_piece_8 rfl) (mpp 11 rfl ?_)
    have u112 : pieceM (sr Po) (-1001 : Int) t1.toInt t2.toInt := (show ((-1001 : Int) = -1001 ∧ (t1.toInt < 0 ∨ (fv Po 302 (0)).toInt ≤ t1.toInt)) ∨ ((0 ≤ t1.toInt ∧ t1.toInt + 1 ≤ (fv Po 302 (0)).toInt ∧ t1.toInt ≤ 7) ∧ t2.toInt = 0 ∧ (-1001 : Int) = (fv Po 302 (3 + 19 * t1.toInt.toNat)).toInt) ∨ ((0 ≤ t1.toInt ∧ t1.toInt + 1 ≤ (fv Po 302 (0)).toInt ∧ t1.toInt ≤ 7) ∧ t2.toInt = 1 ∧ (-1001 : Int) = (fv Po 302 (4 + 19 * t1.toInt.toNat)).toInt) ∨ ((0 ≤ t1.toInt ∧ t1.toInt + 1 ≤ (fv Po 302 (0)).toInt ∧ t1.toInt ≤ 7) ∧ t2.toInt = 2 ∧ (((fv Po 302 (3 + 19 * t1.toInt.toNat)).toInt = 1 ∧ (-1001 : Int) = (fv Po 302 (4 + 19 * t1.toInt.toNat)).toInt) ∨ ((fv Po 302 (3 + 19 * t1.toInt.toNat)).toInt = 0 ∧ (-1001 : Int) = (fv Po 302 (4 + 19 * t1.toInt.toNat)).toInt - 1))) ∨ ((0 ≤ t1.toInt ∧ t1.toInt + 1 ≤ (fv Po 302 (0)).toInt ∧ t1.toInt ≤ 7) ∧ t2.toInt = 3 ∧ (-1001 : Int) = cntF (fun j : Nat => fv Po 302 (14 + 19 * t1.toInt.toNat + j)) 1 (nC (fv Po 302 (3 + 19 * t1.toInt.toNat)).toInt (fv Po 302 (4 + 19 * t1.toInt.toNat)).toInt)) ∨ ((0 ≤ t1.toInt ∧ t1.toInt + 1 ≤ (fv Po 302 (0)).toInt ∧ t1.toInt ≤ 7) ∧ t2.toInt = 4 ∧ (-1001 : Int) = cntF (fun j : Nat => fv Po 302 (14 + 19 * t1.toInt.toNat + j)) 2 (nC (fv Po 302 (3 + 19 * t1.toInt.toNat)).toInt (fv Po 302 (4 + 19 * t1.toInt.toNat)).toInt)) ∨ ((0 ≤ t1.toInt ∧ t1.toInt + 1 ≤ (fv Po 302 (0)).toInt ∧ t1.toInt ≤ 7) ∧ t2.toInt = 5 ∧ (-1001 : Int) = cntF (fun j : Nat => fv Po 302 (14 + 19 * t1.toInt.toNat + j)) 0 (nC (fv Po 302 (3 + 19 * t1.toInt.toNat)).toInt (fv Po 302 (4 + 19 * t1.toInt.toNat)).toInt)) ∨ ((0 ≤ t1.toInt ∧ t1.toInt + 1 ≤ (fv Po 302 (0)).toInt ∧ t1.toInt ≤ 7) ∧ t2.toInt = 6 ∧ (-1001 : Int) = (smF (fun j : Nat => fv Po 302 (6 + 19 * t1.toInt.toNat + j)) (fv Po 302 (4 + 19 * t1.toInt.toNat)).toInt.toNat).toInt) ∨ ((0 ≤ t1.toInt ∧ t1.toInt + 1 ≤ (fv Po 302 (0)).toInt ∧ t1.toInt ≤ 7) ∧ t2.toInt = 7 ∧ (-1001 : Int) = (fv Po 302 (5 + 19 * t1.toInt.toNat)).toInt) ∨ ((0 ≤ t1.toInt ∧ t1.toInt + 1 ≤ (fv Po 302 (0)).toInt ∧ t1.toInt ≤ 7) ∧ t2.toInt = 8 ∧ (-1001 : Int) = (wdF (fv Po 302 (3 + 19 * t1.toInt.toNat)).toInt (fun j : Nat => fv Po 302 (6 + 19 * t1.toInt.toNat + j)) (fv Po 302 (4 + 19 * t1.toInt.toNat)).toInt.toNat).toInt) ∨ ((0 ≤ t1.toInt ∧ t1.toInt + 1 ≤ (fv Po 302 (0)).toInt ∧ t1.toInt ≤ 7) ∧ (t2.toInt < 0 ∨ 8 < t2.toInt) ∧ (-1001 : Int) = -1002) from Or.inl (⟨by omega, by omega⟩))
    exact mp_iret ⟨⟨_, rfl, u112⟩, rfl⟩ dX7_piece_11 (Or.inl rfl)

set_option maxHeartbeats 4000000 in
theorem c_M_size {Po : mP} {t1 : Int32} {t2 : Int32} (hT : Typ Po)   : EvP 4 196 [.ref 301, .int t1, .int t2] Po (fun r P' => (∃ x : Int32, r = some (.int x) ∧ (sizeM (sr Po) x.toInt t1.toInt t2.toInt)) ∧ P' = Po) := by
  refine EvP.of qm_196 (Nat.le_of_ble_eq_true rfl) rfl ?_
  show MEvP _ none q_196 0 [(0, .ref 301), (1, .int t1), (2, .int t2)] [] _ 0 0 _
  have w_t1 := ti_full t1
  have w_t2 := ti_full t2
  refine mp_a (a_aload_n dX7_size_0 rfl) (mpp 1 rfl ?_)
  refine mp_a (a_iload_n dX7_size_1 rfl) (mpp 2 rfl ?_)
  refine mt_callv (i := 85) (q' := q_144) (As := [.int t1]) (rest := []) hT dX7_size_2 rfl qm_144 (by decide) rfl rl_301 (by decide) rfl (Nat.le_of_ble_eq_true rfl) rfl ⟨rfl, rfl⟩ ⟨Nat.le_of_ble_eq_true rfl, Nat.le_of_ble_eq_true rfl⟩ (EvP.mono (by decide) (c_M_isPiece hT )) (fun r1 P2 g3 => mpp 5 rfl ?_)
  obtain ⟨⟨x4, rfl, g5⟩, e6⟩ := g3
  have e6 := e6.symm
  subst e6
  have wx4 := ti_full x4
  replace g5 : 0 ≤ x4.toInt ∧ x4.toInt ≤ 1 ∧ ((x4.toInt = 1 ∧ 0 ≤ t1.toInt ∧ t1.toInt + 1 ≤ (fv Po 302 0).toInt ∧ t1.toInt ≤ 7) ∨ (x4.toInt = 0 ∧ (t1.toInt < 0 ∨ (fv Po 302 0).toInt ≤ t1.toInt))) := g5
  have g7 : (0 : Int) ≤ (fv Po 302 0).toInt ∧ (fv Po 302 0).toInt ≤ 8 := Typ.rng hT rl_302 (by decide) (by decide) rfl
  show MEvP _ none q_196 5 [(0, .ref 301), (1, .int t1), (2, .int t2)] [.int x4] _ _ _ _
  refine mp_Tb (t := 33) (j_if_eq dX7_size_5) (by decide) (fun c8 => ?_) (fun c8 => mpp 8 rfl ?_)
  · have c8 : x4.toInt = 0 := ti_eq c8
    refine mp_a (a_sipush (v := -1001) dX7_size_33 rfl) (mpp 36 rfl ?_)
    have u9 : sizeM (sr Po) (-1001 : Int) t1.toInt t2.toInt := (show ((-1001 : Int) = -1001 ∧ ((t1.toInt < 0 ∨ (fv Po 302 (0)).toInt ≤ t1.toInt) ∨ ((0 ≤ t1.toInt ∧ t1.toInt + 1 ≤ (fv Po 302 (0)).toInt ∧ t1.toInt ≤ 7) ∧ (t2.toInt < 0 ∨ (fv Po 302 (4 + 19 * t1.toInt.toNat)).toInt ≤ t2.toInt)))) ∨ ((0 ≤ t1.toInt ∧ t1.toInt + 1 ≤ (fv Po 302 (0)).toInt ∧ t1.toInt ≤ 7) ∧ (0 ≤ t2.toInt ∧ t2.toInt < (fv Po 302 (4 + 19 * t1.toInt.toNat)).toInt) ∧ (-1001 : Int) = (fv Po 302 (6 + 19 * t1.toInt.toNat + t2.toInt.toNat)).toInt) from Or.inl (⟨by omega, by omega⟩))
    exact mp_iret ⟨⟨_, rfl, u9⟩, rfl⟩ dX7_size_36 (Or.inl rfl)
  · have c8 : x4.toInt ≠ 0 := ti_eq_n c8
    refine mp_a (a_iload_n dX7_size_8 rfl) (mpp 9 rfl ?_)
    refine mp_a (a_iconst (v := 0) dX7_size_9 rfl) (mpp 10 rfl ?_)
    refine mp_a (a_aload_n dX7_size_10 rfl) (mpp 11 rfl ?_)
    refine mp_a (a_iload_n dX7_size_11 rfl) (mpp 12 rfl ?_)
    refine mp_a (a_iconst (v := 1) dX7_size_12 rfl) (mpp 13 rfl ?_)
    have p10 : 0 ≤ t1.toInt := by omega
    have p11 : t1.toInt ≤ 7 := by omega
    have p12 : 0 ≤ (1 : Int) := by omega
    have p13 : (1 : Int) ≤ 18 := by omega
    refine mt_callv (i := 78) (q' := q_137) (As := [.int t1, .int 1]) (rest := [.int 0, .int t2]) hT dX7_size_13 rfl qm_137 (by decide) rfl rl_301 (by decide) rfl (Nat.le_of_ble_eq_true rfl) rfl ⟨rfl, rfl⟩ ⟨Nat.le_of_ble_eq_true rfl, Nat.le_of_ble_eq_true rfl⟩ (EvP.mono (by decide) (c_M_of_c1 hT p10 p11 p12 p13 )) (fun r14 P15 g16 => mpp 16 rfl ?_)
    obtain ⟨⟨x17, rfl, g18⟩, e19⟩ := g16
    have e19 := e19.symm
    subst e19
    have wx17 := ti_full x17
    replace g18 : x17.toInt = (fv Po 302 (4 + 19 * t1.toInt.toNat)).toInt ∧ 0 ≤ x17.toInt ∧ x17.toInt ≤ 8 := g18
    try have g20 : (0 : Int) ≤ (fv Po 302 (4 + 19 * t1.toInt.toNat)).toInt ∧ (fv Po 302 (4 + 19 * t1.toInt.toNat)).toInt ≤ 8 := s4_rng hT (by omega)
    show MEvP _ none q_196 16 [(0, .ref 301), (1, .int t1), (2, .int t2)] [.int x17, .int 0, .int t2] _ _ _ _
    refine mp_a (a_iconst (v := 1) dX7_size_16 rfl) (mpp 17 rfl ?_)
    obtain ⟨z21, h22⟩ := ti_ex (x17 - 1 : Int32)
    have wz21 := ti_full z21
    refine mp_t (s_isub (v := z21) dX7_size_17 h22) (mpp 18 rfl ?_)
    try have e23 : z21.toInt = x17.toInt - 1 := ti_subz h22 rfl rfl (by omega) (by omega)
    refine mp_calls (i := 61) (q' := q_127) (As := [.int t2, .int 0, .int z21]) (rest := []) dX7_size_18 rfl qm_127 (by decide) rfl (Nat.le_of_ble_eq_true rfl) rfl ⟨rfl, rfl⟩ ⟨Nat.le_of_ble_eq_true rfl, Nat.le_of_ble_eq_true rfl⟩ (EvP.mono (by decide) (c_M_isIn hT )) (fun r24 P25 g26 => mpp 21 rfl ?_)
    obtain ⟨⟨x27, rfl, g28⟩, e29⟩ := g26
    have e29 := e29.symm
    subst e29
    have wx27 := ti_full x27
    replace g28 : 0 ≤ x27.toInt ∧ x27.toInt ≤ 1 ∧ ((x27.toInt = 1 ∧ (0 : Int) ≤ t2.toInt ∧ t2.toInt ≤ z21.toInt) ∨ (x27.toInt = 0 ∧ (t2.toInt < (0 : Int) ∨ z21.toInt < t2.toInt))) := g28
    show MEvP _ none q_196 21 [(0, .ref 301), (1, .int t1), (2, .int t2)] [.int x27] _ _ _ _
    refine mp_Tb (t := 33) (j_if_eq dX7_size_21) (by decide) (fun c30 => ?_) (fun c30 => mpp 24 rfl ?_)
    · have c30 : x27.toInt = 0 := ti_eq c30
      refine mp_a (a_sipush (v := -1001) dX7_size_33 rfl) (mpp 36 rfl ?_)
      have u31 : sizeM (sr Po) (-1001 : Int) t1.toInt t2.toInt := (show ((-1001 : Int) = -1001 ∧ ((t1.toInt < 0 ∨ (fv Po 302 (0)).toInt ≤ t1.toInt) ∨ ((0 ≤ t1.toInt ∧ t1.toInt + 1 ≤ (fv Po 302 (0)).toInt ∧ t1.toInt ≤ 7) ∧ (t2.toInt < 0 ∨ (fv Po 302 (4 + 19 * t1.toInt.toNat)).toInt ≤ t2.toInt)))) ∨ ((0 ≤ t1.toInt ∧ t1.toInt + 1 ≤ (fv Po 302 (0)).toInt ∧ t1.toInt ≤ 7) ∧ (0 ≤ t2.toInt ∧ t2.toInt < (fv Po 302 (4 + 19 * t1.toInt.toNat)).toInt) ∧ (-1001 : Int) = (fv Po 302 (6 + 19 * t1.toInt.toNat + t2.toInt.toNat)).toInt) from Or.inl (⟨by omega, by omega⟩))
      exact mp_iret ⟨⟨_, rfl, u31⟩, rfl⟩ dX7_size_36 (Or.inl rfl)
    · have c30 : x27.toInt ≠ 0 := ti_eq_n c30
      refine mp_a (a_aload_n dX7_size_24 rfl) (mpp 25 rfl ?_)
      refine mp_a (a_iload_n dX7_size_25 rfl) (mpp 26 rfl ?_)
      refine mp_a (a_iload_n dX7_size_26 rfl) (mpp 27 rfl ?_)
      have p32 : 0 ≤ t1.toInt := by omega
      have p33 : t1.toInt ≤ 7 := by omega
      have p34 : 0 ≤ t2.toInt := by omega
      have p35 : t2.toInt ≤ 7 := by omega
      refine mt_callv (i := 142) (q' := q_152) (As := [.int t1, .int t2]) (rest := []) hT dX7_size_27 rfl qm_152 (by decide) rfl rl_301 (by decide) rfl (Nat.le_of_ble_eq_true rfl) rfl ⟨rfl, rfl⟩ ⟨Nat.le_of_ble_eq_true rfl, Nat.le_of_ble_eq_true rfl⟩ (EvP.mono (by decide) (c_M_sizeOf hT p32 p33 p34 p35 )) (fun r36 P37 g38 => mpp 30 rfl ?_)
      obtain ⟨⟨x39, rfl, g40⟩, e41⟩ := g38
      have e41 := e41.symm
      subst e41
      have wx39 := ti_full x39
      replace g40 : x39.toInt = (fv Po 302 (6 + 19 * t1.toInt.toNat + t2.toInt.toNat)).toInt := g40
      show MEvP _ none q_196 30 [(0, .ref 301), (1, .int t1), (2, .int t2)] [.int x39] _ _ _ _
      refine mp_a (a_goto (t := 36) dX7_size_30 (by decide)) ?_
      have u42 : sizeM (sr Po) x39.toInt t1.toInt t2.toInt := (show (x39.toInt = -1001 ∧ ((t1.toInt < 0 ∨ (fv Po 302 (0)).toInt ≤ t1.toInt) ∨ ((0 ≤ t1.toInt ∧ t1.toInt + 1 ≤ (fv Po 302 (0)).toInt ∧ t1.toInt ≤ 7) ∧ (t2.toInt < 0 ∨ (fv Po 302 (4 + 19 * t1.toInt.toNat)).toInt ≤ t2.toInt)))) ∨ ((0 ≤ t1.toInt ∧ t1.toInt + 1 ≤ (fv Po 302 (0)).toInt ∧ t1.toInt ≤ 7) ∧ (0 ≤ t2.toInt ∧ t2.toInt < (fv Po 302 (4 + 19 * t1.toInt.toNat)).toInt) ∧ x39.toInt = (fv Po 302 (6 + 19 * t1.toInt.toNat + t2.toInt.toNat)).toInt) from Or.inr (⟨by omega, by omega, by omega⟩))
      exact mp_iret ⟨⟨_, rfl, u42⟩, rfl⟩ dX7_size_36 (Or.inl rfl)

set_option maxHeartbeats 4000000 in
theorem c_M_crease {Po : mP} {t1 : Int32} {t2 : Int32} (hT : Typ Po)   : EvP 6 197 [.ref 301, .int t1, .int t2] Po (fun r P' => (∃ x : Int32, r = some (.int x) ∧ (creaseM (sr Po) x.toInt t1.toInt t2.toInt)) ∧ P' = Po) := by
  refine EvP.of qm_197 (Nat.le_of_ble_eq_true rfl) rfl ?_
  show MEvP _ none q_197 0 [(0, .ref 301), (1, .int t1), (2, .int t2)] [] _ 0 0 _
  have w_t1 := ti_full t1
  have w_t2 := ti_full t2
  refine mp_a (a_aload_n dX7_crease_0 rfl) (mpp 1 rfl ?_)
  refine mp_a (a_iload_n dX7_crease_1 rfl) (mpp 2 rfl ?_)
  refine mp_a (a_iload_n dX7_crease_2 rfl) (mpp 3 rfl ?_)
  refine mt_callv (i := 127) (q' := q_143) (As := [.int t1, .int t2]) (rest := []) hT dX7_crease_3 rfl qm_143 (by decide) rfl rl_301 (by decide) rfl (Nat.le_of_ble_eq_true rfl) rfl ⟨rfl, rfl⟩ ⟨Nat.le_of_ble_eq_true rfl, Nat.le_of_ble_eq_true rfl⟩ (EvP.mono (by decide) (c_M_isCrease hT )) (fun r1 P2 g3 => mpp 6 rfl ?_)
  obtain ⟨⟨x4, rfl, g5⟩, e6⟩ := g3
  have e6 := e6.symm
  subst e6
  have wx4 := ti_full x4
  replace g5 : 0 ≤ x4.toInt ∧ x4.toInt ≤ 1 ∧ ((x4.toInt = 0 ∧ (t1.toInt < 0 ∨ (fv Po 302 0).toInt ≤ t1.toInt ∨ t2.toInt < 0 ∨ ((fv Po 302 (3 + 19 * t1.toInt.toNat)).toInt = 1 ∧ (fv Po 302 (4 + 19 * t1.toInt.toNat)).toInt ≤ t2.toInt) ∨ ((fv Po 302 (3 + 19 * t1.toInt.toNat)).toInt = 0 ∧ (fv Po 302 (4 + 19 * t1.toInt.toNat)).toInt - 1 ≤ t2.toInt))) ∨ (x4.toInt = 1 ∧ 0 ≤ t1.toInt ∧ t1.toInt + 1 ≤ (fv Po 302 0).toInt ∧ t1.toInt ≤ 7 ∧ 0 ≤ t2.toInt ∧ t2.toInt ≤ 7 ∧ t2.toInt + 1 ≤ (fv Po 302 (4 + 19 * t1.toInt.toNat)).toInt ∧ (((fv Po 302 (3 + 19 * t1.toInt.toNat)).toInt = 1 ∧ t2.toInt < (fv Po 302 (4 + 19 * t1.toInt.toNat)).toInt) ∨ ((fv Po 302 (3 + 19 * t1.toInt.toNat)).toInt = 0 ∧ t2.toInt < (fv Po 302 (4 + 19 * t1.toInt.toNat)).toInt - 1)))) := g5
  have g7 : (0 : Int) ≤ (fv Po 302 0).toInt ∧ (fv Po 302 0).toInt ≤ 8 := Typ.rng hT rl_302 (by decide) (by decide) rfl
  try have g8 : (0 : Int) ≤ (fv Po 302 (3 + 19 * t1.toInt.toNat)).toInt ∧ (fv Po 302 (3 + 19 * t1.toInt.toNat)).toInt ≤ 1 := s3_rng hT (by omega)
  try have g9 : (0 : Int) ≤ (fv Po 302 (4 + 19 * t1.toInt.toNat)).toInt ∧ (fv Po 302 (4 + 19 * t1.toInt.toNat)).toInt ≤ 8 := s4_rng hT (by omega)
  show MEvP _ none q_197 6 [(0, .ref 301), (1, .int t1), (2, .int t2)] [.int x4] _ _ _ _
  refine mp_Tb (t := 18) (j_if_eq dX7_crease_6) (by decide) (fun c10 => ?_) (fun c10 => mpp 9 rfl ?_)
  · have c10 : x4.toInt = 0 := ti_eq c10
    refine mp_a (a_sipush (v := -1001) dX7_crease_18 rfl) (mpp 21 rfl ?_)
    have u11 : creaseM (sr Po) (-1001 : Int) t1.toInt t2.toInt := (show ((-1001 : Int) = -1001 ∧ ((t1.toInt < 0 ∨ (fv Po 302 (0)).toInt ≤ t1.toInt) ∨ ((0 ≤ t1.toInt ∧ t1.toInt + 1 ≤ (fv Po 302 (0)).toInt ∧ t1.toInt ≤ 7) ∧ (t2.toInt < 0 ∨ ((fv Po 302 (3 + 19 * t1.toInt.toNat)).toInt = 1 ∧ (fv Po 302 (4 + 19 * t1.toInt.toNat)).toInt ≤ t2.toInt) ∨ ((fv Po 302 (3 + 19 * t1.toInt.toNat)).toInt = 0 ∧ (fv Po 302 (4 + 19 * t1.toInt.toNat)).toInt - 1 ≤ t2.toInt))))) ∨ ((0 ≤ t1.toInt ∧ t1.toInt + 1 ≤ (fv Po 302 (0)).toInt ∧ t1.toInt ≤ 7) ∧ (0 ≤ t2.toInt ∧ t2.toInt ≤ 7 ∧ (((fv Po 302 (3 + 19 * t1.toInt.toNat)).toInt = 1 ∧ t2.toInt < (fv Po 302 (4 + 19 * t1.toInt.toNat)).toInt) ∨ ((fv Po 302 (3 + 19 * t1.toInt.toNat)).toInt = 0 ∧ t2.toInt < (fv Po 302 (4 + 19 * t1.toInt.toNat)).toInt - 1))) ∧ (-1001 : Int) = (fv Po 302 (14 + 19 * t1.toInt.toNat + t2.toInt.toNat)).toInt) from Or.inl (⟨by omega, by omega⟩))
    exact mp_iret ⟨⟨_, rfl, u11⟩, rfl⟩ dX7_crease_21 (Or.inl rfl)
  · have c10 : x4.toInt ≠ 0 := ti_eq_n c10
    refine mp_a (a_aload_n dX7_crease_9 rfl) (mpp 10 rfl ?_)
    refine mp_a (a_iload_n dX7_crease_10 rfl) (mpp 11 rfl ?_)
    refine mp_a (a_iload_n dX7_crease_11 rfl) (mpp 12 rfl ?_)
    have p12 : 0 ≤ t1.toInt := by omega
    have p13 : t1.toInt ≤ 7 := by omega
    have p14 : 0 ≤ t2.toInt := by omega
    have p15 : t2.toInt ≤ 7 := by omega
    refine mt_callv (i := 92) (q' := q_146) (As := [.int t1, .int t2]) (rest := []) hT dX7_crease_12 rfl qm_146 (by decide) rfl rl_301 (by decide) rfl (Nat.le_of_ble_eq_true rfl) rfl ⟨rfl, rfl⟩ ⟨Nat.le_of_ble_eq_true rfl, Nat.le_of_ble_eq_true rfl⟩ (EvP.mono (by decide) (c_M_creaseOf hT p12 p13 p14 p15 )) (fun r16 P17 g18 => mpp 15 rfl ?_)
    obtain ⟨⟨x19, rfl, g20⟩, e21⟩ := g18
    have e21 := e21.symm
    subst e21
    have wx19 := ti_full x19
    replace g20 : x19.toInt = (fv Po 302 (14 + 19 * t1.toInt.toNat + t2.toInt.toNat)).toInt := g20
    show MEvP _ none q_197 15 [(0, .ref 301), (1, .int t1), (2, .int t2)] [.int x19] _ _ _ _
    refine mp_a (a_goto (t := 21) dX7_crease_15 (by decide)) ?_
    have u22 : creaseM (sr Po) x19.toInt t1.toInt t2.toInt := (show (x19.toInt = -1001 ∧ ((t1.toInt < 0 ∨ (fv Po 302 (0)).toInt ≤ t1.toInt) ∨ ((0 ≤ t1.toInt ∧ t1.toInt + 1 ≤ (fv Po 302 (0)).toInt ∧ t1.toInt ≤ 7) ∧ (t2.toInt < 0 ∨ ((fv Po 302 (3 + 19 * t1.toInt.toNat)).toInt = 1 ∧ (fv Po 302 (4 + 19 * t1.toInt.toNat)).toInt ≤ t2.toInt) ∨ ((fv Po 302 (3 + 19 * t1.toInt.toNat)).toInt = 0 ∧ (fv Po 302 (4 + 19 * t1.toInt.toNat)).toInt - 1 ≤ t2.toInt))))) ∨ ((0 ≤ t1.toInt ∧ t1.toInt + 1 ≤ (fv Po 302 (0)).toInt ∧ t1.toInt ≤ 7) ∧ (0 ≤ t2.toInt ∧ t2.toInt ≤ 7 ∧ (((fv Po 302 (3 + 19 * t1.toInt.toNat)).toInt = 1 ∧ t2.toInt < (fv Po 302 (4 + 19 * t1.toInt.toNat)).toInt) ∨ ((fv Po 302 (3 + 19 * t1.toInt.toNat)).toInt = 0 ∧ t2.toInt < (fv Po 302 (4 + 19 * t1.toInt.toNat)).toInt - 1))) ∧ x19.toInt = (fv Po 302 (14 + 19 * t1.toInt.toNat + t2.toInt.toNat)).toInt) from Or.inr (⟨by omega, by omega, by omega⟩))
    exact mp_iret ⟨⟨_, rfl, u22⟩, rfl⟩ dX7_crease_21 (Or.inl rfl)

set_option maxHeartbeats 4000000 in
theorem c_M_why {Po : mP} {t1 : Int32} (hT : Typ Po)   : EvP 8 159 [.ref 301, .int t1] Po (fun r P' => (∃ x : Int32, r = some (.int x) ∧ (whyM (sr Po) x.toInt t1.toInt)) ∧ Typ P' ∧ KW [1101, 1102, 1536, 1600] Po P' ∧ True) := by
  refine EvP.of qm_159 (Nat.le_of_ble_eq_true rfl) rfl ?_
  show MEvP _ none q_159 0 [(0, .ref 301), (1, .int t1)] [] _ 0 0 _
  have w_t1 := ti_full t1
  refine mp_a (a_aload_n dX7_why_0 rfl) (mpp 1 rfl ?_)
  refine mp_a (a_iload_n dX7_why_1 rfl) (mpp 2 rfl ?_)
  refine mt_callv (i := 85) (q' := q_144) (As := [.int t1]) (rest := []) hT dX7_why_2 rfl qm_144 (by decide) rfl rl_301 (by decide) rfl (Nat.le_of_ble_eq_true rfl) rfl ⟨rfl, rfl⟩ ⟨Nat.le_of_ble_eq_true rfl, Nat.le_of_ble_eq_true rfl⟩ (EvP.mono (by decide) (c_M_isPiece hT )) (fun r1 P2 g3 => mpp 5 rfl ?_)
  obtain ⟨⟨x4, rfl, g5⟩, e6⟩ := g3
  have e6 := e6.symm
  subst e6
  have wx4 := ti_full x4
  replace g5 : 0 ≤ x4.toInt ∧ x4.toInt ≤ 1 ∧ ((x4.toInt = 1 ∧ 0 ≤ t1.toInt ∧ t1.toInt + 1 ≤ (fv Po 302 0).toInt ∧ t1.toInt ≤ 7) ∨ (x4.toInt = 0 ∧ (t1.toInt < 0 ∨ (fv Po 302 0).toInt ≤ t1.toInt))) := g5
  have g7 : (0 : Int) ≤ (fv Po 302 0).toInt ∧ (fv Po 302 0).toInt ≤ 8 := Typ.rng hT rl_302 (by decide) (by decide) rfl
  show MEvP _ none q_159 5 [(0, .ref 301), (1, .int t1)] [.int x4] _ _ _ _
  refine mp_Tb (t := 16) (j_if_eq dX7_why_5) (by decide) (fun c8 => ?_) (fun c8 => mpp 8 rfl ?_)
  · have c8 : x4.toInt = 0 := ti_eq c8
    refine mp_a (a_sipush (v := -1001) dX7_why_16 rfl) (mpp 19 rfl ?_)
    have u9 : whyM (sr Po) (-1001 : Int) t1.toInt := (show ((-1001 : Int) = -1001 ∧ (t1.toInt < 0 ∨ (fv Po 302 (0)).toInt ≤ t1.toInt)) ∨ ((0 ≤ t1.toInt ∧ t1.toInt + 1 ≤ (fv Po 302 (0)).toInt ∧ t1.toInt ≤ 7) ∧ WYf cM eM (fv Po 302 (3 + 19 * t1.toInt.toNat)).toInt (fv Po 302 (4 + 19 * t1.toInt.toNat)).toInt (fun j : Nat => fv Po 302 (6 + 19 * t1.toInt.toNat + j)) (fun j : Nat => fv Po 302 (14 + 19 * t1.toInt.toNat + j)) (-1001 : Int)) from Or.inl (⟨by omega, by omega⟩))
    exact mp_iret ⟨⟨_, rfl, u9⟩, hT, KW.refl, trivial⟩ dX7_why_19 (Or.inl rfl)
  · have c8 : x4.toInt ≠ 0 := ti_eq_n c8
    refine mp_a (a_aload_n dX7_why_8 rfl) (mpp 9 rfl ?_)
    refine mp_a (a_iload_n dX7_why_9 rfl) (mpp 10 rfl ?_)
    have p10 : 0 ≤ t1.toInt := by omega
    have p11 : t1.toInt ≤ 7 := by omega
    refine mt_callv (i := 212) (q' := q_160) (As := [.int t1]) (rest := []) hT dX7_why_10 rfl qm_160 (by decide) rfl rl_301 (by decide) rfl (Nat.le_of_ble_eq_true rfl) rfl ⟨rfl, rfl⟩ ⟨Nat.le_of_ble_eq_true rfl, Nat.le_of_ble_eq_true rfl⟩ (EvP.mono (by decide) (c_M_whyNot hT p10 p11 )) (fun r12 P13 g14 => mpp 13 rfl ?_)
    obtain ⟨⟨x15, rfl, g16⟩, hT17, k18, R19⟩ := g14
    have k20 : KW [1101, 1102, 1536, 1600] Po P13 := KW.trans KW.refl k18 rfl
    have wx15 := ti_full x15
    replace g16 : (x15.toInt ≠ 4 ∨ UD Po t1.toInt.toNat 0) ∧ 0 ≤ x15.toInt ∧ x15.toInt ≤ 5 ∧ WYf cM eM (fv Po 302 (3 + 19 * t1.toInt.toNat)).toInt (fv Po 302 (4 + 19 * t1.toInt.toNat)).toInt (fun j : Nat => fv Po 302 (6 + 19 * t1.toInt.toNat + j)) (fun j : Nat => fv Po 302 (14 + 19 * t1.toInt.toNat + j)) x15.toInt := g16
    try have g22 : (0 : Int) ≤ (fv Po 302 (3 + 19 * t1.toInt.toNat)).toInt ∧ (fv Po 302 (3 + 19 * t1.toInt.toNat)).toInt ≤ 1 := s3_rng hT (by omega)
    try have g23 : (0 : Int) ≤ (fv Po 302 (4 + 19 * t1.toInt.toNat)).toInt ∧ (fv Po 302 (4 + 19 * t1.toInt.toNat)).toInt ≤ 8 := s4_rng hT (by omega)
    show MEvP _ none q_159 13 [(0, .ref 301), (1, .int t1)] [.int x15] _ _ _ _
    refine mp_a (a_goto (t := 19) dX7_why_13 (by decide)) ?_
    have u24 : whyM (sr Po) x15.toInt t1.toInt := (show (x15.toInt = -1001 ∧ (t1.toInt < 0 ∨ (fv Po 302 (0)).toInt ≤ t1.toInt)) ∨ ((0 ≤ t1.toInt ∧ t1.toInt + 1 ≤ (fv Po 302 (0)).toInt ∧ t1.toInt ≤ 7) ∧ WYf cM eM (fv Po 302 (3 + 19 * t1.toInt.toNat)).toInt (fv Po 302 (4 + 19 * t1.toInt.toNat)).toInt (fun j : Nat => fv Po 302 (6 + 19 * t1.toInt.toNat + j)) (fun j : Nat => fv Po 302 (14 + 19 * t1.toInt.toNat + j)) x15.toInt) from Or.inr (⟨by omega, g16.2.2.2⟩))
    exact mp_iret ⟨⟨_, rfl, u24⟩, hT17, k20, trivial⟩ dX7_why_19 (Or.inl rfl)

set_option maxHeartbeats 4000000 in
theorem c_M_wrongStrip {Po : mP} {t1 : Int32} (hT : Typ Po)   : EvP 6 199 [.ref 301, .int t1] Po (fun r P' => (∃ x : Int32, r = some (.int x) ∧ ((x.toInt = -1001 ∧ (t1.toInt < 0 ∨ (fv Po 302 0).toInt ≤ t1.toInt)) ∨ (x.toInt = -1002 ∧ (0 ≤ t1.toInt ∧ t1.toInt + 1 ≤ (fv Po 302 0).toInt ∧ t1.toInt ≤ 7) ∧ (fv Po 302 (3 + 19 * t1.toInt.toNat)).toInt = 1) ∨ (x.toInt = -1004 ∧ (0 ≤ t1.toInt ∧ t1.toInt + 1 ≤ (fv Po 302 0).toInt ∧ t1.toInt ≤ 7) ∧ (fv Po 302 (3 + 19 * t1.toInt.toNat)).toInt = 0 ∧ 1 ≤ cntF (fun j : Nat => fv Po 302 (14 + 19 * t1.toInt.toNat + j)) 0 (nC (fv Po 302 (3 + 19 * t1.toInt.toNat)).toInt (fv Po 302 (4 + 19 * t1.toInt.toNat)).toInt)) ∨ (x.toInt = 0 ∧ (0 ≤ t1.toInt ∧ t1.toInt + 1 ≤ (fv Po 302 0).toInt ∧ t1.toInt ≤ 7) ∧ (fv Po 302 (3 + 19 * t1.toInt.toNat)).toInt = 0 ∧ cntF (fun j : Nat => fv Po 302 (14 + 19 * t1.toInt.toNat + j)) 0 (nC (fv Po 302 (3 + 19 * t1.toInt.toNat)).toInt (fv Po 302 (4 + 19 * t1.toInt.toNat)).toInt) = 0))) ∧ P' = Po) := by
  refine EvP.of qm_199 (Nat.le_of_ble_eq_true rfl) rfl ?_
  show MEvP _ none q_199 0 [(0, .ref 301), (1, .int t1)] [] _ 0 0 _
  have w_t1 := ti_full t1
  have g1 : (0 : Int) ≤ (fv Po 302 0).toInt ∧ (fv Po 302 0).toInt ≤ 8 := Typ.rng hT rl_302 (by decide) (by decide) rfl
  try have g2 : (0 : Int) ≤ (fv Po 302 (3 + 19 * t1.toInt.toNat)).toInt ∧ (fv Po 302 (3 + 19 * t1.toInt.toNat)).toInt ≤ 1 := s3_rng hT (by omega)
  try have g3 : (0 : Int) ≤ (fv Po 302 (4 + 19 * t1.toInt.toNat)).toInt ∧ (fv Po 302 (4 + 19 * t1.toInt.toNat)).toInt ≤ 8 := s4_rng hT (by omega)
  refine mp_a (a_aload_n dX7_wrongStrip_0 rfl) (mpp 1 rfl ?_)
  refine mp_a (a_iload_n dX7_wrongStrip_1 rfl) (mpp 2 rfl ?_)
  refine mt_callv (i := 85) (q' := q_144) (As := [.int t1]) (rest := []) hT dX7_wrongStrip_2 rfl qm_144 (by decide) rfl rl_301 (by decide) rfl (Nat.le_of_ble_eq_true rfl) rfl ⟨rfl, rfl⟩ ⟨Nat.le_of_ble_eq_true rfl, Nat.le_of_ble_eq_true rfl⟩ (EvP.mono (by decide) (c_M_isPiece hT )) (fun r4 P5 g6 => mpp 5 rfl ?_)
  obtain ⟨⟨x7, rfl, g8⟩, e9⟩ := g6
  have e9 := e9.symm
  subst e9
  have wx7 := ti_full x7
  replace g8 : 0 ≤ x7.toInt ∧ x7.toInt ≤ 1 ∧ ((x7.toInt = 1 ∧ 0 ≤ t1.toInt ∧ t1.toInt + 1 ≤ (fv Po 302 0).toInt ∧ t1.toInt ≤ 7) ∨ (x7.toInt = 0 ∧ (t1.toInt < 0 ∨ (fv Po 302 0).toInt ≤ t1.toInt))) := g8
  show MEvP _ none q_199 5 [(0, .ref 301), (1, .int t1)] [.int x7] _ _ _ _
  refine mp_Tb (t := 14) (j_if_ne dX7_wrongStrip_5) (by decide) (fun c10 => ?_) (fun c10 => mpp 8 rfl ?_)
  · have c10 : x7.toInt ≠ 0 := ti_ne c10
    refine mp_a (a_aload_n dX7_wrongStrip_14 rfl) (mpp 15 rfl ?_)
    refine mp_a (a_iload_n dX7_wrongStrip_15 rfl) (mpp 16 rfl ?_)
    have p11 : 0 ≤ t1.toInt := by omega
    have p12 : t1.toInt ≤ 7 := by omega
    refine mt_callv (i := 81) (q' := q_138) (As := [.int t1]) (rest := []) hT dX7_wrongStrip_16 rfl qm_138 (by decide) rfl rl_301 (by decide) rfl (Nat.le_of_ble_eq_true rfl) rfl ⟨rfl, rfl⟩ ⟨Nat.le_of_ble_eq_true rfl, Nat.le_of_ble_eq_true rfl⟩ (EvP.mono (by decide) (c_M_isCorner hT p11 p12 )) (fun r13 P14 g15 => mpp 19 rfl ?_)
    obtain ⟨⟨x16, rfl, g17⟩, e18⟩ := g15
    have e18 := e18.symm
    subst e18
    have wx16 := ti_full x16
    replace g17 : 0 ≤ x16.toInt ∧ x16.toInt ≤ 1 ∧ ((x16.toInt = 1 ∧ (fv Po 302 (3 + 19 * t1.toInt.toNat)).toInt = 1) ∨ (x16.toInt = 0 ∧ (fv Po 302 (3 + 19 * t1.toInt.toNat)).toInt = 0)) := g17
    show MEvP _ none q_199 19 [(0, .ref 301), (1, .int t1)] [.int x16] _ _ _ _
    refine mp_Tb (t := 28) (j_if_eq dX7_wrongStrip_19) (by decide) (fun c19 => ?_) (fun c19 => mpp 22 rfl ?_)
    · have c19 : x16.toInt = 0 := ti_eq c19
      refine mp_a (a_aload_n dX7_wrongStrip_28 rfl) (mpp 29 rfl ?_)
      refine mp_a (a_iload_n dX7_wrongStrip_29 rfl) (mpp 30 rfl ?_)
      refine mp_a (a_iconst (v := 0) dX7_wrongStrip_30 rfl) (mpp 31 rfl ?_)
      have p20 : 0 ≤ t1.toInt := by omega
      have p21 : t1.toInt ≤ 7 := by omega
      refine mt_callv (i := 136) (q' := q_149) (As := [.int t1, .int 0]) (rest := []) hT dX7_wrongStrip_31 rfl qm_149 (by decide) rfl rl_301 (by decide) rfl (Nat.le_of_ble_eq_true rfl) rfl ⟨rfl, rfl⟩ ⟨Nat.le_of_ble_eq_true rfl, Nat.le_of_ble_eq_true rfl⟩ (EvP.mono (by decide) (c_M_countOf hT p20 p21 )) (fun r22 P23 g24 => mpp 34 rfl ?_)
      obtain ⟨⟨x25, rfl, g26⟩, e27⟩ := g24
      have e27 := e27.symm
      subst e27
      have wx25 := ti_full x25
      replace g26 : (x25.toInt ≤ 0 ∨ UD Po t1.toInt.toNat (0 : Int)) ∧ 0 ≤ x25.toInt ∧ x25.toInt ≤ 8 ∧ x25.toInt = cntF (fun j : Nat => fv Po 302 (14 + 19 * t1.toInt.toNat + j)) (0 : Int) (nC (fv Po 302 (3 + 19 * t1.toInt.toNat)).toInt (fv Po 302 (4 + 19 * t1.toInt.toNat)).toInt) := g26
      show MEvP _ none q_199 34 [(0, .ref 301), (1, .int t1)] [.int x25] _ _ _ _
      refine mp_Tb (t := 43) (j_if_le dX7_wrongStrip_34) (by decide) (fun c28 => ?_) (fun c28 => mpp 37 rfl ?_)
      · have c28 : x25.toInt ≤ 0 := ti_le c28
        refine mp_a (a_iconst (v := 0) dX7_wrongStrip_43 rfl) (mpp 44 rfl ?_)
        have u29 : ((0 : Int) = -1001 ∧ (t1.toInt < 0 ∨ (fv Po 302 0).toInt ≤ t1.toInt)) ∨ ((0 : Int) = -1002 ∧ (0 ≤ t1.toInt ∧ t1.toInt + 1 ≤ (fv Po 302 0).toInt ∧ t1.toInt ≤ 7) ∧ (fv Po 302 (3 + 19 * t1.toInt.toNat)).toInt = 1) ∨ ((0 : Int) = -1004 ∧ (0 ≤ t1.toInt ∧ t1.toInt + 1 ≤ (fv Po 302 0).toInt ∧ t1.toInt ≤ 7) ∧ (fv Po 302 (3 + 19 * t1.toInt.toNat)).toInt = 0 ∧ 1 ≤ cntF (fun j : Nat => fv Po 302 (14 + 19 * t1.toInt.toNat + j)) 0 (nC (fv Po 302 (3 + 19 * t1.toInt.toNat)).toInt (fv Po 302 (4 + 19 * t1.toInt.toNat)).toInt)) ∨ ((0 : Int) = 0 ∧ (0 ≤ t1.toInt ∧ t1.toInt + 1 ≤ (fv Po 302 0).toInt ∧ t1.toInt ≤ 7) ∧ (fv Po 302 (3 + 19 * t1.toInt.toNat)).toInt = 0 ∧ cntF (fun j : Nat => fv Po 302 (14 + 19 * t1.toInt.toNat + j)) 0 (nC (fv Po 302 (3 + 19 * t1.toInt.toNat)).toInt (fv Po 302 (4 + 19 * t1.toInt.toNat)).toInt) = 0) := Or.inr (Or.inr (Or.inr ⟨rfl, by omega, by omega, by omega⟩))
        exact mp_iret ⟨⟨_, rfl, u29⟩, rfl⟩ dX7_wrongStrip_44 (Or.inl rfl)
      · have c28 : x25.toInt > 0 := ti_le_n c28
        refine mp_a (a_sipush (v := -1004) dX7_wrongStrip_37 rfl) (mpp 40 rfl ?_)
        refine mp_a (a_goto (t := 44) dX7_wrongStrip_40 (by decide)) ?_
        have u30 : ((-1004 : Int) = -1001 ∧ (t1.toInt < 0 ∨ (fv Po 302 0).toInt ≤ t1.toInt)) ∨ ((-1004 : Int) = -1002 ∧ (0 ≤ t1.toInt ∧ t1.toInt + 1 ≤ (fv Po 302 0).toInt ∧ t1.toInt ≤ 7) ∧ (fv Po 302 (3 + 19 * t1.toInt.toNat)).toInt = 1) ∨ ((-1004 : Int) = -1004 ∧ (0 ≤ t1.toInt ∧ t1.toInt + 1 ≤ (fv Po 302 0).toInt ∧ t1.toInt ≤ 7) ∧ (fv Po 302 (3 + 19 * t1.toInt.toNat)).toInt = 0 ∧ 1 ≤ cntF (fun j : Nat => fv Po 302 (14 + 19 * t1.toInt.toNat + j)) 0 (nC (fv Po 302 (3 + 19 * t1.toInt.toNat)).toInt (fv Po 302 (4 + 19 * t1.toInt.toNat)).toInt)) ∨ ((-1004 : Int) = 0 ∧ (0 ≤ t1.toInt ∧ t1.toInt + 1 ≤ (fv Po 302 0).toInt ∧ t1.toInt ≤ 7) ∧ (fv Po 302 (3 + 19 * t1.toInt.toNat)).toInt = 0 ∧ cntF (fun j : Nat => fv Po 302 (14 + 19 * t1.toInt.toNat + j)) 0 (nC (fv Po 302 (3 + 19 * t1.toInt.toNat)).toInt (fv Po 302 (4 + 19 * t1.toInt.toNat)).toInt) = 0) := Or.inr (Or.inr (Or.inl ⟨rfl, by omega, by omega, by omega⟩))
        exact mp_iret ⟨⟨_, rfl, u30⟩, rfl⟩ dX7_wrongStrip_44 (Or.inl rfl)
    · have c19 : x16.toInt ≠ 0 := ti_eq_n c19
      refine mp_a (a_sipush (v := -1002) dX7_wrongStrip_22 rfl) (mpp 25 rfl ?_)
      refine mp_a (a_goto (t := 44) dX7_wrongStrip_25 (by decide)) ?_
      have u31 : ((-1002 : Int) = -1001 ∧ (t1.toInt < 0 ∨ (fv Po 302 0).toInt ≤ t1.toInt)) ∨ ((-1002 : Int) = -1002 ∧ (0 ≤ t1.toInt ∧ t1.toInt + 1 ≤ (fv Po 302 0).toInt ∧ t1.toInt ≤ 7) ∧ (fv Po 302 (3 + 19 * t1.toInt.toNat)).toInt = 1) ∨ ((-1002 : Int) = -1004 ∧ (0 ≤ t1.toInt ∧ t1.toInt + 1 ≤ (fv Po 302 0).toInt ∧ t1.toInt ≤ 7) ∧ (fv Po 302 (3 + 19 * t1.toInt.toNat)).toInt = 0 ∧ 1 ≤ cntF (fun j : Nat => fv Po 302 (14 + 19 * t1.toInt.toNat + j)) 0 (nC (fv Po 302 (3 + 19 * t1.toInt.toNat)).toInt (fv Po 302 (4 + 19 * t1.toInt.toNat)).toInt)) ∨ ((-1002 : Int) = 0 ∧ (0 ≤ t1.toInt ∧ t1.toInt + 1 ≤ (fv Po 302 0).toInt ∧ t1.toInt ≤ 7) ∧ (fv Po 302 (3 + 19 * t1.toInt.toNat)).toInt = 0 ∧ cntF (fun j : Nat => fv Po 302 (14 + 19 * t1.toInt.toNat + j)) 0 (nC (fv Po 302 (3 + 19 * t1.toInt.toNat)).toInt (fv Po 302 (4 + 19 * t1.toInt.toNat)).toInt) = 0) := Or.inr (Or.inl ⟨rfl, by omega, by omega⟩)
      exact mp_iret ⟨⟨_, rfl, u31⟩, rfl⟩ dX7_wrongStrip_44 (Or.inl rfl)
  · have c10 : x7.toInt = 0 := ti_ne_n c10
    refine mp_a (a_sipush (v := -1001) dX7_wrongStrip_8 rfl) (mpp 11 rfl ?_)
    refine mp_a (a_goto (t := 44) dX7_wrongStrip_11 (by decide)) ?_
    have u32 : ((-1001 : Int) = -1001 ∧ (t1.toInt < 0 ∨ (fv Po 302 0).toInt ≤ t1.toInt)) ∨ ((-1001 : Int) = -1002 ∧ (0 ≤ t1.toInt ∧ t1.toInt + 1 ≤ (fv Po 302 0).toInt ∧ t1.toInt ≤ 7) ∧ (fv Po 302 (3 + 19 * t1.toInt.toNat)).toInt = 1) ∨ ((-1001 : Int) = -1004 ∧ (0 ≤ t1.toInt ∧ t1.toInt + 1 ≤ (fv Po 302 0).toInt ∧ t1.toInt ≤ 7) ∧ (fv Po 302 (3 + 19 * t1.toInt.toNat)).toInt = 0 ∧ 1 ≤ cntF (fun j : Nat => fv Po 302 (14 + 19 * t1.toInt.toNat + j)) 0 (nC (fv Po 302 (3 + 19 * t1.toInt.toNat)).toInt (fv Po 302 (4 + 19 * t1.toInt.toNat)).toInt)) ∨ ((-1001 : Int) = 0 ∧ (0 ≤ t1.toInt ∧ t1.toInt + 1 ≤ (fv Po 302 0).toInt ∧ t1.toInt ≤ 7) ∧ (fv Po 302 (3 + 19 * t1.toInt.toNat)).toInt = 0 ∧ cntF (fun j : Nat => fv Po 302 (14 + 19 * t1.toInt.toNat + j)) 0 (nC (fv Po 302 (3 + 19 * t1.toInt.toNat)).toInt (fv Po 302 (4 + 19 * t1.toInt.toNat)).toInt) = 0) := Or.inl ⟨rfl, by omega⟩
    exact mp_iret ⟨⟨_, rfl, u32⟩, rfl⟩ dX7_wrongStrip_44 (Or.inl rfl)

set_option maxHeartbeats 4000000 in
theorem c_M_reachesOver {Po : mP} {t1 : Int32} {t2 : Int32} (hT : Typ Po)  (hp0 : 0 ≤ t1.toInt) (hp1 : t1.toInt ≤ 6)  : EvP 2 204 [.ref 301, .int t1, .int t2] Po (fun r P' => (∃ x : Int32, r = some (.int x) ∧ (0 ≤ x.toInt ∧ x.toInt ≤ 1 ∧ ((x.toInt = 1 ∧ (min (fv Po 312 t1.toInt.toNat).toInt (fv Po 312 (t1.toInt.toNat + 1)).toInt < t2.toInt ∧ t2.toInt < max (fv Po 312 t1.toInt.toNat).toInt (fv Po 312 (t1.toInt.toNat + 1)).toInt)) ∨ (x.toInt = 0 ∧ ¬ (min (fv Po 312 t1.toInt.toNat).toInt (fv Po 312 (t1.toInt.toNat + 1)).toInt < t2.toInt ∧ t2.toInt < max (fv Po 312 t1.toInt.toNat).toInt (fv Po 312 (t1.toInt.toNat + 1)).toInt))))) ∧ P' = Po) := by
  refine EvP.of qm_204 (Nat.le_of_ble_eq_true rfl) rfl ?_
  show MEvP _ none q_204 0 [(0, .ref 301), (1, .int t1), (2, .int t2)] [] _ 0 0 _
  have w_t1 := ti_full t1
  have w_t2 := ti_full t2
  refine mp_a (a_aload_n dX7_reachesOver_0 rfl) (mpp 1 rfl ?_)
  refine mt_getU (i := 40) (k := 17) (A := 312) hT dX7_reachesOver_1 rfl rl_301 (by decide) rfl (by decide) rfl un_28 (mpp 4 rfl ?_)
  refine mp_a (a_iload_n dX7_reachesOver_4 rfl) (mpp 5 rfl ?_)
  refine mt_ial (n := 8) hT dX7_reachesOver_5 rl_312 (by decide) rfl rfl (by omega) (by omega) rfl (fun g1 g2 => mpp 6 rfl ?_)
  refine mp_a (a_aload_n dX7_reachesOver_6 rfl) (mpp 7 rfl ?_)
  refine mt_getU (i := 40) (k := 17) (A := 312) hT dX7_reachesOver_7 rfl rl_301 (by decide) rfl (by decide) rfl un_28 (mpp 10 rfl ?_)
  refine mp_a (a_iload_n dX7_reachesOver_10 rfl) (mpp 11 rfl ?_)
  refine mp_a (a_iconst (v := 1) dX7_reachesOver_11 rfl) (mpp 12 rfl ?_)
  obtain ⟨z3, h4⟩ := ti_ex (t1 + 1 : Int32)
  have wz3 := ti_full z3
  refine mp_t (s_iadd (v := z3) dX7_reachesOver_12 h4) (mpp 13 rfl ?_)
  try have e5 : z3.toInt = t1.toInt + 1 := ti_addz h4 rfl rfl (by omega) (by omega)
  refine mt_ial (n := 8) hT dX7_reachesOver_13 rl_312 (by decide) rfl rfl (by omega) (by omega) rfl (fun g6 g7 => mpp 14 rfl ?_)
  refine mp_calls (i := 155) (q' := q_158) (As := [.int (fv Po 312 t1.toInt.toNat), .int (fv Po 312 z3.toInt.toNat)]) (rest := []) dX7_reachesOver_14 rfl qm_158 (by decide) rfl (Nat.le_of_ble_eq_true rfl) rfl ⟨rfl, rfl⟩ ⟨Nat.le_of_ble_eq_true rfl, Nat.le_of_ble_eq_true rfl⟩ (EvP.mono (by decide) (c_M_lesser hT )) (fun r8 P9 g10 => mpp 17 rfl ?_)
  obtain ⟨⟨x11, rfl, g12⟩, e13⟩ := g10
  have e13 := e13.symm
  subst e13
  have wx11 := ti_full x11
  replace g12 : (x11.toInt = (fv Po 312 t1.toInt.toNat).toInt ∧ (fv Po 312 t1.toInt.toNat).toInt ≤ (fv Po 312 z3.toInt.toNat).toInt) ∨ (x11.toInt = (fv Po 312 z3.toInt.toNat).toInt ∧ (fv Po 312 z3.toInt.toNat).toInt ≤ (fv Po 312 t1.toInt.toNat).toInt) := g12
  show MEvP _ none q_204 17 [(0, .ref 301), (1, .int t1), (2, .int t2)] [.int x11] _ _ _ _
  refine mp_a (a_iload_n dX7_reachesOver_17 rfl) (mpp 18 rfl ?_)
  refine mp_Tb (t := 46) (j_icmp_ge dX7_reachesOver_18) (by decide) (fun c14 => ?_) (fun c14 => mpp 21 rfl ?_)
  · have c14 : x11.toInt ≥ t2.toInt := ti_ge c14
    refine mp_a (a_iconst (v := 0) dX7_reachesOver_46 rfl) (mpp 47 rfl ?_)
    have w16_ : (fv Po 312 z3.toInt.toNat).toInt = (fv Po 312 (t1.toInt.toNat + 1)).toInt := by rw [show z3.toInt.toNat = t1.toInt.toNat + 1 from by omega]
    have u15 : 0 ≤ (0 : Int) ∧ (0 : Int) ≤ 1 ∧ (((0 : Int) = 1 ∧ (min (fv Po 312 t1.toInt.toNat).toInt (fv Po 312 (t1.toInt.toNat + 1)).toInt < t2.toInt ∧ t2.toInt < max (fv Po 312 t1.toInt.toNat).toInt (fv Po 312 (t1.toInt.toNat + 1)).toInt)) ∨ ((0 : Int) = 0 ∧ ¬ (min (fv Po 312 t1.toInt.toNat).toInt (fv Po 312 (t1.toInt.toNat + 1)).toInt < t2.toInt ∧ t2.toInt < max (fv Po 312 t1.toInt.toNat).toInt (fv Po 312 (t1.toInt.toNat + 1)).toInt))) := ⟨by omega, by omega, Or.inr ⟨rfl, fun h => by have h : (min (fv Po 312 t1.toInt.toNat).toInt (fv Po 312 (t1.toInt.toNat + 1)).toInt < t2.toInt ∧ t2.toInt < max (fv Po 312 t1.toInt.toNat).toInt (fv Po 312 (t1.toInt.toNat + 1)).toInt) := h; omega⟩⟩
    exact mp_iret ⟨⟨_, rfl, u15⟩, rfl⟩ dX7_reachesOver_47 (Or.inr ⟨rfl, by decide⟩)
  · have c14 : x11.toInt < t2.toInt := ti_ge_n c14
    refine mp_a (a_iload_n dX7_reachesOver_21 rfl) (mpp 22 rfl ?_)
    refine mp_a (a_aload_n dX7_reachesOver_22 rfl) (mpp 23 rfl ?_)
    refine mt_getU (i := 40) (k := 17) (A := 312) hT dX7_reachesOver_23 rfl rl_301 (by decide) rfl (by decide) rfl un_28 (mpp 26 rfl ?_)
    refine mp_a (a_iload_n dX7_reachesOver_26 rfl) (mpp 27 rfl ?_)
    refine mt_ial (n := 8) hT dX7_reachesOver_27 rl_312 (by decide) rfl rfl (by omega) (by omega) rfl (fun g17 g18 => mpp 28 rfl ?_)
    refine mp_a (a_aload_n dX7_reachesOver_28 rfl) (mpp 29 rfl ?_)
    refine mt_getU (i := 40) (k := 17) (A := 312) hT dX7_reachesOver_29 rfl rl_301 (by decide) rfl (by decide) rfl un_28 (mpp 32 rfl ?_)
    refine mp_a (a_iload_n dX7_reachesOver_32 rfl) (mpp 33 rfl ?_)
    refine mp_a (a_iconst (v := 1) dX7_reachesOver_33 rfl) (mpp 34 rfl ?_)
    obtain ⟨z19, h20⟩ := ti_ex (t1 + 1 : Int32)
    have wz19 := ti_full z19
    refine mp_t (s_iadd (v := z19) dX7_reachesOver_34 h20) (mpp 35 rfl ?_)
    try have e21 : z19.toInt = t1.toInt + 1 := ti_addz h20 rfl rfl (by omega) (by omega)
    refine mt_ial (n := 8) hT dX7_reachesOver_35 rl_312 (by decide) rfl rfl (by omega) (by omega) rfl (fun g22 g23 => mpp 36 rfl ?_)
    refine mp_calls (i := 178) (q' := q_173) (As := [.int (fv Po 312 t1.toInt.toNat), .int (fv Po 312 z19.toInt.toNat)]) (rest := [.int t2]) dX7_reachesOver_36 rfl qm_173 (by decide) rfl (Nat.le_of_ble_eq_true rfl) rfl ⟨rfl, rfl⟩ ⟨Nat.le_of_ble_eq_true rfl, Nat.le_of_ble_eq_true rfl⟩ (EvP.mono (by decide) (c_M_greater hT )) (fun r24 P25 g26 => mpp 39 rfl ?_)
    obtain ⟨⟨x27, rfl, g28⟩, e29⟩ := g26
    have e29 := e29.symm
    subst e29
    have wx27 := ti_full x27
    replace g28 : (x27.toInt = (fv Po 312 t1.toInt.toNat).toInt ∧ (fv Po 312 z19.toInt.toNat).toInt ≤ (fv Po 312 t1.toInt.toNat).toInt) ∨ (x27.toInt = (fv Po 312 z19.toInt.toNat).toInt ∧ (fv Po 312 t1.toInt.toNat).toInt ≤ (fv Po 312 z19.toInt.toNat).toInt) := g28
    show MEvP _ none q_204 39 [(0, .ref 301), (1, .int t1), (2, .int t2)] [.int x27, .int t2] _ _ _ _
    refine mp_Tb (t := 46) (j_icmp_ge dX7_reachesOver_39) (by decide) (fun c30 => ?_) (fun c30 => mpp 42 rfl ?_)
    · have c30 : t2.toInt ≥ x27.toInt := ti_ge c30
      refine mp_a (a_iconst (v := 0) dX7_reachesOver_46 rfl) (mpp 47 rfl ?_)
      have w32_ : (fv Po 312 z3.toInt.toNat).toInt = (fv Po 312 (t1.toInt.toNat + 1)).toInt := by rw [show z3.toInt.toNat = t1.toInt.toNat + 1 from by omega]
      have w33_ : (fv Po 312 z19.toInt.toNat).toInt = (fv Po 312 (t1.toInt.toNat + 1)).toInt := by rw [show z19.toInt.toNat = t1.toInt.toNat + 1 from by omega]
      have u31 : 0 ≤ (0 : Int) ∧ (0 : Int) ≤ 1 ∧ (((0 : Int) = 1 ∧ (min (fv Po 312 t1.toInt.toNat).toInt (fv Po 312 (t1.toInt.toNat + 1)).toInt < t2.toInt ∧ t2.toInt < max (fv Po 312 t1.toInt.toNat).toInt (fv Po 312 (t1.toInt.toNat + 1)).toInt)) ∨ ((0 : Int) = 0 ∧ ¬ (min (fv Po 312 t1.toInt.toNat).toInt (fv Po 312 (t1.toInt.toNat + 1)).toInt < t2.toInt ∧ t2.toInt < max (fv Po 312 t1.toInt.toNat).toInt (fv Po 312 (t1.toInt.toNat + 1)).toInt))) := ⟨by omega, by omega, Or.inr ⟨rfl, fun h => by have h : (min (fv Po 312 t1.toInt.toNat).toInt (fv Po 312 (t1.toInt.toNat + 1)).toInt < t2.toInt ∧ t2.toInt < max (fv Po 312 t1.toInt.toNat).toInt (fv Po 312 (t1.toInt.toNat + 1)).toInt) := h; omega⟩⟩
      exact mp_iret ⟨⟨_, rfl, u31⟩, rfl⟩ dX7_reachesOver_47 (Or.inr ⟨rfl, by decide⟩)
    · have c30 : t2.toInt < x27.toInt := ti_ge_n c30
      refine mp_a (a_iconst (v := 1) dX7_reachesOver_42 rfl) (mpp 43 rfl ?_)
      refine mp_a (a_goto (t := 47) dX7_reachesOver_43 (by decide)) ?_
      have w35_ : (fv Po 312 z3.toInt.toNat).toInt = (fv Po 312 (t1.toInt.toNat + 1)).toInt := by rw [show z3.toInt.toNat = t1.toInt.toNat + 1 from by omega]
      have w36_ : (fv Po 312 z19.toInt.toNat).toInt = (fv Po 312 (t1.toInt.toNat + 1)).toInt := by rw [show z19.toInt.toNat = t1.toInt.toNat + 1 from by omega]
      have u34 : 0 ≤ (1 : Int) ∧ (1 : Int) ≤ 1 ∧ (((1 : Int) = 1 ∧ (min (fv Po 312 t1.toInt.toNat).toInt (fv Po 312 (t1.toInt.toNat + 1)).toInt < t2.toInt ∧ t2.toInt < max (fv Po 312 t1.toInt.toNat).toInt (fv Po 312 (t1.toInt.toNat + 1)).toInt)) ∨ ((1 : Int) = 0 ∧ ¬ (min (fv Po 312 t1.toInt.toNat).toInt (fv Po 312 (t1.toInt.toNat + 1)).toInt < t2.toInt ∧ t2.toInt < max (fv Po 312 t1.toInt.toNat).toInt (fv Po 312 (t1.toInt.toNat + 1)).toInt))) := ⟨by omega, by omega, Or.inl ⟨rfl, (show (min (fv Po 312 t1.toInt.toNat).toInt (fv Po 312 (t1.toInt.toNat + 1)).toInt < t2.toInt ∧ t2.toInt < max (fv Po 312 t1.toInt.toNat).toInt (fv Po 312 (t1.toInt.toNat + 1)).toInt) from by omega)⟩⟩
      exact mp_iret ⟨⟨_, rfl, u34⟩, rfl⟩ dX7_reachesOver_47 (Or.inr ⟨rfl, by decide⟩)

set_option maxHeartbeats 4000000 in
theorem c_M_isBetween {Po : mP} {t1 : Int32} {t2 : Int32} (hT : Typ Po)  (hp0 : 0 ≤ t1.toInt) (hp1 : t1.toInt ≤ 6) (hp2 : 0 ≤ t2.toInt) (hp3 : t2.toInt ≤ 5)  : EvP 2 205 [.ref 301, .int t1, .int t2] Po (fun r P' => (∃ x : Int32, r = some (.int x) ∧ (0 ≤ x.toInt ∧ x.toInt ≤ 1 ∧ ((x.toInt = 1 ∧ BT (oM Po) t1.toInt.toNat t2.toInt.toNat) ∨ (x.toInt = 0 ∧ ¬ BT (oM Po) t1.toInt.toNat t2.toInt.toNat)))) ∧ P' = Po) := by
  refine EvP.of qm_205 (Nat.le_of_ble_eq_true rfl) rfl ?_
  show MEvP _ none q_205 0 [(0, .ref 301), (1, .int t1), (2, .int t2)] [] _ 0 0 _
  have w_t1 := ti_full t1
  have w_t2 := ti_full t2
  refine mp_a (a_aload_n dX7_isBetween_0 rfl) (mpp 1 rfl ?_)
  refine mt_getU (i := 34) (k := 15) (A := 310) hT dX7_isBetween_1 rfl rl_301 (by decide) rfl (by decide) rfl un_26 (mpp 4 rfl ?_)
  refine mp_a (a_iload_n dX7_isBetween_4 rfl) (mpp 5 rfl ?_)
  refine mt_ial (n := 7) hT dX7_isBetween_5 rl_310 (by decide) rfl rfl (by omega) (by omega) rfl (fun g1 g2 => mpp 6 rfl ?_)
  refine mp_a (a_aload_n dX7_isBetween_6 rfl) (mpp 7 rfl ?_)
  refine mt_getU (i := 34) (k := 15) (A := 310) hT dX7_isBetween_7 rfl rl_301 (by decide) rfl (by decide) rfl un_26 (mpp 10 rfl ?_)
  refine mp_a (a_iload_n dX7_isBetween_10 rfl) (mpp 11 rfl ?_)
  refine mp_a (a_iconst (v := 1) dX7_isBetween_11 rfl) (mpp 12 rfl ?_)
  obtain ⟨z3, h4⟩ := ti_ex (t2 + 1 : Int32)
  have wz3 := ti_full z3
  refine mp_t (s_iadd (v := z3) dX7_isBetween_12 h4) (mpp 13 rfl ?_)
  try have e5 : z3.toInt = t2.toInt + 1 := ti_addz h4 rfl rfl (by omega) (by omega)
  refine mt_ial (n := 7) hT dX7_isBetween_13 rl_310 (by decide) rfl rfl (by omega) (by omega) rfl (fun g6 g7 => mpp 14 rfl ?_)
  refine mp_calls (i := 155) (q' := q_158) (As := [.int (fv Po 310 t2.toInt.toNat), .int (fv Po 310 z3.toInt.toNat)]) (rest := []) dX7_isBetween_14 rfl qm_158 (by decide) rfl (Nat.le_of_ble_eq_true rfl) rfl ⟨rfl, rfl⟩ ⟨Nat.le_of_ble_eq_true rfl, Nat.le_of_ble_eq_true rfl⟩ (EvP.mono (by decide) (c_M_lesser hT )) (fun r8 P9 g10 => mpp 17 rfl ?_)
  obtain ⟨⟨x11, rfl, g12⟩, e13⟩ := g10
  have e13 := e13.symm
  subst e13
  have wx11 := ti_full x11
  replace g12 : (x11.toInt = (fv Po 310 t2.toInt.toNat).toInt ∧ (fv Po 310 t2.toInt.toNat).toInt ≤ (fv Po 310 z3.toInt.toNat).toInt) ∨ (x11.toInt = (fv Po 310 z3.toInt.toNat).toInt ∧ (fv Po 310 z3.toInt.toNat).toInt ≤ (fv Po 310 t2.toInt.toNat).toInt) := g12
  show MEvP _ none q_205 17 [(0, .ref 301), (1, .int t1), (2, .int t2)] [.int x11] _ _ _ _
  refine mp_a (a_istore_n (L' := [(3, .int x11), (0, .ref 301), (1, .int t1), (2, .int t2)]) dX7_isBetween_17 (by decide) rfl) (mpp 18 rfl ?_)
  refine mp_a (a_aload_n dX7_isBetween_18 rfl) (mpp 19 rfl ?_)
  refine mt_getU (i := 34) (k := 15) (A := 310) hT dX7_isBetween_19 rfl rl_301 (by decide) rfl (by decide) rfl un_26 (mpp 22 rfl ?_)
  refine mp_a (a_iload_n dX7_isBetween_22 rfl) (mpp 23 rfl ?_)
  refine mt_ial (n := 7) hT dX7_isBetween_23 rl_310 (by decide) rfl rfl (by omega) (by omega) rfl (fun g14 g15 => mpp 24 rfl ?_)
  refine mp_a (a_aload_n dX7_isBetween_24 rfl) (mpp 25 rfl ?_)
  refine mt_getU (i := 34) (k := 15) (A := 310) hT dX7_isBetween_25 rfl rl_301 (by decide) rfl (by decide) rfl un_26 (mpp 28 rfl ?_)
  refine mp_a (a_iload_n dX7_isBetween_28 rfl) (mpp 29 rfl ?_)
  refine mp_a (a_iconst (v := 1) dX7_isBetween_29 rfl) (mpp 30 rfl ?_)
  obtain ⟨z16, h17⟩ := ti_ex (t2 + 1 : Int32)
  have wz16 := ti_full z16
  refine mp_t (s_iadd (v := z16) dX7_isBetween_30 h17) (mpp 31 rfl ?_)
  try have e18 : z16.toInt = t2.toInt + 1 := ti_addz h17 rfl rfl (by omega) (by omega)
  refine mt_ial (n := 7) hT dX7_isBetween_31 rl_310 (by decide) rfl rfl (by omega) (by omega) rfl (fun g19 g20 => mpp 32 rfl ?_)
  refine mp_calls (i := 178) (q' := q_173) (As := [.int (fv Po 310 t2.toInt.toNat), .int (fv Po 310 z16.toInt.toNat)]) (rest := []) dX7_isBetween_32 rfl qm_173 (by decide) rfl (Nat.le_of_ble_eq_true rfl) rfl ⟨rfl, rfl⟩ ⟨Nat.le_of_ble_eq_true rfl, Nat.le_of_ble_eq_true rfl⟩ (EvP.mono (by decide) (c_M_greater hT )) (fun r21 P22 g23 => mpp 35 rfl ?_)
  obtain ⟨⟨x24, rfl, g25⟩, e26⟩ := g23
  have e26 := e26.symm
  subst e26
  have wx24 := ti_full x24
  replace g25 : (x24.toInt = (fv Po 310 t2.toInt.toNat).toInt ∧ (fv Po 310 z16.toInt.toNat).toInt ≤ (fv Po 310 t2.toInt.toNat).toInt) ∨ (x24.toInt = (fv Po 310 z16.toInt.toNat).toInt ∧ (fv Po 310 t2.toInt.toNat).toInt ≤ (fv Po 310 z16.toInt.toNat).toInt) := g25
  show MEvP _ none q_205 35 [(3, .int x11), (0, .ref 301), (1, .int t1), (2, .int t2)] [.int x24] _ _ _ _
  refine mp_a (a_istore (L' := [(4, .int x24), (3, .int x11), (0, .ref 301), (1, .int t1), (2, .int t2)]) dX7_isBetween_35 (by decide) rfl) (mpp 37 rfl ?_)
  refine mp_a (a_aload_n dX7_isBetween_37 rfl) (mpp 38 rfl ?_)
  refine mt_getU (i := 34) (k := 15) (A := 310) hT dX7_isBetween_38 rfl rl_301 (by decide) rfl (by decide) rfl un_26 (mpp 41 rfl ?_)
  refine mp_a (a_iload_n dX7_isBetween_41 rfl) (mpp 42 rfl ?_)
  refine mt_ial (n := 7) hT dX7_isBetween_42 rl_310 (by decide) rfl rfl (by omega) (by omega) rfl (fun g27 g28 => mpp 43 rfl ?_)
  refine mp_a (a_iload_n dX7_isBetween_43 rfl) (mpp 44 rfl ?_)
  refine mp_Tb (t := 62) (j_icmp_le dX7_isBetween_44) (by decide) (fun c29 => ?_) (fun c29 => mpp 47 rfl ?_)
  · have c29 : (fv Po 310 t1.toInt.toNat).toInt ≤ x11.toInt := ti_le c29
    refine mp_a (a_iconst (v := 0) dX7_isBetween_62 rfl) (mpp 63 rfl ?_)
    have w31_ : (fv Po 310 z3.toInt.toNat).toInt = (fv Po 310 (t2.toInt.toNat + 1)).toInt := by rw [show z3.toInt.toNat = t2.toInt.toNat + 1 from by omega]
    have w32_ : (fv Po 310 z16.toInt.toNat).toInt = (fv Po 310 (t2.toInt.toNat + 1)).toInt := by rw [show z16.toInt.toNat = t2.toInt.toNat + 1 from by omega]
    have u30 : 0 ≤ (0 : Int) ∧ (0 : Int) ≤ 1 ∧ (((0 : Int) = 1 ∧ BT (oM Po) t1.toInt.toNat t2.toInt.toNat) ∨ ((0 : Int) = 0 ∧ ¬ BT (oM Po) t1.toInt.toNat t2.toInt.toNat)) := ⟨by omega, by omega, Or.inr ⟨rfl, fun h => by have h : (min (fv Po 310 t2.toInt.toNat).toInt (fv Po 310 (t2.toInt.toNat + 1)).toInt < (fv Po 310 t1.toInt.toNat).toInt ∧ (fv Po 310 t1.toInt.toNat).toInt < max (fv Po 310 t2.toInt.toNat).toInt (fv Po 310 (t2.toInt.toNat + 1)).toInt) := h; omega⟩⟩
    exact mp_iret ⟨⟨_, rfl, u30⟩, rfl⟩ dX7_isBetween_63 (Or.inr ⟨rfl, by decide⟩)
  · have c29 : (fv Po 310 t1.toInt.toNat).toInt > x11.toInt := ti_le_n c29
    refine mp_a (a_aload_n dX7_isBetween_47 rfl) (mpp 48 rfl ?_)
    refine mt_getU (i := 34) (k := 15) (A := 310) hT dX7_isBetween_48 rfl rl_301 (by decide) rfl (by decide) rfl un_26 (mpp 51 rfl ?_)
    refine mp_a (a_iload_n dX7_isBetween_51 rfl) (mpp 52 rfl ?_)
    refine mt_ial (n := 7) hT dX7_isBetween_52 rl_310 (by decide) rfl rfl (by omega) (by omega) rfl (fun g33 g34 => mpp 53 rfl ?_)
    refine mp_a (a_iload dX7_isBetween_53 rfl) (mpp 55 rfl ?_)
    refine mp_Tb (t := 62) (j_icmp_ge dX7_isBetween_55) (by decide) (fun c35 => ?_) (fun c35 => mpp 58 rfl ?_)
    · have c35 : (fv Po 310 t1.toInt.toNat).toInt ≥ x24.toInt := ti_ge c35
      refine mp_a (a_iconst (v := 0) dX7_isBetween_62 rfl) (mpp 63 rfl ?_)
      have w37_ : (fv Po 310 z3.toInt.toNat).toInt = (fv Po 310 (t2.toInt.toNat + 1)).toInt := by rw [show z3.toInt.toNat = t2.toInt.toNat + 1 from by omega]
      have w38_ : (fv Po 310 z16.toInt.toNat).toInt = (fv Po 310 (t2.toInt.toNat + 1)).toInt := by rw [show z16.toInt.toNat = t2.toInt.toNat + 1 from by omega]
      have u36 : 0 ≤ (0 : Int) ∧ (0 : Int) ≤ 1 ∧ (((0 : Int) = 1 ∧ BT (oM Po) t1.toInt.toNat t2.toInt.toNat) ∨ ((0 : Int) = 0 ∧ ¬ BT (oM Po) t1.toInt.toNat t2.toInt.toNat)) := ⟨by omega, by omega, Or.inr ⟨rfl, fun h => by have h : (min (fv Po 310 t2.toInt.toNat).toInt (fv Po 310 (t2.toInt.toNat + 1)).toInt < (fv Po 310 t1.toInt.toNat).toInt ∧ (fv Po 310 t1.toInt.toNat).toInt < max (fv Po 310 t2.toInt.toNat).toInt (fv Po 310 (t2.toInt.toNat + 1)).toInt) := h; omega⟩⟩
      exact mp_iret ⟨⟨_, rfl, u36⟩, rfl⟩ dX7_isBetween_63 (Or.inr ⟨rfl, by decide⟩)
    · have c35 : (fv Po 310 t1.toInt.toNat).toInt < x24.toInt := ti_ge_n c35
      refine mp_a (a_iconst (v := 1) dX7_isBetween_58 rfl) (mpp 59 rfl ?_)
      refine mp_a (a_goto (t := 63) dX7_isBetween_59 (by decide)) ?_
      have w40_ : (fv Po 310 z3.toInt.toNat).toInt = (fv Po 310 (t2.toInt.toNat + 1)).toInt := by rw [show z3.toInt.toNat = t2.toInt.toNat + 1 from by omega]
      have w41_ : (fv Po 310 z16.toInt.toNat).toInt = (fv Po 310 (t2.toInt.toNat + 1)).toInt := by rw [show z16.toInt.toNat = t2.toInt.toNat + 1 from by omega]
      have u39 : 0 ≤ (1 : Int) ∧ (1 : Int) ≤ 1 ∧ (((1 : Int) = 1 ∧ BT (oM Po) t1.toInt.toNat t2.toInt.toNat) ∨ ((1 : Int) = 0 ∧ ¬ BT (oM Po) t1.toInt.toNat t2.toInt.toNat)) := ⟨by omega, by omega, Or.inl ⟨rfl, (show (min (fv Po 310 t2.toInt.toNat).toInt (fv Po 310 (t2.toInt.toNat + 1)).toInt < (fv Po 310 t1.toInt.toNat).toInt ∧ (fv Po 310 t1.toInt.toNat).toInt < max (fv Po 310 t2.toInt.toNat).toInt (fv Po 310 (t2.toInt.toNat + 1)).toInt) from by omega)⟩⟩
      exact mp_iret ⟨⟨_, rfl, u39⟩, rfl⟩ dX7_isBetween_63 (Or.inr ⟨rfl, by decide⟩)

set_option maxHeartbeats 4000000 in
theorem c_M_collides_l59 {Po : mP} {t1 : Int32} (hT : Typ Po)  (hp0 : 0 ≤ t1.toInt) (hp1 : t1.toInt + 2 ≤ (fv Po 301 20).toInt) (hp2 : (fv Po 301 20).toInt ≤ 7)  : ∀ (n : Nat) (v2 : Int32), (0 ≤ v2.toInt) → (v2.toInt % 2 = t1.toInt % 2) → (∀ i : Nat, i < v2.toInt.toNat → i % 2 = t1.toInt.toNat % 2 → ¬ i = t1.toInt.toNat → ¬ CR1 (pM Po) (oM Po) t1.toInt.toNat i) → (¬ PIm (nM Po) (pM Po) (oM Po) t1.toInt.toNat) → (v2.toInt ≤ 9) → (2147483647 - v2.toInt).toNat = n → MEvP 2 none q_203 59 [(0, .ref 301), (1, .int t1), (2, .int v2)] [] Po 0 0 (fun r P' => (∃ x : Int32, r = some (.int x) ∧ (0 ≤ x.toInt ∧ x.toInt ≤ 1 ∧ ((x.toInt = 1 ∧ (PIm (nM Po) (pM Po) (oM Po) t1.toInt.toNat ∨ CRm (nM Po) (pM Po) (oM Po) t1.toInt.toNat)) ∨ (x.toInt = 0 ∧ ¬ (PIm (nM Po) (pM Po) (oM Po) t1.toInt.toNat ∨ CRm (nM Po) (pM Po) (oM Po) t1.toInt.toNat))))) ∧ P' = Po) := by
  intro n
  induction n using Nat.strongRecOn with | _ n ih => ?_
  intro v2 i_0 i_1 i_2 i_3 i_4 hm
  have w_t1 := ti_full t1
  have w_v2 := ti_full v2
  have g1 : (0 : Int) ≤ (fv Po 301 20).toInt ∧ (fv Po 301 20).toInt ≤ 8 := Typ.rng hT rl_301 (by decide) (by decide) rfl
  refine mp_a (a_iload_n dX7_collides_59 rfl) (mpp 60 rfl ?_)
  refine mp_a (a_aload_n dX7_collides_60 rfl) (mpp 61 rfl ?_)
  refine mt_getI (i := 255) (k := 20) hT dX7_collides_61 rfl rl_301 (by decide) rfl (by decide) rfl (fun g2 g3 => mpp 64 rfl ?_)
  refine mp_a (a_iconst (v := 1) dX7_collides_64 rfl) (mpp 65 rfl ?_)
  obtain ⟨z4, h5⟩ := ti_ex ((fv Po 301 20) - 1 : Int32)
  have wz4 := ti_full z4
  refine mp_t (s_isub (v := z4) dX7_collides_65 h5) (mpp 66 rfl ?_)
  try have e6 : z4.toInt = (fv Po 301 20).toInt - 1 := ti_subz h5 rfl rfl (by omega) (by omega)
  refine mp_Tb (t := 128) (j_icmp_ge dX7_collides_66) (by decide) (fun c7 => ?_) (fun c7 => mpp 69 rfl ?_)
  · have c7 : v2.toInt ≥ z4.toInt := ti_ge c7
    refine mp_a (a_iconst (v := 0) dX7_collides_128 rfl) (mpp 129 rfl ?_)
    have u8 : 0 ≤ (0 : Int) ∧ (0 : Int) ≤ 1 ∧ (((0 : Int) = 1 ∧ (PIm (nM Po) (pM Po) (oM Po) t1.toInt.toNat ∨ CRm (nM Po) (pM Po) (oM Po) t1.toInt.toNat)) ∨ ((0 : Int) = 0 ∧ ¬ (PIm (nM Po) (pM Po) (oM Po) t1.toInt.toNat ∨ CRm (nM Po) (pM Po) (oM Po) t1.toInt.toNat))) := ⟨by omega, by omega, Or.inr ⟨rfl, fun h => h.elim i_3 (fun ⟨i, h1, h2, h3, h4⟩ => i_2 i (by have h3 : i + 1 < (fv Po 301 20).toInt.toNat := h3; omega) h1 h2 h4)⟩⟩
    exact mp_iret ⟨⟨_, rfl, u8⟩, rfl⟩ dX7_collides_129 (Or.inr ⟨rfl, by decide⟩)
  · have c7 : v2.toInt < z4.toInt := ti_ge_n c7
    refine mp_a (a_iload_n dX7_collides_69 rfl) (mpp 70 rfl ?_)
    refine mp_a (a_iload_n dX7_collides_70 rfl) (mpp 71 rfl ?_)
    refine mp_Tb (t := 97) (j_icmp_eq dX7_collides_71) (by decide) (fun c9 => ?_) (fun c9 => mpp 74 rfl ?_)
    · have c9 : v2.toInt = t1.toInt := ti_eq c9
      refine mp_a (a_iconst (v := 0) dX7_collides_97 rfl) (mpp 98 rfl ?_)
      refine mp_a (a_istore_n (L' := [(3, .int 0), (0, .ref 301), (1, .int t1), (2, .int v2)]) dX7_collides_98 (by decide) rfl) (mpp 99 rfl ?_)
      refine mp_a (a_iload_n dX7_collides_99 rfl) (mpp 100 rfl ?_)
      refine mp_Tt (t := 122) (j_if_eq dX7_collides_100) (by decide) (by decide) ?_
      obtain ⟨z10, h11⟩ := ti_ex (v2 + 2 : Int32)
      have wz10 := ti_full z10
      refine mp_a (a_iinc (v := z10) (L' := [(2, .int z10), (3, .int 0), (0, .ref 301), (1, .int t1)]) dX7_collides_122 (by decide) rfl h11 rfl) (mpp 125 rfl ?_)
      try have e12 : z10.toInt = v2.toInt + 2 := ti_addz h11 rfl rfl (by omega) (by omega)
      refine mp_a (a_goto (t := 59) dX7_collides_125 (by decide)) ?_
      refine MEvP.less (L := [(0, .ref 301), (1, .int t1), (2, .int z10)]) rfl rfl ⟨rfl, rfl, rfl, trivial⟩ ?_
      have i13 : 0 ≤ z10.toInt := by omega
      have i14 : z10.toInt % 2 = t1.toInt % 2 := by omega
      have i15 : ∀ i : Nat, i < z10.toInt.toNat → i % 2 = t1.toInt.toNat % 2 → ¬ i = t1.toInt.toNat → ¬ CR1 (pM Po) (oM Po) t1.toInt.toNat i := fun i h1 h2 h3 => if e : i = v2.toInt.toNat then by subst e; exact (fun q => by have q1 : (fv Po 312 (v2.toInt.toNat + 1)).toInt = (fv Po 312 (t1.toInt.toNat + 1)).toInt := q.1; omega) else i_2 i (by omega) h2 h3
      have i16 : ¬ PIm (nM Po) (pM Po) (oM Po) t1.toInt.toNat := i_3
      have i17 : z10.toInt ≤ 9 := by omega
      exact ih _ (by omega) _ i13 i14 i15 i16 i17 rfl
    · have c9 : v2.toInt ≠ t1.toInt := ti_eq_n c9
      refine mp_a (a_aload_n dX7_collides_74 rfl) (mpp 75 rfl ?_)
      refine mt_getU (i := 40) (k := 17) (A := 312) hT dX7_collides_75 rfl rl_301 (by decide) rfl (by decide) rfl un_28 (mpp 78 rfl ?_)
      refine mp_a (a_iload_n dX7_collides_78 rfl) (mpp 79 rfl ?_)
      refine mp_a (a_iconst (v := 1) dX7_collides_79 rfl) (mpp 80 rfl ?_)
      obtain ⟨z18, h19⟩ := ti_ex (v2 + 1 : Int32)
      have wz18 := ti_full z18
      refine mp_t (s_iadd (v := z18) dX7_collides_80 h19) (mpp 81 rfl ?_)
      try have e20 : z18.toInt = v2.toInt + 1 := ti_addz h19 rfl rfl (by omega) (by omega)
      refine mt_ial (n := 8) hT dX7_collides_81 rl_312 (by decide) rfl rfl (by omega) (by omega) rfl (fun g21 g22 => mpp 82 rfl ?_)
      refine mp_a (a_aload_n dX7_collides_82 rfl) (mpp 83 rfl ?_)
      refine mt_getU (i := 40) (k := 17) (A := 312) hT dX7_collides_83 rfl rl_301 (by decide) rfl (by decide) rfl un_28 (mpp 86 rfl ?_)
      refine mp_a (a_iload_n dX7_collides_86 rfl) (mpp 87 rfl ?_)
      refine mp_a (a_iconst (v := 1) dX7_collides_87 rfl) (mpp 88 rfl ?_)
      obtain ⟨z23, h24⟩ := ti_ex (t1 + 1 : Int32)
      have wz23 := ti_full z23
      refine mp_t (s_iadd (v := z23) dX7_collides_88 h24) (mpp 89 rfl ?_)
      try have e25 : z23.toInt = t1.toInt + 1 := ti_addz h24 rfl rfl (by omega) (by omega)
      refine mt_ial (n := 8) hT dX7_collides_89 rl_312 (by decide) rfl rfl (by omega) (by omega) rfl (fun g26 g27 => mpp 90 rfl ?_)
      refine mp_Tb (t := 97) (j_icmp_ne dX7_collides_90) (by decide) (fun c28 => ?_) (fun c28 => mpp 93 rfl ?_)
      · have c28 : (fv Po 312 z18.toInt.toNat).toInt ≠ (fv Po 312 z23.toInt.toNat).toInt := ti_ne c28
        refine mp_a (a_iconst (v := 0) dX7_collides_97 rfl) (mpp 98 rfl ?_)
        refine mp_a (a_istore_n (L' := [(3, .int 0), (0, .ref 301), (1, .int t1), (2, .int v2)]) dX7_collides_98 (by decide) rfl) (mpp 99 rfl ?_)
        refine mp_a (a_iload_n dX7_collides_99 rfl) (mpp 100 rfl ?_)
        refine mp_Tt (t := 122) (j_if_eq dX7_collides_100) (by decide) (by decide) ?_
        obtain ⟨z29, h30⟩ := ti_ex (v2 + 2 : Int32)
        have wz29 := ti_full z29
        refine mp_a (a_iinc (v := z29) (L' := [(2, .int z29), (3, .int 0), (0, .ref 301), (1, .int t1)]) dX7_collides_122 (by decide) rfl h30 rfl) (mpp 125 rfl ?_)
        try have e31 : z29.toInt = v2.toInt + 2 := ti_addz h30 rfl rfl (by omega) (by omega)
        refine mp_a (a_goto (t := 59) dX7_collides_125 (by decide)) ?_
        refine MEvP.less (L := [(0, .ref 301), (1, .int t1), (2, .int z29)]) rfl rfl ⟨rfl, rfl, rfl, trivial⟩ ?_
        have i32 : 0 ≤ z29.toInt := by omega
        have i33 : z29.toInt % 2 = t1.toInt % 2 := by omega
        have w35_ : (fv Po 312 z18.toInt.toNat).toInt = (fv Po 312 (v2.toInt.toNat + 1)).toInt := by rw [show z18.toInt.toNat = v2.toInt.toNat + 1 from by omega]
        have w36_ : (fv Po 312 z23.toInt.toNat).toInt = (fv Po 312 (t1.toInt.toNat + 1)).toInt := by rw [show z23.toInt.toNat = t1.toInt.toNat + 1 from by omega]
        have i34 : ∀ i : Nat, i < z29.toInt.toNat → i % 2 = t1.toInt.toNat % 2 → ¬ i = t1.toInt.toNat → ¬ CR1 (pM Po) (oM Po) t1.toInt.toNat i := fun i h1 h2 h3 => if e : i = v2.toInt.toNat then by subst e; exact (fun q => by have q1 : (fv Po 312 (v2.toInt.toNat + 1)).toInt = (fv Po 312 (t1.toInt.toNat + 1)).toInt := q.1; omega) else i_2 i (by omega) h2 h3
        have i37 : ¬ PIm (nM Po) (pM Po) (oM Po) t1.toInt.toNat := i_3
        have i38 : z29.toInt ≤ 9 := by omega
        exact ih _ (by omega) _ i32 i33 i34 i37 i38 rfl
      · have c28 : (fv Po 312 z18.toInt.toNat).toInt = (fv Po 312 z23.toInt.toNat).toInt := ti_ne_n c28
        refine mp_a (a_iconst (v := 1) dX7_collides_93 rfl) (mpp 94 rfl ?_)
        refine mp_a (a_goto (t := 98) dX7_collides_94 (by decide)) ?_
        refine mp_a (a_istore_n (L' := [(3, .int 1), (0, .ref 301), (1, .int t1), (2, .int v2)]) dX7_collides_98 (by decide) rfl) (mpp 99 rfl ?_)
        refine mp_a (a_iload_n dX7_collides_99 rfl) (mpp 100 rfl ?_)
        refine mp_Tf (t := 122) (j_if_eq dX7_collides_100) (by decide) (by decide) (mpp 103 rfl ?_)
        refine mp_a (a_aload_n dX7_collides_103 rfl) (mpp 104 rfl ?_)
        refine mp_a (a_iload_n dX7_collides_104 rfl) (mpp 105 rfl ?_)
        refine mp_a (a_iload_n dX7_collides_105 rfl) (mpp 106 rfl ?_)
        have p39 : 0 ≤ v2.toInt := by omega
        have p40 : v2.toInt ≤ 6 := by omega
        have p41 : 0 ≤ t1.toInt := by omega
        have p42 : t1.toInt ≤ 5 := by omega
        refine mt_callv (i := 261) (q' := q_205) (As := [.int v2, .int t1]) (rest := []) hT dX7_collides_106 rfl qm_205 (by decide) rfl rl_301 (by decide) rfl (Nat.le_of_ble_eq_true rfl) rfl ⟨rfl, rfl⟩ ⟨Nat.le_of_ble_eq_true rfl, Nat.le_of_ble_eq_true rfl⟩ (EvP.mono (by decide) (c_M_isBetween hT p39 p40 p41 p42 )) (fun r43 P44 g45 => mpp 109 rfl ?_)
        obtain ⟨⟨x46, rfl, g47⟩, e48⟩ := g45
        have e48 := e48.symm
        subst e48
        have wx46 := ti_full x46
        replace g47 : 0 ≤ x46.toInt ∧ x46.toInt ≤ 1 ∧ ((x46.toInt = 1 ∧ BT (oM Po) v2.toInt.toNat t1.toInt.toNat) ∨ (x46.toInt = 0 ∧ ¬ BT (oM Po) v2.toInt.toNat t1.toInt.toNat)) := g47
        show MEvP _ none q_203 109 [(3, .int 1), (0, .ref 301), (1, .int t1), (2, .int v2)] [.int x46] _ _ _ _
        refine mp_a (a_aload_n dX7_collides_109 rfl) (mpp 110 rfl ?_)
        refine mp_a (a_iload_n dX7_collides_110 rfl) (mpp 111 rfl ?_)
        refine mp_a (a_iconst (v := 1) dX7_collides_111 rfl) (mpp 112 rfl ?_)
        obtain ⟨z49, h50⟩ := ti_ex (v2 + 1 : Int32)
        have wz49 := ti_full z49
        refine mp_t (s_iadd (v := z49) dX7_collides_112 h50) (mpp 113 rfl ?_)
        try have e51 : z49.toInt = v2.toInt + 1 := ti_addz h50 rfl rfl (by omega) (by omega)
        refine mp_a (a_iload_n dX7_collides_113 rfl) (mpp 114 rfl ?_)
        have p52 : 0 ≤ z49.toInt := by omega
        have p53 : z49.toInt ≤ 6 := by omega
        have p54 : 0 ≤ t1.toInt := by omega
        have p55 : t1.toInt ≤ 5 := by omega
        refine mt_callv (i := 261) (q' := q_205) (As := [.int z49, .int t1]) (rest := [.int x46]) hT dX7_collides_114 rfl qm_205 (by decide) rfl rl_301 (by decide) rfl (Nat.le_of_ble_eq_true rfl) rfl ⟨rfl, rfl⟩ ⟨Nat.le_of_ble_eq_true rfl, Nat.le_of_ble_eq_true rfl⟩ (EvP.mono (by decide) (c_M_isBetween hT p52 p53 p54 p55 )) (fun r56 P57 g58 => mpp 117 rfl ?_)
        obtain ⟨⟨x59, rfl, g60⟩, e61⟩ := g58
        have e61 := e61.symm
        subst e61
        have wx59 := ti_full x59
        replace g60 : 0 ≤ x59.toInt ∧ x59.toInt ≤ 1 ∧ ((x59.toInt = 1 ∧ BT (oM Po) z49.toInt.toNat t1.toInt.toNat) ∨ (x59.toInt = 0 ∧ ¬ BT (oM Po) z49.toInt.toNat t1.toInt.toNat)) := g60
        show MEvP _ none q_203 117 [(3, .int 1), (0, .ref 301), (1, .int t1), (2, .int v2)] [.int x59, .int x46] _ _ _ _
        refine mp_Tb (t := 122) (j_icmp_eq dX7_collides_117) (by decide) (fun c62 => ?_) (fun c62 => mpp 120 rfl ?_)
        · have c62 : x46.toInt = x59.toInt := ti_eq c62
          obtain ⟨z63, h64⟩ := ti_ex (v2 + 2 : Int32)
          have wz63 := ti_full z63
          refine mp_a (a_iinc (v := z63) (L' := [(2, .int z63), (3, .int 1), (0, .ref 301), (1, .int t1)]) dX7_collides_122 (by decide) rfl h64 rfl) (mpp 125 rfl ?_)
          try have e65 : z63.toInt = v2.toInt + 2 := ti_addz h64 rfl rfl (by omega) (by omega)
          refine mp_a (a_goto (t := 59) dX7_collides_125 (by decide)) ?_
          refine MEvP.less (L := [(0, .ref 301), (1, .int t1), (2, .int z63)]) rfl rfl ⟨rfl, rfl, rfl, trivial⟩ ?_
          have i66 : 0 ≤ z63.toInt := by omega
          have i67 : z63.toInt % 2 = t1.toInt % 2 := by omega
          have w69_ : (fv Po 312 z18.toInt.toNat).toInt = (fv Po 312 (v2.toInt.toNat + 1)).toInt := by rw [show z18.toInt.toNat = v2.toInt.toNat + 1 from by omega]
          have w70_ : (fv Po 312 z49.toInt.toNat).toInt = (fv Po 312 (v2.toInt.toNat + 1)).toInt := by rw [show z49.toInt.toNat = v2.toInt.toNat + 1 from by omega]
          have w71_ : (fv Po 312 z23.toInt.toNat).toInt = (fv Po 312 (t1.toInt.toNat + 1)).toInt := by rw [show z23.toInt.toNat = t1.toInt.toNat + 1 from by omega]
          have w72_ := g60
          rw [show z49.toInt.toNat = v2.toInt.toNat + 1 from by omega] at w72_
          have i68 : ∀ i : Nat, i < z63.toInt.toNat → i % 2 = t1.toInt.toNat % 2 → ¬ i = t1.toInt.toNat → ¬ CR1 (pM Po) (oM Po) t1.toInt.toNat i := fun i h1 h2 h3 => if e : i = v2.toInt.toNat then by subst e; exact (fun q => q.2 (bt_iff g47.2.2 w72_.2.2 (by omega))) else i_2 i (by omega) h2 h3
          have i73 : ¬ PIm (nM Po) (pM Po) (oM Po) t1.toInt.toNat := i_3
          have i74 : z63.toInt ≤ 9 := by omega
          exact ih _ (by omega) _ i66 i67 i68 i73 i74 rfl
        · have c62 : x46.toInt ≠ x59.toInt := ti_eq_n c62
          refine mp_a (a_iconst (v := 1) dX7_collides_120 rfl) (mpp 121 rfl ?_)
          have w76_ : (fv Po 312 z18.toInt.toNat).toInt = (fv Po 312 (v2.toInt.toNat + 1)).toInt := by rw [show z18.toInt.toNat = v2.toInt.toNat + 1 from by omega]
          have w77_ : (fv Po 312 z49.toInt.toNat).toInt = (fv Po 312 (v2.toInt.toNat + 1)).toInt := by rw [show z49.toInt.toNat = v2.toInt.toNat + 1 from by omega]
          have w78_ : (fv Po 312 z23.toInt.toNat).toInt = (fv Po 312 (t1.toInt.toNat + 1)).toInt := by rw [show z23.toInt.toNat = t1.toInt.toNat + 1 from by omega]
          have w79_ := g60
          rw [show z49.toInt.toNat = v2.toInt.toNat + 1 from by omega] at w79_
          have u75 : 0 ≤ (1 : Int) ∧ (1 : Int) ≤ 1 ∧ (((1 : Int) = 1 ∧ (PIm (nM Po) (pM Po) (oM Po) t1.toInt.toNat ∨ CRm (nM Po) (pM Po) (oM Po) t1.toInt.toNat)) ∨ ((1 : Int) = 0 ∧ ¬ (PIm (nM Po) (pM Po) (oM Po) t1.toInt.toNat ∨ CRm (nM Po) (pM Po) (oM Po) t1.toInt.toNat))) := ⟨by omega, by omega, Or.inl ⟨rfl, Or.inr ⟨v2.toInt.toNat, by omega, by omega, (show v2.toInt.toNat + 1 < (fv Po 301 20).toInt.toNat from by omega), (show (fv Po 312 (v2.toInt.toNat + 1)).toInt = (fv Po 312 (t1.toInt.toNat + 1)).toInt from by omega), bt_niff g47.2.2 w79_.2.2 (by omega)⟩⟩⟩
          exact mp_iret ⟨⟨_, rfl, u75⟩, rfl⟩ dX7_collides_121 (Or.inr ⟨rfl, by decide⟩)

