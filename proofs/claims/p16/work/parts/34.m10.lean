/-! methods on typed pools, 10 (written by a program) -/
set_option maxHeartbeats 4000000 in
theorem c_CP_sum_NPiece_l4 {Po : mP} {a0_ : Nat} (hT : Typ Po) (hX : XR Po)  (ha0 : rl a0_ = 33) : ∀ (n : Nat) (v1 : Int32) (v2 : Int32), (v1 = smF (fun j : Nat => fv Po (a0_ + 1) j) v2.toInt.toNat) → (v2.toInt ≤ (fv Po a0_ 1).toInt) → (0 ≤ v2.toInt) → (2147483647 - v2.toInt).toNat = n → MEvP 1 none q_23 4 [(0, .ref a0_), (1, .int v1), (2, .int v2)] [] Po 0 0 (fun r P' => (∃ x : Int32, r = some (.int x) ∧ (x.toInt = (smF (fun j : Nat => fv Po (a0_ + 1) j) (fv Po a0_ 1).toInt.toNat).toInt)) ∧ P' = Po) := by
  intro n
  induction n using Nat.strongRecOn with | _ n ih => ?_
  intro v1 v2 i_0 i_1 i_2 hm
  have w1 := np_ar ha0
  have w_v1 := ti_full v1
  have w_v2 := ti_full v2
  have g2 : (0 : Int) ≤ (fv Po a0_ 1).toInt ∧ (fv Po a0_ 1).toInt ≤ 8 := Typ.rng hT ha0 (by decide) (by decide) rfl
  refine mp_a (a_iload_n dX2_sum_4 rfl) (mpp 5 rfl ?_)
  refine mp_a (a_aload_n dX2_sum_5 rfl) (mpp 6 rfl ?_)
  refine mt_getI (i := 26) (k := 1) hT dX2_sum_6 rfl ha0 (by decide) rfl (by decide) rfl (fun g3 g4 => mpp 9 rfl ?_)
  refine mp_Tb (t := 29) (j_icmp_ge dX2_sum_9) (by decide) (fun c5 => ?_) (fun c5 => mpp 12 rfl ?_)
  · have c5 : v2.toInt ≥ (fv Po a0_ 1).toInt := ti_ge c5
    refine mp_a (a_iload_n dX2_sum_29 rfl) (mpp 30 rfl ?_)
    have u6 : v1.toInt = (smF (fun j : Nat => fv Po (a0_ + 1) j) (fv Po a0_ 1).toInt.toNat).toInt := congrArg Int32.toInt (i_0.trans (congrArg (smF _) (by omega)))
    exact mp_iret ⟨⟨_, rfl, u6⟩, rfl⟩ dX2_sum_30 (Or.inl rfl)
  · have c5 : v2.toInt < (fv Po a0_ 1).toInt := ti_ge_n c5
    refine mp_a (a_iload_n dX2_sum_12 rfl) (mpp 13 rfl ?_)
    refine mp_a (a_aload_n dX2_sum_13 rfl) (mpp 14 rfl ?_)
    refine mt_getE (i := 9) (k := 3) hT dX2_sum_14 rfl ha0 (by decide) rfl (by decide) rfl (hX.1 a0_ (Or.inr ha0)).1 (fun q7 => mpp 17 rfl ?_)
    refine mp_a (a_iload_n dX2_sum_17 rfl) (mpp 18 rfl ?_)
    refine mp_calls (i := 48) (q' := q_12) (As := [.ref (a0_ + 1), .int v2]) (rest := [.int v1]) dX2_sum_18 rfl qm_12 (by decide) rfl (Nat.le_of_ble_eq_true rfl) rfl ⟨rfl, rfl⟩ ⟨Nat.le_of_ble_eq_true rfl, Nat.le_of_ble_eq_true rfl⟩ (EvP.mono (by decide) (c_F_at_sizes hT hX q7)) (fun r8 P9 g10 => mpp 21 rfl ?_)
    obtain ⟨⟨x11, rfl, g12⟩, e13⟩ := g10
    have e13 := e13.symm
    subst e13
    have wx11 := ti_full x11
    replace g12 : (0 ≤ v2.toInt ∧ v2.toInt ≤ 7 ∧ x11.toInt = (fv Po (a0_ + 1) v2.toInt.toNat).toInt) ∨ ((v2.toInt < 0 ∨ 8 ≤ v2.toInt) ∧ x11.toInt = 0) := g12
    try replace g12 : x11.toInt = (fv Po (a0_ + 1) v2.toInt.toNat).toInt := (g12.resolve_right (by omega)).2.2
    show MEvP _ none q_23 21 [(0, .ref a0_), (1, .int v1), (2, .int v2)] [.int x11, .int v1] _ _ _ _
    obtain ⟨z14, h15⟩ := ti_ex (v1 + x11 : Int32)
    have wz14 := ti_full z14
    refine mp_t (s_iadd (v := z14) dX2_sum_21 h15) (mpp 22 rfl ?_)
    try have e16 : z14.toInt = v1.toInt + x11.toInt := ti_addz h15 rfl rfl (by omega) (by omega)
    refine mp_a (a_istore_n (L' := [(1, .int z14), (0, .ref a0_), (2, .int v2)]) dX2_sum_22 (by decide) rfl) (mpp 23 rfl ?_)
    obtain ⟨z17, h18⟩ := ti_ex (v2 + 1 : Int32)
    have wz17 := ti_full z17
    refine mp_a (a_iinc (v := z17) (L' := [(2, .int z17), (1, .int z14), (0, .ref a0_)]) dX2_sum_23 (by decide) rfl h18 rfl) (mpp 26 rfl ?_)
    try have e19 : z17.toInt = v2.toInt + 1 := ti_addz h18 rfl rfl (by omega) (by omega)
    refine mp_a (a_goto (t := 4) dX2_sum_26 (by decide)) ?_
    refine MEvP.less (L := [(0, .ref a0_), (1, .int z14), (2, .int z17)]) rfl rfl ⟨rfl, rfl, rfl, trivial⟩ ?_
    have i20 : z14 = smF (fun j : Nat => fv Po (a0_ + 1) j) z17.toInt.toNat := smF.step i_0 (by omega) (by show _ = (fv Po (a0_ + 1) v2.toInt.toNat).toInt; omega) h15
    have i21 : z17.toInt ≤ (fv Po a0_ 1).toInt := by omega
    have i22 : 0 ≤ z17.toInt := by omega
    exact ih _ (by omega) _ _ i20 i21 i22 rfl

set_option maxHeartbeats 4000000 in
theorem c_CP_sum_NPiece {Po : mP} {a0_ : Nat} (hT : Typ Po) (hX : XR Po)  (ha0 : rl a0_ = 33) : EvP 2 23 [.ref a0_] Po (fun r P' => (∃ x : Int32, r = some (.int x) ∧ (x.toInt = (smF (fun j : Nat => fv Po (a0_ + 1) j) (fv Po a0_ 1).toInt.toNat).toInt)) ∧ P' = Po) := by
  refine EvP.of qm_23 (Nat.le_of_ble_eq_true rfl) rfl ?_
  show MEvP _ none q_23 0 [(0, .ref a0_)] [] _ 0 0 _
  have w1 := np_ar ha0
  have g2 : (0 : Int) ≤ (fv Po a0_ 1).toInt ∧ (fv Po a0_ 1).toInt ≤ 8 := Typ.rng hT ha0 (by decide) (by decide) rfl
  refine mp_a (a_iconst (v := 0) dX2_sum_0 rfl) (mpp 1 rfl ?_)
  refine mp_a (a_istore_n (L' := [(1, .int 0), (0, .ref a0_)]) dX2_sum_1 (by decide) rfl) (mpp 2 rfl ?_)
  refine mp_a (a_iconst (v := 0) dX2_sum_2 rfl) (mpp 3 rfl ?_)
  refine mp_a (a_istore_n (L' := [(2, .int 0), (1, .int 0), (0, .ref a0_)]) dX2_sum_3 (by decide) rfl) (mpp 4 rfl ?_)
  refine MEvP.less (L := [(0, .ref a0_), (1, .int 0), (2, .int 0)]) rfl rfl ⟨rfl, rfl, rfl, trivial⟩ ?_
  have i3 : 0 = smF (fun j : Nat => fv Po (a0_ + 1) j) (0 : Int).toNat := rfl
  have i4 : (0 : Int) ≤ (fv Po a0_ 1).toInt := by omega
  have i5 : 0 ≤ (0 : Int) := by omega
  exact c_CP_sum_NPiece_l4 hT hX  ha0 _ _ _ i3 i4 i5 rfl

set_option maxHeartbeats 4000000 in
theorem c_F_piece {Po : mP} {t1 : Int32} {t2 : Int32} (hT : Typ Po) (hX : XR Po)   : EvP 4 58 [.ref 0, .int t1, .int t2] Po (fun r P' => (∃ x : Int32, r = some (.int x) ∧ (pieceC Po x.toInt t1.toInt t2.toInt)) ∧ P' = Po) := by
  refine EvP.of qm_58 (Nat.le_of_ble_eq_true rfl) rfl ?_
  show MEvP _ none q_58 0 [(0, .ref 0), (1, .int t1), (2, .int t2)] [] _ 0 0 _
  have w_t1 := ti_full t1
  have w_t2 := ti_full t2
  refine mp_a (a_aload_n dX6_piece_0 rfl) (mpp 1 rfl ?_)
  refine mt_getU (i := 10) (k := 0) (A := 1) hT dX6_piece_1 rfl rl_0 (by decide) rfl (by decide) rfl un_31 (mpp 4 rfl ?_)
  refine mp_a (a_iload_n dX6_piece_4 rfl) (mpp 5 rfl ?_)
  refine mt_callv (i := 94) (q' := q_9) (As := [.int t1]) (rest := []) hT dX6_piece_5 rfl qm_9 (by decide) rfl rl_1 (by decide) rfl (Nat.le_of_ble_eq_true rfl) rfl ⟨rfl, rfl⟩ ⟨Nat.le_of_ble_eq_true rfl, Nat.le_of_ble_eq_true rfl⟩ (EvP.mono (by decide) (c_CS_pieceAt_NState hT hX )) (fun r1 P2 g3 => mpp 8 rfl ?_)
  obtain ⟨g3, e4⟩ := g3
  have e4 := e4.symm
  subst e4
  rcases g3 with ⟨rfl, q6n⟩ | ⟨b5, rfl, q6, q6r⟩
  · show MEvP _ none q_58 8 [(0, .ref 0), (1, .int t1), (2, .int t2)] [.null] _ _ _ _
    replace q6n : t1.toInt < 0 ∨ (fv Po 1 1).toInt ≤ t1.toInt ∨ 8 ≤ t1.toInt := q6n
    have g7 : (0 : Int) ≤ (fv Po 1 1).toInt ∧ (fv Po 1 1).toInt ≤ 8 := Typ.rng hT rl_1 (by decide) (by decide) rfl
    refine mp_a (a_astore_nN (L' := [(3, .null), (0, .ref 0), (1, .int t1), (2, .int t2)]) dX6_piece_8 (by decide) rfl) (mpp 9 rfl ?_)
    refine mp_a (a_aload_nN dX6_piece_9 rfl) (mpp 10 rfl ?_)
    refine mp_t (s_ifnonnullN dX6_piece_10) (mpp 13 rfl ?_)
    refine mp_a (a_sipush (v := -1001) dX6_piece_13 rfl) (mpp 16 rfl ?_)
    have u8 : pieceC Po (-1001 : Int) t1.toInt t2.toInt := (show ((-1001 : Int) = -1001 ∧ (t1.toInt < 0 ∨ (fv Po 1 1).toInt ≤ t1.toInt ∨ 8 ≤ t1.toInt)) ∨ ((0 ≤ t1.toInt ∧ t1.toInt + 1 ≤ (fv Po 1 1).toInt ∧ t1.toInt ≤ 7) ∧ t2.toInt = 0 ∧ (-1001 : Int) = (fv Po (rv Po 2 t1.toInt.toNat) 0).toInt) ∨ ((0 ≤ t1.toInt ∧ t1.toInt + 1 ≤ (fv Po 1 1).toInt ∧ t1.toInt ≤ 7) ∧ t2.toInt = 1 ∧ (-1001 : Int) = (fv Po (rv Po 2 t1.toInt.toNat) 1).toInt) ∨ ((0 ≤ t1.toInt ∧ t1.toInt + 1 ≤ (fv Po 1 1).toInt ∧ t1.toInt ≤ 7) ∧ t2.toInt = 2 ∧ (((fv Po (rv Po 2 t1.toInt.toNat) 0).toInt = 0 ∧ (-1001 : Int) = (fv Po (rv Po 2 t1.toInt.toNat) 1).toInt - 1) ∨ ((fv Po (rv Po 2 t1.toInt.toNat) 0).toInt ≠ 0 ∧ (-1001 : Int) = (fv Po (rv Po 2 t1.toInt.toNat) 1).toInt))) ∨ ((0 ≤ t1.toInt ∧ t1.toInt + 1 ≤ (fv Po 1 1).toInt ∧ t1.toInt ≤ 7) ∧ t2.toInt = 3 ∧ (-1001 : Int) = cntF (fun j : Nat => fv Po ((rv Po 2 t1.toInt.toNat) + 2) j) 1 (nC (fv Po (rv Po 2 t1.toInt.toNat) 0).toInt (fv Po (rv Po 2 t1.toInt.toNat) 1).toInt)) ∨ ((0 ≤ t1.toInt ∧ t1.toInt + 1 ≤ (fv Po 1 1).toInt ∧ t1.toInt ≤ 7) ∧ t2.toInt = 4 ∧ (-1001 : Int) = cntF (fun j : Nat => fv Po ((rv Po 2 t1.toInt.toNat) + 2) j) 2 (nC (fv Po (rv Po 2 t1.toInt.toNat) 0).toInt (fv Po (rv Po 2 t1.toInt.toNat) 1).toInt)) ∨ ((0 ≤ t1.toInt ∧ t1.toInt + 1 ≤ (fv Po 1 1).toInt ∧ t1.toInt ≤ 7) ∧ t2.toInt = 5 ∧ (-1001 : Int) = cntF (fun j : Nat => fv Po ((rv Po 2 t1.toInt.toNat) + 2) j) 0 (nC (fv Po (rv Po 2 t1.toInt.toNat) 0).toInt (fv Po (rv Po 2 t1.toInt.toNat) 1).toInt)) ∨ ((0 ≤ t1.toInt ∧ t1.toInt + 1 ≤ (fv Po 1 1).toInt ∧ t1.toInt ≤ 7) ∧ t2.toInt = 6 ∧ (-1001 : Int) = (smF (fun j : Nat => fv Po ((rv Po 2 t1.toInt.toNat) + 1) j) (fv Po (rv Po 2 t1.toInt.toNat) 1).toInt.toNat).toInt) ∨ ((0 ≤ t1.toInt ∧ t1.toInt + 1 ≤ (fv Po 1 1).toInt ∧ t1.toInt ≤ 7) ∧ t2.toInt = 7 ∧ (-1001 : Int) = (fv Po (rv Po 2 t1.toInt.toNat) 2).toInt) ∨ ((0 ≤ t1.toInt ∧ t1.toInt + 1 ≤ (fv Po 1 1).toInt ∧ t1.toInt ≤ 7) ∧ t2.toInt = 8 ∧ (-1001 : Int) = (wdF (fv Po (rv Po 2 t1.toInt.toNat) 0).toInt (fun j : Nat => fv Po ((rv Po 2 t1.toInt.toNat) + 1) j) (fv Po (rv Po 2 t1.toInt.toNat) 1).toInt.toNat).toInt) ∨ ((0 ≤ t1.toInt ∧ t1.toInt + 1 ≤ (fv Po 1 1).toInt ∧ t1.toInt ≤ 7) ∧ (t2.toInt < 0 ∨ 8 < t2.toInt) ∧ (-1001 : Int) = -1002) from by exact Or.inl (⟨by omega, by omega⟩))
    exact mp_iret ⟨⟨_, rfl, u8⟩, rfl⟩ dX6_piece_16 (Or.inl rfl)
  · show MEvP _ none q_58 8 [(0, .ref 0), (1, .int t1), (2, .int t2)] [.ref b5] _ _ _ _
    replace q6r : 0 ≤ t1.toInt ∧ t1.toInt ≤ 7 ∧ t1.toInt + 1 ≤ (fv Po 1 1).toInt ∧ rv Po 2 t1.toInt.toNat = b5 := q6r
    have g9 : (0 : Int) ≤ (fv Po 1 1).toInt ∧ (fv Po 1 1).toInt ≤ 8 := Typ.rng hT rl_1 (by decide) (by decide) rfl
    have w10 := np_ar q6
    refine mp_a (a_astore_n (L' := [(3, .ref b5), (0, .ref 0), (1, .int t1), (2, .int t2)]) dX6_piece_8 (by decide) rfl) (mpp 9 rfl ?_)
    refine mp_a (a_aload_n dX6_piece_9 rfl) (mpp 10 rfl ?_)
    refine mp_t (s_ifnonnullR (t := 17) dX6_piece_10 (by decide)) ?_
    refine mp_a (a_iload_n dX6_piece_17 rfl) (mpp 18 rfl ?_)
    have c11 : (t2.toInt < 0 ∨ 8 < t2.toInt) ∨ t2.toInt = 0 ∨ t2.toInt = 1 ∨ t2.toInt = 2 ∨ t2.toInt = 3 ∨ t2.toInt = 4 ∨ t2.toInt = 5 ∨ t2.toInt = 6 ∨ t2.toInt = 7 ∨ t2.toInt = 8 := by omega
    rcases c11 with c11 | c11 | c11 | c11 | c11 | c11 | c11 | c11 | c11 | c11
    · refine mp_t (s_tabOut (t := 124) dX6_piece_18 c11 (by decide)) ?_
      refine mp_a (a_sipush (v := -1002) dX6_piece_124 rfl) (mpp 127 rfl ?_)
      have u12 : pieceC Po (-1002 : Int) t1.toInt t2.toInt := (show ((-1002 : Int) = -1001 ∧ (t1.toInt < 0 ∨ (fv Po 1 1).toInt ≤ t1.toInt ∨ 8 ≤ t1.toInt)) ∨ ((0 ≤ t1.toInt ∧ t1.toInt + 1 ≤ (fv Po 1 1).toInt ∧ t1.toInt ≤ 7) ∧ t2.toInt = 0 ∧ (-1002 : Int) = (fv Po (rv Po 2 t1.toInt.toNat) 0).toInt) ∨ ((0 ≤ t1.toInt ∧ t1.toInt + 1 ≤ (fv Po 1 1).toInt ∧ t1.toInt ≤ 7) ∧ t2.toInt = 1 ∧ (-1002 : Int) = (fv Po (rv Po 2 t1.toInt.toNat) 1).toInt) ∨ ((0 ≤ t1.toInt ∧ t1.toInt + 1 ≤ (fv Po 1 1).toInt ∧ t1.toInt ≤ 7) ∧ t2.toInt = 2 ∧ (((fv Po (rv Po 2 t1.toInt.toNat) 0).toInt = 0 ∧ (-1002 : Int) = (fv Po (rv Po 2 t1.toInt.toNat) 1).toInt - 1) ∨ ((fv Po (rv Po 2 t1.toInt.toNat) 0).toInt ≠ 0 ∧ (-1002 : Int) = (fv Po (rv Po 2 t1.toInt.toNat) 1).toInt))) ∨ ((0 ≤ t1.toInt ∧ t1.toInt + 1 ≤ (fv Po 1 1).toInt ∧ t1.toInt ≤ 7) ∧ t2.toInt = 3 ∧ (-1002 : Int) = cntF (fun j : Nat => fv Po ((rv Po 2 t1.toInt.toNat) + 2) j) 1 (nC (fv Po (rv Po 2 t1.toInt.toNat) 0).toInt (fv Po (rv Po 2 t1.toInt.toNat) 1).toInt)) ∨ ((0 ≤ t1.toInt ∧ t1.toInt + 1 ≤ (fv Po 1 1).toInt ∧ t1.toInt ≤ 7) ∧ t2.toInt = 4 ∧ (-1002 : Int) = cntF (fun j : Nat => fv Po ((rv Po 2 t1.toInt.toNat) + 2) j) 2 (nC (fv Po (rv Po 2 t1.toInt.toNat) 0).toInt (fv Po (rv Po 2 t1.toInt.toNat) 1).toInt)) ∨ ((0 ≤ t1.toInt ∧ t1.toInt + 1 ≤ (fv Po 1 1).toInt ∧ t1.toInt ≤ 7) ∧ t2.toInt = 5 ∧ (-1002 : Int) = cntF (fun j : Nat => fv Po ((rv Po 2 t1.toInt.toNat) + 2) j) 0 (nC (fv Po (rv Po 2 t1.toInt.toNat) 0).toInt (fv Po (rv Po 2 t1.toInt.toNat) 1).toInt)) ∨ ((0 ≤ t1.toInt ∧ t1.toInt + 1 ≤ (fv Po 1 1).toInt ∧ t1.toInt ≤ 7) ∧ t2.toInt = 6 ∧ (-1002 : Int) = (smF (fun j : Nat => fv Po ((rv Po 2 t1.toInt.toNat) + 1) j) (fv Po (rv Po 2 t1.toInt.toNat) 1).toInt.toNat).toInt) ∨ ((0 ≤ t1.toInt ∧ t1.toInt + 1 ≤ (fv Po 1 1).toInt ∧ t1.toInt ≤ 7) ∧ t2.toInt = 7 ∧ (-1002 : Int) = (fv Po (rv Po 2 t1.toInt.toNat) 2).toInt) ∨ ((0 ≤ t1.toInt ∧ t1.toInt + 1 ≤ (fv Po 1 1).toInt ∧ t1.toInt ≤ 7) ∧ t2.toInt = 8 ∧ (-1002 : Int) = (wdF (fv Po (rv Po 2 t1.toInt.toNat) 0).toInt (fun j : Nat => fv Po ((rv Po 2 t1.toInt.toNat) + 1) j) (fv Po (rv Po 2 t1.toInt.toNat) 1).toInt.toNat).toInt) ∨ ((0 ≤ t1.toInt ∧ t1.toInt + 1 ≤ (fv Po 1 1).toInt ∧ t1.toInt ≤ 7) ∧ (t2.toInt < 0 ∨ 8 < t2.toInt) ∧ (-1002 : Int) = -1002) from by rw [q6r.2.2.2]; exact Or.inr (Or.inr (Or.inr (Or.inr (Or.inr (Or.inr (Or.inr (Or.inr (Or.inr (Or.inr (⟨by omega, by omega, by omega⟩)))))))))))
      exact mp_iret ⟨⟨_, rfl, u12⟩, rfl⟩ dX6_piece_127 (Or.inl rfl)
    · refine mp_t (s_tabIn (t := 68) (off := 50) dX6_piece_18 (by omega) (by rw [c11]; rfl) (by decide)) ?_
      refine mp_a (a_aload_n dX6_piece_68 rfl) (mpp 69 rfl ?_)
      have g13 := ti_full (fv Po b5 0)
      refine mt_getI (i := 130) (k := 0) hT dX6_piece_69 rfl q6 (by decide) rfl (by decide) rfl (fun g14 g15 => mpp 72 rfl ?_)
      have u16 : pieceC Po (fv Po b5 0).toInt t1.toInt t2.toInt := (show ((fv Po b5 0).toInt = -1001 ∧ (t1.toInt < 0 ∨ (fv Po 1 1).toInt ≤ t1.toInt ∨ 8 ≤ t1.toInt)) ∨ ((0 ≤ t1.toInt ∧ t1.toInt + 1 ≤ (fv Po 1 1).toInt ∧ t1.toInt ≤ 7) ∧ t2.toInt = 0 ∧ (fv Po b5 0).toInt = (fv Po (rv Po 2 t1.toInt.toNat) 0).toInt) ∨ ((0 ≤ t1.toInt ∧ t1.toInt + 1 ≤ (fv Po 1 1).toInt ∧ t1.toInt ≤ 7) ∧ t2.toInt = 1 ∧ (fv Po b5 0).toInt = (fv Po (rv Po 2 t1.toInt.toNat) 1).toInt) ∨ ((0 ≤ t1.toInt ∧ t1.toInt + 1 ≤ (fv Po 1 1).toInt ∧ t1.toInt ≤ 7) ∧ t2.toInt = 2 ∧ (((fv Po (rv Po 2 t1.toInt.toNat) 0).toInt = 0 ∧ (fv Po b5 0).toInt = (fv Po (rv Po 2 t1.toInt.toNat) 1).toInt - 1) ∨ ((fv Po (rv Po 2 t1.toInt.toNat) 0).toInt ≠ 0 ∧ (fv Po b5 0).toInt = (fv Po (rv Po 2 t1.toInt.toNat) 1).toInt))) ∨ ((0 ≤ t1.toInt ∧ t1.toInt + 1 ≤ (fv Po 1 1).toInt ∧ t1.toInt ≤ 7) ∧ t2.toInt = 3 ∧ (fv Po b5 0).toInt = cntF (fun j : Nat => fv Po ((rv Po 2 t1.toInt.toNat) + 2) j) 1 (nC (fv Po (rv Po 2 t1.toInt.toNat) 0).toInt (fv Po (rv Po 2 t1.toInt.toNat) 1).toInt)) ∨ ((0 ≤ t1.toInt ∧ t1.toInt + 1 ≤ (fv Po 1 1).toInt ∧ t1.toInt ≤ 7) ∧ t2.toInt = 4 ∧ (fv Po b5 0).toInt = cntF (fun j : Nat => fv Po ((rv Po 2 t1.toInt.toNat) + 2) j) 2 (nC (fv Po (rv Po 2 t1.toInt.toNat) 0).toInt (fv Po (rv Po 2 t1.toInt.toNat) 1).toInt)) ∨ ((0 ≤ t1.toInt ∧ t1.toInt + 1 ≤ (fv Po 1 1).toInt ∧ t1.toInt ≤ 7) ∧ t2.toInt = 5 ∧ (fv Po b5 0).toInt = cntF (fun j : Nat => fv Po ((rv Po 2 t1.toInt.toNat) + 2) j) 0 (nC (fv Po (rv Po 2 t1.toInt.toNat) 0).toInt (fv Po (rv Po 2 t1.toInt.toNat) 1).toInt)) ∨ ((0 ≤ t1.toInt ∧ t1.toInt + 1 ≤ (fv Po 1 1).toInt ∧ t1.toInt ≤ 7) ∧ t2.toInt = 6 ∧ (fv Po b5 0).toInt = (smF (fun j : Nat => fv Po ((rv Po 2 t1.toInt.toNat) + 1) j) (fv Po (rv Po 2 t1.toInt.toNat) 1).toInt.toNat).toInt) ∨ ((0 ≤ t1.toInt ∧ t1.toInt + 1 ≤ (fv Po 1 1).toInt ∧ t1.toInt ≤ 7) ∧ t2.toInt = 7 ∧ (fv Po b5 0).toInt = (fv Po (rv Po 2 t1.toInt.toNat) 2).toInt) ∨ ((0 ≤ t1.toInt ∧ t1.toInt + 1 ≤ (fv Po 1 1).toInt ∧ t1.toInt ≤ 7) ∧ t2.toInt = 8 ∧ (fv Po b5 0).toInt = (wdF (fv Po (rv Po 2 t1.toInt.toNat) 0).toInt (fun j : Nat => fv Po ((rv Po 2 t1.toInt.toNat) + 1) j) (fv Po (rv Po 2 t1.toInt.toNat) 1).toInt.toNat).toInt) ∨ ((0 ≤ t1.toInt ∧ t1.toInt + 1 ≤ (fv Po 1 1).toInt ∧ t1.toInt ≤ 7) ∧ (t2.toInt < 0 ∨ 8 < t2.toInt) ∧ (fv Po b5 0).toInt = -1002) from by rw [q6r.2.2.2]; exact Or.inr (Or.inl (⟨by omega, by omega, by omega⟩)))
      exact mp_iret ⟨⟨_, rfl, u16⟩, rfl⟩ dX6_piece_72 (Or.inl rfl)
    · refine mp_t (s_tabIn (t := 73) (off := 55) dX6_piece_18 (by omega) (by rw [c11]; rfl) (by decide)) ?_
      refine mp_a (a_aload_n dX6_piece_73 rfl) (mpp 74 rfl ?_)
      have g17 : (0 : Int) ≤ (fv Po b5 1).toInt ∧ (fv Po b5 1).toInt ≤ 8 := Typ.rng hT q6 (by decide) (by decide) rfl
      refine mt_getI (i := 143) (k := 1) hT dX6_piece_74 rfl q6 (by decide) rfl (by decide) rfl (fun g18 g19 => mpp 77 rfl ?_)
      have u20 : pieceC Po (fv Po b5 1).toInt t1.toInt t2.toInt := (show ((fv Po b5 1).toInt = -1001 ∧ (t1.toInt < 0 ∨ (fv Po 1 1).toInt ≤ t1.toInt ∨ 8 ≤ t1.toInt)) ∨ ((0 ≤ t1.toInt ∧ t1.toInt + 1 ≤ (fv Po 1 1).toInt ∧ t1.toInt ≤ 7) ∧ t2.toInt = 0 ∧ (fv Po b5 1).toInt = (fv Po (rv Po 2 t1.toInt.toNat) 0).toInt) ∨ ((0 ≤ t1.toInt ∧ t1.toInt + 1 ≤ (fv Po 1 1).toInt ∧ t1.toInt ≤ 7) ∧ t2.toInt = 1 ∧ (fv Po b5 1).toInt = (fv Po (rv Po 2 t1.toInt.toNat) 1).toInt) ∨ ((0 ≤ t1.toInt ∧ t1.toInt + 1 ≤ (fv Po 1 1).toInt ∧ t1.toInt ≤ 7) ∧ t2.toInt = 2 ∧ (((fv Po (rv Po 2 t1.toInt.toNat) 0).toInt = 0 ∧ (fv Po b5 1).toInt = (fv Po (rv Po 2 t1.toInt.toNat) 1).toInt - 1) ∨ ((fv Po (rv Po 2 t1.toInt.toNat) 0).toInt ≠ 0 ∧ (fv Po b5 1).toInt = (fv Po (rv Po 2 t1.toInt.toNat) 1).toInt))) ∨ ((0 ≤ t1.toInt ∧ t1.toInt + 1 ≤ (fv Po 1 1).toInt ∧ t1.toInt ≤ 7) ∧ t2.toInt = 3 ∧ (fv Po b5 1).toInt = cntF (fun j : Nat => fv Po ((rv Po 2 t1.toInt.toNat) + 2) j) 1 (nC (fv Po (rv Po 2 t1.toInt.toNat) 0).toInt (fv Po (rv Po 2 t1.toInt.toNat) 1).toInt)) ∨ ((0 ≤ t1.toInt ∧ t1.toInt + 1 ≤ (fv Po 1 1).toInt ∧ t1.toInt ≤ 7) ∧ t2.toInt = 4 ∧ (fv Po b5 1).toInt = cntF (fun j : Nat => fv Po ((rv Po 2 t1.toInt.toNat) + 2) j) 2 (nC (fv Po (rv Po 2 t1.toInt.toNat) 0).toInt (fv Po (rv Po 2 t1.toInt.toNat) 1).toInt)) ∨ ((0 ≤ t1.toInt ∧ t1.toInt + 1 ≤ (fv Po 1 1).toInt ∧ t1.toInt ≤ 7) ∧ t2.toInt = 5 ∧ (fv Po b5 1).toInt = cntF (fun j : Nat => fv Po ((rv Po 2 t1.toInt.toNat) + 2) j) 0 (nC (fv Po (rv Po 2 t1.toInt.toNat) 0).toInt (fv Po (rv Po 2 t1.toInt.toNat) 1).toInt)) ∨ ((0 ≤ t1.toInt ∧ t1.toInt + 1 ≤ (fv Po 1 1).toInt ∧ t1.toInt ≤ 7) ∧ t2.toInt = 6 ∧ (fv Po b5 1).toInt = (smF (fun j : Nat => fv Po ((rv Po 2 t1.toInt.toNat) + 1) j) (fv Po (rv Po 2 t1.toInt.toNat) 1).toInt.toNat).toInt) ∨ ((0 ≤ t1.toInt ∧ t1.toInt + 1 ≤ (fv Po 1 1).toInt ∧ t1.toInt ≤ 7) ∧ t2.toInt = 7 ∧ (fv Po b5 1).toInt = (fv Po (rv Po 2 t1.toInt.toNat) 2).toInt) ∨ ((0 ≤ t1.toInt ∧ t1.toInt + 1 ≤ (fv Po 1 1).toInt ∧ t1.toInt ≤ 7) ∧ t2.toInt = 8 ∧ (fv Po b5 1).toInt = (wdF (fv Po (rv Po 2 t1.toInt.toNat) 0).toInt (fun j : Nat => fv Po ((rv Po 2 t1.toInt.toNat) + 1) j) (fv Po (rv Po 2 t1.toInt.toNat) 1).toInt.toNat).toInt) ∨ ((0 ≤ t1.toInt ∧ t1.toInt + 1 ≤ (fv Po 1 1).toInt ∧ t1.toInt ≤ 7) ∧ (t2.toInt < 0 ∨ 8 < t2.toInt) ∧ (fv Po b5 1).toInt = -1002) from by rw [q6r.2.2.2]; exact Or.inr (Or.inr (Or.inl (⟨by omega, by omega, by omega⟩))))
      exact mp_iret ⟨⟨_, rfl, u20⟩, rfl⟩ dX6_piece_77 (Or.inl rfl)
    · refine mp_t (s_tabIn (t := 78) (off := 60) dX6_piece_18 (by omega) (by rw [c11]; rfl) (by decide)) ?_
      refine mp_a (a_aload_n dX6_piece_78 rfl) (mpp 79 rfl ?_)
      refine mt_callv (i := 123) (q' := q_25) (As := []) (rest := []) hT dX6_piece_79 rfl qm_25 (by decide) rfl q6 (by decide) rfl (Nat.le_of_ble_eq_true rfl) rfl ⟨rfl, rfl⟩ ⟨Nat.le_of_ble_eq_true rfl, Nat.le_of_ble_eq_true rfl⟩ (EvP.mono (by decide) (c_CP_creaseCount_NPiece hT hX q6)) (fun r21 P22 g23 => mpp 82 rfl ?_)
      obtain ⟨⟨x24, rfl, g25⟩, e26⟩ := g23
      have e26 := e26.symm
      subst e26
      have wx24 := ti_full x24
      replace g25 : -1 ≤ x24.toInt ∧ x24.toInt ≤ (fv Po b5 1).toInt ∧ (((fv Po b5 0).toInt = 0 ∧ x24.toInt = (fv Po b5 1).toInt - 1) ∨ ((fv Po b5 0).toInt ≠ 0 ∧ x24.toInt = (fv Po b5 1).toInt)) := g25
      have g27 : (0 : Int) ≤ (fv Po b5 1).toInt ∧ (fv Po b5 1).toInt ≤ 8 := Typ.rng hT q6 (by decide) (by decide) rfl
      have g28 := ti_full (fv Po b5 0)
      show MEvP _ none q_58 82 [(3, .ref b5), (0, .ref 0), (1, .int t1), (2, .int t2)] [.int x24] _ _ _ _
      have u29 : pieceC Po x24.toInt t1.toInt t2.toInt := (show (x24.toInt = -1001 ∧ (t1.toInt < 0 ∨ (fv Po 1 1).toInt ≤ t1.toInt ∨ 8 ≤ t1.toInt)) ∨ ((0 ≤ t1.toInt ∧ t1.toInt + 1 ≤ (fv Po 1 1).toInt ∧ t1.toInt ≤ 7) ∧ t2.toInt = 0 ∧ x24.toInt = (fv Po (rv Po 2 t1.toInt.toNat) 0).toInt) ∨ ((0 ≤ t1.toInt ∧ t1.toInt + 1 ≤ (fv Po 1 1).toInt ∧ t1.toInt ≤ 7) ∧ t2.toInt = 1 ∧ x24.toInt = (fv Po (rv Po 2 t1.toInt.toNat) 1).toInt) ∨ ((0 ≤ t1.toInt ∧ t1.toInt + 1 ≤ (fv Po 1 1).toInt ∧ t1.toInt ≤ 7) ∧ t2.toInt = 2 ∧ (((fv Po (rv Po 2 t1.toInt.toNat) 0).toInt = 0 ∧ x24.toInt = (fv Po (rv Po 2 t1.toInt.toNat) 1).toInt - 1) ∨ ((fv Po (rv Po 2 t1.toInt.toNat) 0).toInt ≠ 0 ∧ x24.toInt = (fv Po (rv Po 2 t1.toInt.toNat) 1).toInt))) ∨ ((0 ≤ t1.toInt ∧ t1.toInt + 1 ≤ (fv Po 1 1).toInt ∧ t1.toInt ≤ 7) ∧ t2.toInt = 3 ∧ x24.toInt = cntF (fun j : Nat => fv Po ((rv Po 2 t1.toInt.toNat) + 2) j) 1 (nC (fv Po (rv Po 2 t1.toInt.toNat) 0).toInt (fv Po (rv Po 2 t1.toInt.toNat) 1).toInt)) ∨ ((0 ≤ t1.toInt ∧ t1.toInt + 1 ≤ (fv Po 1 1).toInt ∧ t1.toInt ≤ 7) ∧ t2.toInt = 4 ∧ x24.toInt = cntF (fun j : Nat => fv Po ((rv Po 2 t1.toInt.toNat) + 2) j) 2 (nC (fv Po (rv Po 2 t1.toInt.toNat) 0).toInt (fv Po (rv Po 2 t1.toInt.toNat) 1).toInt)) ∨ ((0 ≤ t1.toInt ∧ t1.toInt + 1 ≤ (fv Po 1 1).toInt ∧ t1.toInt ≤ 7) ∧ t2.toInt = 5 ∧ x24.toInt = cntF (fun j : Nat => fv Po ((rv Po 2 t1.toInt.toNat) + 2) j) 0 (nC (fv Po (rv Po 2 t1.toInt.toNat) 0).toInt (fv Po (rv Po 2 t1.toInt.toNat) 1).toInt)) ∨ ((0 ≤ t1.toInt ∧ t1.toInt + 1 ≤ (fv Po 1 1).toInt ∧ t1.toInt ≤ 7) ∧ t2.toInt = 6 ∧ x24.toInt = (smF (fun j : Nat => fv Po ((rv Po 2 t1.toInt.toNat) + 1) j) (fv Po (rv Po 2 t1.toInt.toNat) 1).toInt.toNat).toInt) ∨ ((0 ≤ t1.toInt ∧ t1.toInt + 1 ≤ (fv Po 1 1).toInt ∧ t1.toInt ≤ 7) ∧ t2.toInt = 7 ∧ x24.toInt = (fv Po (rv Po 2 t1.toInt.toNat) 2).toInt) ∨ ((0 ≤ t1.toInt ∧ t1.toInt + 1 ≤ (fv Po 1 1).toInt ∧ t1.toInt ≤ 7) ∧ t2.toInt = 8 ∧ x24.toInt = (wdF (fv Po (rv Po 2 t1.toInt.toNat) 0).toInt (fun j : Nat => fv Po ((rv Po 2 t1.toInt.toNat) + 1) j) (fv Po (rv Po 2 t1.toInt.toNat) 1).toInt.toNat).toInt) ∨ ((0 ≤ t1.toInt ∧ t1.toInt + 1 ≤ (fv Po 1 1).toInt ∧ t1.toInt ≤ 7) ∧ (t2.toInt < 0 ∨ 8 < t2.toInt) ∧ x24.toInt = -1002) from by rw [q6r.2.2.2]; exact Or.inr (Or.inr (Or.inr (Or.inl (⟨by omega, by omega, by omega⟩)))))
      exact mp_iret ⟨⟨_, rfl, u29⟩, rfl⟩ dX6_piece_82 (Or.inl rfl)
    · refine mp_t (s_tabIn (t := 83) (off := 65) dX6_piece_18 (by omega) (by rw [c11]; rfl) (by decide)) ?_
      refine mp_a (a_aload_n dX6_piece_83 rfl) (mpp 84 rfl ?_)
      refine mp_a (a_iconst (v := 1) dX6_piece_84 rfl) (mpp 85 rfl ?_)
      refine mt_callv (i := 126) (q' := q_32) (As := [.int 1]) (rest := []) hT dX6_piece_85 rfl qm_32 (by decide) rfl q6 (by decide) rfl (Nat.le_of_ble_eq_true rfl) rfl ⟨rfl, rfl⟩ ⟨Nat.le_of_ble_eq_true rfl, Nat.le_of_ble_eq_true rfl⟩ (EvP.mono (by decide) (c_CP_countOf_NPiece hT hX q6)) (fun r30 P31 g32 => mpp 88 rfl ?_)
      obtain ⟨⟨x33, rfl, g34⟩, e35⟩ := g32
      have e35 := e35.symm
      subst e35
      have wx33 := ti_full x33
      replace g34 : 0 ≤ x33.toInt ∧ x33.toInt ≤ 8 ∧ x33.toInt = cntF (fun j : Nat => fv Po (b5 + 2) j) (1 : Int) (nC (fv Po b5 0).toInt (fv Po b5 1).toInt) := g34
      have g36 := ti_full (fv Po b5 0)
      have g37 : (0 : Int) ≤ (fv Po b5 1).toInt ∧ (fv Po b5 1).toInt ≤ 8 := Typ.rng hT q6 (by decide) (by decide) rfl
      show MEvP _ none q_58 88 [(3, .ref b5), (0, .ref 0), (1, .int t1), (2, .int t2)] [.int x33] _ _ _ _
      have u38 : pieceC Po x33.toInt t1.toInt t2.toInt := (show (x33.toInt = -1001 ∧ (t1.toInt < 0 ∨ (fv Po 1 1).toInt ≤ t1.toInt ∨ 8 ≤ t1.toInt)) ∨ ((0 ≤ t1.toInt ∧ t1.toInt + 1 ≤ (fv Po 1 1).toInt ∧ t1.toInt ≤ 7) ∧ t2.toInt = 0 ∧ x33.toInt = (fv Po (rv Po 2 t1.toInt.toNat) 0).toInt) ∨ ((0 ≤ t1.toInt ∧ t1.toInt + 1 ≤ (fv Po 1 1).toInt ∧ t1.toInt ≤ 7) ∧ t2.toInt = 1 ∧ x33.toInt = (fv Po (rv Po 2 t1.toInt.toNat) 1).toInt) ∨ ((0 ≤ t1.toInt ∧ t1.toInt + 1 ≤ (fv Po 1 1).toInt ∧ t1.toInt ≤ 7) ∧ t2.toInt = 2 ∧ (((fv Po (rv Po 2 t1.toInt.toNat) 0).toInt = 0 ∧ x33.toInt = (fv Po (rv Po 2 t1.toInt.toNat) 1).toInt - 1) ∨ ((fv Po (rv Po 2 t1.toInt.toNat) 0).toInt ≠ 0 ∧ x33.toInt = (fv Po (rv Po 2 t1.toInt.toNat) 1).toInt))) ∨ ((0 ≤ t1.toInt ∧ t1.toInt + 1 ≤ (fv Po 1 1).toInt ∧ t1.toInt ≤ 7) ∧ t2.toInt = 3 ∧ x33.toInt = cntF (fun j : Nat => fv Po ((rv Po 2 t1.toInt.toNat) + 2) j) 1 (nC (fv Po (rv Po 2 t1.toInt.toNat) 0).toInt (fv Po (rv Po 2 t1.toInt.toNat) 1).toInt)) ∨ ((0 ≤ t1.toInt ∧ t1.toInt + 1 ≤ (fv Po 1 1).toInt ∧ t1.toInt ≤ 7) ∧ t2.toInt = 4 ∧ x33.toInt = cntF (fun j : Nat => fv Po ((rv Po 2 t1.toInt.toNat) + 2) j) 2 (nC (fv Po (rv Po 2 t1.toInt.toNat) 0).toInt (fv Po (rv Po 2 t1.toInt.toNat) 1).toInt)) ∨ ((0 ≤ t1.toInt ∧ t1.toInt + 1 ≤ (fv Po 1 1).toInt ∧ t1.toInt ≤ 7) ∧ t2.toInt = 5 ∧ x33.toInt = cntF (fun j : Nat => fv Po ((rv Po 2 t1.toInt.toNat) + 2) j) 0 (nC (fv Po (rv Po 2 t1.toInt.toNat) 0).toInt (fv Po (rv Po 2 t1.toInt.toNat) 1).toInt)) ∨ ((0 ≤ t1.toInt ∧ t1.toInt + 1 ≤ (fv Po 1 1).toInt ∧ t1.toInt ≤ 7) ∧ t2.toInt = 6 ∧ x33.toInt = (smF (fun j : Nat => fv Po ((rv Po 2 t1.toInt.toNat) + 1) j) (fv Po (rv Po 2 t1.toInt.toNat) 1).toInt.toNat).toInt) ∨ ((0 ≤ t1.toInt ∧ t1.toInt + 1 ≤ (fv Po 1 1).toInt ∧ t1.toInt ≤ 7) ∧ t2.toInt = 7 ∧ x33.toInt = (fv Po (rv Po 2 t1.toInt.toNat) 2).toInt) ∨ ((0 ≤ t1.toInt ∧ t1.toInt + 1 ≤ (fv Po 1 1).toInt ∧ t1.toInt ≤ 7) ∧ t2.toInt = 8 ∧ x33.toInt = (wdF (fv Po (rv Po 2 t1.toInt.toNat) 0).toInt (fun j : Nat => fv Po ((rv Po 2 t1.toInt.toNat) + 1) j) (fv Po (rv Po 2 t1.toInt.toNat) 1).toInt.toNat).toInt) ∨ ((0 ≤ t1.toInt ∧ t1.toInt + 1 ≤ (fv Po 1 1).toInt ∧ t1.toInt ≤ 7) ∧ (t2.toInt < 0 ∨ 8 < t2.toInt) ∧ x33.toInt = -1002) from by rw [q6r.2.2.2]; exact Or.inr (Or.inr (Or.inr (Or.inr (Or.inl (⟨by omega, by omega, g34.2.2⟩))))))
      exact mp_iret ⟨⟨_, rfl, u38⟩, rfl⟩ dX6_piece_88 (Or.inl rfl)
    · refine mp_t (s_tabIn (t := 89) (off := 71) dX6_piece_18 (by omega) (by rw [c11]; rfl) (by decide)) ?_
      refine mp_a (a_aload_n dX6_piece_89 rfl) (mpp 90 rfl ?_)
      refine mp_a (a_iconst (v := 2) dX6_piece_90 rfl) (mpp 91 rfl ?_)
      refine mt_callv (i := 126) (q' := q_32) (As := [.int 2]) (rest := []) hT dX6_piece_91 rfl qm_32 (by decide) rfl q6 (by decide) rfl (Nat.le_of_ble_eq_true rfl) rfl ⟨rfl, rfl⟩ ⟨Nat.le_of_ble_eq_true rfl, Nat.le_of_ble_eq_true rfl⟩ (EvP.mono (by decide) (c_CP_countOf_NPiece hT hX q6)) (fun r39 P40 g41 => mpp 94 rfl ?_)
      obtain ⟨⟨x42, rfl, g43⟩, e44⟩ := g41
      have e44 := e44.symm
      subst e44
      have wx42 := ti_full x42
      replace g43 : 0 ≤ x42.toInt ∧ x42.toInt ≤ 8 ∧ x42.toInt = cntF (fun j : Nat => fv Po (b5 + 2) j) (2 : Int) (nC (fv Po b5 0).toInt (fv Po b5 1).toInt) := g43
      have g45 := ti_full (fv Po b5 0)
      have g46 : (0 : Int) ≤ (fv Po b5 1).toInt ∧ (fv Po b5 1).toInt ≤ 8 := Typ.rng hT q6 (by decide) (by decide) rfl
      show MEvP _ none q_58 94 [(3, .ref b5), (0, .ref 0), (1, .int t1), (2, .int t2)] [.int x42] _ _ _ _
      have u47 : pieceC Po x42.toInt t1.toInt t2.toInt := (show (x42.toInt = -1001 ∧ (t1.toInt < 0 ∨ (fv Po 1 1).toInt ≤ t1.toInt ∨ 8 ≤ t1.toInt)) ∨ ((0 ≤ t1.toInt ∧ t1.toInt + 1 ≤ (fv Po 1 1).toInt ∧ t1.toInt ≤ 7) ∧ t2.toInt = 0 ∧ x42.toInt = (fv Po (rv Po 2 t1.toInt.toNat) 0).toInt) ∨ ((0 ≤ t1.toInt ∧ t1.toInt + 1 ≤ (fv Po 1 1).toInt ∧ t1.toInt ≤ 7) ∧ t2.toInt = 1 ∧ x42.toInt = (fv Po (rv Po 2 t1.toInt.toNat) 1).toInt) ∨ ((0 ≤ t1.toInt ∧ t1.toInt + 1 ≤ (fv Po 1 1).toInt ∧ t1.toInt ≤ 7) ∧ t2.toInt = 2 ∧ (((fv Po (rv Po 2 t1.toInt.toNat) 0).toInt = 0 ∧ x42.toInt = (fv Po (rv Po 2 t1.toInt.toNat) 1).toInt - 1) ∨ ((fv Po (rv Po 2 t1.toInt.toNat) 0).toInt ≠ 0 ∧ x42.toInt = (fv Po (rv Po 2 t1.toInt.toNat) 1).toInt))) ∨ ((0 ≤ t1.toInt ∧ t1.toInt + 1 ≤ (fv Po 1 1).toInt ∧ t1.toInt ≤ 7) ∧ t2.toInt = 3 ∧ x42.toInt = cntF (fun j : Nat => fv Po ((rv Po 2 t1.toInt.toNat) + 2) j) 1 (nC (fv Po (rv Po 2 t1.toInt.toNat) 0).toInt (fv Po (rv Po 2 t1.toInt.toNat) 1).toInt)) ∨ ((0 ≤ t1.toInt ∧ t1.toInt + 1 ≤ (fv Po 1 1).toInt ∧ t1.toInt ≤ 7) ∧ t2.toInt = 4 ∧ x42.toInt = cntF (fun j : Nat => fv Po ((rv Po 2 t1.toInt.toNat) + 2) j) 2 (nC (fv Po (rv Po 2 t1.toInt.toNat) 0).toInt (fv Po (rv Po 2 t1.toInt.toNat) 1).toInt)) ∨ ((0 ≤ t1.toInt ∧ t1.toInt + 1 ≤ (fv Po 1 1).toInt ∧ t1.toInt ≤ 7) ∧ t2.toInt = 5 ∧ x42.toInt = cntF (fun j : Nat => fv Po ((rv Po 2 t1.toInt.toNat) + 2) j) 0 (nC (fv Po (rv Po 2 t1.toInt.toNat) 0).toInt (fv Po (rv Po 2 t1.toInt.toNat) 1).toInt)) ∨ ((0 ≤ t1.toInt ∧ t1.toInt + 1 ≤ (fv Po 1 1).toInt ∧ t1.toInt ≤ 7) ∧ t2.toInt = 6 ∧ x42.toInt = (smF (fun j : Nat => fv Po ((rv Po 2 t1.toInt.toNat) + 1) j) (fv Po (rv Po 2 t1.toInt.toNat) 1).toInt.toNat).toInt) ∨ ((0 ≤ t1.toInt ∧ t1.toInt + 1 ≤ (fv Po 1 1).toInt ∧ t1.toInt ≤ 7) ∧ t2.toInt = 7 ∧ x42.toInt = (fv Po (rv Po 2 t1.toInt.toNat) 2).toInt) ∨ ((0 ≤ t1.toInt ∧ t1.toInt + 1 ≤ (fv Po 1 1).toInt ∧ t1.toInt ≤ 7) ∧ t2.toInt = 8 ∧ x42.toInt = (wdF (fv Po (rv Po 2 t1.toInt.toNat) 0).toInt (fun j : Nat => fv Po ((rv Po 2 t1.toInt.toNat) + 1) j) (fv Po (rv Po 2 t1.toInt.toNat) 1).toInt.toNat).toInt) ∨ ((0 ≤ t1.toInt ∧ t1.toInt + 1 ≤ (fv Po 1 1).toInt ∧ t1.toInt ≤ 7) ∧ (t2.toInt < 0 ∨ 8 < t2.toInt) ∧ x42.toInt = -1002) from by rw [q6r.2.2.2]; exact Or.inr (Or.inr (Or.inr (Or.inr (Or.inr (Or.inl (⟨by omega, by omega, g43.2.2⟩)))))))
      exact mp_iret ⟨⟨_, rfl, u47⟩, rfl⟩ dX6_piece_94 (Or.inl rfl)
    · refine mp_t (s_tabIn (t := 95) (off := 77) dX6_piece_18 (by omega) (by rw [c11]; rfl) (by decide)) ?_
      refine mp_a (a_aload_n dX6_piece_95 rfl) (mpp 96 rfl ?_)
      refine mp_a (a_iconst (v := 0) dX6_piece_96 rfl) (mpp 97 rfl ?_)
      refine mt_callv (i := 126) (q' := q_32) (As := [.int 0]) (rest := []) hT dX6_piece_97 rfl qm_32 (by decide) rfl q6 (by decide) rfl (Nat.le_of_ble_eq_true rfl) rfl ⟨rfl, rfl⟩ ⟨Nat.le_of_ble_eq_true rfl, Nat.le_of_ble_eq_true rfl⟩ (EvP.mono (by decide) (c_CP_countOf_NPiece hT hX q6)) (fun r48 P49 g50 => mpp 100 rfl ?_)
      obtain ⟨⟨x51, rfl, g52⟩, e53⟩ := g50
      have e53 := e53.symm
      subst e53
      have wx51 := ti_full x51
      replace g52 : 0 ≤ x51.toInt ∧ x51.toInt ≤ 8 ∧ x51.toInt = cntF (fun j : Nat => fv Po (b5 + 2) j) (0 : Int) (nC (fv Po b5 0).toInt (fv Po b5 1).toInt) := g52
      have g54 := ti_full (fv Po b5 0)
      have g55 : (0 : Int) ≤ (fv Po b5 1).toInt ∧ (fv Po b5 1).toInt ≤ 8 := Typ.rng hT q6 (by decide) (by decide) rfl
      show MEvP _ none q_58 100 [(3, .ref b5), (0, .ref 0), (1, .int t1), (2, .int t2)] [.int x51] _ _ _ _
      have u56 : pieceC Po x51.toInt t1.toInt t2.toInt := (show (x51.toInt = -1001 ∧ (t1.toInt < 0 ∨ (fv Po 1 1).toInt ≤ t1.toInt ∨ 8 ≤ t1.toInt)) ∨ ((0 ≤ t1.toInt ∧ t1.toInt + 1 ≤ (fv Po 1 1).toInt ∧ t1.toInt ≤ 7) ∧ t2.toInt = 0 ∧ x51.toInt = (fv Po (rv Po 2 t1.toInt.toNat) 0).toInt) ∨ ((0 ≤ t1.toInt ∧ t1.toInt + 1 ≤ (fv Po 1 1).toInt ∧ t1.toInt ≤ 7) ∧ t2.toInt = 1 ∧ x51.toInt = (fv Po (rv Po 2 t1.toInt.toNat) 1).toInt) ∨ ((0 ≤ t1.toInt ∧ t1.toInt + 1 ≤ (fv Po 1 1).toInt ∧ t1.toInt ≤ 7) ∧ t2.toInt = 2 ∧ (((fv Po (rv Po 2 t1.toInt.toNat) 0).toInt = 0 ∧ x51.toInt = (fv Po (rv Po 2 t1.toInt.toNat) 1).toInt - 1) ∨ ((fv Po (rv Po 2 t1.toInt.toNat) 0).toInt ≠ 0 ∧ x51.toInt = (fv Po (rv Po 2 t1.toInt.toNat) 1).toInt))) ∨ ((0 ≤ t1.toInt ∧ t1.toInt + 1 ≤ (fv Po 1 1).toInt ∧ t1.toInt ≤ 7) ∧ t2.toInt = 3 ∧ x51.toInt = cntF (fun j : Nat => fv Po ((rv Po 2 t1.toInt.toNat) + 2) j) 1 (nC (fv Po (rv Po 2 t1.toInt.toNat) 0).toInt (fv Po (rv Po 2 t1.toInt.toNat) 1).toInt)) ∨ ((0 ≤ t1.toInt ∧ t1.toInt + 1 ≤ (fv Po 1 1).toInt ∧ t1.toInt ≤ 7) ∧ t2.toInt = 4 ∧ x51.toInt = cntF (fun j : Nat => fv Po ((rv Po 2 t1.toInt.toNat) + 2) j) 2 (nC (fv Po (rv Po 2 t1.toInt.toNat) 0).toInt (fv Po (rv Po 2 t1.toInt.toNat) 1).toInt)) ∨ ((0 ≤ t1.toInt ∧ t1.toInt + 1 ≤ (fv Po 1 1).toInt ∧ t1.toInt ≤ 7) ∧ t2.toInt = 5 ∧ x51.toInt = cntF (fun j : Nat => fv Po ((rv Po 2 t1.toInt.toNat) + 2) j) 0 (nC (fv Po (rv Po 2 t1.toInt.toNat) 0).toInt (fv Po (rv Po 2 t1.toInt.toNat) 1).toInt)) ∨ ((0 ≤ t1.toInt ∧ t1.toInt + 1 ≤ (fv Po 1 1).toInt ∧ t1.toInt ≤ 7) ∧ t2.toInt = 6 ∧ x51.toInt = (smF (fun j : Nat => fv Po ((rv Po 2 t1.toInt.toNat) + 1) j) (fv Po (rv Po 2 t1.toInt.toNat) 1).toInt.toNat).toInt) ∨ ((0 ≤ t1.toInt ∧ t1.toInt + 1 ≤ (fv Po 1 1).toInt ∧ t1.toInt ≤ 7) ∧ t2.toInt = 7 ∧ x51.toInt = (fv Po (rv Po 2 t1.toInt.toNat) 2).toInt) ∨ ((0 ≤ t1.toInt ∧ t1.toInt + 1 ≤ (fv Po 1 1).toInt ∧ t1.toInt ≤ 7) ∧ t2.toInt = 8 ∧ x51.toInt = (wdF (fv Po (rv Po 2 t1.toInt.toNat) 0).toInt (fun j : Nat => fv Po ((rv Po 2 t1.toInt.toNat) + 1) j) (fv Po (rv Po 2 t1.toInt.toNat) 1).toInt.toNat).toInt) ∨ ((0 ≤ t1.toInt ∧ t1.toInt + 1 ≤ (fv Po 1 1).toInt ∧ t1.toInt ≤ 7) ∧ (t2.toInt < 0 ∨ 8 < t2.toInt) ∧ x51.toInt = -1002) from by rw [q6r.2.2.2]; exact Or.inr (Or.inr (Or.inr (Or.inr (Or.inr (Or.inr (Or.inl (⟨by omega, by omega, g52.2.2⟩))))))))
      exact mp_iret ⟨⟨_, rfl, u56⟩, rfl⟩ dX6_piece_100 (Or.inl rfl)
    · refine mp_t (s_tabIn (t := 101) (off := 83) dX6_piece_18 (by omega) (by rw [c11]; rfl) (by decide)) ?_
      refine mp_a (a_aload_n dX6_piece_101 rfl) (mpp 102 rfl ?_)
      refine mt_callv (i := 175) (q' := q_23) (As := []) (rest := []) hT dX6_piece_102 rfl qm_23 (by decide) rfl q6 (by decide) rfl (Nat.le_of_ble_eq_true rfl) rfl ⟨rfl, rfl⟩ ⟨Nat.le_of_ble_eq_true rfl, Nat.le_of_ble_eq_true rfl⟩ (EvP.mono (by decide) (c_CP_sum_NPiece hT hX q6)) (fun r57 P58 g59 => mpp 105 rfl ?_)
      obtain ⟨⟨x60, rfl, g61⟩, e62⟩ := g59
      have e62 := e62.symm
      subst e62
      have wx60 := ti_full x60
      replace g61 : x60.toInt = (smF (fun j : Nat => fv Po (b5 + 1) j) (fv Po b5 1).toInt.toNat).toInt := g61
      have g63 : (0 : Int) ≤ (fv Po b5 1).toInt ∧ (fv Po b5 1).toInt ≤ 8 := Typ.rng hT q6 (by decide) (by decide) rfl
      show MEvP _ none q_58 105 [(3, .ref b5), (0, .ref 0), (1, .int t1), (2, .int t2)] [.int x60] _ _ _ _
      have u64 : pieceC Po x60.toInt t1.toInt t2.toInt := (show (x60.toInt = -1001 ∧ (t1.toInt < 0 ∨ (fv Po 1 1).toInt ≤ t1.toInt ∨ 8 ≤ t1.toInt)) ∨ ((0 ≤ t1.toInt ∧ t1.toInt + 1 ≤ (fv Po 1 1).toInt ∧ t1.toInt ≤ 7) ∧ t2.toInt = 0 ∧ x60.toInt = (fv Po (rv Po 2 t1.toInt.toNat) 0).toInt) ∨ ((0 ≤ t1.toInt ∧ t1.toInt + 1 ≤ (fv Po 1 1).toInt ∧ t1.toInt ≤ 7) ∧ t2.toInt = 1 ∧ x60.toInt = (fv Po (rv Po 2 t1.toInt.toNat) 1).toInt) ∨ ((0 ≤ t1.toInt ∧ t1.toInt + 1 ≤ (fv Po 1 1).toInt ∧ t1.toInt ≤ 7) ∧ t2.toInt = 2 ∧ (((fv Po (rv Po 2 t1.toInt.toNat) 0).toInt = 0 ∧ x60.toInt = (fv Po (rv Po 2 t1.toInt.toNat) 1).toInt - 1) ∨ ((fv Po (rv Po 2 t1.toInt.toNat) 0).toInt ≠ 0 ∧ x60.toInt = (fv Po (rv Po 2 t1.toInt.toNat) 1).toInt))) ∨ ((0 ≤ t1.toInt ∧ t1.toInt + 1 ≤ (fv Po 1 1).toInt ∧ t1.toInt ≤ 7) ∧ t2.toInt = 3 ∧ x60.toInt = cntF (fun j : Nat => fv Po ((rv Po 2 t1.toInt.toNat) + 2) j) 1 (nC (fv Po (rv Po 2 t1.toInt.toNat) 0).toInt (fv Po (rv Po 2 t1.toInt.toNat) 1).toInt)) ∨ ((0 ≤ t1.toInt ∧ t1.toInt + 1 ≤ (fv Po 1 1).toInt ∧ t1.toInt ≤ 7) ∧ t2.toInt = 4 ∧ x60.toInt = cntF (fun j : Nat => fv Po ((rv Po 2 t1.toInt.toNat) + 2) j) 2 (nC (fv Po (rv Po 2 t1.toInt.toNat) 0).toInt (fv Po (rv Po 2 t1.toInt.toNat) 1).toInt)) ∨ ((0 ≤ t1.toInt ∧ t1.toInt + 1 ≤ (fv Po 1 1).toInt ∧ t1.toInt ≤ 7) ∧ t2.toInt = 5 ∧ x60.toInt = cntF (fun j : Nat => fv Po ((rv Po 2 t1.toInt.toNat) + 2) j) 0 (nC (fv Po (rv Po 2 t1.toInt.toNat) 0).toInt (fv Po (rv Po 2 t1.toInt.toNat) 1).toInt)) ∨ ((0 ≤ t1.toInt ∧ t1.toInt + 1 ≤ (fv Po 1 1).toInt ∧ t1.toInt ≤ 7) ∧ t2.toInt = 6 ∧ x60.toInt = (smF (fun j : Nat => fv Po ((rv Po 2 t1.toInt.toNat) + 1) j) (fv Po (rv Po 2 t1.toInt.toNat) 1).toInt.toNat).toInt) ∨ ((0 ≤ t1.toInt ∧ t1.toInt + 1 ≤ (fv Po 1 1).toInt ∧ t1.toInt ≤ 7) ∧ t2.toInt = 7 ∧ x60.toInt = (fv Po (rv Po 2 t1.toInt.toNat) 2).toInt) ∨ ((0 ≤ t1.toInt ∧ t1.toInt + 1 ≤ (fv Po 1 1).toInt ∧ t1.toInt ≤ 7) ∧ t2.toInt = 8 ∧ x60.toInt = (wdF (fv Po (rv Po 2 t1.toInt.toNat) 0).toInt (fun j : Nat => fv Po ((rv Po 2 t1.toInt.toNat) + 1) j) (fv Po (rv Po 2 t1.toInt.toNat) 1).toInt.toNat).toInt) ∨ ((0 ≤ t1.toInt ∧ t1.toInt + 1 ≤ (fv Po 1 1).toInt ∧ t1.toInt ≤ 7) ∧ (t2.toInt < 0 ∨ 8 < t2.toInt) ∧ x60.toInt = -1002) from by rw [q6r.2.2.2]; exact Or.inr (Or.inr (Or.inr (Or.inr (Or.inr (Or.inr (Or.inr (Or.inl (⟨by omega, by omega, g61⟩)))))))))
      exact mp_iret ⟨⟨_, rfl, u64⟩, rfl⟩ dX6_piece_105 (Or.inl rfl)
    · refine mp_t (s_tabIn (t := 106) (off := 88) dX6_piece_18 (by omega) (by rw [c11]; rfl) (by decide)) ?_
      refine mp_a (a_aload_n dX6_piece_106 rfl) (mpp 107 rfl ?_)
      have g65 : (0 : Int) ≤ (fv Po b5 2).toInt ∧ (fv Po b5 2).toInt ≤ 1 := Typ.rng hT q6 (by decide) (by decide) rfl
      refine mt_getI (i := 104) (k := 2) hT dX6_piece_107 rfl q6 (by decide) rfl (by decide) rfl (fun g66 g67 => mpp 110 rfl ?_)
      refine mp_Tb (t := 117) (j_if_eq dX6_piece_110) (by decide) (fun c68 => ?_) (fun c68 => mpp 113 rfl ?_)
      · have c68 : (fv Po b5 2).toInt = 0 := ti_eq c68
        refine mp_a (a_iconst (v := 0) dX6_piece_117 rfl) (mpp 118 rfl ?_)
        have u69 : pieceC Po (0 : Int) t1.toInt t2.toInt := (show ((0 : Int) = -1001 ∧ (t1.toInt < 0 ∨ (fv Po 1 1).toInt ≤ t1.toInt ∨ 8 ≤ t1.toInt)) ∨ ((0 ≤ t1.toInt ∧ t1.toInt + 1 ≤ (fv Po 1 1).toInt ∧ t1.toInt ≤ 7) ∧ t2.toInt = 0 ∧ (0 : Int) = (fv Po (rv Po 2 t1.toInt.toNat) 0).toInt) ∨ ((0 ≤ t1.toInt ∧ t1.toInt + 1 ≤ (fv Po 1 1).toInt ∧ t1.toInt ≤ 7) ∧ t2.toInt = 1 ∧ (0 : Int) = (fv Po (rv Po 2 t1.toInt.toNat) 1).toInt) ∨ ((0 ≤ t1.toInt ∧ t1.toInt + 1 ≤ (fv Po 1 1).toInt ∧ t1.toInt ≤ 7) ∧ t2.toInt = 2 ∧ (((fv Po (rv Po 2 t1.toInt.toNat) 0).toInt = 0 ∧ (0 : Int) = (fv Po (rv Po 2 t1.toInt.toNat) 1).toInt - 1) ∨ ((fv Po (rv Po 2 t1.toInt.toNat) 0).toInt ≠ 0 ∧ (0 : Int) = (fv Po (rv Po 2 t1.toInt.toNat) 1).toInt))) ∨ ((0 ≤ t1.toInt ∧ t1.toInt + 1 ≤ (fv Po 1 1).toInt ∧ t1.toInt ≤ 7) ∧ t2.toInt = 3 ∧ (0 : Int) = cntF (fun j : Nat => fv Po ((rv Po 2 t1.toInt.toNat) + 2) j) 1 (nC (fv Po (rv Po 2 t1.toInt.toNat) 0).toInt (fv Po (rv Po 2 t1.toInt.toNat) 1).toInt)) ∨ ((0 ≤ t1.toInt ∧ t1.toInt + 1 ≤ (fv Po 1 1).toInt ∧ t1.toInt ≤ 7) ∧ t2.toInt = 4 ∧ (0 : Int) = cntF (fun j : Nat => fv Po ((rv Po 2 t1.toInt.toNat) + 2) j) 2 (nC (fv Po (rv Po 2 t1.toInt.toNat) 0).toInt (fv Po (rv Po 2 t1.toInt.toNat) 1).toInt)) ∨ ((0 ≤ t1.toInt ∧ t1.toInt + 1 ≤ (fv Po 1 1).toInt ∧ t1.toInt ≤ 7) ∧ t2.toInt = 5 ∧ (0 : Int) = cntF (fun j : Nat => fv Po ((rv Po 2 t1.toInt.toNat) + 2) j) 0 (nC (fv Po (rv Po 2 t1.toInt.toNat) 0).toInt (fv Po (rv Po 2 t1.toInt.toNat) 1).toInt)) ∨ ((0 ≤ t1.toInt ∧ t1.toInt + 1 ≤ (fv Po 1 1).toInt ∧ t1.toInt ≤ 7) ∧ t2.toInt = 6 ∧ (0 : Int) = (smF (fun j : Nat => fv Po ((rv Po 2 t1.toInt.toNat) + 1) j) (fv Po (rv Po 2 t1.toInt.toNat) 1).toInt.toNat).toInt) ∨ ((0 ≤ t1.toInt ∧ t1.toInt + 1 ≤ (fv Po 1 1).toInt ∧ t1.toInt ≤ 7) ∧ t2.toInt = 7 ∧ (0 : Int) = (fv Po (rv Po 2 t1.toInt.toNat) 2).toInt) ∨ ((0 ≤ t1.toInt ∧ t1.toInt + 1 ≤ (fv Po 1 1).toInt ∧ t1.toInt ≤ 7) ∧ t2.toInt = 8 ∧ (0 : Int) = (wdF (fv Po (rv Po 2 t1.toInt.toNat) 0).toInt (fun j : Nat => fv Po ((rv Po 2 t1.toInt.toNat) + 1) j) (fv Po (rv Po 2 t1.toInt.toNat) 1).toInt.toNat).toInt) ∨ ((0 ≤ t1.toInt ∧ t1.toInt + 1 ≤ (fv Po 1 1).toInt ∧ t1.toInt ≤ 7) ∧ (t2.toInt < 0 ∨ 8 < t2.toInt) ∧ (0 : Int) = -1002) from by rw [q6r.2.2.2]; exact Or.inr (Or.inr (Or.inr (Or.inr (Or.inr (Or.inr (Or.inr (Or.inr (Or.inl (⟨by omega, by omega, by omega⟩))))))))))
        exact mp_iret ⟨⟨_, rfl, u69⟩, rfl⟩ dX6_piece_118 (Or.inl rfl)
      · have c68 : (fv Po b5 2).toInt ≠ 0 := ti_eq_n c68
        refine mp_a (a_iconst (v := 1) dX6_piece_113 rfl) (mpp 114 rfl ?_)
        refine mp_a (a_goto (t := 118) dX6_piece_114 (by decide)) ?_
        have u70 : pieceC Po (1 : Int) t1.toInt t2.toInt := (show ((1 : Int) = -1001 ∧ (t1.toInt < 0 ∨ (fv Po 1 1).toInt ≤ t1.toInt ∨ 8 ≤ t1.toInt)) ∨ ((0 ≤ t1.toInt ∧ t1.toInt + 1 ≤ (fv Po 1 1).toInt ∧ t1.toInt ≤ 7) ∧ t2.toInt = 0 ∧ (1 : Int) = (fv Po (rv Po 2 t1.toInt.toNat) 0).toInt) ∨ ((0 ≤ t1.toInt ∧ t1.toInt + 1 ≤ (fv Po 1 1).toInt ∧ t1.toInt ≤ 7) ∧ t2.toInt = 1 ∧ (1 : Int) = (fv Po (rv Po 2 t1.toInt.toNat) 1).toInt) ∨ ((0 ≤ t1.toInt ∧ t1.toInt + 1 ≤ (fv Po 1 1).toInt ∧ t1.toInt ≤ 7) ∧ t2.toInt = 2 ∧ (((fv Po (rv Po 2 t1.toInt.toNat) 0).toInt = 0 ∧ (1 : Int) = (fv Po (rv Po 2 t1.toInt.toNat) 1).toInt - 1) ∨ ((fv Po (rv Po 2 t1.toInt.toNat) 0).toInt ≠ 0 ∧ (1 : Int) = (fv Po (rv Po 2 t1.toInt.toNat) 1).toInt))) ∨ ((0 ≤ t1.toInt ∧ t1.toInt + 1 ≤ (fv Po 1 1).toInt ∧ t1.toInt ≤ 7) ∧ t2.toInt = 3 ∧ (1 : Int) = cntF (fun j : Nat => fv Po ((rv Po 2 t1.toInt.toNat) + 2) j) 1 (nC (fv Po (rv Po 2 t1.toInt.toNat) 0).toInt (fv Po (rv Po 2 t1.toInt.toNat) 1).toInt)) ∨ ((0 ≤ t1.toInt ∧ t1.toInt + 1 ≤ (fv Po 1 1).toInt ∧ t1.toInt ≤ 7) ∧ t2.toInt = 4 ∧ (1 : Int) = cntF (fun j : Nat => fv Po ((rv Po 2 t1.toInt.toNat) + 2) j) 2 (nC (fv Po (rv Po 2 t1.toInt.toNat) 0).toInt (fv Po (rv Po 2 t1.toInt.toNat) 1).toInt)) ∨ ((0 ≤ t1.toInt ∧ t1.toInt + 1 ≤ (fv Po 1 1).toInt ∧ t1.toInt ≤ 7) ∧ t2.toInt = 5 ∧ (1 : Int) = cntF (fun j : Nat => fv Po ((rv Po 2 t1.toInt.toNat) + 2) j) 0 (nC (fv Po (rv Po 2 t1.toInt.toNat) 0).toInt (fv Po (rv Po 2 t1.toInt.toNat) 1).toInt)) ∨ ((0 ≤ t1.toInt ∧ t1.toInt + 1 ≤ (fv Po 1 1).toInt ∧ t1.toInt ≤ 7) ∧ t2.toInt = 6 ∧ (1 : Int) = (smF (fun j : Nat => fv Po ((rv Po 2 t1.toInt.toNat) + 1) j) (fv Po (rv Po 2 t1.toInt.toNat) 1).toInt.toNat).toInt) ∨ ((0 ≤ t1.toInt ∧ t1.toInt + 1 ≤ (fv Po 1 1).toInt ∧ t1.toInt ≤ 7) ∧ t2.toInt = 7 ∧ (1 : Int) = (fv Po (rv Po 2 t1.toInt.toNat) 2).toInt) ∨ ((0 ≤ t1.toInt ∧ t1.toInt + 1 ≤ (fv Po 1 1).toInt ∧ t1.toInt ≤ 7) ∧ t2.toInt = 8 ∧ (1 : Int) = (wdF (fv Po (rv Po 2 t1.toInt.toNat) 0).toInt (fun j : Nat => fv Po ((rv Po 2 t1.toInt.toNat) + 1) j) (fv Po (rv Po 2 t1.toInt.toNat) 1).toInt.toNat).toInt) ∨ ((0 ≤ t1.toInt ∧ t1.toInt + 1 ≤ (fv Po 1 1).toInt ∧ t1.toInt ≤ 7) ∧ (t2.toInt < 0 ∨ 8 < t2.toInt) ∧ (1 : Int) = -1002) from by rw [q6r.2.2.2]; exact Or.inr (Or.inr (Or.inr (Or.inr (Or.inr (Or.inr (Or.inr (Or.inr (Or.inl (⟨by omega, by omega, by omega⟩))))))))))
        exact mp_iret ⟨⟨_, rfl, u70⟩, rfl⟩ dX6_piece_118 (Or.inl rfl)
    · refine mp_t (s_tabIn (t := 119) (off := 101) dX6_piece_18 (by omega) (by rw [c11]; rfl) (by decide)) ?_
      refine mp_a (a_aload_n dX6_piece_119 rfl) (mpp 120 rfl ?_)
      refine mt_callv (i := 170) (q' := q_10) (As := []) (rest := []) hT dX6_piece_120 rfl qm_10 (by decide) rfl q6 (by decide) rfl (Nat.le_of_ble_eq_true rfl) rfl ⟨rfl, rfl⟩ ⟨Nat.le_of_ble_eq_true rfl, Nat.le_of_ble_eq_true rfl⟩ (EvP.mono (by decide) (c_CP_width_NPiece hT hX q6)) (fun r71 P72 g73 => mpp 123 rfl ?_)
      obtain ⟨⟨x74, rfl, g75⟩, e76⟩ := g73
      have e76 := e76.symm
      subst e76
      have wx74 := ti_full x74
      replace g75 : x74.toInt = (wdF (fv Po b5 0).toInt (fun j : Nat => fv Po (b5 + 1) j) (fv Po b5 1).toInt.toNat).toInt := g75
      have g77 := ti_full (fv Po b5 0)
      have g78 : (0 : Int) ≤ (fv Po b5 1).toInt ∧ (fv Po b5 1).toInt ≤ 8 := Typ.rng hT q6 (by decide) (by decide) rfl
      show MEvP _ none q_58 123 [(3, .ref b5), (0, .ref 0), (1, .int t1), (2, .int t2)] [.int x74] _ _ _ _
      have u79 : pieceC Po x74.toInt t1.toInt t2.toInt := (show (x74.toInt = -1001 ∧ (t1.toInt < 0 ∨ (fv Po 1 1).toInt ≤ t1.toInt ∨ 8 ≤ t1.toInt)) ∨ ((0 ≤ t1.toInt ∧ t1.toInt + 1 ≤ (fv Po 1 1).toInt ∧ t1.toInt ≤ 7) ∧ t2.toInt = 0 ∧ x74.toInt = (fv Po (rv Po 2 t1.toInt.toNat) 0).toInt) ∨ ((0 ≤ t1.toInt ∧ t1.toInt + 1 ≤ (fv Po 1 1).toInt ∧ t1.toInt ≤ 7) ∧ t2.toInt = 1 ∧ x74.toInt = (fv Po (rv Po 2 t1.toInt.toNat) 1).toInt) ∨ ((0 ≤ t1.toInt ∧ t1.toInt + 1 ≤ (fv Po 1 1).toInt ∧ t1.toInt ≤ 7) ∧ t2.toInt = 2 ∧ (((fv Po (rv Po 2 t1.toInt.toNat) 0).toInt = 0 ∧ x74.toInt = (fv Po (rv Po 2 t1.toInt.toNat) 1).toInt - 1) ∨ ((fv Po (rv Po 2 t1.toInt.toNat) 0).toInt ≠ 0 ∧ x74.toInt = (fv Po (rv Po 2 t1.toInt.toNat) 1).toInt))) ∨ ((0 ≤ t1.toInt ∧ t1.toInt + 1 ≤ (fv Po 1 1).toInt ∧ t1.toInt ≤ 7) ∧ t2.toInt = 3 ∧ x74.toInt = cntF (fun j : Nat => fv Po ((rv Po 2 t1.toInt.toNat) + 2) j) 1 (nC (fv Po (rv Po 2 t1.toInt.toNat) 0).toInt (fv Po (rv Po 2 t1.toInt.toNat) 1).toInt)) ∨ ((0 ≤ t1.toInt ∧ t1.toInt + 1 ≤ (fv Po 1 1).toInt ∧ t1.toInt ≤ 7) ∧ t2.toInt = 4 ∧ x74.toInt = cntF (fun j : Nat => fv Po ((rv Po 2 t1.toInt.toNat) + 2) j) 2 (nC (fv Po (rv Po 2 t1.toInt.toNat) 0).toInt (fv Po (rv Po 2 t1.toInt.toNat) 1).toInt)) ∨ ((0 ≤ t1.toInt ∧ t1.toInt + 1 ≤ (fv Po 1 1).toInt ∧ t1.toInt ≤ 7) ∧ t2.toInt = 5 ∧ x74.toInt = cntF (fun j : Nat => fv Po ((rv Po 2 t1.toInt.toNat) + 2) j) 0 (nC (fv Po (rv Po 2 t1.toInt.toNat) 0).toInt (fv Po (rv Po 2 t1.toInt.toNat) 1).toInt)) ∨ ((0 ≤ t1.toInt ∧ t1.toInt + 1 ≤ (fv Po 1 1).toInt ∧ t1.toInt ≤ 7) ∧ t2.toInt = 6 ∧ x74.toInt = (smF (fun j : Nat => fv Po ((rv Po 2 t1.toInt.toNat) + 1) j) (fv Po (rv Po 2 t1.toInt.toNat) 1).toInt.toNat).toInt) ∨ ((0 ≤ t1.toInt ∧ t1.toInt + 1 ≤ (fv Po 1 1).toInt ∧ t1.toInt ≤ 7) ∧ t2.toInt = 7 ∧ x74.toInt = (fv Po (rv Po 2 t1.toInt.toNat) 2).toInt) ∨ ((0 ≤ t1.toInt ∧ t1.toInt + 1 ≤ (fv Po 1 1).toInt ∧ t1.toInt ≤ 7) ∧ t2.toInt = 8 ∧ x74.toInt = (wdF (fv Po (rv Po 2 t1.toInt.toNat) 0).toInt (fun j : Nat => fv Po ((rv Po 2 t1.toInt.toNat) + 1) j) (fv Po (rv Po 2 t1.toInt.toNat) 1).toInt.toNat).toInt) ∨ ((0 ≤ t1.toInt ∧ t1.toInt + 1 ≤ (fv Po 1 1).toInt ∧ t1.toInt ≤ 7) ∧ (t2.toInt < 0 ∨ 8 < t2.toInt) ∧ x74.toInt = -1002) from by rw [q6r.2.2.2]; exact Or.inr (Or.inr (Or.inr (Or.inr (Or.inr (Or.inr (Or.inr (Or.inr (Or.inr (Or.inl (⟨by omega, by omega, g75⟩)))))))))))
      exact mp_iret ⟨⟨_, rfl, u79⟩, rfl⟩ dX6_piece_123 (Or.inl rfl)

set_option maxHeartbeats 4000000 in
theorem c_F_size {Po : mP} {t1 : Int32} {t2 : Int32} (hT : Typ Po) (hX : XR Po)   : EvP 2 59 [.ref 0, .int t1, .int t2] Po (fun r P' => (∃ x : Int32, r = some (.int x) ∧ (sizeC Po x.toInt t1.toInt t2.toInt)) ∧ P' = Po) := by
  refine EvP.of qm_59 (Nat.le_of_ble_eq_true rfl) rfl ?_
  show MEvP _ none q_59 0 [(0, .ref 0), (1, .int t1), (2, .int t2)] [] _ 0 0 _
  have w_t1 := ti_full t1
  have w_t2 := ti_full t2
  refine mp_a (a_aload_n dX6_size_0 rfl) (mpp 1 rfl ?_)
  refine mt_getU (i := 10) (k := 0) (A := 1) hT dX6_size_1 rfl rl_0 (by decide) rfl (by decide) rfl un_31 (mpp 4 rfl ?_)
  refine mp_a (a_iload_n dX6_size_4 rfl) (mpp 5 rfl ?_)
  refine mt_callv (i := 94) (q' := q_9) (As := [.int t1]) (rest := []) hT dX6_size_5 rfl qm_9 (by decide) rfl rl_1 (by decide) rfl (Nat.le_of_ble_eq_true rfl) rfl ⟨rfl, rfl⟩ ⟨Nat.le_of_ble_eq_true rfl, Nat.le_of_ble_eq_true rfl⟩ (EvP.mono (by decide) (c_CS_pieceAt_NState hT hX )) (fun r1 P2 g3 => mpp 8 rfl ?_)
  obtain ⟨g3, e4⟩ := g3
  have e4 := e4.symm
  subst e4
  rcases g3 with ⟨rfl, q6n⟩ | ⟨b5, rfl, q6, q6r⟩
  · show MEvP _ none q_59 8 [(0, .ref 0), (1, .int t1), (2, .int t2)] [.null] _ _ _ _
    replace q6n : t1.toInt < 0 ∨ (fv Po 1 1).toInt ≤ t1.toInt ∨ 8 ≤ t1.toInt := q6n
    have g7 : (0 : Int) ≤ (fv Po 1 1).toInt ∧ (fv Po 1 1).toInt ≤ 8 := Typ.rng hT rl_1 (by decide) (by decide) rfl
    refine mp_a (a_astore_nN (L' := [(3, .null), (0, .ref 0), (1, .int t1), (2, .int t2)]) dX6_size_8 (by decide) rfl) (mpp 9 rfl ?_)
    refine mp_a (a_aload_nN dX6_size_9 rfl) (mpp 10 rfl ?_)
    refine mp_t (s_ifnullN (t := 25) dX6_size_10 (by decide)) ?_
    refine mp_a (a_sipush (v := -1001) dX6_size_25 rfl) (mpp 28 rfl ?_)
    have u8 : sizeC Po (-1001 : Int) t1.toInt t2.toInt := (show ((-1001 : Int) = -1001 ∧ ((t1.toInt < 0 ∨ (fv Po 1 1).toInt ≤ t1.toInt ∨ 8 ≤ t1.toInt) ∨ ((0 ≤ t1.toInt ∧ t1.toInt + 1 ≤ (fv Po 1 1).toInt ∧ t1.toInt ≤ 7) ∧ (t2.toInt < 0 ∨ (fv Po (rv Po 2 t1.toInt.toNat) 1).toInt ≤ t2.toInt)))) ∨ ((0 ≤ t1.toInt ∧ t1.toInt + 1 ≤ (fv Po 1 1).toInt ∧ t1.toInt ≤ 7) ∧ (0 ≤ t2.toInt ∧ t2.toInt < (fv Po (rv Po 2 t1.toInt.toNat) 1).toInt) ∧ (-1001 : Int) = (fv Po ((rv Po 2 t1.toInt.toNat) + 1) t2.toInt.toNat).toInt) from by exact Or.inl (⟨by omega, by omega⟩))
    exact mp_iret ⟨⟨_, rfl, u8⟩, rfl⟩ dX6_size_28 (Or.inl rfl)
  · show MEvP _ none q_59 8 [(0, .ref 0), (1, .int t1), (2, .int t2)] [.ref b5] _ _ _ _
    replace q6r : 0 ≤ t1.toInt ∧ t1.toInt ≤ 7 ∧ t1.toInt + 1 ≤ (fv Po 1 1).toInt ∧ rv Po 2 t1.toInt.toNat = b5 := q6r
    have g9 : (0 : Int) ≤ (fv Po 1 1).toInt ∧ (fv Po 1 1).toInt ≤ 8 := Typ.rng hT rl_1 (by decide) (by decide) rfl
    have w10 := np_ar q6
    refine mp_a (a_astore_n (L' := [(3, .ref b5), (0, .ref 0), (1, .int t1), (2, .int t2)]) dX6_size_8 (by decide) rfl) (mpp 9 rfl ?_)
    refine mp_a (a_aload_n dX6_size_9 rfl) (mpp 10 rfl ?_)
    refine mp_t (s_ifnullR dX6_size_10) (mpp 13 rfl ?_)
    refine mp_a (a_iload_n dX6_size_13 rfl) (mpp 14 rfl ?_)
    refine mp_Tb (t := 25) (j_if_lt dX6_size_14) (by decide) (fun c11 => ?_) (fun c11 => mpp 17 rfl ?_)
    · have c11 : t2.toInt < 0 := ti_lt c11
      refine mp_a (a_sipush (v := -1001) dX6_size_25 rfl) (mpp 28 rfl ?_)
      have u12 : sizeC Po (-1001 : Int) t1.toInt t2.toInt := (show ((-1001 : Int) = -1001 ∧ ((t1.toInt < 0 ∨ (fv Po 1 1).toInt ≤ t1.toInt ∨ 8 ≤ t1.toInt) ∨ ((0 ≤ t1.toInt ∧ t1.toInt + 1 ≤ (fv Po 1 1).toInt ∧ t1.toInt ≤ 7) ∧ (t2.toInt < 0 ∨ (fv Po (rv Po 2 t1.toInt.toNat) 1).toInt ≤ t2.toInt)))) ∨ ((0 ≤ t1.toInt ∧ t1.toInt + 1 ≤ (fv Po 1 1).toInt ∧ t1.toInt ≤ 7) ∧ (0 ≤ t2.toInt ∧ t2.toInt < (fv Po (rv Po 2 t1.toInt.toNat) 1).toInt) ∧ (-1001 : Int) = (fv Po ((rv Po 2 t1.toInt.toNat) + 1) t2.toInt.toNat).toInt) from by rw [q6r.2.2.2]; exact Or.inl (⟨by omega, by omega⟩))
      exact mp_iret ⟨⟨_, rfl, u12⟩, rfl⟩ dX6_size_28 (Or.inl rfl)
    · have c11 : t2.toInt ≥ 0 := ti_lt_n c11
      refine mp_a (a_iload_n dX6_size_17 rfl) (mpp 18 rfl ?_)
      refine mp_a (a_aload_n dX6_size_18 rfl) (mpp 19 rfl ?_)
      have g13 : (0 : Int) ≤ (fv Po b5 1).toInt ∧ (fv Po b5 1).toInt ≤ 8 := Typ.rng hT q6 (by decide) (by decide) rfl
      refine mt_getI (i := 143) (k := 1) hT dX6_size_19 rfl q6 (by decide) rfl (by decide) rfl (fun g14 g15 => mpp 22 rfl ?_)
      refine mp_Tb (t := 29) (j_icmp_lt dX6_size_22) (by decide) (fun c16 => ?_) (fun c16 => mpp 25 rfl ?_)
      · have c16 : t2.toInt < (fv Po b5 1).toInt := ti_lt c16
        refine mp_a (a_aload_n dX6_size_29 rfl) (mpp 30 rfl ?_)
        refine mt_getE (i := 178) (k := 3) hT dX6_size_30 rfl q6 (by decide) rfl (by decide) rfl (hX.1 b5 (Or.inr q6)).1 (fun q17 => mpp 33 rfl ?_)
        refine mp_a (a_iload_n dX6_size_33 rfl) (mpp 34 rfl ?_)
        refine mp_calls (i := 112) (q' := q_12) (As := [.ref (b5 + 1), .int t2]) (rest := []) dX6_size_34 rfl qm_12 (by decide) rfl (Nat.le_of_ble_eq_true rfl) rfl ⟨rfl, rfl⟩ ⟨Nat.le_of_ble_eq_true rfl, Nat.le_of_ble_eq_true rfl⟩ (EvP.mono (by decide) (c_F_at_sizes hT hX q17)) (fun r18 P19 g20 => mpp 37 rfl ?_)
        obtain ⟨⟨x21, rfl, g22⟩, e23⟩ := g20
        have e23 := e23.symm
        subst e23
        have wx21 := ti_full x21
        replace g22 : (0 ≤ t2.toInt ∧ t2.toInt ≤ 7 ∧ x21.toInt = (fv Po (b5 + 1) t2.toInt.toNat).toInt) ∨ ((t2.toInt < 0 ∨ 8 ≤ t2.toInt) ∧ x21.toInt = 0) := g22
        try replace g22 : x21.toInt = (fv Po (b5 + 1) t2.toInt.toNat).toInt := (g22.resolve_right (by omega)).2.2
        show MEvP _ none q_59 37 [(3, .ref b5), (0, .ref 0), (1, .int t1), (2, .int t2)] [.int x21] _ _ _ _
        have u24 : sizeC Po x21.toInt t1.toInt t2.toInt := (show (x21.toInt = -1001 ∧ ((t1.toInt < 0 ∨ (fv Po 1 1).toInt ≤ t1.toInt ∨ 8 ≤ t1.toInt) ∨ ((0 ≤ t1.toInt ∧ t1.toInt + 1 ≤ (fv Po 1 1).toInt ∧ t1.toInt ≤ 7) ∧ (t2.toInt < 0 ∨ (fv Po (rv Po 2 t1.toInt.toNat) 1).toInt ≤ t2.toInt)))) ∨ ((0 ≤ t1.toInt ∧ t1.toInt + 1 ≤ (fv Po 1 1).toInt ∧ t1.toInt ≤ 7) ∧ (0 ≤ t2.toInt ∧ t2.toInt < (fv Po (rv Po 2 t1.toInt.toNat) 1).toInt) ∧ x21.toInt = (fv Po ((rv Po 2 t1.toInt.toNat) + 1) t2.toInt.toNat).toInt) from by rw [q6r.2.2.2]; exact Or.inr (⟨by omega, by omega, by omega⟩))
        exact mp_iret ⟨⟨_, rfl, u24⟩, rfl⟩ dX6_size_37 (Or.inl rfl)
      · have c16 : t2.toInt ≥ (fv Po b5 1).toInt := ti_lt_n c16
        refine mp_a (a_sipush (v := -1001) dX6_size_25 rfl) (mpp 28 rfl ?_)
        have u25 : sizeC Po (-1001 : Int) t1.toInt t2.toInt := (show ((-1001 : Int) = -1001 ∧ ((t1.toInt < 0 ∨ (fv Po 1 1).toInt ≤ t1.toInt ∨ 8 ≤ t1.toInt) ∨ ((0 ≤ t1.toInt ∧ t1.toInt + 1 ≤ (fv Po 1 1).toInt ∧ t1.toInt ≤ 7) ∧ (t2.toInt < 0 ∨ (fv Po (rv Po 2 t1.toInt.toNat) 1).toInt ≤ t2.toInt)))) ∨ ((0 ≤ t1.toInt ∧ t1.toInt + 1 ≤ (fv Po 1 1).toInt ∧ t1.toInt ≤ 7) ∧ (0 ≤ t2.toInt ∧ t2.toInt < (fv Po (rv Po 2 t1.toInt.toNat) 1).toInt) ∧ (-1001 : Int) = (fv Po ((rv Po 2 t1.toInt.toNat) + 1) t2.toInt.toNat).toInt) from by rw [q6r.2.2.2]; exact Or.inl (⟨by omega, by omega⟩))
        exact mp_iret ⟨⟨_, rfl, u25⟩, rfl⟩ dX6_size_28 (Or.inl rfl)

set_option maxHeartbeats 4000000 in
theorem c_F_crease {Po : mP} {t1 : Int32} {t2 : Int32} (hT : Typ Po) (hX : XR Po)   : EvP 3 60 [.ref 0, .int t1, .int t2] Po (fun r P' => (∃ x : Int32, r = some (.int x) ∧ (creaseC Po x.toInt t1.toInt t2.toInt)) ∧ P' = Po) := by
  refine EvP.of qm_60 (Nat.le_of_ble_eq_true rfl) rfl ?_
  show MEvP _ none q_60 0 [(0, .ref 0), (1, .int t1), (2, .int t2)] [] _ 0 0 _
  have w_t1 := ti_full t1
  have w_t2 := ti_full t2
  refine mp_a (a_aload_n dX6_crease_0 rfl) (mpp 1 rfl ?_)
  refine mt_getU (i := 10) (k := 0) (A := 1) hT dX6_crease_1 rfl rl_0 (by decide) rfl (by decide) rfl un_31 (mpp 4 rfl ?_)
  refine mp_a (a_iload_n dX6_crease_4 rfl) (mpp 5 rfl ?_)
  refine mt_callv (i := 94) (q' := q_9) (As := [.int t1]) (rest := []) hT dX6_crease_5 rfl qm_9 (by decide) rfl rl_1 (by decide) rfl (Nat.le_of_ble_eq_true rfl) rfl ⟨rfl, rfl⟩ ⟨Nat.le_of_ble_eq_true rfl, Nat.le_of_ble_eq_true rfl⟩ (EvP.mono (by decide) (c_CS_pieceAt_NState hT hX )) (fun r1 P2 g3 => mpp 8 rfl ?_)
  obtain ⟨g3, e4⟩ := g3
  have e4 := e4.symm
  subst e4
  rcases g3 with ⟨rfl, q6n⟩ | ⟨b5, rfl, q6, q6r⟩
  · show MEvP _ none q_60 8 [(0, .ref 0), (1, .int t1), (2, .int t2)] [.null] _ _ _ _
    replace q6n : t1.toInt < 0 ∨ (fv Po 1 1).toInt ≤ t1.toInt ∨ 8 ≤ t1.toInt := q6n
    have g7 : (0 : Int) ≤ (fv Po 1 1).toInt ∧ (fv Po 1 1).toInt ≤ 8 := Typ.rng hT rl_1 (by decide) (by decide) rfl
    refine mp_a (a_astore_nN (L' := [(3, .null), (0, .ref 0), (1, .int t1), (2, .int t2)]) dX6_crease_8 (by decide) rfl) (mpp 9 rfl ?_)
    refine mp_a (a_aload_nN dX6_crease_9 rfl) (mpp 10 rfl ?_)
    refine mp_t (s_ifnullN (t := 21) dX6_crease_10 (by decide)) ?_
    refine mp_a (a_sipush (v := -1001) dX6_crease_21 rfl) (mpp 24 rfl ?_)
    have u8 : creaseC Po (-1001 : Int) t1.toInt t2.toInt := (show ((-1001 : Int) = -1001 ∧ ((t1.toInt < 0 ∨ (fv Po 1 1).toInt ≤ t1.toInt ∨ 8 ≤ t1.toInt) ∨ ((0 ≤ t1.toInt ∧ t1.toInt + 1 ≤ (fv Po 1 1).toInt ∧ t1.toInt ≤ 7) ∧ (t2.toInt < 0 ∨ ((fv Po (rv Po 2 t1.toInt.toNat) 0).toInt = 0 ∧ (fv Po (rv Po 2 t1.toInt.toNat) 1).toInt - 1 ≤ t2.toInt) ∨ ((fv Po (rv Po 2 t1.toInt.toNat) 0).toInt ≠ 0 ∧ (fv Po (rv Po 2 t1.toInt.toNat) 1).toInt ≤ t2.toInt))))) ∨ ((0 ≤ t1.toInt ∧ t1.toInt + 1 ≤ (fv Po 1 1).toInt ∧ t1.toInt ≤ 7) ∧ (0 ≤ t2.toInt ∧ (((fv Po (rv Po 2 t1.toInt.toNat) 0).toInt = 0 ∧ t2.toInt < (fv Po (rv Po 2 t1.toInt.toNat) 1).toInt - 1) ∨ ((fv Po (rv Po 2 t1.toInt.toNat) 0).toInt ≠ 0 ∧ t2.toInt < (fv Po (rv Po 2 t1.toInt.toNat) 1).toInt))) ∧ (-1001 : Int) = (fv Po ((rv Po 2 t1.toInt.toNat) + 2) t2.toInt.toNat).toInt) from by exact Or.inl (⟨by omega, by omega⟩))
    exact mp_iret ⟨⟨_, rfl, u8⟩, rfl⟩ dX6_crease_24 (Or.inl rfl)
  · show MEvP _ none q_60 8 [(0, .ref 0), (1, .int t1), (2, .int t2)] [.ref b5] _ _ _ _
    replace q6r : 0 ≤ t1.toInt ∧ t1.toInt ≤ 7 ∧ t1.toInt + 1 ≤ (fv Po 1 1).toInt ∧ rv Po 2 t1.toInt.toNat = b5 := q6r
    have g9 : (0 : Int) ≤ (fv Po 1 1).toInt ∧ (fv Po 1 1).toInt ≤ 8 := Typ.rng hT rl_1 (by decide) (by decide) rfl
    have w10 := np_ar q6
    refine mp_a (a_astore_n (L' := [(3, .ref b5), (0, .ref 0), (1, .int t1), (2, .int t2)]) dX6_crease_8 (by decide) rfl) (mpp 9 rfl ?_)
    refine mp_a (a_aload_n dX6_crease_9 rfl) (mpp 10 rfl ?_)
    refine mp_t (s_ifnullR dX6_crease_10) (mpp 13 rfl ?_)
    refine mp_a (a_aload_n dX6_crease_13 rfl) (mpp 14 rfl ?_)
    refine mp_a (a_iload_n dX6_crease_14 rfl) (mpp 15 rfl ?_)
    refine mt_callv (i := 98) (q' := q_29) (As := [.int t2]) (rest := []) hT dX6_crease_15 rfl qm_29 (by decide) rfl q6 (by decide) rfl (Nat.le_of_ble_eq_true rfl) rfl ⟨rfl, rfl⟩ ⟨Nat.le_of_ble_eq_true rfl, Nat.le_of_ble_eq_true rfl⟩ (EvP.mono (by decide) (c_CP_hasCrease_NPiece hT hX q6)) (fun r11 P12 g13 => mpp 18 rfl ?_)
    obtain ⟨⟨x14, rfl, g15⟩, e16⟩ := g13
    have e16 := e16.symm
    subst e16
    have wx14 := ti_full x14
    replace g15 : 0 ≤ x14.toInt ∧ x14.toInt ≤ 1 ∧ ((x14.toInt = 0 ∧ (t2.toInt < 0 ∨ ((fv Po b5 0).toInt = 0 ∧ (fv Po b5 1).toInt - 1 ≤ t2.toInt) ∨ ((fv Po b5 0).toInt ≠ 0 ∧ (fv Po b5 1).toInt ≤ t2.toInt))) ∨ (x14.toInt = 1 ∧ 0 ≤ t2.toInt ∧ t2.toInt + 1 ≤ (fv Po b5 1).toInt ∧ (((fv Po b5 0).toInt = 0 ∧ t2.toInt < (fv Po b5 1).toInt - 1) ∨ ((fv Po b5 0).toInt ≠ 0 ∧ t2.toInt < (fv Po b5 1).toInt)))) := g15
    have g17 := ti_full (fv Po b5 0)
    have g18 : (0 : Int) ≤ (fv Po b5 1).toInt ∧ (fv Po b5 1).toInt ≤ 8 := Typ.rng hT q6 (by decide) (by decide) rfl
    show MEvP _ none q_60 18 [(3, .ref b5), (0, .ref 0), (1, .int t1), (2, .int t2)] [.int x14] _ _ _ _
    refine mp_Tb (t := 25) (j_if_ne dX6_crease_18) (by decide) (fun c19 => ?_) (fun c19 => mpp 21 rfl ?_)
    · have c19 : x14.toInt ≠ 0 := ti_ne c19
      refine mp_a (a_aload_n dX6_crease_25 rfl) (mpp 26 rfl ?_)
      refine mt_getE (i := 108) (k := 4) hT dX6_crease_26 rfl q6 (by decide) rfl (by decide) rfl (hX.1 b5 (Or.inr q6)).2 (fun q20 => mpp 29 rfl ?_)
      refine mp_a (a_iload_n dX6_crease_29 rfl) (mpp 30 rfl ?_)
      refine mp_calls (i := 112) (q' := q_12) (As := [.ref (b5 + 2), .int t2]) (rest := []) dX6_crease_30 rfl qm_12 (by decide) rfl (Nat.le_of_ble_eq_true rfl) rfl ⟨rfl, rfl⟩ ⟨Nat.le_of_ble_eq_true rfl, Nat.le_of_ble_eq_true rfl⟩ (EvP.mono (by decide) (c_F_at_creases hT hX q20)) (fun r21 P22 g23 => mpp 33 rfl ?_)
      obtain ⟨⟨x24, rfl, g25⟩, e26⟩ := g23
      have e26 := e26.symm
      subst e26
      have wx24 := ti_full x24
      replace g25 : (0 ≤ t2.toInt ∧ t2.toInt ≤ 7 ∧ x24.toInt = (fv Po (b5 + 2) t2.toInt.toNat).toInt) ∨ ((t2.toInt < 0 ∨ 8 ≤ t2.toInt) ∧ x24.toInt = 0) := g25
      try replace g25 : x24.toInt = (fv Po (b5 + 2) t2.toInt.toNat).toInt := (g25.resolve_right (by omega)).2.2
      show MEvP _ none q_60 33 [(3, .ref b5), (0, .ref 0), (1, .int t1), (2, .int t2)] [.int x24] _ _ _ _
      have u27 : creaseC Po x24.toInt t1.toInt t2.toInt := (show (x24.toInt = -1001 ∧ ((t1.toInt < 0 ∨ (fv Po 1 1).toInt ≤ t1.toInt ∨ 8 ≤ t1.toInt) ∨ ((0 ≤ t1.toInt ∧ t1.toInt + 1 ≤ (fv Po 1 1).toInt ∧ t1.toInt ≤ 7) ∧ (t2.toInt < 0 ∨ ((fv Po (rv Po 2 t1.toInt.toNat) 0).toInt = 0 ∧ (fv Po (rv Po 2 t1.toInt.toNat) 1).toInt - 1 ≤ t2.toInt) ∨ ((fv Po (rv Po 2 t1.toInt.toNat) 0).toInt ≠ 0 ∧ (fv Po (rv Po 2 t1.toInt.toNat) 1).toInt ≤ t2.toInt))))) ∨ ((0 ≤ t1.toInt ∧ t1.toInt + 1 ≤ (fv Po 1 1).toInt ∧ t1.toInt ≤ 7) ∧ (0 ≤ t2.toInt ∧ (((fv Po (rv Po 2 t1.toInt.toNat) 0).toInt = 0 ∧ t2.toInt < (fv Po (rv Po 2 t1.toInt.toNat) 1).toInt - 1) ∨ ((fv Po (rv Po 2 t1.toInt.toNat) 0).toInt ≠ 0 ∧ t2.toInt < (fv Po (rv Po 2 t1.toInt.toNat) 1).toInt))) ∧ x24.toInt = (fv Po ((rv Po 2 t1.toInt.toNat) + 2) t2.toInt.toNat).toInt) from by rw [q6r.2.2.2]; exact Or.inr (⟨by omega, by omega, by omega⟩))
      exact mp_iret ⟨⟨_, rfl, u27⟩, rfl⟩ dX6_crease_33 (Or.inl rfl)
    · have c19 : x14.toInt = 0 := ti_ne_n c19
      refine mp_a (a_sipush (v := -1001) dX6_crease_21 rfl) (mpp 24 rfl ?_)
      have u28 : creaseC Po (-1001 : Int) t1.toInt t2.toInt := (show ((-1001 : Int) = -1001 ∧ ((t1.toInt < 0 ∨ (fv Po 1 1).toInt ≤ t1.toInt ∨ 8 ≤ t1.toInt) ∨ ((0 ≤ t1.toInt ∧ t1.toInt + 1 ≤ (fv Po 1 1).toInt ∧ t1.toInt ≤ 7) ∧ (t2.toInt < 0 ∨ ((fv Po (rv Po 2 t1.toInt.toNat) 0).toInt = 0 ∧ (fv Po (rv Po 2 t1.toInt.toNat) 1).toInt - 1 ≤ t2.toInt) ∨ ((fv Po (rv Po 2 t1.toInt.toNat) 0).toInt ≠ 0 ∧ (fv Po (rv Po 2 t1.toInt.toNat) 1).toInt ≤ t2.toInt))))) ∨ ((0 ≤ t1.toInt ∧ t1.toInt + 1 ≤ (fv Po 1 1).toInt ∧ t1.toInt ≤ 7) ∧ (0 ≤ t2.toInt ∧ (((fv Po (rv Po 2 t1.toInt.toNat) 0).toInt = 0 ∧ t2.toInt < (fv Po (rv Po 2 t1.toInt.toNat) 1).toInt - 1) ∨ ((fv Po (rv Po 2 t1.toInt.toNat) 0).toInt ≠ 0 ∧ t2.toInt < (fv Po (rv Po 2 t1.toInt.toNat) 1).toInt))) ∧ (-1001 : Int) = (fv Po ((rv Po 2 t1.toInt.toNat) + 2) t2.toInt.toNat).toInt) from by rw [q6r.2.2.2]; exact Or.inl (⟨by omega, by omega⟩))
      exact mp_iret ⟨⟨_, rfl, u28⟩, rfl⟩ dX6_crease_24 (Or.inl rfl)

set_option maxHeartbeats 4000000 in
theorem c_F_why {Po : mP} {t1 : Int32} (hT : Typ Po) (hX : XR Po)   : EvP 5 61 [.ref 0, .int t1] Po (fun r P' => (∃ x : Int32, r = some (.int x) ∧ (whyC Po x.toInt t1.toInt)) ∧ Typ P' ∧ KW [640, 641, 704, 768] Po P' ∧ True) := by
  refine EvP.of qm_61 (Nat.le_of_ble_eq_true rfl) rfl ?_
  show MEvP _ none q_61 0 [(0, .ref 0), (1, .int t1)] [] _ 0 0 _
  have w_t1 := ti_full t1
  refine mp_a (a_aload_n dX6_why_0 rfl) (mpp 1 rfl ?_)
  refine mt_getU (i := 10) (k := 0) (A := 1) hT dX6_why_1 rfl rl_0 (by decide) rfl (by decide) rfl un_31 (mpp 4 rfl ?_)
  refine mp_a (a_iload_n dX6_why_4 rfl) (mpp 5 rfl ?_)
  refine mt_callv (i := 94) (q' := q_9) (As := [.int t1]) (rest := []) hT dX6_why_5 rfl qm_9 (by decide) rfl rl_1 (by decide) rfl (Nat.le_of_ble_eq_true rfl) rfl ⟨rfl, rfl⟩ ⟨Nat.le_of_ble_eq_true rfl, Nat.le_of_ble_eq_true rfl⟩ (EvP.mono (by decide) (c_CS_pieceAt_NState hT hX )) (fun r1 P2 g3 => mpp 8 rfl ?_)
  obtain ⟨g3, e4⟩ := g3
  have e4 := e4.symm
  subst e4
  rcases g3 with ⟨rfl, q6n⟩ | ⟨b5, rfl, q6, q6r⟩
  · show MEvP _ none q_61 8 [(0, .ref 0), (1, .int t1)] [.null] _ _ _ _
    replace q6n : t1.toInt < 0 ∨ (fv Po 1 1).toInt ≤ t1.toInt ∨ 8 ≤ t1.toInt := q6n
    have g7 : (0 : Int) ≤ (fv Po 1 1).toInt ∧ (fv Po 1 1).toInt ≤ 8 := Typ.rng hT rl_1 (by decide) (by decide) rfl
    refine mp_a (a_astore_nN (L' := [(2, .null), (0, .ref 0), (1, .int t1)]) dX6_why_8 (by decide) rfl) (mpp 9 rfl ?_)
    refine mp_a (a_aload_nN dX6_why_9 rfl) (mpp 10 rfl ?_)
    refine mp_t (s_ifnonnullN dX6_why_10) (mpp 13 rfl ?_)
    refine mp_a (a_sipush (v := -1001) dX6_why_13 rfl) (mpp 16 rfl ?_)
    refine mp_a (a_goto (t := 27) dX6_why_16 (by decide)) ?_
    have u8 : whyC Po (-1001 : Int) t1.toInt := (show ((-1001 : Int) = -1001 ∧ (t1.toInt < 0 ∨ (fv Po 1 1).toInt ≤ t1.toInt ∨ 8 ≤ t1.toInt)) ∨ ((0 ≤ t1.toInt ∧ t1.toInt + 1 ≤ (fv Po 1 1).toInt ∧ t1.toInt ≤ 7) ∧ WYf cC eC (fv Po (rv Po 2 t1.toInt.toNat) 0).toInt (fv Po (rv Po 2 t1.toInt.toNat) 1).toInt (fun j : Nat => fv Po ((rv Po 2 t1.toInt.toNat) + 1) j) (fun j : Nat => fv Po ((rv Po 2 t1.toInt.toNat) + 2) j) (-1001 : Int)) from by exact Or.inl (⟨by omega, by omega⟩))
    exact mp_iret ⟨⟨_, rfl, u8⟩, hT, KW.refl, trivial⟩ dX6_why_27 (Or.inl rfl)
  · show MEvP _ none q_61 8 [(0, .ref 0), (1, .int t1)] [.ref b5] _ _ _ _
    replace q6r : 0 ≤ t1.toInt ∧ t1.toInt ≤ 7 ∧ t1.toInt + 1 ≤ (fv Po 1 1).toInt ∧ rv Po 2 t1.toInt.toNat = b5 := q6r
    have g9 : (0 : Int) ≤ (fv Po 1 1).toInt ∧ (fv Po 1 1).toInt ≤ 8 := Typ.rng hT rl_1 (by decide) (by decide) rfl
    have w10 := np_ar q6
    refine mp_a (a_astore_n (L' := [(2, .ref b5), (0, .ref 0), (1, .int t1)]) dX6_why_8 (by decide) rfl) (mpp 9 rfl ?_)
    refine mp_a (a_aload_n dX6_why_9 rfl) (mpp 10 rfl ?_)
    refine mp_t (s_ifnonnullR (t := 19) dX6_why_10 (by decide)) ?_
    refine mp_a (a_aload_n dX6_why_19 rfl) (mpp 20 rfl ?_)
    refine mt_getU (i := 39) (k := 5) (A := 291) hT dX6_why_20 rfl rl_0 (by decide) rfl (by decide) rfl un_10 (mpp 23 rfl ?_)
    refine mp_a (a_aload_n dX6_why_23 rfl) (mpp 24 rfl ?_)
    have p11 : b5 ≤ 288 ∨ 298 ≤ b5 := by omega
    refine mt_callv (i := 166) (q' := q_44) (As := [.ref b5]) (rest := []) hT dX6_why_24 rfl qm_44 (by decide) rfl rl_291 (by decide) rfl (Nat.le_of_ble_eq_true rfl) rfl ⟨rfl, rfl⟩ ⟨Nat.le_of_ble_eq_true rfl, Nat.le_of_ble_eq_true rfl⟩ (EvP.mono (by decide) (c_CR_whatStandsInTheWay_Reducer_NPiece hT hX p11 q6)) (fun r12 P13 g14 => mpp 27 rfl ?_)
    obtain ⟨⟨x15, rfl, g16⟩, hT17, k18, R19⟩ := g14
    have k20 : KW [640, 641, 704, 768] Po P13 := KW.trans KW.refl k18 rfl
    have wx15 := ti_full x15
    replace g16 : 0 ≤ x15.toInt ∧ x15.toInt ≤ 5 ∧ WYf cC eC (fv Po b5 0).toInt (fv Po b5 1).toInt (fun j : Nat => fv Po (b5 + 1) j) (fun j : Nat => fv Po (b5 + 2) j) x15.toInt := g16
    have g22 := ti_full (fv Po b5 0)
    have g23 : (0 : Int) ≤ (fv Po b5 1).toInt ∧ (fv Po b5 1).toInt ≤ 8 := Typ.rng hT q6 (by decide) (by decide) rfl
    show MEvP _ none q_61 27 [(2, .ref b5), (0, .ref 0), (1, .int t1)] [.int x15] _ _ _ _
    have u24 : whyC Po x15.toInt t1.toInt := (show (x15.toInt = -1001 ∧ (t1.toInt < 0 ∨ (fv Po 1 1).toInt ≤ t1.toInt ∨ 8 ≤ t1.toInt)) ∨ ((0 ≤ t1.toInt ∧ t1.toInt + 1 ≤ (fv Po 1 1).toInt ∧ t1.toInt ≤ 7) ∧ WYf cC eC (fv Po (rv Po 2 t1.toInt.toNat) 0).toInt (fv Po (rv Po 2 t1.toInt.toNat) 1).toInt (fun j : Nat => fv Po ((rv Po 2 t1.toInt.toNat) + 1) j) (fun j : Nat => fv Po ((rv Po 2 t1.toInt.toNat) + 2) j) x15.toInt) from by rw [q6r.2.2.2]; exact Or.inr (⟨by omega, g16.2.2⟩))
    exact mp_iret ⟨⟨_, rfl, u24⟩, hT17, k20, trivial⟩ dX6_why_27 (Or.inl rfl)

set_option maxHeartbeats 4000000 in
theorem c_F_errorOfDecidedStrip_null {Po : mP}  (hT : Typ Po) (hX : XR Po)   : EvP 1 63 [.null] Po (fun r P' => (∃ x : Int32, r = some (.int x) ∧ (x.toInt = -1001)) ∧ P' = Po) := by
  refine EvP.of qm_63 (Nat.le_of_ble_eq_true rfl) rfl ?_
  show MEvP _ none q_63 0 [(0, .null)] [] _ 0 0 _
  refine mp_a (a_aload_nN dX6_errorOfDecidedStrip_0 rfl) (mpp 1 rfl ?_)
  refine mp_t (s_ifnonnullN dX6_errorOfDecidedStrip_1) (mpp 4 rfl ?_)
  refine mp_a (a_sipush (v := -1001) dX6_errorOfDecidedStrip_4 rfl) (mpp 7 rfl ?_)
  have u1 : (-1001 : Int) = -1001 := rfl
  exact mp_iret ⟨⟨_, rfl, u1⟩, rfl⟩ dX6_errorOfDecidedStrip_7 (Or.inl rfl)

set_option maxHeartbeats 4000000 in
theorem c_F_errorOfDecidedStrip_NPiece {Po : mP} {a0_ : Nat} (hT : Typ Po) (hX : XR Po)  (ha0 : rl a0_ = 33) : EvP 4 63 [.ref a0_] Po (fun r P' => (∃ x : Int32, r = some (.int x) ∧ ((x.toInt = -1002 ∧ ¬ (fv Po a0_ 0).toInt = 0) ∨ (x.toInt = -1004 ∧ (fv Po a0_ 0).toInt = 0 ∧ 1 ≤ cntF (fun j : Nat => fv Po (a0_ + 2) j) 0 (nC (fv Po a0_ 0).toInt (fv Po a0_ 1).toInt)) ∨ (x.toInt = 0 ∧ (fv Po a0_ 0).toInt = 0 ∧ cntF (fun j : Nat => fv Po (a0_ + 2) j) 0 (nC (fv Po a0_ 0).toInt (fv Po a0_ 1).toInt) = 0))) ∧ P' = Po) := by
  refine EvP.of qm_63 (Nat.le_of_ble_eq_true rfl) rfl ?_
  show MEvP _ none q_63 0 [(0, .ref a0_)] [] _ 0 0 _
  have w1 := np_ar ha0
  have g2 := ti_full (fv Po a0_ 0)
  have g3 : (0 : Int) ≤ (fv Po a0_ 1).toInt ∧ (fv Po a0_ 1).toInt ≤ 8 := Typ.rng hT ha0 (by decide) (by decide) rfl
  refine mp_a (a_aload_n dX6_errorOfDecidedStrip_0 rfl) (mpp 1 rfl ?_)
  refine mp_t (s_ifnonnullR (t := 8) dX6_errorOfDecidedStrip_1 (by decide)) ?_
  refine mp_a (a_aload_n dX6_errorOfDecidedStrip_8 rfl) (mpp 9 rfl ?_)
  refine mt_getI (i := 130) (k := 0) hT dX6_errorOfDecidedStrip_9 rfl ha0 (by decide) rfl (by decide) rfl (fun g4 g5 => mpp 12 rfl ?_)
  refine mp_Tb (t := 19) (j_if_eq dX6_errorOfDecidedStrip_12) (by decide) (fun c6 => ?_) (fun c6 => mpp 15 rfl ?_)
  · have c6 : (fv Po a0_ 0).toInt = 0 := ti_eq c6
    refine mp_a (a_aload_n dX6_errorOfDecidedStrip_19 rfl) (mpp 20 rfl ?_)
    refine mt_callv (i := 159) (q' := q_42) (As := []) (rest := []) hT dX6_errorOfDecidedStrip_20 rfl qm_42 (by decide) rfl ha0 (by decide) rfl (Nat.le_of_ble_eq_true rfl) rfl ⟨rfl, rfl⟩ ⟨Nat.le_of_ble_eq_true rfl, Nat.le_of_ble_eq_true rfl⟩ (EvP.mono (by decide) (c_CP_isUndecided_NPiece hT hX ha0)) (fun r7 P8 g9 => mpp 23 rfl ?_)
    obtain ⟨⟨x10, rfl, g11⟩, e12⟩ := g9
    have e12 := e12.symm
    subst e12
    have wx10 := ti_full x10
    replace g11 : 0 ≤ x10.toInt ∧ x10.toInt ≤ 1 ∧ ((x10.toInt = 1 ∧ 1 ≤ cntF (fun j : Nat => fv Po (a0_ + 2) j) 0 (nC (fv Po a0_ 0).toInt (fv Po a0_ 1).toInt)) ∨ (x10.toInt = 0 ∧ cntF (fun j : Nat => fv Po (a0_ + 2) j) 0 (nC (fv Po a0_ 0).toInt (fv Po a0_ 1).toInt) = 0)) := g11
    show MEvP _ none q_63 23 [(0, .ref a0_)] [.int x10] _ _ _ _
    refine mp_Tb (t := 32) (j_if_eq dX6_errorOfDecidedStrip_23) (by decide) (fun c13 => ?_) (fun c13 => mpp 26 rfl ?_)
    · have c13 : x10.toInt = 0 := ti_eq c13
      refine mp_a (a_iconst (v := 0) dX6_errorOfDecidedStrip_32 rfl) (mpp 33 rfl ?_)
      have u14 : ((0 : Int) = -1002 ∧ ¬ (fv Po a0_ 0).toInt = 0) ∨ ((0 : Int) = -1004 ∧ (fv Po a0_ 0).toInt = 0 ∧ 1 ≤ cntF (fun j : Nat => fv Po (a0_ + 2) j) 0 (nC (fv Po a0_ 0).toInt (fv Po a0_ 1).toInt)) ∨ ((0 : Int) = 0 ∧ (fv Po a0_ 0).toInt = 0 ∧ cntF (fun j : Nat => fv Po (a0_ + 2) j) 0 (nC (fv Po a0_ 0).toInt (fv Po a0_ 1).toInt) = 0) := Or.inr (Or.inr ⟨rfl, by omega, by omega⟩)
      exact mp_iret ⟨⟨_, rfl, u14⟩, rfl⟩ dX6_errorOfDecidedStrip_33 (Or.inl rfl)
    · have c13 : x10.toInt ≠ 0 := ti_eq_n c13
      refine mp_a (a_sipush (v := -1004) dX6_errorOfDecidedStrip_26 rfl) (mpp 29 rfl ?_)
      refine mp_a (a_goto (t := 33) dX6_errorOfDecidedStrip_29 (by decide)) ?_
      have u15 : ((-1004 : Int) = -1002 ∧ ¬ (fv Po a0_ 0).toInt = 0) ∨ ((-1004 : Int) = -1004 ∧ (fv Po a0_ 0).toInt = 0 ∧ 1 ≤ cntF (fun j : Nat => fv Po (a0_ + 2) j) 0 (nC (fv Po a0_ 0).toInt (fv Po a0_ 1).toInt)) ∨ ((-1004 : Int) = 0 ∧ (fv Po a0_ 0).toInt = 0 ∧ cntF (fun j : Nat => fv Po (a0_ + 2) j) 0 (nC (fv Po a0_ 0).toInt (fv Po a0_ 1).toInt) = 0) := Or.inr (Or.inl ⟨rfl, by omega, by omega⟩)
      exact mp_iret ⟨⟨_, rfl, u15⟩, rfl⟩ dX6_errorOfDecidedStrip_33 (Or.inl rfl)
  · have c6 : (fv Po a0_ 0).toInt ≠ 0 := ti_eq_n c6
    refine mp_a (a_sipush (v := -1002) dX6_errorOfDecidedStrip_15 rfl) (mpp 18 rfl ?_)
    have u16 : ((-1002 : Int) = -1002 ∧ ¬ (fv Po a0_ 0).toInt = 0) ∨ ((-1002 : Int) = -1004 ∧ (fv Po a0_ 0).toInt = 0 ∧ 1 ≤ cntF (fun j : Nat => fv Po (a0_ + 2) j) 0 (nC (fv Po a0_ 0).toInt (fv Po a0_ 1).toInt)) ∨ ((-1002 : Int) = 0 ∧ (fv Po a0_ 0).toInt = 0 ∧ cntF (fun j : Nat => fv Po (a0_ + 2) j) 0 (nC (fv Po a0_ 0).toInt (fv Po a0_ 1).toInt) = 0) := Or.inl ⟨rfl, by omega⟩
    exact mp_iret ⟨⟨_, rfl, u16⟩, rfl⟩ dX6_errorOfDecidedStrip_18 (Or.inl rfl)

set_option maxHeartbeats 4000000 in
theorem c_F_copyRow_creases_lcreases_l2 {Po : mP} {a0_ : Nat} (hTo : Typ Po) (hX : XR Po) (hp0 : ¬ a0_ = 297) (ha0 : rl a0_ = 5) : ∀ (n : Nat) (v2 : Int32), ∀ (P : mP), Typ P → KW [1024] Po P → (CPY Po P a0_ 0 297 0 v2.toInt.toNat) → (v2.toInt ≤ 8) → (0 ≤ v2.toInt) → (2147483647 - v2.toInt).toNat = n → MEvP 0 none q_19 2 [(0, .ref a0_), (1, .ref 297), (2, .int v2)] [] P 0 0 (fun r P' => (r = none ∧ (True)) ∧ Typ P' ∧ KW [1024] Po P' ∧ (∀ j : Nat, j < 8 → fv P' 297 j = fv Po a0_ j) ∧ KI 297 (297 + 1) Po P') := by
  intro n
  induction n using Nat.strongRecOn with | _ n ih => ?_
  intro v2 P hT hK i_0 i_1 i_2 hm
  have w_v2 := ti_full v2
  refine mp_a (a_iload_n dX6_copyRow_2 rfl) (mpp 3 rfl ?_)
  refine mp_a (a_aload_n dX6_copyRow_3 rfl) (mpp 4 rfl ?_)
  refine mt_len (n := 8) hT dX6_copyRow_4 ha0 (by decide) (by decide) rfl (mpp 5 rfl ?_)
  refine mp_Tb (t := 26) (j_icmp_ge dX6_copyRow_5) (by decide) (fun c1 => ?_) (fun c1 => mpp 8 rfl ?_)
  · have c1 : v2.toInt ≥ 8 := ti_ge c1
    have u2 : (∀ j : Nat, j < 8 → fv P 297 j = fv Po a0_ j) ∧ KI 297 (297 + 1) Po P := ⟨fun j hj => by have q := i_0.1 j (by omega); rwa [Nat.zero_add] at q, fun x j hx => i_0.2 x j (by omega)⟩
    exact mp_ret ⟨⟨rfl, trivial⟩, hT, hK, u2⟩ dX6_copyRow_26 rfl
  · have c1 : v2.toInt < 8 := ti_ge_n c1
    refine mp_a (a_iload_n dX6_copyRow_8 rfl) (mpp 9 rfl ?_)
    refine mp_a (a_aload_n dX6_copyRow_9 rfl) (mpp 10 rfl ?_)
    refine mt_len (n := 8) hT dX6_copyRow_10 rl_297 (by decide) (by decide) rfl (mpp 11 rfl ?_)
    refine mp_Tb (t := 26) (j_icmp_ge dX6_copyRow_11) (by decide) (fun c3 => ?_) (fun c3 => mpp 14 rfl ?_)
    · have c3 : v2.toInt ≥ 8 := ti_ge c3
      have u4 : (∀ j : Nat, j < 8 → fv P 297 j = fv Po a0_ j) ∧ KI 297 (297 + 1) Po P := ⟨fun j hj => by have q := i_0.1 j (by omega); rwa [Nat.zero_add] at q, fun x j hx => i_0.2 x j (by omega)⟩
      exact mp_ret ⟨⟨rfl, trivial⟩, hT, hK, u4⟩ dX6_copyRow_26 rfl
    · have c3 : v2.toInt < 8 := ti_ge_n c3
      refine mp_a (a_aload_n dX6_copyRow_14 rfl) (mpp 15 rfl ?_)
      refine mp_a (a_iload_n dX6_copyRow_15 rfl) (mpp 16 rfl ?_)
      refine mp_a (a_aload_n dX6_copyRow_16 rfl) (mpp 17 rfl ?_)
      refine mp_a (a_iload_n dX6_copyRow_17 rfl) (mpp 18 rfl ?_)
      refine mt_ial (n := 8) hT dX6_copyRow_18 ha0 (by decide) rfl rfl (by omega) (by omega) rfl (fun g5 g6 => mpp 19 rfl ?_)
      refine mt_ias (n := 8) hT dX6_copyRow_19 rl_297 (by decide) rfl rfl (by omega) (by omega) rfl (ti_full (fv P a0_ v2.toInt.toNat)) (fun P7 hT8 f9 f10 f11 => mpp 20 rfl ?_)
      have k12 : KW [1024] Po P7 := KW.step hK rl_297 rfl f10 f11
      obtain ⟨z13, h14⟩ := ti_ex (v2 + 1 : Int32)
      have wz13 := ti_full z13
      refine mp_a (a_iinc (v := z13) (L' := [(2, .int z13), (0, .ref a0_), (1, .ref 297)]) dX6_copyRow_20 (by decide) rfl h14 rfl) (mpp 23 rfl ?_)
      try have e15 : z13.toInt = v2.toInt + 1 := ti_addz h14 rfl rfl (by omega) (by omega)
      refine mp_a (a_goto (t := 2) dX6_copyRow_23 (by decide)) ?_
      refine MEvP.less (L := [(0, .ref a0_), (1, .ref 297), (2, .int z13)]) rfl rfl ⟨rfl, rfl, rfl, trivial⟩ ?_
      have i16 : CPY Po P7 a0_ 0 297 0 z13.toInt.toNat := CPY.step i_0 f9 f10 (by omega) (by omega) (by omega) (Or.inl hp0)
      have i17 : z13.toInt ≤ 8 := by omega
      have i18 : 0 ≤ z13.toInt := by omega
      exact ih _ (by omega) _ P7 hT8 k12 i16 i17 i18 rfl

set_option maxHeartbeats 4000000 in
theorem c_F_copyRow_creases_lcreases {Po : mP} {a0_ : Nat} (hT : Typ Po) (hX : XR Po)  (hp0 : ¬ a0_ = 297) (ha0 : rl a0_ = 5) : EvP 1 19 [.ref a0_, .ref 297] Po (fun r P' => (r = none ∧ (True)) ∧ Typ P' ∧ KW [1024] Po P' ∧ (∀ j : Nat, j < 8 → fv P' 297 j = fv Po a0_ j) ∧ KI 297 (297 + 1) Po P') := by
  refine EvP.of qm_19 (Nat.le_of_ble_eq_true rfl) rfl ?_
  show MEvP _ none q_19 0 [(0, .ref a0_), (1, .ref 297)] [] _ 0 0 _
  refine mp_a (a_iconst (v := 0) dX6_copyRow_0 rfl) (mpp 1 rfl ?_)
  refine mp_a (a_istore_n (L' := [(2, .int 0), (0, .ref a0_), (1, .ref 297)]) dX6_copyRow_1 (by decide) rfl) (mpp 2 rfl ?_)
  refine MEvP.less (L := [(0, .ref a0_), (1, .ref 297), (2, .int 0)]) rfl rfl ⟨rfl, rfl, rfl, trivial⟩ ?_
  have i1 : CPY Po Po a0_ 0 297 0 (0 : Int).toNat := CPY.start (by decide)
  have i2 : (0 : Int) ≤ 8 := by omega
  have i3 : 0 ≤ (0 : Int) := by omega
  exact c_F_copyRow_creases_lcreases_l2 hT hX  hp0 ha0 _ _ Po hT KW.refl i1 i2 i3 rfl

set_option maxHeartbeats 4000000 in
theorem c_F_put_places {Po : mP} {t1 : Int32} {t2 : Int32} (hT : Typ Po) (hX : XR Po)   : EvP 1 22 [.ref 296, .int t1, .int t2] Po (fun r P' => (r = none ∧ (True)) ∧ Typ P' ∧ KW [960] Po P' ∧ ((t1.toInt < 0 ∨ 8 ≤ t1.toInt) ∨ (fv P' 296 t1.toInt.toNat).toInt = t2.toInt) ∧ (∀ x j : Nat, ¬ (x = 296 ∧ j = t1.toInt.toNat) → fv P' x j = fv Po x j) ∧ KI 296 (296 + 1) Po P') := by
  refine EvP.of qm_22 (Nat.le_of_ble_eq_true rfl) rfl ?_
  show MEvP _ none q_22 0 [(0, .ref 296), (1, .int t1), (2, .int t2)] [] _ 0 0 _
  have w_t1 := ti_full t1
  have w_t2 := ti_full t2
  refine mp_a (a_iload_n dX6_put_0 rfl) (mpp 1 rfl ?_)
  refine mp_Tb (t := 14) (j_if_lt dX6_put_1) (by decide) (fun c1 => ?_) (fun c1 => mpp 4 rfl ?_)
  · have c1 : t1.toInt < 0 := ti_lt c1
    have u2 : ((t1.toInt < 0 ∨ 8 ≤ t1.toInt) ∨ (fv Po 296 t1.toInt.toNat).toInt = t2.toInt) := Or.inl (by omega)
    have u3 : (∀ x j : Nat, ¬ (x = 296 ∧ j = t1.toInt.toNat) → fv Po x j = fv Po x j) := fun _ _ _ => rfl
    have u4 : KI 296 (296 + 1) Po Po := fun _ _ _ => rfl
    exact mp_ret ⟨⟨rfl, trivial⟩, hT, KW.refl, ⟨u2, u3, u4⟩⟩ dX6_put_14 rfl
  · have c1 : t1.toInt ≥ 0 := ti_lt_n c1
    refine mp_a (a_iload_n dX6_put_4 rfl) (mpp 5 rfl ?_)
    refine mp_a (a_aload_n dX6_put_5 rfl) (mpp 6 rfl ?_)
    refine mt_len (n := 8) hT dX6_put_6 rl_296 (by decide) (by decide) rfl (mpp 7 rfl ?_)
    refine mp_Tb (t := 14) (j_icmp_ge dX6_put_7) (by decide) (fun c5 => ?_) (fun c5 => mpp 10 rfl ?_)
    · have c5 : t1.toInt ≥ 8 := ti_ge c5
      have u6 : ((t1.toInt < 0 ∨ 8 ≤ t1.toInt) ∨ (fv Po 296 t1.toInt.toNat).toInt = t2.toInt) := Or.inl (by omega)
      have u7 : (∀ x j : Nat, ¬ (x = 296 ∧ j = t1.toInt.toNat) → fv Po x j = fv Po x j) := fun _ _ _ => rfl
      have u8 : KI 296 (296 + 1) Po Po := fun _ _ _ => rfl
      exact mp_ret ⟨⟨rfl, trivial⟩, hT, KW.refl, ⟨u6, u7, u8⟩⟩ dX6_put_14 rfl
    · have c5 : t1.toInt < 8 := ti_ge_n c5
      refine mp_a (a_aload_n dX6_put_10 rfl) (mpp 11 rfl ?_)
      refine mp_a (a_iload_n dX6_put_11 rfl) (mpp 12 rfl ?_)
      refine mp_a (a_iload_n dX6_put_12 rfl) (mpp 13 rfl ?_)
      refine mt_ias (n := 8) hT dX6_put_13 rl_296 (by decide) rfl rfl (by omega) (by omega) rfl (ti_full t2) (fun P9 hT10 f11 f12 f13 => mpp 14 rfl ?_)
      have k14 : KW [960] Po P9 := KW.step KW.refl rl_296 rfl f12 f13
      have u15 : ((t1.toInt < 0 ∨ 8 ≤ t1.toInt) ∨ (fv P9 296 t1.toInt.toNat).toInt = t2.toInt) := Or.inr (congrArg Int32.toInt f11)
      have u16 : (∀ x j : Nat, ¬ (x = 296 ∧ j = t1.toInt.toNat) → fv P9 x j = fv Po x j) := f12
      have u17 : KI 296 (296 + 1) Po P9 := by
        intro x j hx
        rw [f12 x j (by omega)]
      exact mp_ret ⟨⟨rfl, trivial⟩, hT10, k14, ⟨u15, u16, u17⟩⟩ dX6_put_14 rfl

set_option maxHeartbeats 4000000 in
theorem c_CL_load_Layers_NPiece_l26 {Po : mP} {a1_ : Nat} (hTo : Typ Po) (hX : XR Po) (hp0 : a1_ ≤ 288 ∨ 298 ≤ a1_) (ha1 : rl a1_ = 33) : ∀ (n : Nat) (v2 : Int32), ∀ (P : mP), Typ P → KW [832, 960, 1024] Po P → ((fv P 294 0).toInt = min (fv Po a1_ 1).toInt 7) → (∀ j : Nat, j < 8 → fv P 297 j = fv Po (a1_ + 2) j) → (∀ j : Nat, j < v2.toInt.toNat → (fv P 296 j).toInt = pP Po a1_ j) → (KI 294 298 Po P) → (v2.toInt ≤ 8) → (0 ≤ v2.toInt) → (2147483647 - v2.toInt).toNat = n → MEvP 2 none q_65 26 [(0, .ref 294), (1, .ref a1_), (2, .int v2)] [] P 0 0 (fun r P' => (r = none ∧ ((fv P' 294 0).toInt = min (fv Po a1_ 1).toInt 7 ∧ (∀ j : Nat, j < 8 → fv P' 297 j = fv Po (a1_ + 2) j) ∧ ∀ j : Nat, (j : Int) ≤ (fv P' 294 0).toInt → (fv P' 296 j).toInt = pP Po a1_ j)) ∧ Typ P' ∧ KW [832, 960, 1024] Po P' ∧ KI 294 298 Po P') := by
  intro n
  induction n using Nat.strongRecOn with | _ n ih => ?_
  intro v2 P hT hK i_0 i_1 i_2 i_3 i_4 i_5 hm
  have w1 := np_ar ha1
  have w_v2 := ti_full v2
  have g2 : (0 : Int) ≤ (fv P 294 0).toInt ∧ (fv P 294 0).toInt ≤ 8 := Typ.rng hT rl_294 (by decide) (by decide) rfl
  have g3 : (0 : Int) ≤ (fv P 294 0).toInt ∧ (fv P 294 0).toInt ≤ 8 := Typ.rng hT rl_294 (by decide) (by decide) rfl
  refine mp_a (a_iload_n dX1_load_26 rfl) (mpp 27 rfl ?_)
  refine mp_a (a_aload_n dX1_load_27 rfl) (mpp 28 rfl ?_)
  refine mt_getI (i := 30) (k := 0) hT dX1_load_28 rfl rl_294 (by decide) rfl (by decide) rfl (fun g4 g5 => mpp 31 rfl ?_)
  refine mp_Tb (t := 53) (j_icmp_gt dX1_load_31) (by decide) (fun c6 => ?_) (fun c6 => mpp 34 rfl ?_)
  · have c6 : v2.toInt > (fv P 294 0).toInt := ti_gt c6
    have u7 : (fv P 294 0).toInt = min (fv Po a1_ 1).toInt 7 ∧ (∀ j : Nat, j < 8 → fv P 297 j = fv Po (a1_ + 2) j) ∧ ∀ j : Nat, (j : Int) ≤ (fv P 294 0).toInt → (fv P 296 j).toInt = pP Po a1_ j := ⟨by omega, i_1, fun j hj => i_2 j (by omega)⟩
    have u8 : KI 294 298 Po P := i_3
    exact mp_ret ⟨⟨rfl, u7⟩, hT, hK, u8⟩ dX1_load_53 rfl
  · have c6 : v2.toInt ≤ (fv P 294 0).toInt := ti_gt_n c6
    refine mp_a (a_aload_n dX1_load_34 rfl) (mpp 35 rfl ?_)
    refine mt_getU (i := 15) (k := 2) (A := 296) hT dX1_load_35 rfl rl_294 (by decide) rfl (by decide) rfl un_15 (mpp 38 rfl ?_)
    refine mp_a (a_iload_n dX1_load_38 rfl) (mpp 39 rfl ?_)
    refine mp_a (a_aload_n dX1_load_39 rfl) (mpp 40 rfl ?_)
    refine mp_a (a_iload_n dX1_load_40 rfl) (mpp 41 rfl ?_)
    refine mt_callv (i := 56) (q' := q_13) (As := [.int v2]) (rest := [.int v2, .ref 296]) hT dX1_load_41 rfl qm_13 (by decide) rfl ha1 (by decide) rfl (Nat.le_of_ble_eq_true rfl) rfl ⟨rfl, rfl⟩ ⟨Nat.le_of_ble_eq_true rfl, Nat.le_of_ble_eq_true rfl⟩ (EvP.mono (by decide) (c_CP_placeOf_NPiece hT (KW.xr hK hX) ha1)) (fun r9 P10 g11 => mpp 44 rfl ?_)
    obtain ⟨⟨x12, rfl, g13⟩, e14⟩ := g11
    have e14 := e14.symm
    subst e14
    have wx12 := ti_full x12
    replace g13 : x12.toInt = (plF (fun j : Nat => fv P (a1_ + 1) j) (min v2.toInt (fv P a1_ 1).toInt).toNat).toInt := g13
    have e15 : (fv P a1_ 1).toInt = (fv Po a1_ 1).toInt := congrArg Int32.toInt (KW.at hK 1 ha1 rfl)
    show MEvP _ none q_65 44 [(0, .ref 294), (1, .ref a1_), (2, .int v2)] [.int x12, .int v2, .ref 296] _ _ _ _
    refine mp_calls (i := 25) (q' := q_22) (As := [.ref 296, .int v2, .int x12]) (rest := []) dX1_load_44 rfl qm_22 (by decide) rfl (Nat.le_of_ble_eq_true rfl) rfl ⟨rfl, rfl⟩ ⟨Nat.le_of_ble_eq_true rfl, Nat.le_of_ble_eq_true rfl⟩ (EvP.mono (by decide) (c_F_put_places hT (KW.xr hK hX) )) (fun r16 P17 g18 => mpp 47 rfl ?_)
    obtain ⟨⟨rfl, g20⟩, hT21, k22, R23⟩ := g18
    have k24 : KW [832, 960, 1024] Po P17 := KW.trans hK k22 rfl
    show MEvP _ none q_65 47 [(0, .ref 294), (1, .ref a1_), (2, .int v2)] [] _ _ _ _
    obtain ⟨z26, h27⟩ := ti_ex (v2 + 1 : Int32)
    have wz26 := ti_full z26
    refine mp_a (a_iinc (v := z26) (L' := [(2, .int z26), (0, .ref 294), (1, .ref a1_)]) dX1_load_47 (by decide) rfl h27 rfl) (mpp 50 rfl ?_)
    try have e28 : z26.toInt = v2.toInt + 1 := ti_addz h27 rfl rfl (by omega) (by omega)
    refine mp_a (a_goto (t := 26) dX1_load_50 (by decide)) ?_
    refine MEvP.less (L := [(0, .ref 294), (1, .ref a1_), (2, .int z26)]) rfl rfl ⟨rfl, rfl, rfl, trivial⟩ ?_
    have e29 : (fv P17 294 0).toInt = (fv P 294 0).toInt := congrArg Int32.toInt (KW.at k22 0 rl_294 rfl)
    have i30 : (fv P17 294 0).toInt = min (fv Po a1_ 1).toInt 7 := by omega
    have i31 : ∀ j : Nat, j < 8 → fv P17 297 j = fv Po (a1_ + 2) j := fun j hj => (R23.2.1 297 j (by omega)).trans (i_1 j hj)
    have w33_ := g13
    have w33_b : ∀ j : Nat, fv P (a1_ + 1) j = fv Po (a1_ + 1) j := fun j => i_3 (a1_ + 1) j (by omega)
    simp only [w33_b] at w33_
    have w33_c : (fv P a1_ 1).toInt = (fv Po a1_ 1).toInt := congrArg Int32.toInt (i_3 a1_ 1 (by omega))
    have w33_d : (fv P17 296 v2.toInt.toNat).toInt = pP Po a1_ v2.toInt.toNat := (R23.1.resolve_left (by omega)).trans (w33_.trans (congrArg (fun n : Nat => (plF (fun j : Nat => fv Po (a1_ + 1) j) n).toInt) (by omega)))
    have i32 : ∀ j : Nat, j < z26.toInt.toNat → (fv P17 296 j).toInt = pP Po a1_ j := fun j hj => if e : j = v2.toInt.toNat then e ▸ w33_d else by rw [R23.2.1 296 j (by omega)]; exact i_2 j (by omega)
    have i34 : KI 294 298 Po P17 := fun x j hx => by rw [R23.2.1 x j (by omega), i_3 x j (by omega)]
    have i35 : z26.toInt ≤ 8 := by omega
    have i36 : 0 ≤ z26.toInt := by omega
    exact ih _ (by omega) _ P17 hT21 k24 i30 i31 i32 i34 i35 i36 rfl

set_option maxHeartbeats 4000000 in
theorem c_CL_load_Layers_NPiece {Po : mP} {a1_ : Nat} (hT : Typ Po) (hX : XR Po)  (hp0 : a1_ ≤ 288 ∨ 298 ≤ a1_) (ha1 : rl a1_ = 33) : EvP 3 65 [.ref 294, .ref a1_] Po (fun r P' => (r = none ∧ ((fv P' 294 0).toInt = min (fv Po a1_ 1).toInt 7 ∧ (∀ j : Nat, j < 8 → fv P' 297 j = fv Po (a1_ + 2) j) ∧ ∀ j : Nat, (j : Int) ≤ (fv P' 294 0).toInt → (fv P' 296 j).toInt = pP Po a1_ j)) ∧ Typ P' ∧ KW [832, 960, 1024] Po P' ∧ KI 294 298 Po P') := by
  refine EvP.of qm_65 (Nat.le_of_ble_eq_true rfl) rfl ?_
  show MEvP _ none q_65 0 [(0, .ref 294), (1, .ref a1_)] [] _ 0 0 _
  have w1 := np_ar ha1
  have g2 : (0 : Int) ≤ (fv Po a1_ 1).toInt ∧ (fv Po a1_ 1).toInt ≤ 8 := Typ.rng hT ha1 (by decide) (by decide) rfl
  refine mp_a (a_aload_n dX1_load_0 rfl) (mpp 1 rfl ?_)
  refine mp_a (a_aload_n dX1_load_1 rfl) (mpp 2 rfl ?_)
  refine mt_getI (i := 42) (k := 1) hT dX1_load_2 rfl ha1 (by decide) rfl (by decide) rfl (fun g3 g4 => mpp 5 rfl ?_)
  refine mp_a (a_bipush (v := 7) dX1_load_5 rfl) (mpp 7 rfl ?_)
  obtain ⟨z5, h6⟩ := ti_ex (if (8 : Nat) = 7 then (if (fv Po a1_ 1) < 7 then 7 else (fv Po a1_ 1)) else (if 7 < (fv Po a1_ 1) then 7 else (fv Po a1_ 1)) : Int32)
  have e7 : z5.toInt = min (fv Po a1_ 1).toInt 7 := ti_mm8 h6
  refine mp_math (i := 45) (k := 0) (v := z5) dX1_load_7 rfl (by decide) (Nat.le_of_ble_eq_true rfl) h6 ⟨Nat.le_of_ble_eq_true rfl, Nat.le_of_ble_eq_true rfl⟩ (mpp 10 rfl ?_)
  refine mt_putI (i := 30) (k := 0) (x := z5) hT dX1_load_10 rfl rl_294 (by decide) rfl (by decide) rfl ⟨by omega, by omega⟩ rfl rfl (fun P8 hT9 f10 f11 f12 => mpp 13 rfl ?_)
  have k13 : KW [832, 960, 1024] Po P8 := KW.step KW.refl rl_294 rfl f11 f12
  have e14 : (fv P8 294 0).toInt = z5.toInt := congrArg Int32.toInt f10
  refine mp_a (a_aload_n dX1_load_13 rfl) (mpp 14 rfl ?_)
  refine mt_getE (i := 51) (k := 4) hT9 dX1_load_14 rfl ha1 (by decide) rfl (by decide) rfl ((KW.xr k13 hX).1 a1_ (Or.inr ha1)).2 (fun q15 => mpp 17 rfl ?_)
  refine mp_a (a_aload_n dX1_load_17 rfl) (mpp 18 rfl ?_)
  refine mt_getU (i := 18) (k := 3) (A := 297) hT9 dX1_load_18 rfl rl_294 (by decide) rfl (by decide) rfl un_16 (mpp 21 rfl ?_)
  have p16 : ¬ (a1_ + 2) = 297 := by omega
  refine mp_calls (i := 52) (q' := q_19) (As := [.ref (a1_ + 2), .ref 297]) (rest := []) dX1_load_21 rfl qm_19 (by decide) rfl (Nat.le_of_ble_eq_true rfl) rfl ⟨rfl, rfl⟩ ⟨Nat.le_of_ble_eq_true rfl, Nat.le_of_ble_eq_true rfl⟩ (EvP.mono (by decide) (c_F_copyRow_creases_lcreases hT9 (KW.xr k13 hX) p16 q15)) (fun r17 P18 g19 => mpp 24 rfl ?_)
  obtain ⟨⟨rfl, g21⟩, hT22, k23, R24⟩ := g19
  have k25 : KW [832, 960, 1024] Po P18 := KW.trans k13 k23 rfl
  show MEvP _ none q_65 24 [(0, .ref 294), (1, .ref a1_)] [] _ _ _ _
  refine mp_a (a_iconst (v := 0) dX1_load_24 rfl) (mpp 25 rfl ?_)
  refine mp_a (a_istore_n (L' := [(2, .int 0), (0, .ref 294), (1, .ref a1_)]) dX1_load_25 (by decide) rfl) (mpp 26 rfl ?_)
  refine MEvP.less (L := [(0, .ref 294), (1, .ref a1_), (2, .int 0)]) rfl rfl ⟨rfl, rfl, rfl, trivial⟩ ?_
  have e27 : (fv P18 294 0).toInt = (fv P8 294 0).toInt := congrArg Int32.toInt (KW.at k23 0 rl_294 rfl)
  have i28 : (fv P18 294 0).toInt = min (fv Po a1_ 1).toInt 7 := by omega
  have i29 : ∀ j : Nat, j < 8 → fv P18 297 j = fv Po (a1_ + 2) j := fun j hj => (R24.1 j hj).trans (f11 (a1_ + 2) j (by omega))
  have i30 : ∀ j : Nat, j < (0 : Int).toNat → (fv P18 296 j).toInt = pP Po a1_ j := fun j hj => absurd hj (Nat.not_lt_zero j)
  have i31 : KI 294 298 Po P18 := fun x j hx => by rw [R24.2 x j (by omega), f11 x j (by omega)]
  have i32 : (0 : Int) ≤ 8 := by omega
  have i33 : 0 ≤ (0 : Int) := by omega
  exact c_CL_load_Layers_NPiece_l26 hT hX  hp0 ha1 _ _ P18 hT22 k25 i28 i29 i30 i31 i32 i33 rfl

set_option maxHeartbeats 4000000 in
theorem c_F_put_order {Po : mP} {t1 : Int32} {t2 : Int32} (hT : Typ Po) (hX : XR Po)   : EvP 1 22 [.ref 295, .int t1, .int t2] Po (fun r P' => (r = none ∧ (True)) ∧ Typ P' ∧ KW [896] Po P' ∧ ((t1.toInt < 0 ∨ 8 ≤ t1.toInt) ∨ (fv P' 295 t1.toInt.toNat).toInt = t2.toInt) ∧ (∀ x j : Nat, ¬ (x = 295 ∧ j = t1.toInt.toNat) → fv P' x j = fv Po x j) ∧ KI 295 (295 + 1) Po P') := by
  refine EvP.of qm_22 (Nat.le_of_ble_eq_true rfl) rfl ?_
  show MEvP _ none q_22 0 [(0, .ref 295), (1, .int t1), (2, .int t2)] [] _ 0 0 _
  have w_t1 := ti_full t1
  have w_t2 := ti_full t2
  refine mp_a (a_iload_n dX6_put_0 rfl) (mpp 1 rfl ?_)
  refine mp_Tb (t := 14) (j_if_lt dX6_put_1) (by decide) (fun c1 => ?_) (fun c1 => mpp 4 rfl ?_)
  · have c1 : t1.toInt < 0 := ti_lt c1
    have u2 : ((t1.toInt < 0 ∨ 8 ≤ t1.toInt) ∨ (fv Po 295 t1.toInt.toNat).toInt = t2.toInt) := Or.inl (by omega)
    have u3 : (∀ x j : Nat, ¬ (x = 295 ∧ j = t1.toInt.toNat) → fv Po x j = fv Po x j) := fun _ _ _ => rfl
    have u4 : KI 295 (295 + 1) Po Po := fun _ _ _ => rfl
    exact mp_ret ⟨⟨rfl, trivial⟩, hT, KW.refl, ⟨u2, u3, u4⟩⟩ dX6_put_14 rfl
  · have c1 : t1.toInt ≥ 0 := ti_lt_n c1
    refine mp_a (a_iload_n dX6_put_4 rfl) (mpp 5 rfl ?_)
    refine mp_a (a_aload_n dX6_put_5 rfl) (mpp 6 rfl ?_)
    refine mt_len (n := 8) hT dX6_put_6 rl_295 (by decide) (by decide) rfl (mpp 7 rfl ?_)
    refine mp_Tb (t := 14) (j_icmp_ge dX6_put_7) (by decide) (fun c5 => ?_) (fun c5 => mpp 10 rfl ?_)
    · have c5 : t1.toInt ≥ 8 := ti_ge c5
      have u6 : ((t1.toInt < 0 ∨ 8 ≤ t1.toInt) ∨ (fv Po 295 t1.toInt.toNat).toInt = t2.toInt) := Or.inl (by omega)
      have u7 : (∀ x j : Nat, ¬ (x = 295 ∧ j = t1.toInt.toNat) → fv Po x j = fv Po x j) := fun _ _ _ => rfl
      have u8 : KI 295 (295 + 1) Po Po := fun _ _ _ => rfl
      exact mp_ret ⟨⟨rfl, trivial⟩, hT, KW.refl, ⟨u6, u7, u8⟩⟩ dX6_put_14 rfl
    · have c5 : t1.toInt < 8 := ti_ge_n c5
      refine mp_a (a_aload_n dX6_put_10 rfl) (mpp 11 rfl ?_)
      refine mp_a (a_iload_n dX6_put_11 rfl) (mpp 12 rfl ?_)
      refine mp_a (a_iload_n dX6_put_12 rfl) (mpp 13 rfl ?_)
      refine mt_ias (n := 8) hT dX6_put_13 rl_295 (by decide) rfl rfl (by omega) (by omega) rfl (ti_full t2) (fun P9 hT10 f11 f12 f13 => mpp 14 rfl ?_)
      have k14 : KW [896] Po P9 := KW.step KW.refl rl_295 rfl f12 f13
      have u15 : ((t1.toInt < 0 ∨ 8 ≤ t1.toInt) ∨ (fv P9 295 t1.toInt.toNat).toInt = t2.toInt) := Or.inr (congrArg Int32.toInt f11)
      have u16 : (∀ x j : Nat, ¬ (x = 295 ∧ j = t1.toInt.toNat) → fv P9 x j = fv Po x j) := f12
      have u17 : KI 295 (295 + 1) Po P9 := by
        intro x j hx
        rw [f12 x j (by omega)]
      exact mp_ret ⟨⟨rfl, trivial⟩, hT10, k14, ⟨u15, u16, u17⟩⟩ dX6_put_14 rfl

set_option maxHeartbeats 4000000 in
theorem c_F_at_places {Po : mP} {t1 : Int32} (hT : Typ Po) (hX : XR Po)   : EvP 1 12 [.ref 296, .int t1] Po (fun r P' => (∃ x : Int32, r = some (.int x) ∧ ((0 ≤ t1.toInt ∧ t1.toInt ≤ 7 ∧ x.toInt = (fv Po 296 t1.toInt.toNat).toInt) ∨ ((t1.toInt < 0 ∨ 8 ≤ t1.toInt) ∧ x.toInt = 0))) ∧ P' = Po) := by
  refine EvP.of qm_12 (Nat.le_of_ble_eq_true rfl) rfl ?_
  show MEvP _ none q_12 0 [(0, .ref 296), (1, .int t1)] [] _ 0 0 _
  have w_t1 := ti_full t1
  refine mp_a (a_iload_n dX6_at_0 rfl) (mpp 1 rfl ?_)
  refine mp_Tb (t := 16) (j_if_lt dX6_at_1) (by decide) (fun c1 => ?_) (fun c1 => mpp 4 rfl ?_)
  · have c1 : t1.toInt < 0 := ti_lt c1
    refine mp_a (a_iconst (v := 0) dX6_at_16 rfl) (mpp 17 rfl ?_)
    have u2 : (0 ≤ t1.toInt ∧ t1.toInt ≤ 7 ∧ (0 : Int) = (fv Po 296 t1.toInt.toNat).toInt) ∨ ((t1.toInt < 0 ∨ 8 ≤ t1.toInt) ∧ (0 : Int) = 0) := by omega
    exact mp_iret ⟨⟨_, rfl, u2⟩, rfl⟩ dX6_at_17 (Or.inl rfl)
  · have c1 : t1.toInt ≥ 0 := ti_lt_n c1
    refine mp_a (a_iload_n dX6_at_4 rfl) (mpp 5 rfl ?_)
    refine mp_a (a_aload_n dX6_at_5 rfl) (mpp 6 rfl ?_)
    refine mt_len (n := 8) hT dX6_at_6 rl_296 (by decide) (by decide) rfl (mpp 7 rfl ?_)
    refine mp_Tb (t := 16) (j_icmp_ge dX6_at_7) (by decide) (fun c3 => ?_) (fun c3 => mpp 10 rfl ?_)
    · have c3 : t1.toInt ≥ 8 := ti_ge c3
      refine mp_a (a_iconst (v := 0) dX6_at_16 rfl) (mpp 17 rfl ?_)
      have u4 : (0 ≤ t1.toInt ∧ t1.toInt ≤ 7 ∧ (0 : Int) = (fv Po 296 t1.toInt.toNat).toInt) ∨ ((t1.toInt < 0 ∨ 8 ≤ t1.toInt) ∧ (0 : Int) = 0) := by omega
      exact mp_iret ⟨⟨_, rfl, u4⟩, rfl⟩ dX6_at_17 (Or.inl rfl)
    · have c3 : t1.toInt < 8 := ti_ge_n c3
      refine mp_a (a_aload_n dX6_at_10 rfl) (mpp 11 rfl ?_)
      refine mp_a (a_iload_n dX6_at_11 rfl) (mpp 12 rfl ?_)
      refine mt_ial (n := 8) hT dX6_at_12 rl_296 (by decide) rfl rfl (by omega) (by omega) rfl (fun g5 g6 => mpp 13 rfl ?_)
      refine mp_a (a_goto (t := 17) dX6_at_13 (by decide)) ?_
      have u7 : (0 ≤ t1.toInt ∧ t1.toInt ≤ 7 ∧ (fv Po 296 t1.toInt.toNat).toInt = (fv Po 296 t1.toInt.toNat).toInt) ∨ ((t1.toInt < 0 ∨ 8 ≤ t1.toInt) ∧ (fv Po 296 t1.toInt.toNat).toInt = 0) := by omega
      exact mp_iret ⟨⟨_, rfl, u7⟩, rfl⟩ dX6_at_17 (Or.inl rfl)

set_option maxHeartbeats 4000000 in
theorem c_F_at_order {Po : mP} {t1 : Int32} (hT : Typ Po) (hX : XR Po)   : EvP 1 12 [.ref 295, .int t1] Po (fun r P' => (∃ x : Int32, r = some (.int x) ∧ ((0 ≤ t1.toInt ∧ t1.toInt ≤ 7 ∧ x.toInt = (fv Po 295 t1.toInt.toNat).toInt) ∨ ((t1.toInt < 0 ∨ 8 ≤ t1.toInt) ∧ x.toInt = 0))) ∧ P' = Po) := by
  refine EvP.of qm_12 (Nat.le_of_ble_eq_true rfl) rfl ?_
  show MEvP _ none q_12 0 [(0, .ref 295), (1, .int t1)] [] _ 0 0 _
  have w_t1 := ti_full t1
  refine mp_a (a_iload_n dX6_at_0 rfl) (mpp 1 rfl ?_)
  refine mp_Tb (t := 16) (j_if_lt dX6_at_1) (by decide) (fun c1 => ?_) (fun c1 => mpp 4 rfl ?_)
  · have c1 : t1.toInt < 0 := ti_lt c1
    refine mp_a (a_iconst (v := 0) dX6_at_16 rfl) (mpp 17 rfl ?_)
    have u2 : (0 ≤ t1.toInt ∧ t1.toInt ≤ 7 ∧ (0 : Int) = (fv Po 295 t1.toInt.toNat).toInt) ∨ ((t1.toInt < 0 ∨ 8 ≤ t1.toInt) ∧ (0 : Int) = 0) := by omega
    exact mp_iret ⟨⟨_, rfl, u2⟩, rfl⟩ dX6_at_17 (Or.inl rfl)
  · have c1 : t1.toInt ≥ 0 := ti_lt_n c1
    refine mp_a (a_iload_n dX6_at_4 rfl) (mpp 5 rfl ?_)
    refine mp_a (a_aload_n dX6_at_5 rfl) (mpp 6 rfl ?_)
    refine mt_len (n := 8) hT dX6_at_6 rl_295 (by decide) (by decide) rfl (mpp 7 rfl ?_)
    refine mp_Tb (t := 16) (j_icmp_ge dX6_at_7) (by decide) (fun c3 => ?_) (fun c3 => mpp 10 rfl ?_)
    · have c3 : t1.toInt ≥ 8 := ti_ge c3
      refine mp_a (a_iconst (v := 0) dX6_at_16 rfl) (mpp 17 rfl ?_)
      have u4 : (0 ≤ t1.toInt ∧ t1.toInt ≤ 7 ∧ (0 : Int) = (fv Po 295 t1.toInt.toNat).toInt) ∨ ((t1.toInt < 0 ∨ 8 ≤ t1.toInt) ∧ (0 : Int) = 0) := by omega
      exact mp_iret ⟨⟨_, rfl, u4⟩, rfl⟩ dX6_at_17 (Or.inl rfl)
    · have c3 : t1.toInt < 8 := ti_ge_n c3
      refine mp_a (a_aload_n dX6_at_10 rfl) (mpp 11 rfl ?_)
      refine mp_a (a_iload_n dX6_at_11 rfl) (mpp 12 rfl ?_)
      refine mt_ial (n := 8) hT dX6_at_12 rl_295 (by decide) rfl rfl (by omega) (by omega) rfl (fun g5 g6 => mpp 13 rfl ?_)
      refine mp_a (a_goto (t := 17) dX6_at_13 (by decide)) ?_
      have u7 : (0 ≤ t1.toInt ∧ t1.toInt ≤ 7 ∧ (fv Po 295 t1.toInt.toNat).toInt = (fv Po 295 t1.toInt.toNat).toInt) ∨ ((t1.toInt < 0 ∨ 8 ≤ t1.toInt) ∧ (fv Po 295 t1.toInt.toNat).toInt = 0) := by omega
      exact mp_iret ⟨⟨_, rfl, u7⟩, rfl⟩ dX6_at_17 (Or.inl rfl)

