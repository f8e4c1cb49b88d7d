/-! methods on typed pools, 52 (written by a program) -/
set_option maxHeartbeats 4000000 in
theorem c_M_allOf_c4_l4 {Po : mP}  (hT : Typ Po) (hR : Rel Po)  : ∀ (n : Nat) (v2 : Int32) (v3 : Int32), (v2.toInt = siF (fun k : Nat => cntF (fun j : Nat => fv Po 302 (14 + 19 * k + j)) 2 (nC (fv Po 302 (3 + 19 * k)).toInt (fv Po 302 (4 + 19 * k)).toInt)) v3.toInt.toNat) → (v3.toInt ≤ (fv Po 302 0).toInt) → (0 ≤ v2.toInt) → (v2.toInt ≤ 8 * v3.toInt) → (0 ≤ v3.toInt) → (2147483647 - v3.toInt).toNat = n → MEvP 6 none q_230 4 [(0, .ref 301), (1, .int 4), (2, .int v2), (3, .int v3)] [] Po 0 0 (fun r P' => (∃ x : Int32, r = some (.int x) ∧ (0 ≤ x.toInt ∧ x.toInt ≤ 64 ∧ x.toInt = siF (fun k : Nat => cntF (fun j : Nat => fv Po 302 (14 + 19 * k + j)) 2 (nC (fv Po 302 (3 + 19 * k)).toInt (fv Po 302 (4 + 19 * k)).toInt)) (fv Po 302 0).toInt.toNat)) ∧ P' = Po) := by
  intro n
  induction n using Nat.strongRecOn with | _ n ih => ?_
  intro v2 v3 i_0 i_1 i_2 i_3 i_4 hm
  have w_v2 := ti_full v2
  have w_v3 := ti_full v3
  have g1 : (0 : Int) ≤ (fv Po 302 0).toInt ∧ (fv Po 302 0).toInt ≤ 8 := Typ.rng hT rl_302 (by decide) (by decide) rfl
  refine mp_a (a_iload_n dX7_allOf_4 rfl) (mpp 5 rfl ?_)
  refine mp_a (a_aload_n dX7_allOf_5 rfl) (mpp 6 rfl ?_)
  refine mt_getU (i := 9) (k := 0) (A := 302) hT dX7_allOf_6 rfl rl_301 (by decide) rfl (by decide) rfl un_18 (mpp 9 rfl ?_)
  refine mp_a (a_iconst (v := 0) dX7_allOf_9 rfl) (mpp 10 rfl ?_)
  refine mt_ialX (n := 155) hT dX7_allOf_10 rl_302 (by decide) rfl rfl (by decide) (by decide) ssp_0 (fun g2 => mpp 11 rfl ?_)
  have we4 := ti_full (fv Po 302 0)
  refine mp_Tb (t := 29) (j_icmp_ge dX7_allOf_11) (by decide) (fun c5 => ?_) (fun c5 => mpp 14 rfl ?_)
  · have c5 : v3.toInt ≥ (fv Po 302 0).toInt := ti_ge c5
    refine mp_a (a_iload_n dX7_allOf_29 rfl) (mpp 30 rfl ?_)
    have u6 : 0 ≤ v2.toInt ∧ v2.toInt ≤ 64 ∧ v2.toInt = siF (fun k : Nat => cntF (fun j : Nat => fv Po 302 (14 + 19 * k + j)) 2 (nC (fv Po 302 (3 + 19 * k)).toInt (fv Po 302 (4 + 19 * k)).toInt)) (fv Po 302 0).toInt.toNat := ⟨by omega, by omega, i_0.trans (congrArg (siF _) (by omega))⟩
    exact mp_iret ⟨⟨_, rfl, u6⟩, rfl⟩ dX7_allOf_30 (Or.inl rfl)
  · have c5 : v3.toInt < (fv Po 302 0).toInt := ti_ge_n c5
    refine mp_a (a_iload_n dX7_allOf_14 rfl) (mpp 15 rfl ?_)
    refine mp_a (a_aload_n dX7_allOf_15 rfl) (mpp 16 rfl ?_)
    refine mp_a (a_iload_n dX7_allOf_16 rfl) (mpp 17 rfl ?_)
    refine mp_a (a_iload_n dX7_allOf_17 rfl) (mpp 18 rfl ?_)
    refine mt_callv (i := 348) (q' := q_194) (As := [.int v3, .int 4]) (rest := [.int v2]) hT dX7_allOf_18 rfl qm_194 (by decide) rfl rl_301 (by decide) rfl (Nat.le_of_ble_eq_true rfl) rfl ⟨rfl, rfl⟩ ⟨Nat.le_of_ble_eq_true rfl, Nat.le_of_ble_eq_true rfl⟩ (EvP.mono (by decide) (c_M_piece_c4 hT )) (fun r7 P8 g9 => mpp 21 rfl ?_)
    obtain ⟨⟨x10, rfl, g11⟩, e12⟩ := g9
    have e12 := e12.symm
    subst e12
    have wx10 := ti_full x10
    replace g11 : (v3.toInt < 0 ∨ (fv Po 302 0).toInt ≤ v3.toInt ∨ (0 ≤ x10.toInt ∧ x10.toInt ≤ 8)) ∧ pieceM (sr Po) x10.toInt v3.toInt (4 : Int) := g11
    show MEvP _ none q_230 21 [(0, .ref 301), (1, .int 4), (2, .int v2), (3, .int v3)] [.int x10, .int v2] _ _ _ _
    obtain ⟨z13, h14⟩ := ti_ex (v2 + x10 : Int32)
    have wz13 := ti_full z13
    refine mp_t (s_iadd (v := z13) dX7_allOf_21 h14) (mpp 22 rfl ?_)
    try have e15 : z13.toInt = v2.toInt + x10.toInt := ti_addz h14 rfl rfl (by omega) (by omega)
    refine mp_a (a_istore_n (L' := [(2, .int z13), (0, .ref 301), (1, .int 4), (3, .int v3)]) dX7_allOf_22 (by decide) rfl) (mpp 23 rfl ?_)
    obtain ⟨z16, h17⟩ := ti_ex (v3 + 1 : Int32)
    have wz16 := ti_full z16
    refine mp_a (a_iinc (v := z16) (L' := [(3, .int z16), (2, .int z13), (0, .ref 301), (1, .int 4)]) dX7_allOf_23 (by decide) rfl h17 rfl) (mpp 26 rfl ?_)
    try have e18 : z16.toInt = v3.toInt + 1 := ti_addz h17 rfl rfl (by omega) (by omega)
    refine mp_a (a_goto (t := 4) dX7_allOf_26 (by decide)) ?_
    refine MEvP.less (L := [(0, .ref 301), (1, .int 4), (2, .int z13), (3, .int z16)]) rfl rfl ⟨rfl, rfl, rfl, rfl, trivial⟩ ?_
    have i19 : z13.toInt = siF (fun k : Nat => cntF (fun j : Nat => fv Po 302 (14 + 19 * k + j)) 2 (nC (fv Po 302 (3 + 19 * k)).toInt (fv Po 302 (4 + 19 * k)).toInt)) z16.toInt.toNat := siF.step i_0 (by omega) (d := x10.toInt) (pieceM.k4 g11.2 (by omega) (show v3.toInt + 1 ≤ (fv Po 302 0).toInt from by omega)).symm (by omega)
    have i20 : z16.toInt ≤ (fv Po 302 0).toInt := by omega
    have i21 : 0 ≤ z13.toInt := by omega
    have i22 : z13.toInt ≤ 8 * z16.toInt := by omega
    have i23 : 0 ≤ z16.toInt := by omega
    exact ih _ (by omega) _ _ i19 i20 i21 i22 i23 rfl

set_option maxHeartbeats 4000000 in
theorem c_M_allOf_c4 {Po : mP}  (hT : Typ Po) (hR : Rel Po)  : EvP 7 230 [.ref 301, .int 4] Po (fun r P' => (∃ x : Int32, r = some (.int x) ∧ (0 ≤ x.toInt ∧ x.toInt ≤ 64 ∧ x.toInt = siF (fun k : Nat => cntF (fun j : Nat => fv Po 302 (14 + 19 * k + j)) 2 (nC (fv Po 302 (3 + 19 * k)).toInt (fv Po 302 (4 + 19 * k)).toInt)) (fv Po 302 0).toInt.toNat)) ∧ P' = Po) := by
  refine EvP.of qm_230 (Nat.le_of_ble_eq_true rfl) rfl ?_
  show MEvP _ none q_230 0 [(0, .ref 301), (1, .int 4)] [] _ 0 0 _
  have g1 : (0 : Int) ≤ (fv Po 302 0).toInt ∧ (fv Po 302 0).toInt ≤ 8 := Typ.rng hT rl_302 (by decide) (by decide) rfl
  refine mp_a (a_iconst (v := 0) dX7_allOf_0 rfl) (mpp 1 rfl ?_)
  refine mp_a (a_istore_n (L' := [(2, .int 0), (0, .ref 301), (1, .int 4)]) dX7_allOf_1 (by decide) rfl) (mpp 2 rfl ?_)
  refine mp_a (a_iconst (v := 0) dX7_allOf_2 rfl) (mpp 3 rfl ?_)
  refine mp_a (a_istore_n (L' := [(3, .int 0), (2, .int 0), (0, .ref 301), (1, .int 4)]) dX7_allOf_3 (by decide) rfl) (mpp 4 rfl ?_)
  refine MEvP.less (L := [(0, .ref 301), (1, .int 4), (2, .int 0), (3, .int 0)]) rfl rfl ⟨rfl, rfl, rfl, rfl, trivial⟩ ?_
  have i2 : (0 : Int) = siF (fun k : Nat => cntF (fun j : Nat => fv Po 302 (14 + 19 * k + j)) 2 (nC (fv Po 302 (3 + 19 * k)).toInt (fv Po 302 (4 + 19 * k)).toInt)) (0 : Int).toNat := rfl
  have i3 : (0 : Int) ≤ (fv Po 302 0).toInt := by omega
  have i4 : 0 ≤ (0 : Int) := by omega
  have i5 : (0 : Int) ≤ 8 * (0 : Int) := by omega
  have i6 : 0 ≤ (0 : Int) := by omega
  exact c_M_allOf_c4_l4 hT hR  _ _ _ i2 i3 i4 i5 i6 rfl

set_option maxHeartbeats 4000000 in
theorem c_M_piece_c5 {Po : mP} {t1 : Int32} (hT : Typ Po)   : EvP 6 194 [.ref 301, .int t1, .int 5] Po (fun r P' => (∃ x : Int32, r = some (.int x) ∧ ((t1.toInt < 0 ∨ (fv Po 302 0).toInt ≤ t1.toInt ∨ (0 ≤ x.toInt ∧ x.toInt ≤ 8)) ∧ pieceM (sr Po) x.toInt t1.toInt (5 : Int))) ∧ P' = Po) := by
  refine EvP.of qm_194 (Nat.le_of_ble_eq_true rfl) rfl ?_
  show MEvP _ none q_194 0 [(0, .ref 301), (1, .int t1), (2, .int 5)] [] _ 0 0 _
  have w_t1 := ti_full t1
  have g1 : (0 : Int) ≤ (fv Po 302 0).toInt ∧ (fv Po 302 0).toInt ≤ 8 := Typ.rng hT rl_302 (by decide) (by decide) rfl
  refine mp_a (a_aload_n dX7_piece_0 rfl) (mpp 1 rfl ?_)
  refine mp_a (a_iload_n dX7_piece_1 rfl) (mpp 2 rfl ?_)
  refine mt_callv (i := 85) (q' := q_144) (As := [.int t1]) (rest := []) hT dX7_piece_2 rfl qm_144 (by decide) rfl rl_301 (by decide) rfl (Nat.le_of_ble_eq_true rfl) rfl ⟨rfl, rfl⟩ ⟨Nat.le_of_ble_eq_true rfl, Nat.le_of_ble_eq_true rfl⟩ (EvP.mono (by decide) (c_M_isPiece hT )) (fun r2 P3 g4 => mpp 5 rfl ?_)
  obtain ⟨⟨x5, rfl, g6⟩, e7⟩ := g4
  have e7 := e7.symm
  subst e7
  have wx5 := ti_full x5
  replace g6 : 0 ≤ x5.toInt ∧ x5.toInt ≤ 1 ∧ ((x5.toInt = 1 ∧ 0 ≤ t1.toInt ∧ t1.toInt + 1 ≤ (fv Po 302 0).toInt ∧ t1.toInt ≤ 7) ∨ (x5.toInt = 0 ∧ (t1.toInt < 0 ∨ (fv Po 302 0).toInt ≤ t1.toInt))) := g6
  show MEvP _ none q_194 5 [(0, .ref 301), (1, .int t1), (2, .int 5)] [.int x5] _ _ _ _
  refine mp_Tb (t := 12) (j_if_ne dX7_piece_5) (by decide) (fun c8 => ?_) (fun c8 => mpp 8 rfl ?_)
  · have c8 : x5.toInt ≠ 0 := ti_ne c8
    refine mp_a (a_iload_n dX7_piece_12 rfl) (mpp 13 rfl ?_)
    refine mp_t (s_tabIn (t := 98) dX7_piece_13 (by decide) rfl (by decide)) ?_
    refine mp_a (a_aload_n dX7_piece_98 rfl) (mpp 99 rfl ?_)
    refine mp_a (a_iload_n dX7_piece_99 rfl) (mpp 100 rfl ?_)
    refine mp_a (a_iconst (v := 0) dX7_piece_100 rfl) (mpp 101 rfl ?_)
    have p9 : 0 ≤ t1.toInt := by omega
    have p10 : t1.toInt ≤ 7 := by omega
    refine mt_callv (i := 136) (q' := q_149) (As := [.int t1, .int 0]) (rest := []) hT dX7_piece_101 rfl qm_149 (by decide) rfl rl_301 (by decide) rfl (Nat.le_of_ble_eq_true rfl) rfl ⟨rfl, rfl⟩ ⟨Nat.le_of_ble_eq_true rfl, Nat.le_of_ble_eq_true rfl⟩ (EvP.mono (by decide) (c_M_countOf hT p9 p10 )) (fun r11 P12 g13 => mpp 104 rfl ?_)
    obtain ⟨⟨x14, rfl, g15⟩, e16⟩ := g13
    have e16 := e16.symm
    subst e16
    have wx14 := ti_full x14
    replace g15 : (x14.toInt ≤ 0 ∨ UD Po t1.toInt.toNat (0 : Int)) ∧ 0 ≤ x14.toInt ∧ x14.toInt ≤ 8 ∧ x14.toInt = cntF (fun j : Nat => fv Po 302 (14 + 19 * t1.toInt.toNat + j)) (0 : Int) (nC (fv Po 302 (3 + 19 * t1.toInt.toNat)).toInt (fv Po 302 (4 + 19 * t1.toInt.toNat)).toInt) := g15
    try have g17 : (0 : Int) ≤ (fv Po 302 (3 + 19 * t1.toInt.toNat)).toInt ∧ (fv Po 302 (3 + 19 * t1.toInt.toNat)).toInt ≤ 1 := s3_rng hT (by omega)
    try have g18 : (0 : Int) ≤ (fv Po 302 (4 + 19 * t1.toInt.toNat)).toInt ∧ (fv Po 302 (4 + 19 * t1.toInt.toNat)).toInt ≤ 8 := s4_rng hT (by omega)
    show MEvP _ none q_194 104 [(0, .ref 301), (1, .int t1), (2, .int 5)] [.int x14] _ _ _ _
    have u19 : (t1.toInt < 0 ∨ (fv Po 302 0).toInt ≤ t1.toInt ∨ (0 ≤ x14.toInt ∧ x14.toInt ≤ 8)) ∧ pieceM (sr Po) x14.toInt t1.toInt (5 : Int) := ⟨by omega, (show (x14.toInt = -1001 ∧ (t1.toInt < 0 ∨ (fv Po 302 (0)).toInt ≤ t1.toInt)) ∨ ((0 ≤ t1.toInt ∧ t1.toInt + 1 ≤ (fv Po 302 (0)).toInt ∧ t1.toInt ≤ 7) ∧ (5 : Int) = 0 ∧ x14.toInt = (fv Po 302 (3 + 19 * t1.toInt.toNat)).toInt) ∨ ((0 ≤ t1.toInt ∧ t1.toInt + 1 ≤ (fv Po 302 (0)).toInt ∧ t1.toInt ≤ 7) ∧ (5 : Int) = 1 ∧ x14.toInt = (fv Po 302 (4 + 19 * t1.toInt.toNat)).toInt) ∨ ((0 ≤ t1.toInt ∧ t1.toInt + 1 ≤ (fv Po 302 (0)).toInt ∧ t1.toInt ≤ 7) ∧ (5 : Int) = 2 ∧ (((fv Po 302 (3 + 19 * t1.toInt.toNat)).toInt = 1 ∧ x14.toInt = (fv Po 302 (4 + 19 * t1.toInt.toNat)).toInt) ∨ ((fv Po 302 (3 + 19 * t1.toInt.toNat)).toInt = 0 ∧ x14.toInt = (fv Po 302 (4 + 19 * t1.toInt.toNat)).toInt - 1))) ∨ ((0 ≤ t1.toInt ∧ t1.toInt + 1 ≤ (fv Po 302 (0)).toInt ∧ t1.toInt ≤ 7) ∧ (5 : Int) = 3 ∧ x14.toInt = cntF (fun j : Nat => fv Po 302 (14 + 19 * t1.toInt.toNat + j)) 1 (nC (fv Po 302 (3 + 19 * t1.toInt.toNat)).toInt (fv Po 302 (4 + 19 * t1.toInt.toNat)).toInt)) ∨ ((0 ≤ t1.toInt ∧ t1.toInt + 1 ≤ (fv Po 302 (0)).toInt ∧ t1.toInt ≤ 7) ∧ (5 : Int) = 4 ∧ x14.toInt = cntF (fun j : Nat => fv Po 302 (14 + 19 * t1.toInt.toNat + j)) 2 (nC (fv Po 302 (3 + 19 * t1.toInt.toNat)).toInt (fv Po 302 (4 + 19 * t1.toInt.toNat)).toInt)) ∨ ((0 ≤ t1.toInt ∧ t1.toInt + 1 ≤ (fv Po 302 (0)).toInt ∧ t1.toInt ≤ 7) ∧ (5 : Int) = 5 ∧ x14.toInt = cntF (fun j : Nat => fv Po 302 (14 + 19 * t1.toInt.toNat + j)) 0 (nC (fv Po 302 (3 + 19 * t1.toInt.toNat)).toInt (fv Po 302 (4 + 19 * t1.toInt.toNat)).toInt)) ∨ ((0 ≤ t1.toInt ∧ t1.toInt + 1 ≤ (fv Po 302 (0)).toInt ∧ t1.toInt ≤ 7) ∧ (5 : Int) = 6 ∧ x14.toInt = (smF (fun j : Nat => fv Po 302 (6 + 19 * t1.toInt.toNat + j)) (fv Po 302 (4 + 19 * t1.toInt.toNat)).toInt.toNat).toInt) ∨ ((0 ≤ t1.toInt ∧ t1.toInt + 1 ≤ (fv Po 302 (0)).toInt ∧ t1.toInt ≤ 7) ∧ (5 : Int) = 7 ∧ x14.toInt = (fv Po 302 (5 + 19 * t1.toInt.toNat)).toInt) ∨ ((0 ≤ t1.toInt ∧ t1.toInt + 1 ≤ (fv Po 302 (0)).toInt ∧ t1.toInt ≤ 7) ∧ (5 : Int) = 8 ∧ x14.toInt = (wdF (fv Po 302 (3 + 19 * t1.toInt.toNat)).toInt (fun j : Nat => fv Po 302 (6 + 19 * t1.toInt.toNat + j)) (fv Po 302 (4 + 19 * t1.toInt.toNat)).toInt.toNat).toInt) ∨ ((0 ≤ t1.toInt ∧ t1.toInt + 1 ≤ (fv Po 302 (0)).toInt ∧ t1.toInt ≤ 7) ∧ ((5 : Int) < 0 ∨ 8 < (5 : Int)) ∧ x14.toInt = -1002) from Or.inr (Or.inr (Or.inr (Or.inr (Or.inr (Or.inr (Or.inl (⟨by omega, by omega, g15.2.2.2⟩))))))))⟩
    exact mp_iret ⟨⟨_, rfl, u19⟩, rfl⟩ dX7_piece_104 (Or.inl rfl)
  · have c8 : x5.toInt = 0 := ti_ne_n c8
    refine mp_a (a_sipush (v := -1001) dX7_piece_8 rfl) (mpp 11 rfl ?_)
    have u20 : (t1.toInt < 0 ∨ (fv Po 302 0).toInt ≤ t1.toInt ∨ (0 ≤ (-1001 : Int) ∧ (-1001 : Int) ≤ 8)) ∧ pieceM (sr Po) (-1001 : Int) t1.toInt (5 : Int) := ⟨by omega, (show ((-1001 : Int) = -1001 ∧ (t1.toInt < 0 ∨ (fv Po 302 (0)).toInt ≤ t1.toInt)) ∨ ((0 ≤ t1.toInt ∧ t1.toInt + 1 ≤ (fv Po 302 (0)).toInt ∧ t1.toInt ≤ 7) ∧ (5 : Int) = 0 ∧ (-1001 : Int) = (fv Po 302 (3 + 19 * t1.toInt.toNat)).toInt) ∨ ((0 ≤ t1.toInt ∧ t1.toInt + 1 ≤ (fv Po 302 (0)).toInt ∧ t1.toInt ≤ 7) ∧ (5 : Int) = 1 ∧ (-1001 : Int) = (fv Po 302 (4 + 19 * t1.toInt.toNat)).toInt) ∨ ((0 ≤ t1.toInt ∧ t1.toInt + 1 ≤ (fv Po 302 (0)).toInt ∧ t1.toInt ≤ 7) ∧ (5 : Int) = 2 ∧ (((fv Po 302 (3 + 19 * t1.toInt.toNat)).toInt = 1 ∧ (-1001 : Int) = (fv Po 302 (4 + 19 * t1.toInt.toNat)).toInt) ∨ ((fv Po 302 (3 + 19 * t1.toInt.toNat)).toInt = 0 ∧ (-1001 : Int) = (fv Po 302 (4 + 19 * t1.toInt.toNat)).toInt - 1))) ∨ ((0 ≤ t1.toInt ∧ t1.toInt + 1 ≤ (fv Po 302 (0)).toInt ∧ t1.toInt ≤ 7) ∧ (5 : Int) = 3 ∧ (-1001 : Int) = cntF (fun j : Nat => fv Po 302 (14 + 19 * t1.toInt.toNat + j)) 1 (nC (fv Po 302 (3 + 19 * t1.toInt.toNat)).toInt (fv Po 302 (4 + 19 * t1.toInt.toNat)).toInt)) ∨ ((0 ≤ t1.toInt ∧ t1.toInt + 1 ≤ (fv Po 302 (0)).toInt ∧ t1.toInt ≤ 7) ∧ (5 : Int) = 4 ∧ (-1001 : Int) = cntF (fun j : Nat => fv Po 302 (14 + 19 * t1.toInt.toNat + j)) 2 (nC (fv Po 302 (3 + 19 * t1.toInt.toNat)).toInt (fv Po 302 (4 + 19 * t1.toInt.toNat)).toInt)) ∨ ((0 ≤ t1.toInt ∧ t1.toInt + 1 ≤ (fv Po 302 (0)).toInt ∧ t1.toInt ≤ 7) ∧ (5 : Int) = 5 ∧ (-1001 : Int) = cntF (fun j : Nat => fv Po 302 (14 + 19 * t1.toInt.toNat + j)) 0 (nC (fv Po 302 (3 + 19 * t1.toInt.toNat)).toInt (fv Po 302 (4 + 19 * t1.toInt.toNat)).toInt)) ∨ ((0 ≤ t1.toInt ∧ t1.toInt + 1 ≤ (fv Po 302 (0)).toInt ∧ t1.toInt ≤ 7) ∧ (5 : Int) = 6 ∧ (-1001 : Int) = (smF (fun j : Nat => fv Po 302 (6 + 19 * t1.toInt.toNat + j)) (fv Po 302 (4 + 19 * t1.toInt.toNat)).toInt.toNat).toInt) ∨ ((0 ≤ t1.toInt ∧ t1.toInt + 1 ≤ (fv Po 302 (0)).toInt ∧ t1.toInt ≤ 7) ∧ (5 : Int) = 7 ∧ (-1001 : Int) = (fv Po 302 (5 + 19 * t1.toInt.toNat)).toInt) ∨ ((0 ≤ t1.toInt ∧ t1.toInt + 1 ≤ (fv Po 302 (0)).toInt ∧ t1.toInt ≤ 7) ∧ (5 : Int) = 8 ∧ (-1001 : Int) = (wdF (fv Po 302 (3 + 19 * t1.toInt.toNat)).toInt (fun j : Nat => fv Po 302 (6 + 19 * t1.toInt.toNat + j)) (fv Po 302 (4 + 19 * t1.toInt.toNat)).toInt.toNat).toInt) ∨ ((0 ≤ t1.toInt ∧ t1.toInt + 1 ≤ (fv Po 302 (0)).toInt ∧ t1.toInt ≤ 7) ∧ ((5 : Int) < 0 ∨ 8 < (5 : Int)) ∧ (-1001 : Int) = -1002) from Or.inl (⟨by omega, by omega⟩))⟩
    exact mp_iret ⟨⟨_, rfl, u20⟩, rfl⟩ dX7_piece_11 (Or.inl rfl)

set_option maxHeartbeats 4000000 in
theorem c_M_allOf_c5_l4 {Po : mP}  (hT : Typ Po) (hR : Rel Po)  : ∀ (n : Nat) (v2 : Int32) (v3 : Int32), (v2.toInt = siF (fun k : Nat => cntF (fun j : Nat => fv Po 302 (14 + 19 * k + j)) 0 (nC (fv Po 302 (3 + 19 * k)).toInt (fv Po 302 (4 + 19 * k)).toInt)) v3.toInt.toNat) → (v3.toInt ≤ (fv Po 302 0).toInt) → (0 ≤ v2.toInt) → (v2.toInt ≤ 8 * v3.toInt) → (0 ≤ v3.toInt) → (2147483647 - v3.toInt).toNat = n → MEvP 6 none q_230 4 [(0, .ref 301), (1, .int 5), (2, .int v2), (3, .int v3)] [] Po 0 0 (fun r P' => (∃ x : Int32, r = some (.int x) ∧ (0 ≤ x.toInt ∧ x.toInt ≤ 64 ∧ x.toInt = siF (fun k : Nat => cntF (fun j : Nat => fv Po 302 (14 + 19 * k + j)) 0 (nC (fv Po 302 (3 + 19 * k)).toInt (fv Po 302 (4 + 19 * k)).toInt)) (fv Po 302 0).toInt.toNat)) ∧ P' = Po) := by
  intro n
  induction n using Nat.strongRecOn with | _ n ih => ?_
  intro v2 v3 i_0 i_1 i_2 i_3 i_4 hm
  have w_v2 := ti_full v2
  have w_v3 := ti_full v3
  have g1 : (0 : Int) ≤ (fv Po 302 0).toInt ∧ (fv Po 302 0).toInt ≤ 8 := Typ.rng hT rl_302 (by decide) (by decide) rfl
  refine mp_a (a_iload_n dX7_allOf_4 rfl) (mpp 5 rfl ?_)
  refine mp_a (a_aload_n dX7_allOf_5 rfl) (mpp 6 rfl ?_)
  refine mt_getU (i := 9) (k := 0) (A := 302) hT dX7_allOf_6 rfl rl_301 (by decide) rfl (by decide) rfl un_18 (mpp 9 rfl ?_)
  refine mp_a (a_iconst (v := 0) dX7_allOf_9 rfl) (mpp 10 rfl ?_)
  refine mt_ialX (n := 155) hT dX7_allOf_10 rl_302 (by decide) rfl rfl (by decide) (by decide) ssp_0 (fun g2 => mpp 11 rfl ?_)
  have we4 := ti_full (fv Po 302 0)
  refine mp_Tb (t := 29) (j_icmp_ge dX7_allOf_11) (by decide) (fun c5 => ?_) (fun c5 => mpp 14 rfl ?_)
  · have c5 : v3.toInt ≥ (fv Po 302 0).toInt := ti_ge c5
    refine mp_a (a_iload_n dX7_allOf_29 rfl) (mpp 30 rfl ?_)
    have u6 : 0 ≤ v2.toInt ∧ v2.toInt ≤ 64 ∧ v2.toInt = siF (fun k : Nat => cntF (fun j : Nat => fv Po 302 (14 + 19 * k + j)) 0 (nC (fv Po 302 (3 + 19 * k)).toInt (fv Po 302 (4 + 19 * k)).toInt)) (fv Po 302 0).toInt.toNat := ⟨by omega, by omega, i_0.trans (congrArg (siF _) (by omega))⟩
    exact mp_iret ⟨⟨_, rfl, u6⟩, rfl⟩ dX7_allOf_30 (Or.inl rfl)
  · have c5 : v3.toInt < (fv Po 302 0).toInt := ti_ge_n c5
    refine mp_a (a_iload_n dX7_allOf_14 rfl) (mpp 15 rfl ?_)
    refine mp_a (a_aload_n dX7_allOf_15 rfl) (mpp 16 rfl ?_)
    refine mp_a (a_iload_n dX7_allOf_16 rfl) (mpp 17 rfl ?_)
    refine mp_a (a_iload_n dX7_allOf_17 rfl) (mpp 18 rfl ?_)
    refine mt_callv (i := 348) (q' := q_194) (As := [.int v3, .int 5]) (rest := [.int v2]) hT dX7_allOf_18 rfl qm_194 (by decide) rfl rl_301 (by decide) rfl (Nat.le_of_ble_eq_true rfl) rfl ⟨rfl, rfl⟩ ⟨Nat.le_of_ble_eq_true rfl, Nat.le_of_ble_eq_true rfl⟩ (EvP.mono (by decide) (c_M_piece_c5 hT )) (fun r7 P8 g9 => mpp 21 rfl ?_)
    obtain ⟨⟨x10, rfl, g11⟩, e12⟩ := g9
    have e12 := e12.symm
    subst e12
    have wx10 := ti_full x10
    replace g11 : (v3.toInt < 0 ∨ (fv Po 302 0).toInt ≤ v3.toInt ∨ (0 ≤ x10.toInt ∧ x10.toInt ≤ 8)) ∧ pieceM (sr Po) x10.toInt v3.toInt (5 : Int) := g11
    show MEvP _ none q_230 21 [(0, .ref 301), (1, .int 5), (2, .int v2), (3, .int v3)] [.int x10, .int v2] _ _ _ _
    obtain ⟨z13, h14⟩ := ti_ex (v2 + x10 : Int32)
    have wz13 := ti_full z13
    refine mp_t (s_iadd (v := z13) dX7_allOf_21 h14) (mpp 22 rfl ?_)
    try have e15 : z13.toInt = v2.toInt + x10.toInt := ti_addz h14 rfl rfl (by omega) (by omega)
    refine mp_a (a_istore_n (L' := [(2, .int z13), (0, .ref 301), (1, .int 5), (3, .int v3)]) dX7_allOf_22 (by decide) rfl) (mpp 23 rfl ?_)
    obtain ⟨z16, h17⟩ := ti_ex (v3 + 1 : Int32)
    have wz16 := ti_full z16
    refine mp_a (a_iinc (v := z16) (L' := [(3, .int z16), (2, .int z13), (0, .ref 301), (1, .int 5)]) dX7_allOf_23 (by decide) rfl h17 rfl) (mpp 26 rfl ?_)
    try have e18 : z16.toInt = v3.toInt + 1 := ti_addz h17 rfl rfl (by omega) (by omega)
    refine mp_a (a_goto (t := 4) dX7_allOf_26 (by decide)) ?_
    refine MEvP.less (L := [(0, .ref 301), (1, .int 5), (2, .int z13), (3, .int z16)]) rfl rfl ⟨rfl, rfl, rfl, rfl, trivial⟩ ?_
    have i19 : z13.toInt = siF (fun k : Nat => cntF (fun j : Nat => fv Po 302 (14 + 19 * k + j)) 0 (nC (fv Po 302 (3 + 19 * k)).toInt (fv Po 302 (4 + 19 * k)).toInt)) z16.toInt.toNat := siF.step i_0 (by omega) (d := x10.toInt) (pieceM.k5 g11.2 (by omega) (show v3.toInt + 1 ≤ (fv Po 302 0).toInt from by omega)).symm (by omega)
    have i20 : z16.toInt ≤ (fv Po 302 0).toInt := by omega
    have i21 : 0 ≤ z13.toInt := by omega
    have i22 : z13.toInt ≤ 8 * z16.toInt := by omega
    have i23 : 0 ≤ z16.toInt := by omega
    exact ih _ (by omega) _ _ i19 i20 i21 i22 i23 rfl

set_option maxHeartbeats 4000000 in
theorem c_M_allOf_c5 {Po : mP}  (hT : Typ Po) (hR : Rel Po)  : EvP 7 230 [.ref 301, .int 5] Po (fun r P' => (∃ x : Int32, r = some (.int x) ∧ (0 ≤ x.toInt ∧ x.toInt ≤ 64 ∧ x.toInt = siF (fun k : Nat => cntF (fun j : Nat => fv Po 302 (14 + 19 * k + j)) 0 (nC (fv Po 302 (3 + 19 * k)).toInt (fv Po 302 (4 + 19 * k)).toInt)) (fv Po 302 0).toInt.toNat)) ∧ P' = Po) := by
  refine EvP.of qm_230 (Nat.le_of_ble_eq_true rfl) rfl ?_
  show MEvP _ none q_230 0 [(0, .ref 301), (1, .int 5)] [] _ 0 0 _
  have g1 : (0 : Int) ≤ (fv Po 302 0).toInt ∧ (fv Po 302 0).toInt ≤ 8 := Typ.rng hT rl_302 (by decide) (by decide) rfl
  refine mp_a (a_iconst (v := 0) dX7_allOf_0 rfl) (mpp 1 rfl ?_)
  refine mp_a (a_istore_n (L' := [(2, .int 0), (0, .ref 301), (1, .int 5)]) dX7_allOf_1 (by decide) rfl) (mpp 2 rfl ?_)
  refine mp_a (a_iconst (v := 0) dX7_allOf_2 rfl) (mpp 3 rfl ?_)
  refine mp_a (a_istore_n (L' := [(3, .int 0), (2, .int 0), (0, .ref 301), (1, .int 5)]) dX7_allOf_3 (by decide) rfl) (mpp 4 rfl ?_)
  refine MEvP.less (L := [(0, .ref 301), (1, .int 5), (2, .int 0), (3, .int 0)]) rfl rfl ⟨rfl, rfl, rfl, rfl, trivial⟩ ?_
  have i2 : (0 : Int) = siF (fun k : Nat => cntF (fun j : Nat => fv Po 302 (14 + 19 * k + j)) 0 (nC (fv Po 302 (3 + 19 * k)).toInt (fv Po 302 (4 + 19 * k)).toInt)) (0 : Int).toNat := rfl
  have i3 : (0 : Int) ≤ (fv Po 302 0).toInt := by omega
  have i4 : 0 ≤ (0 : Int) := by omega
  have i5 : (0 : Int) ≤ 8 * (0 : Int) := by omega
  have i6 : 0 ≤ (0 : Int) := by omega
  exact c_M_allOf_c5_l4 hT hR  _ _ _ i2 i3 i4 i5 i6 rfl

set_option maxHeartbeats 4000000 in
theorem c_M_account {Po : mP} {t1 : Int32} (hT : Typ Po) (hR : Rel Po)  : EvP 8 229 [.ref 301, .int t1] Po (fun r P' => (∃ x : Int32, r = some (.int x) ∧ (accountmC Po x.toInt t1.toInt)) ∧ P' = Po) := by
  refine EvP.of qm_229 (Nat.le_of_ble_eq_true rfl) rfl ?_
  show MEvP _ none q_229 0 [(0, .ref 301), (1, .int t1)] [] _ 0 0 _
  have w_t1 := ti_full t1
  refine mp_a (a_iload_n dX7_account_0 rfl) (mpp 1 rfl ?_)
  have c1 : (t1.toInt < 0 ∨ 12 < t1.toInt) ∨ t1.toInt = 0 ∨ t1.toInt = 1 ∨ t1.toInt = 2 ∨ t1.toInt = 3 ∨ t1.toInt = 4 ∨ t1.toInt = 5 ∨ t1.toInt = 6 ∨ t1.toInt = 7 ∨ t1.toInt = 8 ∨ t1.toInt = 9 ∨ t1.toInt = 10 ∨ t1.toInt = 11 ∨ t1.toInt = 12 := by omega
  rcases c1 with c1 | c1 | c1 | c1 | c1 | c1 | c1 | c1 | c1 | c1 | c1 | c1 | c1 | c1
  · refine mp_t (s_tabOut (t := 160) dX7_account_1 c1 (by decide)) ?_
    refine mp_a (a_sipush (v := -1002) dX7_account_160 rfl) (mpp 163 rfl ?_)
    have u2 : accountmC Po (-1002 : Int) t1.toInt := (show (t1.toInt = 0 ∧ (-1002 : Int) = (fv Po 302 0).toInt) ∨ (t1.toInt = 1 ∧ (-1002 : Int) = (fv Po 302 0).toInt - siF (fun k : Nat => (fv Po 302 (3 + 19 * k)).toInt) (fv Po 302 0).toInt.toNat) ∨ (t1.toInt = 2 ∧ (-1002 : Int) = siF (fun k : Nat => (fv Po 302 (3 + 19 * k)).toInt) (fv Po 302 0).toInt.toNat) ∨ (t1.toInt = 3 ∧ (-1002 : Int) = (smF (fun k : Nat => fv Po 302 (5 + 19 * k)) (fv Po 302 0).toInt.toNat).toInt) ∨ (t1.toInt = 4 ∧ (-1002 : Int) = (fv Po 302 1).toInt) ∨ (t1.toInt = 5 ∧ (-1002 : Int) = (fv Po 302 1 - smF (fun k : Nat => wpM (sr Po) k) (fv Po 302 0).toInt.toNat).toInt) ∨ (t1.toInt = 6 ∧ (-1002 : Int) = siF (fun k : Nat => pnI (fv Po 302 (3 + 19 * k)).toInt (fv Po 302 (4 + 19 * k)).toInt) (fv Po 302 0).toInt.toNat) ∨ (t1.toInt = 7 ∧ (-1002 : Int) = siF (fun k : Nat => cntF (fun j : Nat => fv Po 302 (14 + 19 * k + j)) 1 (nC (fv Po 302 (3 + 19 * k)).toInt (fv Po 302 (4 + 19 * k)).toInt)) (fv Po 302 0).toInt.toNat) ∨ (t1.toInt = 8 ∧ (-1002 : Int) = siF (fun k : Nat => cntF (fun j : Nat => fv Po 302 (14 + 19 * k + j)) 2 (nC (fv Po 302 (3 + 19 * k)).toInt (fv Po 302 (4 + 19 * k)).toInt)) (fv Po 302 0).toInt.toNat) ∨ (t1.toInt = 9 ∧ (-1002 : Int) = siF (fun k : Nat => cntF (fun j : Nat => fv Po 302 (14 + 19 * k + j)) 0 (nC (fv Po 302 (3 + 19 * k)).toInt (fv Po 302 (4 + 19 * k)).toInt)) (fv Po 302 0).toInt.toNat) ∨ (t1.toInt = 10 ∧ (-1002 : Int) = (fv Po 302 2).toInt) ∨ (t1.toInt = 11 ∧ (-1002 : Int) = (fv Po 301 23).toInt) ∨ (t1.toInt = 12 ∧ (-1002 : Int) = (fv Po 301 4).toInt) ∨ ((t1.toInt < 0 ∨ 12 < t1.toInt) ∧ (-1002 : Int) = -1002) from by exact Or.inr (Or.inr (Or.inr (Or.inr (Or.inr (Or.inr (Or.inr (Or.inr (Or.inr (Or.inr (Or.inr (Or.inr (Or.inr (⟨by omega, by omega⟩))))))))))))))
    exact mp_iret ⟨⟨_, rfl, u2⟩, rfl⟩ dX7_account_163 (Or.inl rfl)
  · refine mp_t (s_tabIn (t := 68) (off := 67) dX7_account_1 (by omega) (by rw [c1]; rfl) (by decide)) ?_
    refine mp_a (a_aload_n dX7_account_68 rfl) (mpp 69 rfl ?_)
    refine mt_getU (i := 9) (k := 0) (A := 302) hT dX7_account_69 rfl rl_301 (by decide) rfl (by decide) rfl un_18 (mpp 72 rfl ?_)
    refine mp_a (a_iconst (v := 0) dX7_account_72 rfl) (mpp 73 rfl ?_)
    have g5 : (0 : Int) ≤ (fv Po 302 0).toInt ∧ (fv Po 302 0).toInt ≤ 8 := Typ.rng hT rl_302 (by decide) (by decide) rfl
    refine mt_ialX (n := 155) hT dX7_account_73 rl_302 (by decide) rfl rfl (by decide) (by decide) ssp_0 (fun g3 => mpp 74 rfl ?_)
    have we6 := ti_full (fv Po 302 0)
    have u7 : accountmC Po (fv Po 302 0).toInt t1.toInt := (show (t1.toInt = 0 ∧ (fv Po 302 0).toInt = (fv Po 302 0).toInt) ∨ (t1.toInt = 1 ∧ (fv Po 302 0).toInt = (fv Po 302 0).toInt - siF (fun k : Nat => (fv Po 302 (3 + 19 * k)).toInt) (fv Po 302 0).toInt.toNat) ∨ (t1.toInt = 2 ∧ (fv Po 302 0).toInt = siF (fun k : Nat => (fv Po 302 (3 + 19 * k)).toInt) (fv Po 302 0).toInt.toNat) ∨ (t1.toInt = 3 ∧ (fv Po 302 0).toInt = (smF (fun k : Nat => fv Po 302 (5 + 19 * k)) (fv Po 302 0).toInt.toNat).toInt) ∨ (t1.toInt = 4 ∧ (fv Po 302 0).toInt = (fv Po 302 1).toInt) ∨ (t1.toInt = 5 ∧ (fv Po 302 0).toInt = (fv Po 302 1 - smF (fun k : Nat => wpM (sr Po) k) (fv Po 302 0).toInt.toNat).toInt) ∨ (t1.toInt = 6 ∧ (fv Po 302 0).toInt = siF (fun k : Nat => pnI (fv Po 302 (3 + 19 * k)).toInt (fv Po 302 (4 + 19 * k)).toInt) (fv Po 302 0).toInt.toNat) ∨ (t1.toInt = 7 ∧ (fv Po 302 0).toInt = siF (fun k : Nat => cntF (fun j : Nat => fv Po 302 (14 + 19 * k + j)) 1 (nC (fv Po 302 (3 + 19 * k)).toInt (fv Po 302 (4 + 19 * k)).toInt)) (fv Po 302 0).toInt.toNat) ∨ (t1.toInt = 8 ∧ (fv Po 302 0).toInt = siF (fun k : Nat => cntF (fun j : Nat => fv Po 302 (14 + 19 * k + j)) 2 (nC (fv Po 302 (3 + 19 * k)).toInt (fv Po 302 (4 + 19 * k)).toInt)) (fv Po 302 0).toInt.toNat) ∨ (t1.toInt = 9 ∧ (fv Po 302 0).toInt = siF (fun k : Nat => cntF (fun j : Nat => fv Po 302 (14 + 19 * k + j)) 0 (nC (fv Po 302 (3 + 19 * k)).toInt (fv Po 302 (4 + 19 * k)).toInt)) (fv Po 302 0).toInt.toNat) ∨ (t1.toInt = 10 ∧ (fv Po 302 0).toInt = (fv Po 302 2).toInt) ∨ (t1.toInt = 11 ∧ (fv Po 302 0).toInt = (fv Po 301 23).toInt) ∨ (t1.toInt = 12 ∧ (fv Po 302 0).toInt = (fv Po 301 4).toInt) ∨ ((t1.toInt < 0 ∨ 12 < t1.toInt) ∧ (fv Po 302 0).toInt = -1002) from by exact Or.inl (⟨by omega, by omega⟩))
    exact mp_iret ⟨⟨_, rfl, u7⟩, rfl⟩ dX7_account_74 (Or.inl rfl)
  · refine mp_t (s_tabIn (t := 75) (off := 74) dX7_account_1 (by omega) (by rw [c1]; rfl) (by decide)) ?_
    refine mp_a (a_aload_n dX7_account_75 rfl) (mpp 76 rfl ?_)
    refine mt_getU (i := 9) (k := 0) (A := 302) hT dX7_account_76 rfl rl_301 (by decide) rfl (by decide) rfl un_18 (mpp 79 rfl ?_)
    refine mp_a (a_iconst (v := 0) dX7_account_79 rfl) (mpp 80 rfl ?_)
    have g10 : (0 : Int) ≤ (fv Po 302 0).toInt ∧ (fv Po 302 0).toInt ≤ 8 := Typ.rng hT rl_302 (by decide) (by decide) rfl
    refine mt_ialX (n := 155) hT dX7_account_80 rl_302 (by decide) rfl rfl (by decide) (by decide) ssp_0 (fun g8 => mpp 81 rfl ?_)
    have we11 := ti_full (fv Po 302 0)
    refine mp_a (a_aload_n dX7_account_81 rfl) (mpp 82 rfl ?_)
    refine mp_a (a_iconst (v := 0) dX7_account_82 rfl) (mpp 83 rfl ?_)
    refine mt_callv (i := 351) (q' := q_230) (As := [.int 0]) (rest := [.int (fv Po 302 0)]) hT dX7_account_83 rfl qm_230 (by decide) rfl rl_301 (by decide) rfl (Nat.le_of_ble_eq_true rfl) rfl ⟨rfl, rfl⟩ ⟨Nat.le_of_ble_eq_true rfl, Nat.le_of_ble_eq_true rfl⟩ (EvP.mono (by decide) (c_M_allOf_c0 hT hR )) (fun r12 P13 g14 => mpp 86 rfl ?_)
    obtain ⟨⟨x15, rfl, g16⟩, e17⟩ := g14
    have e17 := e17.symm
    subst e17
    have wx15 := ti_full x15
    replace g16 : 0 ≤ x15.toInt ∧ x15.toInt ≤ 8 ∧ x15.toInt = siF (fun k : Nat => (fv Po 302 (3 + 19 * k)).toInt) (fv Po 302 0).toInt.toNat := g16
    show MEvP _ none q_229 86 [(0, .ref 301), (1, .int t1)] [.int x15, .int (fv Po 302 0)] _ _ _ _
    obtain ⟨z18, h19⟩ := ti_ex ((fv Po 302 0) - x15 : Int32)
    have wz18 := ti_full z18
    refine mp_t (s_isub (v := z18) dX7_account_86 h19) (mpp 87 rfl ?_)
    try have e20 : z18.toInt = (fv Po 302 0).toInt - x15.toInt := ti_subz h19 rfl rfl (by omega) (by omega)
    have u21 : accountmC Po z18.toInt t1.toInt := (show (t1.toInt = 0 ∧ z18.toInt = (fv Po 302 0).toInt) ∨ (t1.toInt = 1 ∧ z18.toInt = (fv Po 302 0).toInt - siF (fun k : Nat => (fv Po 302 (3 + 19 * k)).toInt) (fv Po 302 0).toInt.toNat) ∨ (t1.toInt = 2 ∧ z18.toInt = siF (fun k : Nat => (fv Po 302 (3 + 19 * k)).toInt) (fv Po 302 0).toInt.toNat) ∨ (t1.toInt = 3 ∧ z18.toInt = (smF (fun k : Nat => fv Po 302 (5 + 19 * k)) (fv Po 302 0).toInt.toNat).toInt) ∨ (t1.toInt = 4 ∧ z18.toInt = (fv Po 302 1).toInt) ∨ (t1.toInt = 5 ∧ z18.toInt = (fv Po 302 1 - smF (fun k : Nat => wpM (sr Po) k) (fv Po 302 0).toInt.toNat).toInt) ∨ (t1.toInt = 6 ∧ z18.toInt = siF (fun k : Nat => pnI (fv Po 302 (3 + 19 * k)).toInt (fv Po 302 (4 + 19 * k)).toInt) (fv Po 302 0).toInt.toNat) ∨ (t1.toInt = 7 ∧ z18.toInt = siF (fun k : Nat => cntF (fun j : Nat => fv Po 302 (14 + 19 * k + j)) 1 (nC (fv Po 302 (3 + 19 * k)).toInt (fv Po 302 (4 + 19 * k)).toInt)) (fv Po 302 0).toInt.toNat) ∨ (t1.toInt = 8 ∧ z18.toInt = siF (fun k : Nat => cntF (fun j : Nat => fv Po 302 (14 + 19 * k + j)) 2 (nC (fv Po 302 (3 + 19 * k)).toInt (fv Po 302 (4 + 19 * k)).toInt)) (fv Po 302 0).toInt.toNat) ∨ (t1.toInt = 9 ∧ z18.toInt = siF (fun k : Nat => cntF (fun j : Nat => fv Po 302 (14 + 19 * k + j)) 0 (nC (fv Po 302 (3 + 19 * k)).toInt (fv Po 302 (4 + 19 * k)).toInt)) (fv Po 302 0).toInt.toNat) ∨ (t1.toInt = 10 ∧ z18.toInt = (fv Po 302 2).toInt) ∨ (t1.toInt = 11 ∧ z18.toInt = (fv Po 301 23).toInt) ∨ (t1.toInt = 12 ∧ z18.toInt = (fv Po 301 4).toInt) ∨ ((t1.toInt < 0 ∨ 12 < t1.toInt) ∧ z18.toInt = -1002) from by exact Or.inr (Or.inl (⟨by omega, by omega⟩)))
    exact mp_iret ⟨⟨_, rfl, u21⟩, rfl⟩ dX7_account_87 (Or.inl rfl)
  · refine mp_t (s_tabIn (t := 88) (off := 87) dX7_account_1 (by omega) (by rw [c1]; rfl) (by decide)) ?_
    refine mp_a (a_aload_n dX7_account_88 rfl) (mpp 89 rfl ?_)
    refine mp_a (a_iconst (v := 0) dX7_account_89 rfl) (mpp 90 rfl ?_)
    refine mt_callv (i := 351) (q' := q_230) (As := [.int 0]) (rest := []) hT dX7_account_90 rfl qm_230 (by decide) rfl rl_301 (by decide) rfl (Nat.le_of_ble_eq_true rfl) rfl ⟨rfl, rfl⟩ ⟨Nat.le_of_ble_eq_true rfl, Nat.le_of_ble_eq_true rfl⟩ (EvP.mono (by decide) (c_M_allOf_c0 hT hR )) (fun r22 P23 g24 => mpp 93 rfl ?_)
    obtain ⟨⟨x25, rfl, g26⟩, e27⟩ := g24
    have e27 := e27.symm
    subst e27
    have wx25 := ti_full x25
    replace g26 : 0 ≤ x25.toInt ∧ x25.toInt ≤ 8 ∧ x25.toInt = siF (fun k : Nat => (fv Po 302 (3 + 19 * k)).toInt) (fv Po 302 0).toInt.toNat := g26
    have g28 : (0 : Int) ≤ (fv Po 302 0).toInt ∧ (fv Po 302 0).toInt ≤ 8 := Typ.rng hT rl_302 (by decide) (by decide) rfl
    show MEvP _ none q_229 93 [(0, .ref 301), (1, .int t1)] [.int x25] _ _ _ _
    have u29 : accountmC Po x25.toInt t1.toInt := (show (t1.toInt = 0 ∧ x25.toInt = (fv Po 302 0).toInt) ∨ (t1.toInt = 1 ∧ x25.toInt = (fv Po 302 0).toInt - siF (fun k : Nat => (fv Po 302 (3 + 19 * k)).toInt) (fv Po 302 0).toInt.toNat) ∨ (t1.toInt = 2 ∧ x25.toInt = siF (fun k : Nat => (fv Po 302 (3 + 19 * k)).toInt) (fv Po 302 0).toInt.toNat) ∨ (t1.toInt = 3 ∧ x25.toInt = (smF (fun k : Nat => fv Po 302 (5 + 19 * k)) (fv Po 302 0).toInt.toNat).toInt) ∨ (t1.toInt = 4 ∧ x25.toInt = (fv Po 302 1).toInt) ∨ (t1.toInt = 5 ∧ x25.toInt = (fv Po 302 1 - smF (fun k : Nat => wpM (sr Po) k) (fv Po 302 0).toInt.toNat).toInt) ∨ (t1.toInt = 6 ∧ x25.toInt = siF (fun k : Nat => pnI (fv Po 302 (3 + 19 * k)).toInt (fv Po 302 (4 + 19 * k)).toInt) (fv Po 302 0).toInt.toNat) ∨ (t1.toInt = 7 ∧ x25.toInt = siF (fun k : Nat => cntF (fun j : Nat => fv Po 302 (14 + 19 * k + j)) 1 (nC (fv Po 302 (3 + 19 * k)).toInt (fv Po 302 (4 + 19 * k)).toInt)) (fv Po 302 0).toInt.toNat) ∨ (t1.toInt = 8 ∧ x25.toInt = siF (fun k : Nat => cntF (fun j : Nat => fv Po 302 (14 + 19 * k + j)) 2 (nC (fv Po 302 (3 + 19 * k)).toInt (fv Po 302 (4 + 19 * k)).toInt)) (fv Po 302 0).toInt.toNat) ∨ (t1.toInt = 9 ∧ x25.toInt = siF (fun k : Nat => cntF (fun j : Nat => fv Po 302 (14 + 19 * k + j)) 0 (nC (fv Po 302 (3 + 19 * k)).toInt (fv Po 302 (4 + 19 * k)).toInt)) (fv Po 302 0).toInt.toNat) ∨ (t1.toInt = 10 ∧ x25.toInt = (fv Po 302 2).toInt) ∨ (t1.toInt = 11 ∧ x25.toInt = (fv Po 301 23).toInt) ∨ (t1.toInt = 12 ∧ x25.toInt = (fv Po 301 4).toInt) ∨ ((t1.toInt < 0 ∨ 12 < t1.toInt) ∧ x25.toInt = -1002) from by exact Or.inr (Or.inr (Or.inl (⟨by omega, g26.2.2⟩))))
    exact mp_iret ⟨⟨_, rfl, u29⟩, rfl⟩ dX7_account_93 (Or.inl rfl)
  · refine mp_t (s_tabIn (t := 94) (off := 93) dX7_account_1 (by omega) (by rw [c1]; rfl) (by decide)) ?_
    refine mp_a (a_aload_n dX7_account_94 rfl) (mpp 95 rfl ?_)
    refine mp_a (a_bipush (v := 7) dX7_account_95 rfl) (mpp 97 rfl ?_)
    refine mt_callv (i := 351) (q' := q_230) (As := [.int 7]) (rest := []) hT dX7_account_97 rfl qm_230 (by decide) rfl rl_301 (by decide) rfl (Nat.le_of_ble_eq_true rfl) rfl ⟨rfl, rfl⟩ ⟨Nat.le_of_ble_eq_true rfl, Nat.le_of_ble_eq_true rfl⟩ (EvP.mono (by decide) (c_M_allOf_c7 hT hR )) (fun r30 P31 g32 => mpp 100 rfl ?_)
    obtain ⟨⟨x33, rfl, g34⟩, e35⟩ := g32
    have e35 := e35.symm
    subst e35
    have wx33 := ti_full x33
    replace g34 : x33.toInt = (smF (fun k : Nat => fv Po 302 (5 + 19 * k)) (fv Po 302 0).toInt.toNat).toInt := g34
    have g36 : (0 : Int) ≤ (fv Po 302 0).toInt ∧ (fv Po 302 0).toInt ≤ 8 := Typ.rng hT rl_302 (by decide) (by decide) rfl
    show MEvP _ none q_229 100 [(0, .ref 301), (1, .int t1)] [.int x33] _ _ _ _
    have u37 : accountmC Po x33.toInt t1.toInt := (show (t1.toInt = 0 ∧ x33.toInt = (fv Po 302 0).toInt) ∨ (t1.toInt = 1 ∧ x33.toInt = (fv Po 302 0).toInt - siF (fun k : Nat => (fv Po 302 (3 + 19 * k)).toInt) (fv Po 302 0).toInt.toNat) ∨ (t1.toInt = 2 ∧ x33.toInt = siF (fun k : Nat => (fv Po 302 (3 + 19 * k)).toInt) (fv Po 302 0).toInt.toNat) ∨ (t1.toInt = 3 ∧ x33.toInt = (smF (fun k : Nat => fv Po 302 (5 + 19 * k)) (fv Po 302 0).toInt.toNat).toInt) ∨ (t1.toInt = 4 ∧ x33.toInt = (fv Po 302 1).toInt) ∨ (t1.toInt = 5 ∧ x33.toInt = (fv Po 302 1 - smF (fun k : Nat => wpM (sr Po) k) (fv Po 302 0).toInt.toNat).toInt) ∨ (t1.toInt = 6 ∧ x33.toInt = siF (fun k : Nat => pnI (fv Po 302 (3 + 19 * k)).toInt (fv Po 302 (4 + 19 * k)).toInt) (fv Po 302 0).toInt.toNat) ∨ (t1.toInt = 7 ∧ x33.toInt = siF (fun k : Nat => cntF (fun j : Nat => fv Po 302 (14 + 19 * k + j)) 1 (nC (fv Po 302 (3 + 19 * k)).toInt (fv Po 302 (4 + 19 * k)).toInt)) (fv Po 302 0).toInt.toNat) ∨ (t1.toInt = 8 ∧ x33.toInt = siF (fun k : Nat => cntF (fun j : Nat => fv Po 302 (14 + 19 * k + j)) 2 (nC (fv Po 302 (3 + 19 * k)).toInt (fv Po 302 (4 + 19 * k)).toInt)) (fv Po 302 0).toInt.toNat) ∨ (t1.toInt = 9 ∧ x33.toInt = siF (fun k : Nat => cntF (fun j : Nat => fv Po 302 (14 + 19 * k + j)) 0 (nC (fv Po 302 (3 + 19 * k)).toInt (fv Po 302 (4 + 19 * k)).toInt)) (fv Po 302 0).toInt.toNat) ∨ (t1.toInt = 10 ∧ x33.toInt = (fv Po 302 2).toInt) ∨ (t1.toInt = 11 ∧ x33.toInt = (fv Po 301 23).toInt) ∨ (t1.toInt = 12 ∧ x33.toInt = (fv Po 301 4).toInt) ∨ ((t1.toInt < 0 ∨ 12 < t1.toInt) ∧ x33.toInt = -1002) from by exact Or.inr (Or.inr (Or.inr (Or.inl (⟨by omega, g34⟩)))))
    exact mp_iret ⟨⟨_, rfl, u37⟩, rfl⟩ dX7_account_100 (Or.inl rfl)
  · refine mp_t (s_tabIn (t := 101) (off := 100) dX7_account_1 (by omega) (by rw [c1]; rfl) (by decide)) ?_
    refine mp_a (a_aload_n dX7_account_101 rfl) (mpp 102 rfl ?_)
    refine mt_getU (i := 9) (k := 0) (A := 302) hT dX7_account_102 rfl rl_301 (by decide) rfl (by decide) rfl un_18 (mpp 105 rfl ?_)
    refine mp_a (a_iconst (v := 1) dX7_account_105 rfl) (mpp 106 rfl ?_)
    have g40 := ti_full (fv Po 302 1)
    refine mt_ialX (n := 155) hT dX7_account_106 rl_302 (by decide) rfl rfl (by decide) (by decide) ssp_0 (fun g38 => mpp 107 rfl ?_)
    have we41 := ti_full (fv Po 302 1)
    have u42 : accountmC Po (fv Po 302 1).toInt t1.toInt := (show (t1.toInt = 0 ∧ (fv Po 302 1).toInt = (fv Po 302 0).toInt) ∨ (t1.toInt = 1 ∧ (fv Po 302 1).toInt = (fv Po 302 0).toInt - siF (fun k : Nat => (fv Po 302 (3 + 19 * k)).toInt) (fv Po 302 0).toInt.toNat) ∨ (t1.toInt = 2 ∧ (fv Po 302 1).toInt = siF (fun k : Nat => (fv Po 302 (3 + 19 * k)).toInt) (fv Po 302 0).toInt.toNat) ∨ (t1.toInt = 3 ∧ (fv Po 302 1).toInt = (smF (fun k : Nat => fv Po 302 (5 + 19 * k)) (fv Po 302 0).toInt.toNat).toInt) ∨ (t1.toInt = 4 ∧ (fv Po 302 1).toInt = (fv Po 302 1).toInt) ∨ (t1.toInt = 5 ∧ (fv Po 302 1).toInt = (fv Po 302 1 - smF (fun k : Nat => wpM (sr Po) k) (fv Po 302 0).toInt.toNat).toInt) ∨ (t1.toInt = 6 ∧ (fv Po 302 1).toInt = siF (fun k : Nat => pnI (fv Po 302 (3 + 19 * k)).toInt (fv Po 302 (4 + 19 * k)).toInt) (fv Po 302 0).toInt.toNat) ∨ (t1.toInt = 7 ∧ (fv Po 302 1).toInt = siF (fun k : Nat => cntF (fun j : Nat => fv Po 302 (14 + 19 * k + j)) 1 (nC (fv Po 302 (3 + 19 * k)).toInt (fv Po 302 (4 + 19 * k)).toInt)) (fv Po 302 0).toInt.toNat) ∨ (t1.toInt = 8 ∧ (fv Po 302 1).toInt = siF (fun k : Nat => cntF (fun j : Nat => fv Po 302 (14 + 19 * k + j)) 2 (nC (fv Po 302 (3 + 19 * k)).toInt (fv Po 302 (4 + 19 * k)).toInt)) (fv Po 302 0).toInt.toNat) ∨ (t1.toInt = 9 ∧ (fv Po 302 1).toInt = siF (fun k : Nat => cntF (fun j : Nat => fv Po 302 (14 + 19 * k + j)) 0 (nC (fv Po 302 (3 + 19 * k)).toInt (fv Po 302 (4 + 19 * k)).toInt)) (fv Po 302 0).toInt.toNat) ∨ (t1.toInt = 10 ∧ (fv Po 302 1).toInt = (fv Po 302 2).toInt) ∨ (t1.toInt = 11 ∧ (fv Po 302 1).toInt = (fv Po 301 23).toInt) ∨ (t1.toInt = 12 ∧ (fv Po 302 1).toInt = (fv Po 301 4).toInt) ∨ ((t1.toInt < 0 ∨ 12 < t1.toInt) ∧ (fv Po 302 1).toInt = -1002) from by exact Or.inr (Or.inr (Or.inr (Or.inr (Or.inl (⟨by omega, by omega⟩))))))
    exact mp_iret ⟨⟨_, rfl, u42⟩, rfl⟩ dX7_account_107 (Or.inl rfl)
  · refine mp_t (s_tabIn (t := 108) (off := 107) dX7_account_1 (by omega) (by rw [c1]; rfl) (by decide)) ?_
    refine mp_a (a_aload_n dX7_account_108 rfl) (mpp 109 rfl ?_)
    refine mt_getU (i := 9) (k := 0) (A := 302) hT dX7_account_109 rfl rl_301 (by decide) rfl (by decide) rfl un_18 (mpp 112 rfl ?_)
    refine mp_a (a_iconst (v := 1) dX7_account_112 rfl) (mpp 113 rfl ?_)
    have g45 := ti_full (fv Po 302 1)
    refine mt_ialX (n := 155) hT dX7_account_113 rl_302 (by decide) rfl rfl (by decide) (by decide) ssp_0 (fun g43 => mpp 114 rfl ?_)
    have we46 := ti_full (fv Po 302 1)
    refine mp_a (a_aload_n dX7_account_114 rfl) (mpp 115 rfl ?_)
    refine mt_callv (i := 231) (q' := q_184) (As := []) (rest := [.int (fv Po 302 1)]) hT dX7_account_115 rfl qm_184 (by decide) rfl rl_301 (by decide) rfl (Nat.le_of_ble_eq_true rfl) rfl ⟨rfl, rfl⟩ ⟨Nat.le_of_ble_eq_true rfl, Nat.le_of_ble_eq_true rfl⟩ (EvP.mono (by decide) (c_M_used hT )) (fun r47 P48 g49 => mpp 118 rfl ?_)
    obtain ⟨⟨x50, rfl, g51⟩, e52⟩ := g49
    have e52 := e52.symm
    subst e52
    have wx50 := ti_full x50
    replace g51 : x50.toInt = (smF (fun k : Nat => wpM (sr Po) k) (fv Po 302 0).toInt.toNat).toInt := g51
    have g53 : (0 : Int) ≤ (fv Po 302 0).toInt ∧ (fv Po 302 0).toInt ≤ 8 := Typ.rng hT rl_302 (by decide) (by decide) rfl
    show MEvP _ none q_229 118 [(0, .ref 301), (1, .int t1)] [.int x50, .int (fv Po 302 1)] _ _ _ _
    obtain ⟨z54, h55⟩ := ti_ex ((fv Po 302 1) - x50 : Int32)
    have wz54 := ti_full z54
    refine mp_t (s_isub (v := z54) dX7_account_118 h55) (mpp 119 rfl ?_)
    try have e56 : z54.toInt = (fv Po 302 1).toInt - x50.toInt := ti_subz h55 rfl rfl (by omega) (by omega)
    have u57 : accountmC Po z54.toInt t1.toInt := (show (t1.toInt = 0 ∧ z54.toInt = (fv Po 302 0).toInt) ∨ (t1.toInt = 1 ∧ z54.toInt = (fv Po 302 0).toInt - siF (fun k : Nat => (fv Po 302 (3 + 19 * k)).toInt) (fv Po 302 0).toInt.toNat) ∨ (t1.toInt = 2 ∧ z54.toInt = siF (fun k : Nat => (fv Po 302 (3 + 19 * k)).toInt) (fv Po 302 0).toInt.toNat) ∨ (t1.toInt = 3 ∧ z54.toInt = (smF (fun k : Nat => fv Po 302 (5 + 19 * k)) (fv Po 302 0).toInt.toNat).toInt) ∨ (t1.toInt = 4 ∧ z54.toInt = (fv Po 302 1).toInt) ∨ (t1.toInt = 5 ∧ z54.toInt = (fv Po 302 1 - smF (fun k : Nat => wpM (sr Po) k) (fv Po 302 0).toInt.toNat).toInt) ∨ (t1.toInt = 6 ∧ z54.toInt = siF (fun k : Nat => pnI (fv Po 302 (3 + 19 * k)).toInt (fv Po 302 (4 + 19 * k)).toInt) (fv Po 302 0).toInt.toNat) ∨ (t1.toInt = 7 ∧ z54.toInt = siF (fun k : Nat => cntF (fun j : Nat => fv Po 302 (14 + 19 * k + j)) 1 (nC (fv Po 302 (3 + 19 * k)).toInt (fv Po 302 (4 + 19 * k)).toInt)) (fv Po 302 0).toInt.toNat) ∨ (t1.toInt = 8 ∧ z54.toInt = siF (fun k : Nat => cntF (fun j : Nat => fv Po 302 (14 + 19 * k + j)) 2 (nC (fv Po 302 (3 + 19 * k)).toInt (fv Po 302 (4 + 19 * k)).toInt)) (fv Po 302 0).toInt.toNat) ∨ (t1.toInt = 9 ∧ z54.toInt = siF (fun k : Nat => cntF (fun j : Nat => fv Po 302 (14 + 19 * k + j)) 0 (nC (fv Po 302 (3 + 19 * k)).toInt (fv Po 302 (4 + 19 * k)).toInt)) (fv Po 302 0).toInt.toNat) ∨ (t1.toInt = 10 ∧ z54.toInt = (fv Po 302 2).toInt) ∨ (t1.toInt = 11 ∧ z54.toInt = (fv Po 301 23).toInt) ∨ (t1.toInt = 12 ∧ z54.toInt = (fv Po 301 4).toInt) ∨ ((t1.toInt < 0 ∨ 12 < t1.toInt) ∧ z54.toInt = -1002) from by exact Or.inr (Or.inr (Or.inr (Or.inr (Or.inr (Or.inl (⟨by omega, by rw [← h55, Int32.toInt_inj.mp g51]⟩)))))))
    exact mp_iret ⟨⟨_, rfl, u57⟩, rfl⟩ dX7_account_119 (Or.inl rfl)
  · refine mp_t (s_tabIn (t := 120) (off := 119) dX7_account_1 (by omega) (by rw [c1]; rfl) (by decide)) ?_
    refine mp_a (a_aload_n dX7_account_120 rfl) (mpp 121 rfl ?_)
    refine mt_callv (i := 354) (q' := q_231) (As := []) (rest := []) hT dX7_account_121 rfl qm_231 (by decide) rfl rl_301 (by decide) rfl (Nat.le_of_ble_eq_true rfl) rfl ⟨rfl, rfl⟩ ⟨Nat.le_of_ble_eq_true rfl, Nat.le_of_ble_eq_true rfl⟩ (EvP.mono (by decide) (c_M_panelsOfAll hT )) (fun r58 P59 g60 => mpp 124 rfl ?_)
    obtain ⟨⟨x61, rfl, g62⟩, e63⟩ := g60
    have e63 := e63.symm
    subst e63
    have wx61 := ti_full x61
    replace g62 : x61.toInt = siF (fun k : Nat => pnI (fv Po 302 (3 + 19 * k)).toInt (fv Po 302 (4 + 19 * k)).toInt) (fv Po 302 0).toInt.toNat ∧ 0 ≤ x61.toInt ∧ x61.toInt ≤ 64 := g62
    have g64 : (0 : Int) ≤ (fv Po 302 0).toInt ∧ (fv Po 302 0).toInt ≤ 8 := Typ.rng hT rl_302 (by decide) (by decide) rfl
    show MEvP _ none q_229 124 [(0, .ref 301), (1, .int t1)] [.int x61] _ _ _ _
    have u65 : accountmC Po x61.toInt t1.toInt := (show (t1.toInt = 0 ∧ x61.toInt = (fv Po 302 0).toInt) ∨ (t1.toInt = 1 ∧ x61.toInt = (fv Po 302 0).toInt - siF (fun k : Nat => (fv Po 302 (3 + 19 * k)).toInt) (fv Po 302 0).toInt.toNat) ∨ (t1.toInt = 2 ∧ x61.toInt = siF (fun k : Nat => (fv Po 302 (3 + 19 * k)).toInt) (fv Po 302 0).toInt.toNat) ∨ (t1.toInt = 3 ∧ x61.toInt = (smF (fun k : Nat => fv Po 302 (5 + 19 * k)) (fv Po 302 0).toInt.toNat).toInt) ∨ (t1.toInt = 4 ∧ x61.toInt = (fv Po 302 1).toInt) ∨ (t1.toInt = 5 ∧ x61.toInt = (fv Po 302 1 - smF (fun k : Nat => wpM (sr Po) k) (fv Po 302 0).toInt.toNat).toInt) ∨ (t1.toInt = 6 ∧ x61.toInt = siF (fun k : Nat => pnI (fv Po 302 (3 + 19 * k)).toInt (fv Po 302 (4 + 19 * k)).toInt) (fv Po 302 0).toInt.toNat) ∨ (t1.toInt = 7 ∧ x61.toInt = siF (fun k : Nat => cntF (fun j : Nat => fv Po 302 (14 + 19 * k + j)) 1 (nC (fv Po 302 (3 + 19 * k)).toInt (fv Po 302 (4 + 19 * k)).toInt)) (fv Po 302 0).toInt.toNat) ∨ (t1.toInt = 8 ∧ x61.toInt = siF (fun k : Nat => cntF (fun j : Nat => fv Po 302 (14 + 19 * k + j)) 2 (nC (fv Po 302 (3 + 19 * k)).toInt (fv Po 302 (4 + 19 * k)).toInt)) (fv Po 302 0).toInt.toNat) ∨ (t1.toInt = 9 ∧ x61.toInt = siF (fun k : Nat => cntF (fun j : Nat => fv Po 302 (14 + 19 * k + j)) 0 (nC (fv Po 302 (3 + 19 * k)).toInt (fv Po 302 (4 + 19 * k)).toInt)) (fv Po 302 0).toInt.toNat) ∨ (t1.toInt = 10 ∧ x61.toInt = (fv Po 302 2).toInt) ∨ (t1.toInt = 11 ∧ x61.toInt = (fv Po 301 23).toInt) ∨ (t1.toInt = 12 ∧ x61.toInt = (fv Po 301 4).toInt) ∨ ((t1.toInt < 0 ∨ 12 < t1.toInt) ∧ x61.toInt = -1002) from by exact Or.inr (Or.inr (Or.inr (Or.inr (Or.inr (Or.inr (Or.inl (⟨by omega, g62.1⟩))))))))
    exact mp_iret ⟨⟨_, rfl, u65⟩, rfl⟩ dX7_account_124 (Or.inl rfl)
  · refine mp_t (s_tabIn (t := 125) (off := 124) dX7_account_1 (by omega) (by rw [c1]; rfl) (by decide)) ?_
    refine mp_a (a_aload_n dX7_account_125 rfl) (mpp 126 rfl ?_)
    refine mp_a (a_iconst (v := 3) dX7_account_126 rfl) (mpp 127 rfl ?_)
    refine mt_callv (i := 351) (q' := q_230) (As := [.int 3]) (rest := []) hT dX7_account_127 rfl qm_230 (by decide) rfl rl_301 (by decide) rfl (Nat.le_of_ble_eq_true rfl) rfl ⟨rfl, rfl⟩ ⟨Nat.le_of_ble_eq_true rfl, Nat.le_of_ble_eq_true rfl⟩ (EvP.mono (by decide) (c_M_allOf_c3 hT hR )) (fun r66 P67 g68 => mpp 130 rfl ?_)
    obtain ⟨⟨x69, rfl, g70⟩, e71⟩ := g68
    have e71 := e71.symm
    subst e71
    have wx69 := ti_full x69
    replace g70 : 0 ≤ x69.toInt ∧ x69.toInt ≤ 64 ∧ x69.toInt = siF (fun k : Nat => cntF (fun j : Nat => fv Po 302 (14 + 19 * k + j)) 1 (nC (fv Po 302 (3 + 19 * k)).toInt (fv Po 302 (4 + 19 * k)).toInt)) (fv Po 302 0).toInt.toNat := g70
    have g72 : (0 : Int) ≤ (fv Po 302 0).toInt ∧ (fv Po 302 0).toInt ≤ 8 := Typ.rng hT rl_302 (by decide) (by decide) rfl
    show MEvP _ none q_229 130 [(0, .ref 301), (1, .int t1)] [.int x69] _ _ _ _
    have u73 : accountmC Po x69.toInt t1.toInt := (show (t1.toInt = 0 ∧ x69.toInt = (fv Po 302 0).toInt) ∨ (t1.toInt = 1 ∧ x69.toInt = (fv Po 302 0).toInt - siF (fun k : Nat => (fv Po 302 (3 + 19 * k)).toInt) (fv Po 302 0).toInt.toNat) ∨ (t1.toInt = 2 ∧ x69.toInt = siF (fun k : Nat => (fv Po 302 (3 + 19 * k)).toInt) (fv Po 302 0).toInt.toNat) ∨ (t1.toInt = 3 ∧ x69.toInt = (smF (fun k : Nat => fv Po 302 (5 + 19 * k)) (fv Po 302 0).toInt.toNat).toInt) ∨ (t1.toInt = 4 ∧ x69.toInt = (fv Po 302 1).toInt) ∨ (t1.toInt = 5 ∧ x69.toInt = (fv Po 302 1 - smF (fun k : Nat => wpM (sr Po) k) (fv Po 302 0).toInt.toNat).toInt) ∨ (t1.toInt = 6 ∧ x69.toInt = siF (fun k : Nat => pnI (fv Po 302 (3 + 19 * k)).toInt (fv Po 302 (4 + 19 * k)).toInt) (fv Po 302 0).toInt.toNat) ∨ (t1.toInt = 7 ∧ x69.toInt = siF (fun k : Nat => cntF (fun j : Nat => fv Po 302 (14 + 19 * k + j)) 1 (nC (fv Po 302 (3 + 19 * k)).toInt (fv Po 302 (4 + 19 * k)).toInt)) (fv Po 302 0).toInt.toNat) ∨ (t1.toInt = 8 ∧ x69.toInt = siF (fun k : Nat => cntF (fun j : Nat => fv Po 302 (14 + 19 * k + j)) 2 (nC (fv Po 302 (3 + 19 * k)).toInt (fv Po 302 (4 + 19 * k)).toInt)) (fv Po 302 0).toInt.toNat) ∨ (t1.toInt = 9 ∧ x69.toInt = siF (fun k : Nat => cntF (fun j : Nat => fv Po 302 (14 + 19 * k + j)) 0 (nC (fv Po 302 (3 + 19 * k)).toInt (fv Po 302 (4 + 19 * k)).toInt)) (fv Po 302 0).toInt.toNat) ∨ (t1.toInt = 10 ∧ x69.toInt = (fv Po 302 2).toInt) ∨ (t1.toInt = 11 ∧ x69.toInt = (fv Po 301 23).toInt) ∨ (t1.toInt = 12 ∧ x69.toInt = (fv Po 301 4).toInt) ∨ ((t1.toInt < 0 ∨ 12 < t1.toInt) ∧ x69.toInt = -1002) from by exact Or.inr (Or.inr (Or.inr (Or.inr (Or.inr (Or.inr (Or.inr (Or.inl (⟨by omega, g70.2.2⟩)))))))))
    exact mp_iret ⟨⟨_, rfl, u73⟩, rfl⟩ dX7_account_130 (Or.inl rfl)
  · refine mp_t (s_tabIn (t := 131) (off := 130) dX7_account_1 (by omega) (by rw [c1]; rfl) (by decide)) ?_
    refine mp_a (a_aload_n dX7_account_131 rfl) (mpp 132 rfl ?_)
    refine mp_a (a_iconst (v := 4) dX7_account_132 rfl) (mpp 133 rfl ?_)
    refine mt_callv (i := 351) (q' := q_230) (As := [.int 4]) (rest := []) hT dX7_account_133 rfl qm_230 (by decide) rfl rl_301 (by decide) rfl (Nat.le_of_ble_eq_true rfl) rfl ⟨rfl, rfl⟩ ⟨Nat.le_of_ble_eq_true rfl, Nat.le_of_ble_eq_true rfl⟩ (EvP.mono (by decide) (c_M_allOf_c4 hT hR )) (fun r74 P75 g76 => mpp 136 rfl ?_)
    obtain ⟨⟨x77, rfl, g78⟩, e79⟩ := g76
    have e79 := e79.symm
    subst e79
    have wx77 := ti_full x77
    replace g78 : 0 ≤ x77.toInt ∧ x77.toInt ≤ 64 ∧ x77.toInt = siF (fun k : Nat => cntF (fun j : Nat => fv Po 302 (14 + 19 * k + j)) 2 (nC (fv Po 302 (3 + 19 * k)).toInt (fv Po 302 (4 + 19 * k)).toInt)) (fv Po 302 0).toInt.toNat := g78
    have g80 : (0 : Int) ≤ (fv Po 302 0).toInt ∧ (fv Po 302 0).toInt ≤ 8 := Typ.rng hT rl_302 (by decide) (by decide) rfl
    show MEvP _ none q_229 136 [(0, .ref 301), (1, .int t1)] [.int x77] _ _ _ _
    have u81 : accountmC Po x77.toInt t1.toInt := (show (t1.toInt = 0 ∧ x77.toInt = (fv Po 302 0).toInt) ∨ (t1.toInt = 1 ∧ x77.toInt = (fv Po 302 0).toInt - siF (fun k : Nat => (fv Po 302 (3 + 19 * k)).toInt) (fv Po 302 0).toInt.toNat) ∨ (t1.toInt = 2 ∧ x77.toInt = siF (fun k : Nat => (fv Po 302 (3 + 19 * k)).toInt) (fv Po 302 0).toInt.toNat) ∨ (t1.toInt = 3 ∧ x77.toInt = (smF (fun k : Nat => fv Po 302 (5 + 19 * k)) (fv Po 302 0).toInt.toNat).toInt) ∨ (t1.toInt = 4 ∧ x77.toInt = (fv Po 302 1).toInt) ∨ (t1.toInt = 5 ∧ x77.toInt = (fv Po 302 1 - smF (fun k : Nat => wpM (sr Po) k) (fv Po 302 0).toInt.toNat).toInt) ∨ (t1.toInt = 6 ∧ x77.toInt = siF (fun k : Nat => pnI (fv Po 302 (3 + 19 * k)).toInt (fv Po 302 (4 + 19 * k)).toInt) (fv Po 302 0).toInt.toNat) ∨ (t1.toInt = 7 ∧ x77.toInt = siF (fun k : Nat => cntF (fun j : Nat => fv Po 302 (14 + 19 * k + j)) 1 (nC (fv Po 302 (3 + 19 * k)).toInt (fv Po 302 (4 + 19 * k)).toInt)) (fv Po 302 0).toInt.toNat) ∨ (t1.toInt = 8 ∧ x77.toInt = siF (fun k : Nat => cntF (fun j : Nat => fv Po 302 (14 + 19 * k + j)) 2 (nC (fv Po 302 (3 + 19 * k)).toInt (fv Po 302 (4 + 19 * k)).toInt)) (fv Po 302 0).toInt.toNat) ∨ (t1.toInt = 9 ∧ x77.toInt = siF (fun k : Nat => cntF (fun j : Nat => fv Po 302 (14 + 19 * k + j)) 0 (nC (fv Po 302 (3 + 19 * k)).toInt (fv Po 302 (4 + 19 * k)).toInt)) (fv Po 302 0).toInt.toNat) ∨ (t1.toInt = 10 ∧ x77.toInt = (fv Po 302 2).toInt) ∨ (t1.toInt = 11 ∧ x77.toInt = (fv Po 301 23).toInt) ∨ (t1.toInt = 12 ∧ x77.toInt = (fv Po 301 4).toInt) ∨ ((t1.toInt < 0 ∨ 12 < t1.toInt) ∧ x77.toInt = -1002) from by exact Or.inr (Or.inr (Or.inr (Or.inr (Or.inr (Or.inr (Or.inr (Or.inr (Or.inl (⟨by omega, g78.2.2⟩))))))))))
    exact mp_iret ⟨⟨_, rfl, u81⟩, rfl⟩ dX7_account_136 (Or.inl rfl)
  · refine mp_t (s_tabIn (t := 137) (off := 136) dX7_account_1 (by omega) (by rw [c1]; rfl) (by decide)) ?_
    refine mp_a (a_aload_n dX7_account_137 rfl) (mpp 138 rfl ?_)
    refine mp_a (a_iconst (v := 5) dX7_account_138 rfl) (mpp 139 rfl ?_)
    refine mt_callv (i := 351) (q' := q_230) (As := [.int 5]) (rest := []) hT dX7_account_139 rfl qm_230 (by decide) rfl rl_301 (by decide) rfl (Nat.le_of_ble_eq_true rfl) rfl ⟨rfl, rfl⟩ ⟨Nat.le_of_ble_eq_true rfl, Nat.le_of_ble_eq_true rfl⟩ (EvP.mono (by decide) (c_M_allOf_c5 hT hR )) (fun r82 P83 g84 => mpp 142 rfl ?_)
    obtain ⟨⟨x85, rfl, g86⟩, e87⟩ := g84
    have e87 := e87.symm
    subst e87
    have wx85 := ti_full x85
    replace g86 : 0 ≤ x85.toInt ∧ x85.toInt ≤ 64 ∧ x85.toInt = siF (fun k : Nat => cntF (fun j : Nat => fv Po 302 (14 + 19 * k + j)) 0 (nC (fv Po 302 (3 + 19 * k)).toInt (fv Po 302 (4 + 19 * k)).toInt)) (fv Po 302 0).toInt.toNat := g86
    have g88 : (0 : Int) ≤ (fv Po 302 0).toInt ∧ (fv Po 302 0).toInt ≤ 8 := Typ.rng hT rl_302 (by decide) (by decide) rfl
    show MEvP _ none q_229 142 [(0, .ref 301), (1, .int t1)] [.int x85] _ _ _ _
    have u89 : accountmC Po x85.toInt t1.toInt := (show (t1.toInt = 0 ∧ x85.toInt = (fv Po 302 0).toInt) ∨ (t1.toInt = 1 ∧ x85.toInt = (fv Po 302 0).toInt - siF (fun k : Nat => (fv Po 302 (3 + 19 * k)).toInt) (fv Po 302 0).toInt.toNat) ∨ (t1.toInt = 2 ∧ x85.toInt = siF (fun k : Nat => (fv Po 302 (3 + 19 * k)).toInt) (fv Po 302 0).toInt.toNat) ∨ (t1.toInt = 3 ∧ x85.toInt = (smF (fun k : Nat => fv Po 302 (5 + 19 * k)) (fv Po 302 0).toInt.toNat).toInt) ∨ (t1.toInt = 4 ∧ x85.toInt = (fv Po 302 1).toInt) ∨ (t1.toInt = 5 ∧ x85.toInt = (fv Po 302 1 - smF (fun k : Nat => wpM (sr Po) k) (fv Po 302 0).toInt.toNat).toInt) ∨ (t1.toInt = 6 ∧ x85.toInt = siF (fun k : Nat => pnI (fv Po 302 (3 + 19 * k)).toInt (fv Po 302 (4 + 19 * k)).toInt) (fv Po 302 0).toInt.toNat) ∨ (t1.toInt = 7 ∧ x85.toInt = siF (fun k : Nat => cntF (fun j : Nat => fv Po 302 (14 + 19 * k + j)) 1 (nC (fv Po 302 (3 + 19 * k)).toInt (fv Po 302 (4 + 19 * k)).toInt)) (fv Po 302 0).toInt.toNat) ∨ (t1.toInt = 8 ∧ x85.toInt = siF (fun k : Nat => cntF (fun j : Nat => fv Po 302 (14 + 19 * k + j)) 2 (nC (fv Po 302 (3 + 19 * k)).toInt (fv Po 302 (4 + 19 * k)).toInt)) (fv Po 302 0).toInt.toNat) ∨ (t1.toInt = 9 ∧ x85.toInt = siF (fun k : Nat => cntF (fun j : Nat => fv Po 302 (14 + 19 * k + j)) 0 (nC (fv Po 302 (3 + 19 * k)).toInt (fv Po 302 (4 + 19 * k)).toInt)) (fv Po 302 0).toInt.toNat) ∨ (t1.toInt = 10 ∧ x85.toInt = (fv Po 302 2).toInt) ∨ (t1.toInt = 11 ∧ x85.toInt = (fv Po 301 23).toInt) ∨ (t1.toInt = 12 ∧ x85.toInt = (fv Po 301 4).toInt) ∨ ((t1.toInt < 0 ∨ 12 < t1.toInt) ∧ x85.toInt = -1002) from by exact Or.inr (Or.inr (Or.inr (Or.inr (Or.inr (Or.inr (Or.inr (Or.inr (Or.inr (Or.inl (⟨by omega, g86.2.2⟩)))))))))))
    exact mp_iret ⟨⟨_, rfl, u89⟩, rfl⟩ dX7_account_142 (Or.inl rfl)
  · refine mp_t (s_tabIn (t := 143) (off := 142) dX7_account_1 (by omega) (by rw [c1]; rfl) (by decide)) ?_
    refine mp_a (a_aload_n dX7_account_143 rfl) (mpp 144 rfl ?_)
    refine mt_getU (i := 9) (k := 0) (A := 302) hT dX7_account_144 rfl rl_301 (by decide) rfl (by decide) rfl un_18 (mpp 147 rfl ?_)
    refine mp_a (a_iconst (v := 2) dX7_account_147 rfl) (mpp 148 rfl ?_)
    have g92 := ti_full (fv Po 302 2)
    refine mt_ialX (n := 155) hT dX7_account_148 rl_302 (by decide) rfl rfl (by decide) (by decide) ssp_0 (fun g90 => mpp 149 rfl ?_)
    have we93 := ti_full (fv Po 302 2)
    have u94 : accountmC Po (fv Po 302 2).toInt t1.toInt := (show (t1.toInt = 0 ∧ (fv Po 302 2).toInt = (fv Po 302 0).toInt) ∨ (t1.toInt = 1 ∧ (fv Po 302 2).toInt = (fv Po 302 0).toInt - siF (fun k : Nat => (fv Po 302 (3 + 19 * k)).toInt) (fv Po 302 0).toInt.toNat) ∨ (t1.toInt = 2 ∧ (fv Po 302 2).toInt = siF (fun k : Nat => (fv Po 302 (3 + 19 * k)).toInt) (fv Po 302 0).toInt.toNat) ∨ (t1.toInt = 3 ∧ (fv Po 302 2).toInt = (smF (fun k : Nat => fv Po 302 (5 + 19 * k)) (fv Po 302 0).toInt.toNat).toInt) ∨ (t1.toInt = 4 ∧ (fv Po 302 2).toInt = (fv Po 302 1).toInt) ∨ (t1.toInt = 5 ∧ (fv Po 302 2).toInt = (fv Po 302 1 - smF (fun k : Nat => wpM (sr Po) k) (fv Po 302 0).toInt.toNat).toInt) ∨ (t1.toInt = 6 ∧ (fv Po 302 2).toInt = siF (fun k : Nat => pnI (fv Po 302 (3 + 19 * k)).toInt (fv Po 302 (4 + 19 * k)).toInt) (fv Po 302 0).toInt.toNat) ∨ (t1.toInt = 7 ∧ (fv Po 302 2).toInt = siF (fun k : Nat => cntF (fun j : Nat => fv Po 302 (14 + 19 * k + j)) 1 (nC (fv Po 302 (3 + 19 * k)).toInt (fv Po 302 (4 + 19 * k)).toInt)) (fv Po 302 0).toInt.toNat) ∨ (t1.toInt = 8 ∧ (fv Po 302 2).toInt = siF (fun k : Nat => cntF (fun j : Nat => fv Po 302 (14 + 19 * k + j)) 2 (nC (fv Po 302 (3 + 19 * k)).toInt (fv Po 302 (4 + 19 * k)).toInt)) (fv Po 302 0).toInt.toNat) ∨ (t1.toInt = 9 ∧ (fv Po 302 2).toInt = siF (fun k : Nat => cntF (fun j : Nat => fv Po 302 (14 + 19 * k + j)) 0 (nC (fv Po 302 (3 + 19 * k)).toInt (fv Po 302 (4 + 19 * k)).toInt)) (fv Po 302 0).toInt.toNat) ∨ (t1.toInt = 10 ∧ (fv Po 302 2).toInt = (fv Po 302 2).toInt) ∨ (t1.toInt = 11 ∧ (fv Po 302 2).toInt = (fv Po 301 23).toInt) ∨ (t1.toInt = 12 ∧ (fv Po 302 2).toInt = (fv Po 301 4).toInt) ∨ ((t1.toInt < 0 ∨ 12 < t1.toInt) ∧ (fv Po 302 2).toInt = -1002) from by exact Or.inr (Or.inr (Or.inr (Or.inr (Or.inr (Or.inr (Or.inr (Or.inr (Or.inr (Or.inr (Or.inl (⟨by omega, by omega⟩))))))))))))
    exact mp_iret ⟨⟨_, rfl, u94⟩, rfl⟩ dX7_account_149 (Or.inl rfl)
  · refine mp_t (s_tabIn (t := 150) (off := 149) dX7_account_1 (by omega) (by rw [c1]; rfl) (by decide)) ?_
    refine mp_a (a_aload_n dX7_account_150 rfl) (mpp 151 rfl ?_)
    have g95 : (0 : Int) ≤ (fv Po 301 23).toInt ∧ (fv Po 301 23).toInt ≤ 80 := Typ.rng hT rl_301 (by decide) (by decide) rfl
    refine mt_getI (i := 291) (k := 23) hT dX7_account_151 rfl rl_301 (by decide) rfl (by decide) rfl (fun g96 g97 => mpp 154 rfl ?_)
    have u98 : accountmC Po (fv Po 301 23).toInt t1.toInt := (show (t1.toInt = 0 ∧ (fv Po 301 23).toInt = (fv Po 302 0).toInt) ∨ (t1.toInt = 1 ∧ (fv Po 301 23).toInt = (fv Po 302 0).toInt - siF (fun k : Nat => (fv Po 302 (3 + 19 * k)).toInt) (fv Po 302 0).toInt.toNat) ∨ (t1.toInt = 2 ∧ (fv Po 301 23).toInt = siF (fun k : Nat => (fv Po 302 (3 + 19 * k)).toInt) (fv Po 302 0).toInt.toNat) ∨ (t1.toInt = 3 ∧ (fv Po 301 23).toInt = (smF (fun k : Nat => fv Po 302 (5 + 19 * k)) (fv Po 302 0).toInt.toNat).toInt) ∨ (t1.toInt = 4 ∧ (fv Po 301 23).toInt = (fv Po 302 1).toInt) ∨ (t1.toInt = 5 ∧ (fv Po 301 23).toInt = (fv Po 302 1 - smF (fun k : Nat => wpM (sr Po) k) (fv Po 302 0).toInt.toNat).toInt) ∨ (t1.toInt = 6 ∧ (fv Po 301 23).toInt = siF (fun k : Nat => pnI (fv Po 302 (3 + 19 * k)).toInt (fv Po 302 (4 + 19 * k)).toInt) (fv Po 302 0).toInt.toNat) ∨ (t1.toInt = 7 ∧ (fv Po 301 23).toInt = siF (fun k : Nat => cntF (fun j : Nat => fv Po 302 (14 + 19 * k + j)) 1 (nC (fv Po 302 (3 + 19 * k)).toInt (fv Po 302 (4 + 19 * k)).toInt)) (fv Po 302 0).toInt.toNat) ∨ (t1.toInt = 8 ∧ (fv Po 301 23).toInt = siF (fun k : Nat => cntF (fun j : Nat => fv Po 302 (14 + 19 * k + j)) 2 (nC (fv Po 302 (3 + 19 * k)).toInt (fv Po 302 (4 + 19 * k)).toInt)) (fv Po 302 0).toInt.toNat) ∨ (t1.toInt = 9 ∧ (fv Po 301 23).toInt = siF (fun k : Nat => cntF (fun j : Nat => fv Po 302 (14 + 19 * k + j)) 0 (nC (fv Po 302 (3 + 19 * k)).toInt (fv Po 302 (4 + 19 * k)).toInt)) (fv Po 302 0).toInt.toNat) ∨ (t1.toInt = 10 ∧ (fv Po 301 23).toInt = (fv Po 302 2).toInt) ∨ (t1.toInt = 11 ∧ (fv Po 301 23).toInt = (fv Po 301 23).toInt) ∨ (t1.toInt = 12 ∧ (fv Po 301 23).toInt = (fv Po 301 4).toInt) ∨ ((t1.toInt < 0 ∨ 12 < t1.toInt) ∧ (fv Po 301 23).toInt = -1002) from by exact Or.inr (Or.inr (Or.inr (Or.inr (Or.inr (Or.inr (Or.inr (Or.inr (Or.inr (Or.inr (Or.inr (Or.inl (⟨by omega, by omega⟩)))))))))))))
    exact mp_iret ⟨⟨_, rfl, u98⟩, rfl⟩ dX7_account_154 (Or.inl rfl)
  · refine mp_t (s_tabIn (t := 155) (off := 154) dX7_account_1 (by omega) (by rw [c1]; rfl) (by decide)) ?_
    refine mp_a (a_aload_n dX7_account_155 rfl) (mpp 156 rfl ?_)
    have g99 : (0 : Int) ≤ (fv Po 301 4).toInt ∧ (fv Po 301 4).toInt ≤ 8 := Typ.rng hT rl_301 (by decide) (by decide) rfl
    refine mt_getI (i := 58) (k := 4) hT dX7_account_156 rfl rl_301 (by decide) rfl (by decide) rfl (fun g100 g101 => mpp 159 rfl ?_)
    have u102 : accountmC Po (fv Po 301 4).toInt t1.toInt := (show (t1.toInt = 0 ∧ (fv Po 301 4).toInt = (fv Po 302 0).toInt) ∨ (t1.toInt = 1 ∧ (fv Po 301 4).toInt = (fv Po 302 0).toInt - siF (fun k : Nat => (fv Po 302 (3 + 19 * k)).toInt) (fv Po 302 0).toInt.toNat) ∨ (t1.toInt = 2 ∧ (fv Po 301 4).toInt = siF (fun k : Nat => (fv Po 302 (3 + 19 * k)).toInt) (fv Po 302 0).toInt.toNat) ∨ (t1.toInt = 3 ∧ (fv Po 301 4).toInt = (smF (fun k : Nat => fv Po 302 (5 + 19 * k)) (fv Po 302 0).toInt.toNat).toInt) ∨ (t1.toInt = 4 ∧ (fv Po 301 4).toInt = (fv Po 302 1).toInt) ∨ (t1.toInt = 5 ∧ (fv Po 301 4).toInt = (fv Po 302 1 - smF (fun k : Nat => wpM (sr Po) k) (fv Po 302 0).toInt.toNat).toInt) ∨ (t1.toInt = 6 ∧ (fv Po 301 4).toInt = siF (fun k : Nat => pnI (fv Po 302 (3 + 19 * k)).toInt (fv Po 302 (4 + 19 * k)).toInt) (fv Po 302 0).toInt.toNat) ∨ (t1.toInt = 7 ∧ (fv Po 301 4).toInt = siF (fun k : Nat => cntF (fun j : Nat => fv Po 302 (14 + 19 * k + j)) 1 (nC (fv Po 302 (3 + 19 * k)).toInt (fv Po 302 (4 + 19 * k)).toInt)) (fv Po 302 0).toInt.toNat) ∨ (t1.toInt = 8 ∧ (fv Po 301 4).toInt = siF (fun k : Nat => cntF (fun j : Nat => fv Po 302 (14 + 19 * k + j)) 2 (nC (fv Po 302 (3 + 19 * k)).toInt (fv Po 302 (4 + 19 * k)).toInt)) (fv Po 302 0).toInt.toNat) ∨ (t1.toInt = 9 ∧ (fv Po 301 4).toInt = siF (fun k : Nat => cntF (fun j : Nat => fv Po 302 (14 + 19 * k + j)) 0 (nC (fv Po 302 (3 + 19 * k)).toInt (fv Po 302 (4 + 19 * k)).toInt)) (fv Po 302 0).toInt.toNat) ∨ (t1.toInt = 10 ∧ (fv Po 301 4).toInt = (fv Po 302 2).toInt) ∨ (t1.toInt = 11 ∧ (fv Po 301 4).toInt = (fv Po 301 23).toInt) ∨ (t1.toInt = 12 ∧ (fv Po 301 4).toInt = (fv Po 301 4).toInt) ∨ ((t1.toInt < 0 ∨ 12 < t1.toInt) ∧ (fv Po 301 4).toInt = -1002) from by exact Or.inr (Or.inr (Or.inr (Or.inr (Or.inr (Or.inr (Or.inr (Or.inr (Or.inr (Or.inr (Or.inr (Or.inr (Or.inl (⟨by omega, by omega⟩))))))))))))))
    exact mp_iret ⟨⟨_, rfl, u102⟩, rfl⟩ dX7_account_159 (Or.inl rfl)

set_option maxHeartbeats 4000000 in
theorem c_M_piece_c2 {Po : mP} {t1 : Int32} (hT : Typ Po)   : EvP 5 194 [.ref 301, .int t1, .int 2] Po (fun r P' => (∃ x : Int32, r = some (.int x) ∧ ((t1.toInt < 0 ∨ (fv Po 302 0).toInt ≤ t1.toInt ∨ (x.toInt ≤ 8 ∧ (fv Po 302 (4 + 19 * t1.toInt.toNat)).toInt - 1 ≤ x.toInt)) ∧ pieceM (sr Po) x.toInt t1.toInt (2 : Int))) ∧ P' = Po) := by
  refine EvP.of qm_194 (Nat.le_of_ble_eq_true rfl) rfl ?_
  show MEvP _ none q_194 0 [(0, .ref 301), (1, .int t1), (2, .int 2)] [] _ 0 0 _
  have w_t1 := ti_full t1
  have g1 : (0 : Int) ≤ (fv Po 302 0).toInt ∧ (fv Po 302 0).toInt ≤ 8 := Typ.rng hT rl_302 (by decide) (by decide) rfl
  try have g2 : (0 : Int) ≤ (fv Po 302 (4 + 19 * t1.toInt.toNat)).toInt ∧ (fv Po 302 (4 + 19 * t1.toInt.toNat)).toInt ≤ 8 := s4_rng hT (by omega)
  refine mp_a (a_aload_n dX7_piece_0 rfl) (mpp 1 rfl ?_)
  refine mp_a (a_iload_n dX7_piece_1 rfl) (mpp 2 rfl ?_)
  refine mt_callv (i := 85) (q' := q_144) (As := [.int t1]) (rest := []) hT dX7_piece_2 rfl qm_144 (by decide) rfl rl_301 (by decide) rfl (Nat.le_of_ble_eq_true rfl) rfl ⟨rfl, rfl⟩ ⟨Nat.le_of_ble_eq_true rfl, Nat.le_of_ble_eq_true rfl⟩ (EvP.mono (by decide) (c_M_isPiece hT )) (fun r3 P4 g5 => mpp 5 rfl ?_)
  obtain ⟨⟨x6, rfl, g7⟩, e8⟩ := g5
  have e8 := e8.symm
  subst e8
  have wx6 := ti_full x6
  replace g7 : 0 ≤ x6.toInt ∧ x6.toInt ≤ 1 ∧ ((x6.toInt = 1 ∧ 0 ≤ t1.toInt ∧ t1.toInt + 1 ≤ (fv Po 302 0).toInt ∧ t1.toInt ≤ 7) ∨ (x6.toInt = 0 ∧ (t1.toInt < 0 ∨ (fv Po 302 0).toInt ≤ t1.toInt))) := g7
  show MEvP _ none q_194 5 [(0, .ref 301), (1, .int t1), (2, .int 2)] [.int x6] _ _ _ _
  refine mp_Tb (t := 12) (j_if_ne dX7_piece_5) (by decide) (fun c9 => ?_) (fun c9 => mpp 8 rfl ?_)
  · have c9 : x6.toInt ≠ 0 := ti_ne c9
    refine mp_a (a_iload_n dX7_piece_12 rfl) (mpp 13 rfl ?_)
    refine mp_t (s_tabIn (t := 78) dX7_piece_13 (by decide) rfl (by decide)) ?_
    refine mp_a (a_aload_n dX7_piece_78 rfl) (mpp 79 rfl ?_)
    refine mp_a (a_iload_n dX7_piece_79 rfl) (mpp 80 rfl ?_)
    have p10 : 0 ≤ t1.toInt := by omega
    have p11 : t1.toInt ≤ 7 := by omega
    refine mt_callv (i := 88) (q' := q_136) (As := [.int t1]) (rest := []) hT dX7_piece_80 rfl qm_136 (by decide) rfl rl_301 (by decide) rfl (Nat.le_of_ble_eq_true rfl) rfl ⟨rfl, rfl⟩ ⟨Nat.le_of_ble_eq_true rfl, Nat.le_of_ble_eq_true rfl⟩ (EvP.mono (by decide) (c_M_creases hT p10 p11 )) (fun r12 P13 g14 => mpp 83 rfl ?_)
    obtain ⟨⟨x15, rfl, g16⟩, e17⟩ := g14
    have e17 := e17.symm
    subst e17
    have wx15 := ti_full x15
    replace g16 : -1 ≤ x15.toInt ∧ x15.toInt ≤ 8 ∧ (((fv Po 302 (3 + 19 * t1.toInt.toNat)).toInt = 1 ∧ x15.toInt = (fv Po 302 (4 + 19 * t1.toInt.toNat)).toInt) ∨ ((fv Po 302 (3 + 19 * t1.toInt.toNat)).toInt = 0 ∧ x15.toInt = (fv Po 302 (4 + 19 * t1.toInt.toNat)).toInt - 1)) := g16
    try have g18 : (0 : Int) ≤ (fv Po 302 (3 + 19 * t1.toInt.toNat)).toInt ∧ (fv Po 302 (3 + 19 * t1.toInt.toNat)).toInt ≤ 1 := s3_rng hT (by omega)
    show MEvP _ none q_194 83 [(0, .ref 301), (1, .int t1), (2, .int 2)] [.int x15] _ _ _ _
    have u19 : (t1.toInt < 0 ∨ (fv Po 302 0).toInt ≤ t1.toInt ∨ (x15.toInt ≤ 8 ∧ (fv Po 302 (4 + 19 * t1.toInt.toNat)).toInt - 1 ≤ x15.toInt)) ∧ pieceM (sr Po) x15.toInt t1.toInt (2 : Int) := ⟨by omega, (show (x15.toInt = -1001 ∧ (t1.toInt < 0 ∨ (fv Po 302 (0)).toInt ≤ t1.toInt)) ∨ ((0 ≤ t1.toInt ∧ t1.toInt + 1 ≤ (fv Po 302 (0)).toInt ∧ t1.toInt ≤ 7) ∧ (2 : Int) = 0 ∧ x15.toInt = (fv Po 302 (3 + 19 * t1.toInt.toNat)).toInt) ∨ ((0 ≤ t1.toInt ∧ t1.toInt + 1 ≤ (fv Po 302 (0)).toInt ∧ t1.toInt ≤ 7) ∧ (2 : Int) = 1 ∧ x15.toInt = (fv Po 302 (4 + 19 * t1.toInt.toNat)).toInt) ∨ ((0 ≤ t1.toInt ∧ t1.toInt + 1 ≤ (fv Po 302 (0)).toInt ∧ t1.toInt ≤ 7) ∧ (2 : Int) = 2 ∧ (((fv Po 302 (3 + 19 * t1.toInt.toNat)).toInt = 1 ∧ x15.toInt = (fv Po 302 (4 + 19 * t1.toInt.toNat)).toInt) ∨ ((fv Po 302 (3 + 19 * t1.toInt.toNat)).toInt = 0 ∧ x15.toInt = (fv Po 302 (4 + 19 * t1.toInt.toNat)).toInt - 1))) ∨ ((0 ≤ t1.toInt ∧ t1.toInt + 1 ≤ (fv Po 302 (0)).toInt ∧ t1.toInt ≤ 7) ∧ (2 : Int) = 3 ∧ x15.toInt = cntF (fun j : Nat => fv Po 302 (14 + 19 * t1.toInt.toNat + j)) 1 (nC (fv Po 302 (3 + 19 * t1.toInt.toNat)).toInt (fv Po 302 (4 + 19 * t1.toInt.toNat)).toInt)) ∨ ((0 ≤ t1.toInt ∧ t1.toInt + 1 ≤ (fv Po 302 (0)).toInt ∧ t1.toInt ≤ 7) ∧ (2 : Int) = 4 ∧ x15.toInt = cntF (fun j : Nat => fv Po 302 (14 + 19 * t1.toInt.toNat + j)) 2 (nC (fv Po 302 (3 + 19 * t1.toInt.toNat)).toInt (fv Po 302 (4 + 19 * t1.toInt.toNat)).toInt)) ∨ ((0 ≤ t1.toInt ∧ t1.toInt + 1 ≤ (fv Po 302 (0)).toInt ∧ t1.toInt ≤ 7) ∧ (2 : Int) = 5 ∧ x15.toInt = cntF (fun j : Nat => fv Po 302 (14 + 19 * t1.toInt.toNat + j)) 0 (nC (fv Po 302 (3 + 19 * t1.toInt.toNat)).toInt (fv Po 302 (4 + 19 * t1.toInt.toNat)).toInt)) ∨ ((0 ≤ t1.toInt ∧ t1.toInt + 1 ≤ (fv Po 302 (0)).toInt ∧ t1.toInt ≤ 7) ∧ (2 : Int) = 6 ∧ x15.toInt = (smF (fun j : Nat => fv Po 302 (6 + 19 * t1.toInt.toNat + j)) (fv Po 302 (4 + 19 * t1.toInt.toNat)).toInt.toNat).toInt) ∨ ((0 ≤ t1.toInt ∧ t1.toInt + 1 ≤ (fv Po 302 (0)).toInt ∧ t1.toInt ≤ 7) ∧ (2 : Int) = 7 ∧ x15.toInt = (fv Po 302 (5 + 19 * t1.toInt.toNat)).toInt) ∨ ((0 ≤ t1.toInt ∧ t1.toInt + 1 ≤ (fv Po 302 (0)).toInt ∧ t1.toInt ≤ 7) ∧ (2 : Int) = 8 ∧ x15.toInt = (wdF (fv Po 302 (3 + 19 * t1.toInt.toNat)).toInt (fun j : Nat => fv Po 302 (6 + 19 * t1.toInt.toNat + j)) (fv Po 302 (4 + 19 * t1.toInt.toNat)).toInt.toNat).toInt) ∨ ((0 ≤ t1.toInt ∧ t1.toInt + 1 ≤ (fv Po 302 (0)).toInt ∧ t1.toInt ≤ 7) ∧ ((2 : Int) < 0 ∨ 8 < (2 : Int)) ∧ x15.toInt = -1002) from Or.inr (Or.inr (Or.inr (Or.inl (⟨by omega, by omega, by omega⟩)))))⟩
    exact mp_iret ⟨⟨_, rfl, u19⟩, rfl⟩ dX7_piece_83 (Or.inl rfl)
  · have c9 : x6.toInt = 0 := ti_ne_n c9
    refine mp_a (a_sipush (v := -1001) dX7_piece_8 rfl) (mpp 11 rfl ?_)
    have u20 : (t1.toInt < 0 ∨ (fv Po 302 0).toInt ≤ t1.toInt ∨ ((-1001 : Int) ≤ 8 ∧ (fv Po 302 (4 + 19 * t1.toInt.toNat)).toInt - 1 ≤ (-1001 : Int))) ∧ pieceM (sr Po) (-1001 : Int) t1.toInt (2 : Int) := ⟨by omega, (show ((-1001 : Int) = -1001 ∧ (t1.toInt < 0 ∨ (fv Po 302 (0)).toInt ≤ t1.toInt)) ∨ ((0 ≤ t1.toInt ∧ t1.toInt + 1 ≤ (fv Po 302 (0)).toInt ∧ t1.toInt ≤ 7) ∧ (2 : Int) = 0 ∧ (-1001 : Int) = (fv Po 302 (3 + 19 * t1.toInt.toNat)).toInt) ∨ ((0 ≤ t1.toInt ∧ t1.toInt + 1 ≤ (fv Po 302 (0)).toInt ∧ t1.toInt ≤ 7) ∧ (2 : Int) = 1 ∧ (-1001 : Int) = (fv Po 302 (4 + 19 * t1.toInt.toNat)).toInt) ∨ ((0 ≤ t1.toInt ∧ t1.toInt + 1 ≤ (fv Po 302 (0)).toInt ∧ t1.toInt ≤ 7) ∧ (2 : Int) = 2 ∧ (((fv Po 302 (3 + 19 * t1.toInt.toNat)).toInt = 1 ∧ (-1001 : Int) = (fv Po 302 (4 + 19 * t1.toInt.toNat)).toInt) ∨ ((fv Po 302 (3 + 19 * t1.toInt.toNat)).toInt = 0 ∧ (-1001 : Int) = (fv Po 302 (4 + 19 * t1.toInt.toNat)).toInt - 1))) ∨ ((0 ≤ t1.toInt ∧ t1.toInt + 1 ≤ (fv Po 302 (0)).toInt ∧ t1.toInt ≤ 7) ∧ (2 : Int) = 3 ∧ (-1001 : Int) = cntF (fun j : Nat => fv Po 302 (14 + 19 * t1.toInt.toNat + j)) 1 (nC (fv Po 302 (3 + 19 * t1.toInt.toNat)).toInt (fv Po 302 (4 + 19 * t1.toInt.toNat)).toInt)) ∨ ((0 ≤ t1.toInt ∧ t1.toInt + 1 ≤ (fv Po 302 (0)).toInt ∧ t1.toInt ≤ 7) ∧ (2 : Int) = 4 ∧ (-1001 : Int) = cntF (fun j : Nat => fv Po 302 (14 + 19 * t1.toInt.toNat + j)) 2 (nC (fv Po 302 (3 + 19 * t1.toInt.toNat)).toInt (fv Po 302 (4 + 19 * t1.toInt.toNat)).toInt)) ∨ ((0 ≤ t1.toInt ∧ t1.toInt + 1 ≤ (fv Po 302 (0)).toInt ∧ t1.toInt ≤ 7) ∧ (2 : Int) = 5 ∧ (-1001 : Int) = cntF (fun j : Nat => fv Po 302 (14 + 19 * t1.toInt.toNat + j)) 0 (nC (fv Po 302 (3 + 19 * t1.toInt.toNat)).toInt (fv Po 302 (4 + 19 * t1.toInt.toNat)).toInt)) ∨ ((0 ≤ t1.toInt ∧ t1.toInt + 1 ≤ (fv Po 302 (0)).toInt ∧ t1.toInt ≤ 7) ∧ (2 : Int) = 6 ∧ (-1001 : Int) = (smF (fun j : Nat => fv Po 302 (6 + 19 * t1.toInt.toNat + j)) (fv Po 302 (4 + 19 * t1.toInt.toNat)).toInt.toNat).toInt) ∨ ((0 ≤ t1.toInt ∧ t1.toInt + 1 ≤ (fv Po 302 (0)).toInt ∧ t1.toInt ≤ 7) ∧ (2 : Int) = 7 ∧ (-1001 : Int) = (fv Po 302 (5 + 19 * t1.toInt.toNat)).toInt) ∨ ((0 ≤ t1.toInt ∧ t1.toInt + 1 ≤ (fv Po 302 (0)).toInt ∧ t1.toInt ≤ 7) ∧ (2 : Int) = 8 ∧ (-1001 : Int) = (wdF (fv Po 302 (3 + 19 * t1.toInt.toNat)).toInt (fun j : Nat => fv Po 302 (6 + 19 * t1.toInt.toNat + j)) (fv Po 302 (4 + 19 * t1.toInt.toNat)).toInt.toNat).toInt) ∨ ((0 ≤ t1.toInt ∧ t1.toInt + 1 ≤ (fv Po 302 (0)).toInt ∧ t1.toInt ≤ 7) ∧ ((2 : Int) < 0 ∨ 8 < (2 : Int)) ∧ (-1001 : Int) = -1002) from Or.inl (⟨by omega, by omega⟩))⟩
    exact mp_iret ⟨⟨_, rfl, u20⟩, rfl⟩ dX7_piece_11 (Or.inl rfl)

set_option maxHeartbeats 4000000 in
theorem c_M_allOf_c2_l4 {Po : mP}  (hT : Typ Po) (hR : Rel Po)  : ∀ (n : Nat) (v2 : Int32) (v3 : Int32), (v2.toInt = siF (fun k : Nat => crI (fv Po 302 (3 + 19 * k)).toInt (fv Po 302 (4 + 19 * k)).toInt) v3.toInt.toNat) → (v3.toInt ≤ (fv Po 302 0).toInt) → (v3.toInt ≤ v2.toInt) → (v2.toInt ≤ 8 * v3.toInt) → (0 ≤ v3.toInt) → (2147483647 - v3.toInt).toNat = n → MEvP 5 none q_230 4 [(0, .ref 301), (1, .int 2), (2, .int v2), (3, .int v3)] [] Po 0 0 (fun r P' => (∃ x : Int32, r = some (.int x) ∧ ((fv Po 302 0).toInt ≤ x.toInt ∧ x.toInt ≤ 64 ∧ x.toInt = siF (fun k : Nat => crI (fv Po 302 (3 + 19 * k)).toInt (fv Po 302 (4 + 19 * k)).toInt) (fv Po 302 0).toInt.toNat)) ∧ P' = Po) := by
  intro n
  induction n using Nat.strongRecOn with | _ n ih => ?_
  intro v2 v3 i_0 i_1 i_2 i_3 i_4 hm
  have w_v2 := ti_full v2
  have w_v3 := ti_full v3
  have g1 : (0 : Int) ≤ (fv Po 302 0).toInt ∧ (fv Po 302 0).toInt ≤ 8 := Typ.rng hT rl_302 (by decide) (by decide) rfl
  refine mp_a (a_iload_n dX7_allOf_4 rfl) (mpp 5 rfl ?_)
  refine mp_a (a_aload_n dX7_allOf_5 rfl) (mpp 6 rfl ?_)
  refine mt_getU (i := 9) (k := 0) (A := 302) hT dX7_allOf_6 rfl rl_301 (by decide) rfl (by decide) rfl un_18 (mpp 9 rfl ?_)
  refine mp_a (a_iconst (v := 0) dX7_allOf_9 rfl) (mpp 10 rfl ?_)
  refine mt_ialX (n := 155) hT dX7_allOf_10 rl_302 (by decide) rfl rfl (by decide) (by decide) ssp_0 (fun g2 => mpp 11 rfl ?_)
  have we4 := ti_full (fv Po 302 0)
  refine mp_Tb (t := 29) (j_icmp_ge dX7_allOf_11) (by decide) (fun c5 => ?_) (fun c5 => mpp 14 rfl ?_)
  · have c5 : v3.toInt ≥ (fv Po 302 0).toInt := ti_ge c5
    refine mp_a (a_iload_n dX7_allOf_29 rfl) (mpp 30 rfl ?_)
    have u6 : (fv Po 302 0).toInt ≤ v2.toInt ∧ v2.toInt ≤ 64 ∧ v2.toInt = siF (fun k : Nat => crI (fv Po 302 (3 + 19 * k)).toInt (fv Po 302 (4 + 19 * k)).toInt) (fv Po 302 0).toInt.toNat := ⟨by omega, by omega, i_0.trans (congrArg (siF _) (by omega))⟩
    exact mp_iret ⟨⟨_, rfl, u6⟩, rfl⟩ dX7_allOf_30 (Or.inl rfl)
  · have c5 : v3.toInt < (fv Po 302 0).toInt := ti_ge_n c5
    refine mp_a (a_iload_n dX7_allOf_14 rfl) (mpp 15 rfl ?_)
    refine mp_a (a_aload_n dX7_allOf_15 rfl) (mpp 16 rfl ?_)
    refine mp_a (a_iload_n dX7_allOf_16 rfl) (mpp 17 rfl ?_)
    refine mp_a (a_iload_n dX7_allOf_17 rfl) (mpp 18 rfl ?_)
    have q7 := Rel.two hR (p := v3.toInt.toNat) (by omega) (by omega)
    refine mt_callv (i := 348) (q' := q_194) (As := [.int v3, .int 2]) (rest := [.int v2]) hT dX7_allOf_18 rfl qm_194 (by decide) rfl rl_301 (by decide) rfl (Nat.le_of_ble_eq_true rfl) rfl ⟨rfl, rfl⟩ ⟨Nat.le_of_ble_eq_true rfl, Nat.le_of_ble_eq_true rfl⟩ (EvP.mono (by decide) (c_M_piece_c2 hT )) (fun r8 P9 g10 => mpp 21 rfl ?_)
    obtain ⟨⟨x11, rfl, g12⟩, e13⟩ := g10
    have e13 := e13.symm
    subst e13
    have wx11 := ti_full x11
    replace g12 : (v3.toInt < 0 ∨ (fv Po 302 0).toInt ≤ v3.toInt ∨ (x11.toInt ≤ 8 ∧ (fv Po 302 (4 + 19 * v3.toInt.toNat)).toInt - 1 ≤ x11.toInt)) ∧ pieceM (sr Po) x11.toInt v3.toInt (2 : Int) := g12
    try have g14 : (0 : Int) ≤ (fv Po 302 (4 + 19 * v3.toInt.toNat)).toInt ∧ (fv Po 302 (4 + 19 * v3.toInt.toNat)).toInt ≤ 8 := s4_rng hT (by omega)
    show MEvP _ none q_230 21 [(0, .ref 301), (1, .int 2), (2, .int v2), (3, .int v3)] [.int x11, .int v2] _ _ _ _
    obtain ⟨z15, h16⟩ := ti_ex (v2 + x11 : Int32)
    have wz15 := ti_full z15
    refine mp_t (s_iadd (v := z15) dX7_allOf_21 h16) (mpp 22 rfl ?_)
    try have e17 : z15.toInt = v2.toInt + x11.toInt := ti_addz h16 rfl rfl (by omega) (by omega)
    refine mp_a (a_istore_n (L' := [(2, .int z15), (0, .ref 301), (1, .int 2), (3, .int v3)]) dX7_allOf_22 (by decide) rfl) (mpp 23 rfl ?_)
    obtain ⟨z18, h19⟩ := ti_ex (v3 + 1 : Int32)
    have wz18 := ti_full z18
    refine mp_a (a_iinc (v := z18) (L' := [(3, .int z18), (2, .int z15), (0, .ref 301), (1, .int 2)]) dX7_allOf_23 (by decide) rfl h19 rfl) (mpp 26 rfl ?_)
    try have e20 : z18.toInt = v3.toInt + 1 := ti_addz h19 rfl rfl (by omega) (by omega)
    refine mp_a (a_goto (t := 4) dX7_allOf_26 (by decide)) ?_
    refine MEvP.less (L := [(0, .ref 301), (1, .int 2), (2, .int z15), (3, .int z18)]) rfl rfl ⟨rfl, rfl, rfl, rfl, trivial⟩ ?_
    have i21 : z15.toInt = siF (fun k : Nat => crI (fv Po 302 (3 + 19 * k)).toInt (fv Po 302 (4 + 19 * k)).toInt) z18.toInt.toNat := siF.step i_0 (by omega) (d := x11.toInt) (pieceM.k2 g12.2 (by omega) (show v3.toInt + 1 ≤ (fv Po 302 0).toInt from by omega)).symm (by omega)
    have i22 : z18.toInt ≤ (fv Po 302 0).toInt := by omega
    have i23 : z18.toInt ≤ z15.toInt := by omega
    have i24 : z15.toInt ≤ 8 * z18.toInt := by omega
    have i25 : 0 ≤ z18.toInt := by omega
    exact ih _ (by omega) _ _ i21 i22 i23 i24 i25 rfl

set_option maxHeartbeats 4000000 in
theorem c_M_allOf_c2 {Po : mP}  (hT : Typ Po) (hR : Rel Po)  : EvP 6 230 [.ref 301, .int 2] Po (fun r P' => (∃ x : Int32, r = some (.int x) ∧ ((fv Po 302 0).toInt ≤ x.toInt ∧ x.toInt ≤ 64 ∧ x.toInt = siF (fun k : Nat => crI (fv Po 302 (3 + 19 * k)).toInt (fv Po 302 (4 + 19 * k)).toInt) (fv Po 302 0).toInt.toNat)) ∧ P' = Po) := by
  refine EvP.of qm_230 (Nat.le_of_ble_eq_true rfl) rfl ?_
  show MEvP _ none q_230 0 [(0, .ref 301), (1, .int 2)] [] _ 0 0 _
  have g1 : (0 : Int) ≤ (fv Po 302 0).toInt ∧ (fv Po 302 0).toInt ≤ 8 := Typ.rng hT rl_302 (by decide) (by decide) rfl
  refine mp_a (a_iconst (v := 0) dX7_allOf_0 rfl) (mpp 1 rfl ?_)
  refine mp_a (a_istore_n (L' := [(2, .int 0), (0, .ref 301), (1, .int 2)]) dX7_allOf_1 (by decide) rfl) (mpp 2 rfl ?_)
  refine mp_a (a_iconst (v := 0) dX7_allOf_2 rfl) (mpp 3 rfl ?_)
  refine mp_a (a_istore_n (L' := [(3, .int 0), (2, .int 0), (0, .ref 301), (1, .int 2)]) dX7_allOf_3 (by decide) rfl) (mpp 4 rfl ?_)
  refine MEvP.less (L := [(0, .ref 301), (1, .int 2), (2, .int 0), (3, .int 0)]) rfl rfl ⟨rfl, rfl, rfl, rfl, trivial⟩ ?_
  have i2 : (0 : Int) = siF (fun k : Nat => crI (fv Po 302 (3 + 19 * k)).toInt (fv Po 302 (4 + 19 * k)).toInt) (0 : Int).toNat := rfl
  have i3 : (0 : Int) ≤ (fv Po 302 0).toInt := by omega
  have i4 : (0 : Int) ≤ (0 : Int) := by omega
  have i5 : (0 : Int) ≤ 8 * (0 : Int) := by omega
  have i6 : 0 ≤ (0 : Int) := by omega
  exact c_M_allOf_c2_l4 hT hR  _ _ _ i2 i3 i4 i5 i6 rfl

set_option maxHeartbeats 4000000 in
theorem c_F_isNaN {Po : mP} {t0 : UInt32} (hT : Typ Po)   : EvP 1 238 [.float t0] Po (fun r P' => (∃ x : Int32, r = some (.int x) ∧ (0 ≤ x.toInt ∧ x.toInt ≤ 1 ∧ ((x.toInt = 0 ∧ fl t0 t0 = 0) ∨ (x.toInt = 1 ∧ ¬ fl t0 t0 = 0)))) ∧ P' = Po) := by
  refine EvP.of qm_238 (Nat.le_of_ble_eq_true rfl) rfl ?_
  show MEvP _ none q_238 0 [(0, .float t0)] [] _ 0 0 _
  refine mp_a (a_fload_n dJxf58ca_isNaN_12338_0 rfl) (mpp 1 rfl ?_)
  refine mp_a (a_fload_n dJxf58ca_isNaN_12338_1 rfl) (mpp 2 rfl ?_)
  obtain ⟨z1, h2⟩ := ti_ex (Op.cmpValue (FP.fcmp t0 t0) .l)
  have wz1 := ti_full z1
  refine mp_t (s_fcmp (v := z1) dJxf58ca_isNaN_12338_2 h2) (mpp 3 rfl ?_)
  refine mp_Tb (t := 10) (j_if_eq dJxf58ca_isNaN_12338_3) (by decide) (fun c3 => ?_) (fun c3 => mpp 6 rfl ?_)
  · have c3 : z1.toInt = 0 := ti_eq c3
    refine mp_a (a_iconst (v := 0) dJxf58ca_isNaN_12338_10 rfl) (mpp 11 rfl ?_)
    have u4 : 0 ≤ (0 : Int) ∧ (0 : Int) ≤ 1 ∧ (((0 : Int) = 0 ∧ fl t0 t0 = 0) ∨ ((0 : Int) = 1 ∧ ¬ fl t0 t0 = 0)) := ⟨by omega, by omega, Or.inl ⟨rfl, by show (Op.cmpValue (FP.fcmp t0 t0) .l).toInt = 0; rw [h2]; omega⟩⟩
    exact mp_iret ⟨⟨_, rfl, u4⟩, rfl⟩ dJxf58ca_isNaN_12338_11 (Or.inr ⟨rfl, by decide⟩)
  · have c3 : z1.toInt ≠ 0 := ti_eq_n c3
    refine mp_a (a_iconst (v := 1) dJxf58ca_isNaN_12338_6 rfl) (mpp 7 rfl ?_)
    refine mp_a (a_goto (t := 11) dJxf58ca_isNaN_12338_7 (by decide)) ?_
    have u5 : 0 ≤ (1 : Int) ∧ (1 : Int) ≤ 1 ∧ (((1 : Int) = 0 ∧ fl t0 t0 = 0) ∨ ((1 : Int) = 1 ∧ ¬ fl t0 t0 = 0)) := ⟨by omega, by omega, Or.inr ⟨rfl, by show ¬ (Op.cmpValue (FP.fcmp t0 t0) .l).toInt = 0; rw [h2]; omega⟩⟩
    exact mp_iret ⟨⟨_, rfl, u5⟩, rfl⟩ dJxf58ca_isNaN_12338_11 (Or.inr ⟨rfl, by decide⟩)

set_option maxHeartbeats 4000000 in
theorem c_F_floatToIntBits {Po : mP} {t0 : UInt32} (hT : Typ Po)   : EvP 2 237 [.float t0] Po (fun r P' => (∃ x : Int32, r = some (.int x) ∧ ((fl t0 t0 = 0 ∧ x.toInt = (t0.toInt32).toInt) ∨ (¬ fl t0 t0 = 0 ∧ x.toInt = 2143289344))) ∧ P' = Po) := by
  refine EvP.of qm_237 (Nat.le_of_ble_eq_true rfl) rfl ?_
  show MEvP _ none q_237 0 [(0, .float t0)] [] _ 0 0 _
  refine mp_a (a_fload_n dJxf58ca_floatToIntBits_5c35a_0 rfl) (mpp 1 rfl ?_)
  refine mp_calls (i := 59) (q' := q_238) (As := [.float t0]) (rest := []) dJxf58ca_floatToIntBits_5c35a_1 rfl qm_238 (by decide) rfl (Nat.le_of_ble_eq_true rfl) rfl ⟨rfl, rfl⟩ ⟨Nat.le_of_ble_eq_true rfl, Nat.le_of_ble_eq_true rfl⟩ (EvP.mono (by decide) (c_F_isNaN hT )) (fun r1 P2 g3 => mpp 4 rfl ?_)
  obtain ⟨⟨x4, rfl, g5⟩, e6⟩ := g3
  have e6 := e6.symm
  subst e6
  have wx4 := ti_full x4
  replace g5 : 0 ≤ x4.toInt ∧ x4.toInt ≤ 1 ∧ ((x4.toInt = 0 ∧ fl t0 t0 = 0) ∨ (x4.toInt = 1 ∧ ¬ fl t0 t0 = 0)) := g5
  show MEvP _ none q_237 4 [(0, .float t0)] [.int x4] _ _ _ _
  refine mp_Tb (t := 12) (j_if_ne dJxf58ca_floatToIntBits_5c35a_4) (by decide) (fun c7 => ?_) (fun c7 => mpp 7 rfl ?_)
  · have c7 : x4.toInt ≠ 0 := ti_ne c7
    refine mp_ldc (v := 2143289344) dJxf58ca_floatToIntBits_5c35a_12 rfl (mpp 14 rfl ?_)
    have u8 : (fl t0 t0 = 0 ∧ (2143289344 : Int) = (t0.toInt32).toInt) ∨ (¬ fl t0 t0 = 0 ∧ (2143289344 : Int) = 2143289344) := Or.inr ⟨by omega, rfl⟩
    exact mp_iret ⟨⟨_, rfl, u8⟩, rfl⟩ dJxf58ca_floatToIntBits_5c35a_14 (Or.inl rfl)
  · have c7 : x4.toInt = 0 := ti_ne_n c7
    refine mp_a (a_fload_n dJxf58ca_floatToIntBits_5c35a_7 rfl) (mpp 8 rfl ?_)
    obtain ⟨z9, h10⟩ := ti_ex (t0.toInt32)
    have wz9 := ti_full z9
    refine mp_nat (i := 74) (k := 0) (v := z9) dJxf58ca_floatToIntBits_5c35a_8 rfl (Nat.le_of_ble_eq_true rfl) h10 ⟨Nat.le_of_ble_eq_true rfl, Nat.le_of_ble_eq_true rfl⟩ (mpp 11 rfl ?_)
    have u11 : (fl t0 t0 = 0 ∧ z9.toInt = (t0.toInt32).toInt) ∨ (¬ fl t0 t0 = 0 ∧ z9.toInt = 2143289344) := Or.inl ⟨by omega, congrArg Int32.toInt h10.symm⟩
    exact mp_iret ⟨⟨_, rfl, u11⟩, rfl⟩ dJxf58ca_floatToIntBits_5c35a_11 (Or.inl rfl)

set_option maxHeartbeats 4000000 in
theorem c_M_share {Po : mP}  (hT : Typ Po) (hR : Rel Po)  : EvP 8 232 [.ref 301] Po (fun r P' => (∃ x : Int32, r = some (.int x) ∧ (sharemC Po x.toInt)) ∧ P' = Po) := by
  refine EvP.of qm_232 (Nat.le_of_ble_eq_true rfl) rfl ?_
  show MEvP _ none q_232 0 [(0, .ref 301)] [] _ 0 0 _
  refine mp_a (a_aload_n dX7_share_0 rfl) (mpp 1 rfl ?_)
  refine mt_getU (i := 9) (k := 0) (A := 302) hT dX7_share_1 rfl rl_301 (by decide) rfl (by decide) rfl un_18 (mpp 4 rfl ?_)
  refine mp_a (a_iconst (v := 0) dX7_share_4 rfl) (mpp 5 rfl ?_)
  have g3 : (0 : Int) ≤ (fv Po 302 0).toInt ∧ (fv Po 302 0).toInt ≤ 8 := Typ.rng hT rl_302 (by decide) (by decide) rfl
  refine mt_ialX (n := 155) hT dX7_share_5 rl_302 (by decide) rfl rfl (by decide) (by decide) ssp_0 (fun g1 => mpp 6 rfl ?_)
  have we4 := ti_full (fv Po 302 0)
  refine mp_Tb (t := 13) (j_if_ne dX7_share_6) (by decide) (fun c5 => ?_) (fun c5 => mpp 9 rfl ?_)
  · have c5 : (fv Po 302 0).toInt ≠ 0 := ti_ne c5
    refine mp_a (a_aload_n dX7_share_13 rfl) (mpp 14 rfl ?_)
    refine mp_a (a_iconst (v := 3) dX7_share_14 rfl) (mpp 15 rfl ?_)
    refine mt_callv (i := 351) (q' := q_230) (As := [.int 3]) (rest := []) hT dX7_share_15 rfl qm_230 (by decide) rfl rl_301 (by decide) rfl (Nat.le_of_ble_eq_true rfl) rfl ⟨rfl, rfl⟩ ⟨Nat.le_of_ble_eq_true rfl, Nat.le_of_ble_eq_true rfl⟩ (EvP.mono (by decide) (c_M_allOf_c3 hT hR )) (fun r6 P7 g8 => mpp 18 rfl ?_)
    obtain ⟨⟨x9, rfl, g10⟩, e11⟩ := g8
    have e11 := e11.symm
    subst e11
    have wx9 := ti_full x9
    replace g10 : 0 ≤ x9.toInt ∧ x9.toInt ≤ 64 ∧ x9.toInt = siF (fun k : Nat => cntF (fun j : Nat => fv Po 302 (14 + 19 * k + j)) 1 (nC (fv Po 302 (3 + 19 * k)).toInt (fv Po 302 (4 + 19 * k)).toInt)) (fv Po 302 0).toInt.toNat := g10
    show MEvP _ none q_232 18 [(0, .ref 301)] [.int x9] _ _ _ _
    refine mp_a (a_aload_n dX7_share_18 rfl) (mpp 19 rfl ?_)
    refine mp_a (a_iconst (v := 4) dX7_share_19 rfl) (mpp 20 rfl ?_)
    refine mt_callv (i := 351) (q' := q_230) (As := [.int 4]) (rest := [.int x9]) hT dX7_share_20 rfl qm_230 (by decide) rfl rl_301 (by decide) rfl (Nat.le_of_ble_eq_true rfl) rfl ⟨rfl, rfl⟩ ⟨Nat.le_of_ble_eq_true rfl, Nat.le_of_ble_eq_true rfl⟩ (EvP.mono (by decide) (c_M_allOf_c4 hT hR )) (fun r12 P13 g14 => mpp 23 rfl ?_)
    obtain ⟨⟨x15, rfl, g16⟩, e17⟩ := g14
    have e17 := e17.symm
    subst e17
    have wx15 := ti_full x15
    replace g16 : 0 ≤ x15.toInt ∧ x15.toInt ≤ 64 ∧ x15.toInt = siF (fun k : Nat => cntF (fun j : Nat => fv Po 302 (14 + 19 * k + j)) 2 (nC (fv Po 302 (3 + 19 * k)).toInt (fv Po 302 (4 + 19 * k)).toInt)) (fv Po 302 0).toInt.toNat := g16
    show MEvP _ none q_232 23 [(0, .ref 301)] [.int x15, .int x9] _ _ _ _
    obtain ⟨z18, h19⟩ := ti_ex (x9 + x15 : Int32)
    have wz18 := ti_full z18
    refine mp_t (s_iadd (v := z18) dX7_share_23 h19) (mpp 24 rfl ?_)
    try have e20 : z18.toInt = x9.toInt + x15.toInt := ti_addz h19 rfl rfl (by omega) (by omega)
    obtain ⟨y21, h22⟩ := uf_ex (FP.i2f z18)
    refine mp_t (s_i2f (v := y21) dX7_share_24 h22) (mpp 25 rfl ?_)
    refine mp_a (a_aload_n dX7_share_25 rfl) (mpp 26 rfl ?_)
    refine mp_a (a_iconst (v := 2) dX7_share_26 rfl) (mpp 27 rfl ?_)
    refine mt_callv (i := 351) (q' := q_230) (As := [.int 2]) (rest := [.float y21]) hT dX7_share_27 rfl qm_230 (by decide) rfl rl_301 (by decide) rfl (Nat.le_of_ble_eq_true rfl) rfl ⟨rfl, rfl⟩ ⟨Nat.le_of_ble_eq_true rfl, Nat.le_of_ble_eq_true rfl⟩ (EvP.mono (by decide) (c_M_allOf_c2 hT hR )) (fun r23 P24 g25 => mpp 30 rfl ?_)
    obtain ⟨⟨x26, rfl, g27⟩, e28⟩ := g25
    have e28 := e28.symm
    subst e28
    have wx26 := ti_full x26
    replace g27 : (fv Po 302 0).toInt ≤ x26.toInt ∧ x26.toInt ≤ 64 ∧ x26.toInt = siF (fun k : Nat => crI (fv Po 302 (3 + 19 * k)).toInt (fv Po 302 (4 + 19 * k)).toInt) (fv Po 302 0).toInt.toNat := g27
    show MEvP _ none q_232 30 [(0, .ref 301)] [.int x26, .float y21] _ _ _ _
    obtain ⟨y29, h30⟩ := uf_ex (FP.i2f x26)
    refine mp_t (s_i2f (v := y29) dX7_share_30 h30) (mpp 31 rfl ?_)
    have v33 : vf_n32 (FP.fdiv y21 y29) := vf_div h22 h30 ⟨by omega, by omega⟩ ⟨by omega, by omega⟩
    obtain ⟨y31, h32⟩ := uf_ex (FP.fdiv y21 y29)
    refine mp_t (s_fdiv (v := y31) dX7_share_31 v33 h32) (mpp 32 rfl ?_)
    rw [h32] at v33
    refine mp_calls (i := 357) (q' := q_237) (As := [.float y31]) (rest := []) dX7_share_32 rfl qm_237 (by decide) rfl (Nat.le_of_ble_eq_true rfl) rfl ⟨rfl, rfl⟩ ⟨Nat.le_of_ble_eq_true rfl, Nat.le_of_ble_eq_true rfl⟩ (EvP.mono (by decide) (c_F_floatToIntBits hT )) (fun r34 P35 g36 => mpp 35 rfl ?_)
    obtain ⟨⟨x37, rfl, g38⟩, e39⟩ := g36
    have e39 := e39.symm
    subst e39
    have wx37 := ti_full x37
    replace g38 : (fl y31 y31 = 0 ∧ x37.toInt = (y31.toInt32).toInt) ∨ (¬ fl y31 y31 = 0 ∧ x37.toInt = 2143289344) := g38
    show MEvP _ none q_232 35 [(0, .ref 301)] [.int x37] _ _ _ _
    have u40 : sharemC Po x37.toInt := (show ((fv Po 302 0).toInt = 0 ∧ x37.toInt = -1004) ∨ (¬ (fv Po 302 0).toInt = 0 ∧ (∃ D A : Int32, D.toInt = siF (fun k : Nat => cntF (fun j : Nat => fv Po 302 (14 + 19 * k + j)) 1 (nC (fv Po 302 (3 + 19 * k)).toInt (fv Po 302 (4 + 19 * k)).toInt)) (fv Po 302 0).toInt.toNat + siF (fun k : Nat => cntF (fun j : Nat => fv Po 302 (14 + 19 * k + j)) 2 (nC (fv Po 302 (3 + 19 * k)).toInt (fv Po 302 (4 + 19 * k)).toInt)) (fv Po 302 0).toInt.toNat ∧ A.toInt = siF (fun k : Nat => crI (fv Po 302 (3 + 19 * k)).toInt (fv Po 302 (4 + 19 * k)).toInt) (fv Po 302 0).toInt.toNat ∧ ((fl (FP.fdiv (FP.i2f D) (FP.i2f A)) (FP.fdiv (FP.i2f D) (FP.i2f A)) = 0 ∧ x37.toInt = (UInt32.toInt32 (FP.fdiv (FP.i2f D) (FP.i2f A))).toInt) ∨ (¬ fl (FP.fdiv (FP.i2f D) (FP.i2f A)) (FP.fdiv (FP.i2f D) (FP.i2f A)) = 0 ∧ x37.toInt = 2143289344)))) from by exact Or.inr (⟨by omega, ⟨z18, x26, by omega, by omega, by rw [h22, h30, h32]; exact g38⟩⟩))
    exact mp_iret ⟨⟨_, rfl, u40⟩, rfl⟩ dX7_share_35 (Or.inl rfl)
  · have c5 : (fv Po 302 0).toInt = 0 := ti_ne_n c5
    refine mp_a (a_sipush (v := -1004) dX7_share_9 rfl) (mpp 12 rfl ?_)
    have u41 : sharemC Po (-1004 : Int) := (show ((fv Po 302 0).toInt = 0 ∧ (-1004 : Int) = -1004) ∨ (¬ (fv Po 302 0).toInt = 0 ∧ (∃ D A : Int32, D.toInt = siF (fun k : Nat => cntF (fun j : Nat => fv Po 302 (14 + 19 * k + j)) 1 (nC (fv Po 302 (3 + 19 * k)).toInt (fv Po 302 (4 + 19 * k)).toInt)) (fv Po 302 0).toInt.toNat + siF (fun k : Nat => cntF (fun j : Nat => fv Po 302 (14 + 19 * k + j)) 2 (nC (fv Po 302 (3 + 19 * k)).toInt (fv Po 302 (4 + 19 * k)).toInt)) (fv Po 302 0).toInt.toNat ∧ A.toInt = siF (fun k : Nat => crI (fv Po 302 (3 + 19 * k)).toInt (fv Po 302 (4 + 19 * k)).toInt) (fv Po 302 0).toInt.toNat ∧ ((fl (FP.fdiv (FP.i2f D) (FP.i2f A)) (FP.fdiv (FP.i2f D) (FP.i2f A)) = 0 ∧ (-1004 : Int) = (UInt32.toInt32 (FP.fdiv (FP.i2f D) (FP.i2f A))).toInt) ∨ (¬ fl (FP.fdiv (FP.i2f D) (FP.i2f A)) (FP.fdiv (FP.i2f D) (FP.i2f A)) = 0 ∧ (-1004 : Int) = 2143289344)))) from by exact Or.inl (⟨by omega, by omega⟩))
    exact mp_iret ⟨⟨_, rfl, u41⟩, rfl⟩ dX7_share_12 (Or.inl rfl)

set_option maxHeartbeats 4000000 in
theorem c_M_copies_past_s_l3 {Po : mP} {t1 : Int32} {t3 : Int32} (hp0 : 0 ≤ t1.toInt) (hp1 : t1.toInt + 155 ≤ 1240) (hp2 : t1.toInt % 155 = 0) (hp3 : 0 ≤ t3.toInt) (hp4 : t3.toInt + 155 ≤ 155) (hp5 : t3.toInt % 155 = 0)  : ∀ (n : Nat) (v4 : Int32), ∀ (P : mP), Typ P → KW [1152] Po P → (CPY Po P 305 t1.toInt.toNat 302 t3.toInt.toNat v4.toInt.toNat) → (v4.toInt ≤ 155) → (0 ≤ v4.toInt) → (2147483647 - v4.toInt).toNat = n → MEvP 0 none q_125 3 [(0, .ref 305), (1, .int t1), (2, .ref 302), (3, .int t3), (4, .int v4)] [] P 0 0 (fun r P' => (r = none ∧ (CPY Po P' 305 t1.toInt.toNat 302 t3.toInt.toNat 155)) ∧ Typ P' ∧ KW [1152] Po P' ∧ True) := by
  intro n
  induction n using Nat.strongRecOn with | _ n ih => ?_
  intro v4 P hT hK i_0 i_1 i_2 hm
  have w_t1 := ti_full t1
  have w_t3 := ti_full t3
  have w_v4 := ti_full v4
  refine mp_a (a_iload dX7_copies_3 rfl) (mpp 5 rfl ?_)
  refine mp_a (a_sipush (v := 155) dX7_copies_5 rfl) (mpp 8 rfl ?_)
  refine mp_Tb (t := 29) (j_icmp_ge dX7_copies_8) (by decide) (fun c1 => ?_) (fun c1 => mpp 11 rfl ?_)
  · have c1 : v4.toInt ≥ 155 := ti_ge c1
    have u2 : CPY Po P 305 t1.toInt.toNat 302 t3.toInt.toNat 155 := CPY.fin i_0 (by omega)
    exact mp_ret ⟨⟨rfl, u2⟩, hT, hK, trivial⟩ dX7_copies_29 rfl
  · have c1 : v4.toInt < 155 := ti_ge_n c1
    refine mp_a (a_aload_n dX7_copies_11 rfl) (mpp 12 rfl ?_)
    refine mp_a (a_iload_n dX7_copies_12 rfl) (mpp 13 rfl ?_)
    refine mp_a (a_iload dX7_copies_13 rfl) (mpp 15 rfl ?_)
    obtain ⟨z3, h4⟩ := ti_ex (t3 + v4 : Int32)
    have wz3 := ti_full z3
    refine mp_t (s_iadd (v := z3) dX7_copies_15 h4) (mpp 16 rfl ?_)
    try have e5 : z3.toInt = t3.toInt + v4.toInt := ti_addz h4 rfl rfl (by omega) (by omega)
    refine mp_a (a_aload_n dX7_copies_16 rfl) (mpp 17 rfl ?_)
    refine mp_a (a_iload_n dX7_copies_17 rfl) (mpp 18 rfl ?_)
    refine mp_a (a_iload dX7_copies_18 rfl) (mpp 20 rfl ?_)
    obtain ⟨z6, h7⟩ := ti_ex (t1 + v4 : Int32)
    have wz6 := ti_full z6
    refine mp_t (s_iadd (v := z6) dX7_copies_20 h7) (mpp 21 rfl ?_)
    try have e8 : z6.toInt = t1.toInt + v4.toInt := ti_addz h7 rfl rfl (by omega) (by omega)
    refine mt_ialX (n := 1240) hT dX7_copies_21 rl_305 (by decide) rfl rfl (by omega) (by omega) (fun j => ssp_0 (j % 155)) (fun g9 => mpp 22 rfl ?_)
    have we11 := ti_full (fv P 305 z6.toInt.toNat)
    refine mt_iasX (n := 155) hT dX7_copies_22 rl_302 (by decide) rfl rfl (by omega) (by omega) ssp_0 (okS_pp (f := (rsp 21).2.2) (g := (rsp 18).2.2) rfl (sspm (by omega)) g9 (by omega)) (fun P12 hT13 f14 f15 f16 => mpp 23 rfl ?_)
    have k17 : KW [1152] Po P12 := KW.step hK rl_302 rfl f15 f16
    obtain ⟨z18, h19⟩ := ti_ex (v4 + 1 : Int32)
    have wz18 := ti_full z18
    refine mp_a (a_iinc (v := z18) (L' := [(4, .int z18), (0, .ref 305), (1, .int t1), (2, .ref 302), (3, .int t3)]) dX7_copies_23 (by decide) rfl h19 rfl) (mpp 26 rfl ?_)
    try have e20 : z18.toInt = v4.toInt + 1 := ti_addz h19 rfl rfl (by omega) (by omega)
    refine mp_a (a_goto (t := 3) dX7_copies_26 (by decide)) ?_
    refine MEvP.less (L := [(0, .ref 305), (1, .int t1), (2, .ref 302), (3, .int t3), (4, .int z18)]) rfl rfl ⟨rfl, rfl, rfl, rfl, rfl, trivial⟩ ?_
    have i21 : CPY Po P12 305 t1.toInt.toNat 302 t3.toInt.toNat z18.toInt.toNat := CPY.step i_0 f14 f15 (by omega) (by omega) (by omega) (Or.inl (by decide))
    have i22 : z18.toInt ≤ 155 := by omega
    have i23 : 0 ≤ z18.toInt := by omega
    exact ih _ (by omega) _ P12 hT13 k17 i21 i22 i23 rfl

set_option maxHeartbeats 4000000 in
theorem c_M_copies_past_s {Po : mP} {t1 : Int32} {t3 : Int32} (hT : Typ Po)  (hp0 : 0 ≤ t1.toInt) (hp1 : t1.toInt + 155 ≤ 1240) (hp2 : t1.toInt % 155 = 0) (hp3 : 0 ≤ t3.toInt) (hp4 : t3.toInt + 155 ≤ 155) (hp5 : t3.toInt % 155 = 0)  : EvP 1 125 [.ref 305, .int t1, .ref 302, .int t3] Po (fun r P' => (r = none ∧ (CPY Po P' 305 t1.toInt.toNat 302 t3.toInt.toNat 155)) ∧ Typ P' ∧ KW [1152] Po P' ∧ True) := by
  refine EvP.of qm_125 (Nat.le_of_ble_eq_true rfl) rfl ?_
  show MEvP _ none q_125 0 [(0, .ref 305), (1, .int t1), (2, .ref 302), (3, .int t3)] [] _ 0 0 _
  have w_t1 := ti_full t1
  have w_t3 := ti_full t3
  refine mp_a (a_iconst (v := 0) dX7_copies_0 rfl) (mpp 1 rfl ?_)
  refine mp_a (a_istore (L' := [(4, .int 0), (0, .ref 305), (1, .int t1), (2, .ref 302), (3, .int t3)]) dX7_copies_1 (by decide) rfl) (mpp 3 rfl ?_)
  refine MEvP.less (L := [(0, .ref 305), (1, .int t1), (2, .ref 302), (3, .int t3), (4, .int 0)]) rfl rfl ⟨rfl, rfl, rfl, rfl, rfl, trivial⟩ ?_
  have i1 : CPY Po Po 305 t1.toInt.toNat 302 t3.toInt.toNat (0 : Int).toNat := CPY.start (by decide)
  have i2 : (0 : Int) ≤ 155 := by omega
  have i3 : 0 ≤ (0 : Int) := by omega
  exact c_M_copies_past_s_l3   hp0 hp1 hp2 hp3 hp4 hp5 _ _ Po hT KW.refl i1 i2 i3 rfl

set_option maxHeartbeats 4000000 in
theorem c_M_undo {Po : mP}  (hT : Typ Po) (hR : Rel Po)  : EvP 2 233 [.ref 301] Po (fun r P' => (∃ x : Int32, r = some (.int x) ∧ ((x.toInt = -1004 ∧ (fv Po 301 4).toInt = 0) ∨ (1 ≤ (fv Po 301 4).toInt ∧ x.toInt = (fv Po 301 4).toInt - 1))) ∧ Typ P' ∧ KW [1092, 1152] Po P' ∧ Rel P' ∧ (((fv Po 301 4).toInt = 0 ∧ ∀ x j : Nat, fv P' x j = fv Po x j) ∨ (1 ≤ (fv Po 301 4).toInt ∧ (∀ j : Nat, j < 155 → fv P' 302 j = fv Po 305 (155 * (fv P' 301 4).toInt.toNat + j)) ∧ (fv P' 301 4).toInt = (fv Po 301 4).toInt - 1)) ∧ (∀ x j : Nat, ¬ x = 302 → ¬ (x = 301 ∧ j = 4) → fv P' x j = fv Po x j) ∧ KI 301 303 Po P') := by
  refine EvP.of qm_233 (Nat.le_of_ble_eq_true rfl) rfl ?_
  show MEvP _ none q_233 0 [(0, .ref 301)] [] _ 0 0 _
  have g1 : (0 : Int) ≤ (fv Po 301 4).toInt ∧ (fv Po 301 4).toInt ≤ 8 := Typ.rng hT rl_301 (by decide) (by decide) rfl
  refine mp_a (a_aload_n dX7_undo_0 rfl) (mpp 1 rfl ?_)
  refine mt_getI (i := 58) (k := 4) hT dX7_undo_1 rfl rl_301 (by decide) rfl (by decide) rfl (fun g2 g3 => mpp 4 rfl ?_)
  refine mp_Tb (t := 11) (j_if_ne dX7_undo_4) (by decide) (fun c4 => ?_) (fun c4 => mpp 7 rfl ?_)
  · have c4 : (fv Po 301 4).toInt ≠ 0 := ti_ne c4
    refine mp_a (a_aload_n dX7_undo_11 rfl) (mpp 12 rfl ?_)
    refine mp_t (s_dup dX7_undo_12 rfl) (mpp 13 rfl ?_)
    refine mt_getI (i := 58) (k := 4) hT dX7_undo_13 rfl rl_301 (by decide) rfl (by decide) rfl (fun g5 g6 => mpp 16 rfl ?_)
    refine mp_a (a_iconst (v := 1) dX7_undo_16 rfl) (mpp 17 rfl ?_)
    obtain ⟨z7, h8⟩ := ti_ex ((fv Po 301 4) - 1 : Int32)
    have wz7 := ti_full z7
    refine mp_t (s_isub (v := z7) dX7_undo_17 h8) (mpp 18 rfl ?_)
    try have e9 : z7.toInt = (fv Po 301 4).toInt - 1 := ti_subz h8 rfl rfl (by omega) (by omega)
    refine mt_putI (i := 58) (k := 4) (x := z7) hT dX7_undo_18 rfl rl_301 (by decide) rfl (by decide) rfl ⟨by omega, by omega⟩ rfl rfl (fun P10 hT11 f12 f13 f14 => mpp 21 rfl ?_)
    have k15 : KW [1092, 1152] Po P10 := KW.step KW.refl rl_301 rfl f13 f14
    have R16 := Rel.ne hR rl_301 rfl f13
    have e17 : (fv P10 301 4).toInt = z7.toInt := congrArg Int32.toInt f12
    refine mp_a (a_aload_n dX7_undo_21 rfl) (mpp 22 rfl ?_)
    refine mt_getU (i := 19) (k := 3) (A := 305) hT11 dX7_undo_22 rfl rl_301 (by decide) rfl (by decide) rfl un_21 (mpp 25 rfl ?_)
    refine mp_a (a_sipush (v := 155) dX7_undo_25 rfl) (mpp 28 rfl ?_)
    refine mp_a (a_aload_n dX7_undo_28 rfl) (mpp 29 rfl ?_)
    refine mt_getI (i := 58) (k := 4) hT11 dX7_undo_29 rfl rl_301 (by decide) rfl (by decide) rfl (fun g18 g19 => mpp 32 rfl ?_)
    obtain ⟨z20, h21⟩ := ti_ex (155 * (fv P10 301 4) : Int32)
    have wz20 := ti_full z20
    refine mp_t (s_imul (v := z20) dX7_undo_32 h21) (mpp 33 rfl ?_)
    try have e22 : z20.toInt = 155 * (fv P10 301 4).toInt := ti_mulz h21 rfl rfl (by omega) (by omega)
    refine mp_a (a_aload_n dX7_undo_33 rfl) (mpp 34 rfl ?_)
    refine mt_getU (i := 9) (k := 0) (A := 302) hT11 dX7_undo_34 rfl rl_301 (by decide) rfl (by decide) rfl un_18 (mpp 37 rfl ?_)
    refine mp_a (a_iconst (v := 0) dX7_undo_37 rfl) (mpp 38 rfl ?_)
    have p23 : 0 ≤ z20.toInt := by omega
    have p24 : z20.toInt + 155 ≤ 1240 := by omega
    have p25 : z20.toInt % 155 = 0 := by omega
    have p26 : 0 ≤ (0 : Int) := by omega
    have p27 : (0 : Int) + 155 ≤ 155 := by omega
    have p28 : (0 : Int) % 155 = 0 := by omega
    refine mp_calls (i := 54) (q' := q_125) (As := [.ref 305, .int z20, .ref 302, .int 0]) (rest := []) dX7_undo_38 rfl qm_125 (by decide) rfl (Nat.le_of_ble_eq_true rfl) rfl ⟨rfl, rfl⟩ ⟨Nat.le_of_ble_eq_true rfl, Nat.le_of_ble_eq_true rfl⟩ (EvP.mono (by decide) (c_M_copies_past_s hT11 p23 p24 p25 p26 p27 p28 )) (fun r29 P30 g31 => mpp 41 rfl ?_)
    obtain ⟨⟨rfl, g33⟩, hT34, k35, R36⟩ := g31
    have k37 : KW [1092, 1152] Po P30 := KW.trans k15 k35 rfl
    replace g33 : CPY P10 P30 305 z20.toInt.toNat 302 (0 : Int).toNat 155 := g33
    show MEvP _ none q_233 41 [(0, .ref 301)] [] _ _ _ _
    have R39 := Rel.cpy R16 g33 (Or.inr ⟨rfl, by first | rfl | omega, by first | decide | omega⟩) (Or.inl ⟨by decide, by first | rfl | omega⟩)
    refine mp_a (a_aload_n dX7_undo_41 rfl) (mpp 42 rfl ?_)
    have e40 : (fv P30 301 4).toInt = (fv P10 301 4).toInt := congrArg Int32.toInt (KW.at k35 4 rl_301 rfl)
    refine mt_getI (i := 58) (k := 4) hT34 dX7_undo_42 rfl rl_301 (by decide) rfl (by decide) rfl (fun g41 g42 => mpp 45 rfl ?_)
    have u43 : ((fv P30 301 4).toInt = -1004 ∧ (fv Po 301 4).toInt = 0) ∨ (1 ≤ (fv Po 301 4).toInt ∧ (fv P30 301 4).toInt = (fv Po 301 4).toInt - 1) := by omega
    have u44 : (((fv Po 301 4).toInt = 0 ∧ ∀ x j : Nat, fv P30 x j = fv Po x j) ∨ (1 ≤ (fv Po 301 4).toInt ∧ (∀ j : Nat, j < 155 → fv P30 302 j = fv Po 305 (155 * (fv P30 301 4).toInt.toNat + j)) ∧ (fv P30 301 4).toInt = (fv Po 301 4).toInt - 1)) := Or.inr ⟨by omega, fun j hj => by have q := g33.1 j hj; rw [show (0 : Int).toNat + j = j from Nat.zero_add j] at q; rw [q, f13 305 _ (by omega)]; exact congrArg (fv Po 305) (by omega), by omega⟩
    have u45 : (∀ x j : Nat, ¬ x = 302 → ¬ (x = 301 ∧ j = 4) → fv P30 x j = fv Po x j) := fun x j h1 h2 => (g33.2 x j (fun e => h1 e.1)).trans (f13 x j h2)
    have u46 : KI 301 303 Po P30 := fun x j hx => u45 x j (by omega) (by omega)
    exact mp_iret ⟨⟨_, rfl, u43⟩, hT34, k37, R39, ⟨u44, u45, u46⟩⟩ dX7_undo_45 (Or.inl rfl)
  · have c4 : (fv Po 301 4).toInt = 0 := ti_ne_n c4
    refine mp_a (a_sipush (v := -1004) dX7_undo_7 rfl) (mpp 10 rfl ?_)
    have u47 : ((-1004 : Int) = -1004 ∧ (fv Po 301 4).toInt = 0) ∨ (1 ≤ (fv Po 301 4).toInt ∧ (-1004 : Int) = (fv Po 301 4).toInt - 1) := by omega
    have u48 : (((fv Po 301 4).toInt = 0 ∧ ∀ x j : Nat, fv Po x j = fv Po x j) ∨ (1 ≤ (fv Po 301 4).toInt ∧ (∀ j : Nat, j < 155 → fv Po 302 j = fv Po 305 (155 * (fv Po 301 4).toInt.toNat + j)) ∧ (fv Po 301 4).toInt = (fv Po 301 4).toInt - 1)) := Or.inl ⟨by omega, fun _ _ => rfl⟩
    have u49 : (∀ x j : Nat, ¬ x = 302 → ¬ (x = 301 ∧ j = 4) → fv Po x j = fv Po x j) := fun _ _ _ _ => rfl
    have u50 : KI 301 303 Po Po := fun x j hx => u49 x j (by omega) (by omega)
    exact mp_iret ⟨⟨_, rfl, u47⟩, hT, KW.refl, hR, ⟨u48, u49, u50⟩⟩ dX7_undo_10 (Or.inl rfl)

