/-! methods on typed pools, 13 (written by a program) -/
set_option maxHeartbeats 4000000 in
theorem c_F_foldsAgain {Po : mP} {t1 : Int32} (hT : Typ Po) (hX : XR Po)   : EvP 6 62 [.ref 0, .int t1] Po (fun r P' => (∃ x : Int32, r = some (.int x) ∧ (foldsAgainC Po x.toInt t1.toInt)) ∧ Typ P' ∧ KW [832, 896, 960, 1024] Po P' ∧ True) := by
  refine EvP.of qm_62 (Nat.le_of_ble_eq_true rfl) rfl ?_
  show MEvP _ none q_62 0 [(0, .ref 0), (1, .int t1)] [] _ 0 0 _
  have w_t1 := ti_full t1
  refine mp_a (a_aload_n dX6_foldsAgain_0 rfl) (mpp 1 rfl ?_)
  refine mt_getU (i := 10) (k := 0) (A := 1) hT dX6_foldsAgain_1 rfl rl_0 (by decide) rfl (by decide) rfl un_31 (mpp 4 rfl ?_)
  refine mp_a (a_iload_n dX6_foldsAgain_4 rfl) (mpp 5 rfl ?_)
  refine mt_callv (i := 94) (q' := q_9) (As := [.int t1]) (rest := []) hT dX6_foldsAgain_5 rfl qm_9 (by decide) rfl rl_1 (by decide) rfl (Nat.le_of_ble_eq_true rfl) rfl ⟨rfl, rfl⟩ ⟨Nat.le_of_ble_eq_true rfl, Nat.le_of_ble_eq_true rfl⟩ (EvP.mono (by decide) (c_CS_pieceAt_NState hT hX )) (fun r1 P2 g3 => mpp 8 rfl ?_)
  obtain ⟨g3, e4⟩ := g3
  have e4 := e4.symm
  subst e4
  rcases g3 with ⟨rfl, q6n⟩ | ⟨b5, rfl, q6, q6r⟩
  · show MEvP _ none q_62 8 [(0, .ref 0), (1, .int t1)] [.null] _ _ _ _
    replace q6n : t1.toInt < 0 ∨ (fv Po 1 1).toInt ≤ t1.toInt ∨ 8 ≤ t1.toInt := q6n
    have g7 : (0 : Int) ≤ (fv Po 1 1).toInt ∧ (fv Po 1 1).toInt ≤ 8 := Typ.rng hT rl_1 (by decide) (by decide) rfl
    refine mp_a (a_astore_nN (L' := [(2, .null), (0, .ref 0), (1, .int t1)]) dX6_foldsAgain_8 (by decide) rfl) (mpp 9 rfl ?_)
    refine mp_a (a_aload_nN dX6_foldsAgain_9 rfl) (mpp 10 rfl ?_)
    refine mp_calls (i := 181) (q' := q_63) (As := [.null]) (rest := []) dX6_foldsAgain_10 rfl qm_63 (by decide) rfl (Nat.le_of_ble_eq_true rfl) rfl ⟨rfl, rfl⟩ ⟨Nat.le_of_ble_eq_true rfl, Nat.le_of_ble_eq_true rfl⟩ (EvP.mono (by decide) (c_F_errorOfDecidedStrip_null hT hX )) (fun r8 P9 g10 => mpp 13 rfl ?_)
    obtain ⟨⟨x11, rfl, g12⟩, e13⟩ := g10
    have e13 := e13.symm
    subst e13
    have wx11 := ti_full x11
    replace g12 : x11.toInt = -1001 := g12
    show MEvP _ none q_62 13 [(2, .null), (0, .ref 0), (1, .int t1)] [.int x11] _ _ _ _
    refine mp_a (a_istore_n (L' := [(3, .int x11), (2, .null), (0, .ref 0), (1, .int t1)]) dX6_foldsAgain_13 (by decide) rfl) (mpp 14 rfl ?_)
    refine mp_a (a_iload_n dX6_foldsAgain_14 rfl) (mpp 15 rfl ?_)
    refine mp_Tb (t := 22) (j_if_ne dX6_foldsAgain_15) (by decide) (fun c14 => ?_) (fun c14 => mpp 18 rfl ?_)
    · have c14 : x11.toInt ≠ 0 := ti_ne c14
      refine mp_a (a_iload_n dX6_foldsAgain_22 rfl) (mpp 23 rfl ?_)
      have u15 : foldsAgainC Po x11.toInt t1.toInt := (show (x11.toInt = -1001 ∧ (t1.toInt < 0 ∨ (fv Po 1 1).toInt ≤ t1.toInt ∨ 8 ≤ t1.toInt)) ∨ ((0 ≤ t1.toInt ∧ t1.toInt + 1 ≤ (fv Po 1 1).toInt ∧ t1.toInt ≤ 7) ∧ ((¬ (fv Po (rv Po 2 t1.toInt.toNat) 0).toInt = 0 ∧ x11.toInt = -1002) ∨ ((fv Po (rv Po 2 t1.toInt.toNat) 0).toInt = 0 ∧ 1 ≤ cntF (fun j : Nat => fv Po ((rv Po 2 t1.toInt.toNat) + 2) j) 0 (nC (fv Po (rv Po 2 t1.toInt.toNat) 0).toInt (fv Po (rv Po 2 t1.toInt.toNat) 1).toInt) ∧ x11.toInt = -1004))) ∨ ((0 ≤ t1.toInt ∧ t1.toInt + 1 ≤ (fv Po 1 1).toInt ∧ t1.toInt ≤ 7) ∧ (fv Po (rv Po 2 t1.toInt.toNat) 0).toInt = 0 ∧ cntF (fun j : Nat => fv Po ((rv Po 2 t1.toInt.toNat) + 2) j) 0 (nC (fv Po (rv Po 2 t1.toInt.toNat) 0).toInt (fv Po (rv Po 2 t1.toInt.toNat) 1).toInt) = 0 ∧ ((x11.toInt = 0 ∧ (sT (nP Po (rv Po 2 t1.toInt.toNat)) (cP Po (rv Po 2 t1.toInt.toNat)) (psP Po (rv Po 2 t1.toInt.toNat))) = 0) ∨ (x11.toInt = 1 ∧ 1 ≤ (sT (nP Po (rv Po 2 t1.toInt.toNat)) (cP Po (rv Po 2 t1.toInt.toNat)) (psP Po (rv Po 2 t1.toInt.toNat)))))) from by exact Or.inl (⟨by omega, by omega⟩))
      exact mp_iret ⟨⟨_, rfl, u15⟩, hT, KW.refl, trivial⟩ dX6_foldsAgain_23 (Or.inl rfl)
    · have c14 : x11.toInt = 0 := ti_ne_n c14
      refine mp_a (a_aload_nN dX6_foldsAgain_18 rfl) (mpp 19 rfl ?_)
      refine mp_t (s_ifnonnullN dX6_foldsAgain_19) (mpp 22 rfl ?_)
      refine mp_a (a_iload_n dX6_foldsAgain_22 rfl) (mpp 23 rfl ?_)
      have u16 : foldsAgainC Po x11.toInt t1.toInt := (show (x11.toInt = -1001 ∧ (t1.toInt < 0 ∨ (fv Po 1 1).toInt ≤ t1.toInt ∨ 8 ≤ t1.toInt)) ∨ ((0 ≤ t1.toInt ∧ t1.toInt + 1 ≤ (fv Po 1 1).toInt ∧ t1.toInt ≤ 7) ∧ ((¬ (fv Po (rv Po 2 t1.toInt.toNat) 0).toInt = 0 ∧ x11.toInt = -1002) ∨ ((fv Po (rv Po 2 t1.toInt.toNat) 0).toInt = 0 ∧ 1 ≤ cntF (fun j : Nat => fv Po ((rv Po 2 t1.toInt.toNat) + 2) j) 0 (nC (fv Po (rv Po 2 t1.toInt.toNat) 0).toInt (fv Po (rv Po 2 t1.toInt.toNat) 1).toInt) ∧ x11.toInt = -1004))) ∨ ((0 ≤ t1.toInt ∧ t1.toInt + 1 ≤ (fv Po 1 1).toInt ∧ t1.toInt ≤ 7) ∧ (fv Po (rv Po 2 t1.toInt.toNat) 0).toInt = 0 ∧ cntF (fun j : Nat => fv Po ((rv Po 2 t1.toInt.toNat) + 2) j) 0 (nC (fv Po (rv Po 2 t1.toInt.toNat) 0).toInt (fv Po (rv Po 2 t1.toInt.toNat) 1).toInt) = 0 ∧ ((x11.toInt = 0 ∧ (sT (nP Po (rv Po 2 t1.toInt.toNat)) (cP Po (rv Po 2 t1.toInt.toNat)) (psP Po (rv Po 2 t1.toInt.toNat))) = 0) ∨ (x11.toInt = 1 ∧ 1 ≤ (sT (nP Po (rv Po 2 t1.toInt.toNat)) (cP Po (rv Po 2 t1.toInt.toNat)) (psP Po (rv Po 2 t1.toInt.toNat)))))) from by exact Or.inl (⟨by omega, by omega⟩))
      exact mp_iret ⟨⟨_, rfl, u16⟩, hT, KW.refl, trivial⟩ dX6_foldsAgain_23 (Or.inl rfl)
  · show MEvP _ none q_62 8 [(0, .ref 0), (1, .int t1)] [.ref b5] _ _ _ _
    replace q6r : 0 ≤ t1.toInt ∧ t1.toInt ≤ 7 ∧ t1.toInt + 1 ≤ (fv Po 1 1).toInt ∧ rv Po 2 t1.toInt.toNat = b5 := q6r
    have g17 : (0 : Int) ≤ (fv Po 1 1).toInt ∧ (fv Po 1 1).toInt ≤ 8 := Typ.rng hT rl_1 (by decide) (by decide) rfl
    have w18 := np_ar q6
    refine mp_a (a_astore_n (L' := [(2, .ref b5), (0, .ref 0), (1, .int t1)]) dX6_foldsAgain_8 (by decide) rfl) (mpp 9 rfl ?_)
    refine mp_a (a_aload_n dX6_foldsAgain_9 rfl) (mpp 10 rfl ?_)
    refine mp_calls (i := 181) (q' := q_63) (As := [.ref b5]) (rest := []) dX6_foldsAgain_10 rfl qm_63 (by decide) rfl (Nat.le_of_ble_eq_true rfl) rfl ⟨rfl, rfl⟩ ⟨Nat.le_of_ble_eq_true rfl, Nat.le_of_ble_eq_true rfl⟩ (EvP.mono (by decide) (c_F_errorOfDecidedStrip_NPiece hT hX q6)) (fun r19 P20 g21 => mpp 13 rfl ?_)
    obtain ⟨⟨x22, rfl, g23⟩, e24⟩ := g21
    have e24 := e24.symm
    subst e24
    have wx22 := ti_full x22
    replace g23 : (x22.toInt = -1002 ∧ ¬ (fv Po b5 0).toInt = 0) ∨ (x22.toInt = -1004 ∧ (fv Po b5 0).toInt = 0 ∧ 1 ≤ cntF (fun j : Nat => fv Po (b5 + 2) j) 0 (nC (fv Po b5 0).toInt (fv Po b5 1).toInt)) ∨ (x22.toInt = 0 ∧ (fv Po b5 0).toInt = 0 ∧ cntF (fun j : Nat => fv Po (b5 + 2) j) 0 (nC (fv Po b5 0).toInt (fv Po b5 1).toInt) = 0) := g23
    have g25 := ti_full (fv Po b5 0)
    have g26 : (0 : Int) ≤ (fv Po b5 1).toInt ∧ (fv Po b5 1).toInt ≤ 8 := Typ.rng hT q6 (by decide) (by decide) rfl
    show MEvP _ none q_62 13 [(2, .ref b5), (0, .ref 0), (1, .int t1)] [.int x22] _ _ _ _
    refine mp_a (a_istore_n (L' := [(3, .int x22), (2, .ref b5), (0, .ref 0), (1, .int t1)]) dX6_foldsAgain_13 (by decide) rfl) (mpp 14 rfl ?_)
    refine mp_a (a_iload_n dX6_foldsAgain_14 rfl) (mpp 15 rfl ?_)
    refine mp_Tb (t := 22) (j_if_ne dX6_foldsAgain_15) (by decide) (fun c27 => ?_) (fun c27 => mpp 18 rfl ?_)
    · have c27 : x22.toInt ≠ 0 := ti_ne c27
      refine mp_a (a_iload_n dX6_foldsAgain_22 rfl) (mpp 23 rfl ?_)
      have u28 : foldsAgainC Po x22.toInt t1.toInt := (show (x22.toInt = -1001 ∧ (t1.toInt < 0 ∨ (fv Po 1 1).toInt ≤ t1.toInt ∨ 8 ≤ t1.toInt)) ∨ ((0 ≤ t1.toInt ∧ t1.toInt + 1 ≤ (fv Po 1 1).toInt ∧ t1.toInt ≤ 7) ∧ ((¬ (fv Po (rv Po 2 t1.toInt.toNat) 0).toInt = 0 ∧ x22.toInt = -1002) ∨ ((fv Po (rv Po 2 t1.toInt.toNat) 0).toInt = 0 ∧ 1 ≤ cntF (fun j : Nat => fv Po ((rv Po 2 t1.toInt.toNat) + 2) j) 0 (nC (fv Po (rv Po 2 t1.toInt.toNat) 0).toInt (fv Po (rv Po 2 t1.toInt.toNat) 1).toInt) ∧ x22.toInt = -1004))) ∨ ((0 ≤ t1.toInt ∧ t1.toInt + 1 ≤ (fv Po 1 1).toInt ∧ t1.toInt ≤ 7) ∧ (fv Po (rv Po 2 t1.toInt.toNat) 0).toInt = 0 ∧ cntF (fun j : Nat => fv Po ((rv Po 2 t1.toInt.toNat) + 2) j) 0 (nC (fv Po (rv Po 2 t1.toInt.toNat) 0).toInt (fv Po (rv Po 2 t1.toInt.toNat) 1).toInt) = 0 ∧ ((x22.toInt = 0 ∧ (sT (nP Po (rv Po 2 t1.toInt.toNat)) (cP Po (rv Po 2 t1.toInt.toNat)) (psP Po (rv Po 2 t1.toInt.toNat))) = 0) ∨ (x22.toInt = 1 ∧ 1 ≤ (sT (nP Po (rv Po 2 t1.toInt.toNat)) (cP Po (rv Po 2 t1.toInt.toNat)) (psP Po (rv Po 2 t1.toInt.toNat)))))) from by rw [q6r.2.2.2]; exact Or.inr (Or.inl (⟨by omega, by omega⟩)))
      exact mp_iret ⟨⟨_, rfl, u28⟩, hT, KW.refl, trivial⟩ dX6_foldsAgain_23 (Or.inl rfl)
    · have c27 : x22.toInt = 0 := ti_ne_n c27
      refine mp_a (a_aload_n dX6_foldsAgain_18 rfl) (mpp 19 rfl ?_)
      refine mp_t (s_ifnonnullR (t := 24) dX6_foldsAgain_19 (by decide)) ?_
      refine mp_a (a_aload_n dX6_foldsAgain_24 rfl) (mpp 25 rfl ?_)
      refine mt_getU (i := 46) (k := 6) (A := 294) hT dX6_foldsAgain_25 rfl rl_0 (by decide) rfl (by decide) rfl un_13 (mpp 28 rfl ?_)
      refine mp_a (a_aload_n dX6_foldsAgain_28 rfl) (mpp 29 rfl ?_)
      refine mp_a (a_iconst (v := 1) dX6_foldsAgain_29 rfl) (mpp 30 rfl ?_)
      have p29 : b5 ≤ 288 ∨ 298 ≤ b5 := by omega
      have p30 : 1 ≤ (1 : Int) := by omega
      have p31 : (1 : Int) = 1 ∨ 783820 ≤ (1 : Int) := by omega
      refine mt_callv (i := 184) (q' := q_64) (As := [.ref b5, .int 1]) (rest := []) hT dX6_foldsAgain_30 rfl qm_64 (by decide) rfl rl_294 (by decide) rfl (Nat.le_of_ble_eq_true rfl) rfl ⟨rfl, rfl⟩ ⟨Nat.le_of_ble_eq_true rfl, Nat.le_of_ble_eq_true rfl⟩ (EvP.mono (by decide) (c_CL_search_Layers_NPiece hT hX p29 p30 p31 q6)) (fun r32 P33 g34 => mpp 33 rfl ?_)
      obtain ⟨⟨x35, rfl, g36⟩, hT37, k38, R39⟩ := g34
      have k40 : KW [832, 896, 960, 1024] Po P33 := KW.trans KW.refl k38 rfl
      have wx35 := ti_full x35
      replace g36 : SRC Po P33 b5 (1 : Int) x35.toInt := g36
      show MEvP _ none q_62 33 [(3, .int x22), (2, .ref b5), (0, .ref 0), (1, .int t1)] [.int x35] _ _ _ _
      have w43_ := g36
      unfold SRC at w43_
      have u42 : foldsAgainC Po x35.toInt t1.toInt := (show (x35.toInt = -1001 ∧ (t1.toInt < 0 ∨ (fv Po 1 1).toInt ≤ t1.toInt ∨ 8 ≤ t1.toInt)) ∨ ((0 ≤ t1.toInt ∧ t1.toInt + 1 ≤ (fv Po 1 1).toInt ∧ t1.toInt ≤ 7) ∧ ((¬ (fv Po (rv Po 2 t1.toInt.toNat) 0).toInt = 0 ∧ x35.toInt = -1002) ∨ ((fv Po (rv Po 2 t1.toInt.toNat) 0).toInt = 0 ∧ 1 ≤ cntF (fun j : Nat => fv Po ((rv Po 2 t1.toInt.toNat) + 2) j) 0 (nC (fv Po (rv Po 2 t1.toInt.toNat) 0).toInt (fv Po (rv Po 2 t1.toInt.toNat) 1).toInt) ∧ x35.toInt = -1004))) ∨ ((0 ≤ t1.toInt ∧ t1.toInt + 1 ≤ (fv Po 1 1).toInt ∧ t1.toInt ≤ 7) ∧ (fv Po (rv Po 2 t1.toInt.toNat) 0).toInt = 0 ∧ cntF (fun j : Nat => fv Po ((rv Po 2 t1.toInt.toNat) + 2) j) 0 (nC (fv Po (rv Po 2 t1.toInt.toNat) 0).toInt (fv Po (rv Po 2 t1.toInt.toNat) 1).toInt) = 0 ∧ ((x35.toInt = 0 ∧ (sT (nP Po (rv Po 2 t1.toInt.toNat)) (cP Po (rv Po 2 t1.toInt.toNat)) (psP Po (rv Po 2 t1.toInt.toNat))) = 0) ∨ (x35.toInt = 1 ∧ 1 ≤ (sT (nP Po (rv Po 2 t1.toInt.toNat)) (cP Po (rv Po 2 t1.toInt.toNat)) (psP Po (rv Po 2 t1.toInt.toNat)))))) from by rw [q6r.2.2.2]; exact Or.inr (Or.inr (⟨by omega, by omega, by omega, by rcases w43_ with ⟨h1, h2, h3⟩ | ⟨h1, h2, h3⟩ <;> omega⟩)))
      exact mp_iret ⟨⟨_, rfl, u42⟩, hT37, k40, trivial⟩ dX6_foldsAgain_33 (Or.inl rfl)

set_option maxHeartbeats 4000000 in
theorem c_F_step {Po : mP} {t1 : Int32} (hT : Typ Po) (hX : XR Po)   : EvP 4 73 [.ref 0, .int t1] Po (fun r P' => (∃ x : Int32, r = some (.int x) ∧ (stepC Po x.toInt t1.toInt)) ∧ Typ P' ∧ KW [640, 641, 704, 768] Po P' ∧ True) := by
  refine EvP.of qm_73 (Nat.le_of_ble_eq_true rfl) rfl ?_
  show MEvP _ none q_73 0 [(0, .ref 0), (1, .int t1)] [] _ 0 0 _
  have w_t1 := ti_full t1
  refine mp_a (a_aload_n dX6_step_0 rfl) (mpp 1 rfl ?_)
  refine mt_getU (i := 10) (k := 0) (A := 1) hT dX6_step_1 rfl rl_0 (by decide) rfl (by decide) rfl un_31 (mpp 4 rfl ?_)
  refine mp_a (a_iload_n dX6_step_4 rfl) (mpp 5 rfl ?_)
  refine mt_callv (i := 94) (q' := q_9) (As := [.int t1]) (rest := []) hT dX6_step_5 rfl qm_9 (by decide) rfl rl_1 (by decide) rfl (Nat.le_of_ble_eq_true rfl) rfl ⟨rfl, rfl⟩ ⟨Nat.le_of_ble_eq_true rfl, Nat.le_of_ble_eq_true rfl⟩ (EvP.mono (by decide) (c_CS_pieceAt_NState hT hX )) (fun r1 P2 g3 => mpp 8 rfl ?_)
  obtain ⟨g3, e4⟩ := g3
  have e4 := e4.symm
  subst e4
  rcases g3 with ⟨rfl, q6n⟩ | ⟨b5, rfl, q6, q6r⟩
  · show MEvP _ none q_73 8 [(0, .ref 0), (1, .int t1)] [.null] _ _ _ _
    replace q6n : t1.toInt < 0 ∨ (fv Po 1 1).toInt ≤ t1.toInt ∨ 8 ≤ t1.toInt := q6n
    have g7 : (0 : Int) ≤ (fv Po 1 1).toInt ∧ (fv Po 1 1).toInt ≤ 8 := Typ.rng hT rl_1 (by decide) (by decide) rfl
    refine mp_a (a_astore_nN (L' := [(2, .null), (0, .ref 0), (1, .int t1)]) dX6_step_8 (by decide) rfl) (mpp 9 rfl ?_)
    refine mp_a (a_aload_nN dX6_step_9 rfl) (mpp 10 rfl ?_)
    refine mp_t (s_ifnonnullN dX6_step_10) (mpp 13 rfl ?_)
    refine mp_a (a_sipush (v := -1001) dX6_step_13 rfl) (mpp 16 rfl ?_)
    have u8 : stepC Po (-1001 : Int) t1.toInt := (show ((-1001 : Int) = -1001 ∧ (t1.toInt < 0 ∨ (fv Po 1 1).toInt ≤ t1.toInt ∨ 8 ≤ t1.toInt)) ∨ ((0 ≤ t1.toInt ∧ t1.toInt + 1 ≤ (fv Po 1 1).toInt ∧ t1.toInt ≤ 7) ∧ 1 ≤ cntF (fun j : Nat => fv Po ((rv Po 2 t1.toInt.toNat) + 2) j) 0 (nC (fv Po (rv Po 2 t1.toInt.toNat) 0).toInt (fv Po (rv Po 2 t1.toInt.toNat) 1).toInt) ∧ (-1001 : Int) = -1004) ∨ ((0 ≤ t1.toInt ∧ t1.toInt + 1 ≤ (fv Po 1 1).toInt ∧ t1.toInt ≤ 7) ∧ cntF (fun j : Nat => fv Po ((rv Po 2 t1.toInt.toNat) + 2) j) 0 (nC (fv Po (rv Po 2 t1.toInt.toNat) 0).toInt (fv Po (rv Po 2 t1.toInt.toNat) 1).toInt) = 0 ∧ (∃ y : Int, FS cC (pcR (fv Po (rv Po 2 t1.toInt.toNat) 0).toInt (fv Po (rv Po 2 t1.toInt.toNat) 1).toInt (fun j : Nat => fv Po ((rv Po 2 t1.toInt.toNat) + 1) j) (fun j : Nat => fv Po ((rv Po 2 t1.toInt.toNat) + 2) j)) y ∧ ((y = 0 ∧ (-1001 : Int) = -1004) ∨ (¬ y = 0 ∧ (-1001 : Int) = y)))) from by exact Or.inl (⟨by omega, by omega⟩))
    exact mp_iret ⟨⟨_, rfl, u8⟩, hT, KW.refl, trivial⟩ dX6_step_16 (Or.inl rfl)
  · show MEvP _ none q_73 8 [(0, .ref 0), (1, .int t1)] [.ref b5] _ _ _ _
    replace q6r : 0 ≤ t1.toInt ∧ t1.toInt ≤ 7 ∧ t1.toInt + 1 ≤ (fv Po 1 1).toInt ∧ rv Po 2 t1.toInt.toNat = b5 := q6r
    have g9 : (0 : Int) ≤ (fv Po 1 1).toInt ∧ (fv Po 1 1).toInt ≤ 8 := Typ.rng hT rl_1 (by decide) (by decide) rfl
    have w10 := np_ar q6
    refine mp_a (a_astore_n (L' := [(2, .ref b5), (0, .ref 0), (1, .int t1)]) dX6_step_8 (by decide) rfl) (mpp 9 rfl ?_)
    refine mp_a (a_aload_n dX6_step_9 rfl) (mpp 10 rfl ?_)
    refine mp_t (s_ifnonnullR (t := 17) dX6_step_10 (by decide)) ?_
    refine mp_a (a_aload_n dX6_step_17 rfl) (mpp 18 rfl ?_)
    refine mt_callv (i := 159) (q' := q_42) (As := []) (rest := []) hT dX6_step_18 rfl qm_42 (by decide) rfl q6 (by decide) rfl (Nat.le_of_ble_eq_true rfl) rfl ⟨rfl, rfl⟩ ⟨Nat.le_of_ble_eq_true rfl, Nat.le_of_ble_eq_true rfl⟩ (EvP.mono (by decide) (c_CP_isUndecided_NPiece hT hX q6)) (fun r11 P12 g13 => mpp 21 rfl ?_)
    obtain ⟨⟨x14, rfl, g15⟩, e16⟩ := g13
    have e16 := e16.symm
    subst e16
    have wx14 := ti_full x14
    replace g15 : 0 ≤ x14.toInt ∧ x14.toInt ≤ 1 ∧ ((x14.toInt = 1 ∧ 1 ≤ cntF (fun j : Nat => fv Po (b5 + 2) j) 0 (nC (fv Po b5 0).toInt (fv Po b5 1).toInt)) ∨ (x14.toInt = 0 ∧ cntF (fun j : Nat => fv Po (b5 + 2) j) 0 (nC (fv Po b5 0).toInt (fv Po b5 1).toInt) = 0)) := g15
    have g17 := ti_full (fv Po b5 0)
    have g18 : (0 : Int) ≤ (fv Po b5 1).toInt ∧ (fv Po b5 1).toInt ≤ 8 := Typ.rng hT q6 (by decide) (by decide) rfl
    show MEvP _ none q_73 21 [(2, .ref b5), (0, .ref 0), (1, .int t1)] [.int x14] _ _ _ _
    refine mp_Tb (t := 28) (j_if_eq dX6_step_21) (by decide) (fun c19 => ?_) (fun c19 => mpp 24 rfl ?_)
    · have c19 : x14.toInt = 0 := ti_eq c19
      refine mp_a (a_aload_n dX6_step_28 rfl) (mpp 29 rfl ?_)
      refine mt_getU (i := 39) (k := 5) (A := 291) hT dX6_step_29 rfl rl_0 (by decide) rfl (by decide) rfl un_10 (mpp 32 rfl ?_)
      refine mp_a (a_aload_n dX6_step_32 rfl) (mpp 33 rfl ?_)
      have p20 : b5 ≤ 288 ∨ 298 ≤ b5 := by omega
      refine mt_callv (i := 188) (q' := q_45) (As := [.ref b5]) (rest := []) hT dX6_step_33 rfl qm_45 (by decide) rfl rl_291 (by decide) rfl (Nat.le_of_ble_eq_true rfl) rfl ⟨rfl, rfl⟩ ⟨Nat.le_of_ble_eq_true rfl, Nat.le_of_ble_eq_true rfl⟩ (EvP.mono (by decide) (c_CR_load_Reducer_NPiece hT hX p20 q6)) (fun r21 P22 g23 => mpp 36 rfl ?_)
      obtain ⟨⟨rfl, g25⟩, hT26, k27, R28⟩ := g23
      have k29 : KW [640, 641, 704, 768] Po P22 := KW.trans KW.refl k27 rfl
      show MEvP _ none q_73 36 [(2, .ref b5), (0, .ref 0), (1, .int t1)] [] _ _ _ _
      refine mp_a (a_aload_n dX6_step_36 rfl) (mpp 37 rfl ?_)
      refine mt_getU (i := 39) (k := 5) (A := 291) hT26 dX6_step_37 rfl rl_0 (by decide) rfl (by decide) rfl un_10 (mpp 40 rfl ?_)
      refine mt_callv (i := 191) (q' := q_52) (As := []) (rest := []) hT26 dX6_step_40 rfl qm_52 (by decide) rfl rl_291 (by decide) rfl (Nat.le_of_ble_eq_true rfl) rfl ⟨rfl, rfl⟩ ⟨Nat.le_of_ble_eq_true rfl, Nat.le_of_ble_eq_true rfl⟩ (EvP.mono (by decide) (c_CR_firstStep_Reducer hT26 (KW.xr k29 hX) )) (fun r31 P32 g33 => mpp 43 rfl ?_)
      obtain ⟨⟨x34, rfl, g35⟩, e36⟩ := g33
      have e36 := e36.symm
      subst e36
      have wx34 := ti_full x34
      replace g35 : (x34.toInt = 0 ∨ 2 ≤ (fv P22 291 1).toInt) ∧ FS cC (rC P22) x34.toInt := g35
      have g37 : (0 : Int) ≤ (fv P22 291 1).toInt ∧ (fv P22 291 1).toInt ≤ 8 := Typ.rng hT26 rl_291 (by decide) (by decide) rfl
      show MEvP _ none q_73 43 [(2, .ref b5), (0, .ref 0), (1, .int t1)] [.int x34] _ _ _ _
      refine mp_a (a_istore_n (L' := [(3, .int x34), (2, .ref b5), (0, .ref 0), (1, .int t1)]) dX6_step_43 (by decide) rfl) (mpp 44 rfl ?_)
      refine mp_a (a_iload_n dX6_step_44 rfl) (mpp 45 rfl ?_)
      refine mp_Tb (t := 54) (j_if_ne dX6_step_45) (by decide) (fun c38 => ?_) (fun c38 => mpp 48 rfl ?_)
      · have c38 : x34.toInt ≠ 0 := ti_ne c38
        refine mp_a (a_iload_n dX6_step_54 rfl) (mpp 55 rfl ?_)
        have w40_ := g35.2
        rw [rC_load R28.1 R28.2.1 R28.2.2.1 R28.2.2.2.1 (by omega)] at w40_
        have u39 : stepC Po x34.toInt t1.toInt := (show (x34.toInt = -1001 ∧ (t1.toInt < 0 ∨ (fv Po 1 1).toInt ≤ t1.toInt ∨ 8 ≤ t1.toInt)) ∨ ((0 ≤ t1.toInt ∧ t1.toInt + 1 ≤ (fv Po 1 1).toInt ∧ t1.toInt ≤ 7) ∧ 1 ≤ cntF (fun j : Nat => fv Po ((rv Po 2 t1.toInt.toNat) + 2) j) 0 (nC (fv Po (rv Po 2 t1.toInt.toNat) 0).toInt (fv Po (rv Po 2 t1.toInt.toNat) 1).toInt) ∧ x34.toInt = -1004) ∨ ((0 ≤ t1.toInt ∧ t1.toInt + 1 ≤ (fv Po 1 1).toInt ∧ t1.toInt ≤ 7) ∧ cntF (fun j : Nat => fv Po ((rv Po 2 t1.toInt.toNat) + 2) j) 0 (nC (fv Po (rv Po 2 t1.toInt.toNat) 0).toInt (fv Po (rv Po 2 t1.toInt.toNat) 1).toInt) = 0 ∧ (∃ y : Int, FS cC (pcR (fv Po (rv Po 2 t1.toInt.toNat) 0).toInt (fv Po (rv Po 2 t1.toInt.toNat) 1).toInt (fun j : Nat => fv Po ((rv Po 2 t1.toInt.toNat) + 1) j) (fun j : Nat => fv Po ((rv Po 2 t1.toInt.toNat) + 2) j)) y ∧ ((y = 0 ∧ x34.toInt = -1004) ∨ (¬ y = 0 ∧ x34.toInt = y)))) from by rw [q6r.2.2.2]; exact Or.inr (Or.inr (⟨by omega, by omega, ⟨_, w40_, Or.inr ⟨by omega, rfl⟩⟩⟩)))
        exact mp_iret ⟨⟨_, rfl, u39⟩, hT26, k29, trivial⟩ dX6_step_55 (Or.inl rfl)
      · have c38 : x34.toInt = 0 := ti_ne_n c38
        refine mp_a (a_sipush (v := -1004) dX6_step_48 rfl) (mpp 51 rfl ?_)
        refine mp_a (a_goto (t := 55) dX6_step_51 (by decide)) ?_
        have w42_ := g35.2
        rw [rC_load R28.1 R28.2.1 R28.2.2.1 R28.2.2.2.1 (by omega)] at w42_
        have u41 : stepC Po (-1004 : Int) t1.toInt := (show ((-1004 : Int) = -1001 ∧ (t1.toInt < 0 ∨ (fv Po 1 1).toInt ≤ t1.toInt ∨ 8 ≤ t1.toInt)) ∨ ((0 ≤ t1.toInt ∧ t1.toInt + 1 ≤ (fv Po 1 1).toInt ∧ t1.toInt ≤ 7) ∧ 1 ≤ cntF (fun j : Nat => fv Po ((rv Po 2 t1.toInt.toNat) + 2) j) 0 (nC (fv Po (rv Po 2 t1.toInt.toNat) 0).toInt (fv Po (rv Po 2 t1.toInt.toNat) 1).toInt) ∧ (-1004 : Int) = -1004) ∨ ((0 ≤ t1.toInt ∧ t1.toInt + 1 ≤ (fv Po 1 1).toInt ∧ t1.toInt ≤ 7) ∧ cntF (fun j : Nat => fv Po ((rv Po 2 t1.toInt.toNat) + 2) j) 0 (nC (fv Po (rv Po 2 t1.toInt.toNat) 0).toInt (fv Po (rv Po 2 t1.toInt.toNat) 1).toInt) = 0 ∧ (∃ y : Int, FS cC (pcR (fv Po (rv Po 2 t1.toInt.toNat) 0).toInt (fv Po (rv Po 2 t1.toInt.toNat) 1).toInt (fun j : Nat => fv Po ((rv Po 2 t1.toInt.toNat) + 1) j) (fun j : Nat => fv Po ((rv Po 2 t1.toInt.toNat) + 2) j)) y ∧ ((y = 0 ∧ (-1004 : Int) = -1004) ∨ (¬ y = 0 ∧ (-1004 : Int) = y)))) from by rw [q6r.2.2.2]; exact Or.inr (Or.inr (⟨by omega, by omega, ⟨_, w42_, Or.inl ⟨by omega, rfl⟩⟩⟩)))
        exact mp_iret ⟨⟨_, rfl, u41⟩, hT26, k29, trivial⟩ dX6_step_55 (Or.inl rfl)
    · have c19 : x14.toInt ≠ 0 := ti_eq_n c19
      refine mp_a (a_sipush (v := -1004) dX6_step_24 rfl) (mpp 27 rfl ?_)
      have u43 : stepC Po (-1004 : Int) t1.toInt := (show ((-1004 : Int) = -1001 ∧ (t1.toInt < 0 ∨ (fv Po 1 1).toInt ≤ t1.toInt ∨ 8 ≤ t1.toInt)) ∨ ((0 ≤ t1.toInt ∧ t1.toInt + 1 ≤ (fv Po 1 1).toInt ∧ t1.toInt ≤ 7) ∧ 1 ≤ cntF (fun j : Nat => fv Po ((rv Po 2 t1.toInt.toNat) + 2) j) 0 (nC (fv Po (rv Po 2 t1.toInt.toNat) 0).toInt (fv Po (rv Po 2 t1.toInt.toNat) 1).toInt) ∧ (-1004 : Int) = -1004) ∨ ((0 ≤ t1.toInt ∧ t1.toInt + 1 ≤ (fv Po 1 1).toInt ∧ t1.toInt ≤ 7) ∧ cntF (fun j : Nat => fv Po ((rv Po 2 t1.toInt.toNat) + 2) j) 0 (nC (fv Po (rv Po 2 t1.toInt.toNat) 0).toInt (fv Po (rv Po 2 t1.toInt.toNat) 1).toInt) = 0 ∧ (∃ y : Int, FS cC (pcR (fv Po (rv Po 2 t1.toInt.toNat) 0).toInt (fv Po (rv Po 2 t1.toInt.toNat) 1).toInt (fun j : Nat => fv Po ((rv Po 2 t1.toInt.toNat) + 1) j) (fun j : Nat => fv Po ((rv Po 2 t1.toInt.toNat) + 2) j)) y ∧ ((y = 0 ∧ (-1004 : Int) = -1004) ∨ (¬ y = 0 ∧ (-1004 : Int) = y)))) from by rw [q6r.2.2.2]; exact Or.inr (Or.inl (⟨by omega, by omega, by omega⟩)))
      exact mp_iret ⟨⟨_, rfl, u43⟩, hT, KW.refl, trivial⟩ dX6_step_27 (Or.inl rfl)

set_option maxHeartbeats 4000000 in
theorem c_F_steps {Po : mP} {t1 : Int32} (hT : Typ Po) (hX : XR Po)   : EvP 4 74 [.ref 0, .int t1] Po (fun r P' => (∃ x : Int32, r = some (.int x) ∧ (stepsC Po x.toInt t1.toInt)) ∧ Typ P' ∧ KW [640, 641, 704, 768] Po P' ∧ True) := by
  refine EvP.of qm_74 (Nat.le_of_ble_eq_true rfl) rfl ?_
  show MEvP _ none q_74 0 [(0, .ref 0), (1, .int t1)] [] _ 0 0 _
  have w_t1 := ti_full t1
  refine mp_a (a_aload_n dX6_steps_0 rfl) (mpp 1 rfl ?_)
  refine mt_getU (i := 10) (k := 0) (A := 1) hT dX6_steps_1 rfl rl_0 (by decide) rfl (by decide) rfl un_31 (mpp 4 rfl ?_)
  refine mp_a (a_iload_n dX6_steps_4 rfl) (mpp 5 rfl ?_)
  refine mt_callv (i := 94) (q' := q_9) (As := [.int t1]) (rest := []) hT dX6_steps_5 rfl qm_9 (by decide) rfl rl_1 (by decide) rfl (Nat.le_of_ble_eq_true rfl) rfl ⟨rfl, rfl⟩ ⟨Nat.le_of_ble_eq_true rfl, Nat.le_of_ble_eq_true rfl⟩ (EvP.mono (by decide) (c_CS_pieceAt_NState hT hX )) (fun r1 P2 g3 => mpp 8 rfl ?_)
  obtain ⟨g3, e4⟩ := g3
  have e4 := e4.symm
  subst e4
  rcases g3 with ⟨rfl, q6n⟩ | ⟨b5, rfl, q6, q6r⟩
  · show MEvP _ none q_74 8 [(0, .ref 0), (1, .int t1)] [.null] _ _ _ _
    replace q6n : t1.toInt < 0 ∨ (fv Po 1 1).toInt ≤ t1.toInt ∨ 8 ≤ t1.toInt := q6n
    have g7 : (0 : Int) ≤ (fv Po 1 1).toInt ∧ (fv Po 1 1).toInt ≤ 8 := Typ.rng hT rl_1 (by decide) (by decide) rfl
    refine mp_a (a_astore_nN (L' := [(2, .null), (0, .ref 0), (1, .int t1)]) dX6_steps_8 (by decide) rfl) (mpp 9 rfl ?_)
    refine mp_a (a_aload_nN dX6_steps_9 rfl) (mpp 10 rfl ?_)
    refine mp_t (s_ifnonnullN dX6_steps_10) (mpp 13 rfl ?_)
    refine mp_a (a_sipush (v := -1001) dX6_steps_13 rfl) (mpp 16 rfl ?_)
    have u8 : stepsC Po (-1001 : Int) t1.toInt := (show ((-1001 : Int) = -1001 ∧ (t1.toInt < 0 ∨ (fv Po 1 1).toInt ≤ t1.toInt ∨ 8 ≤ t1.toInt)) ∨ ((0 ≤ t1.toInt ∧ t1.toInt + 1 ≤ (fv Po 1 1).toInt ∧ t1.toInt ≤ 7) ∧ 1 ≤ cntF (fun j : Nat => fv Po ((rv Po 2 t1.toInt.toNat) + 2) j) 0 (nC (fv Po (rv Po 2 t1.toInt.toNat) 0).toInt (fv Po (rv Po 2 t1.toInt.toNat) 1).toInt) ∧ (-1001 : Int) = -1004) ∨ ((0 ≤ t1.toInt ∧ t1.toInt + 1 ≤ (fv Po 1 1).toInt ∧ t1.toInt ≤ 7) ∧ cntF (fun j : Nat => fv Po ((rv Po 2 t1.toInt.toNat) + 2) j) 0 (nC (fv Po (rv Po 2 t1.toInt.toNat) 0).toInt (fv Po (rv Po 2 t1.toInt.toNat) 1).toInt) = 0 ∧ 0 ≤ (-1001 : Int) ∧ (∃ R2 : RS, RD cC (pcR (fv Po (rv Po 2 t1.toInt.toNat) 0).toInt (fv Po (rv Po 2 t1.toInt.toNat) 1).toInt (fun j : Nat => fv Po ((rv Po 2 t1.toInt.toNat) + 1) j) (fun j : Nat => fv Po ((rv Po 2 t1.toInt.toNat) + 2) j)) (-1001 : Int).toNat R2)) from by exact Or.inl (⟨by omega, by omega⟩))
    exact mp_iret ⟨⟨_, rfl, u8⟩, hT, KW.refl, trivial⟩ dX6_steps_16 (Or.inl rfl)
  · show MEvP _ none q_74 8 [(0, .ref 0), (1, .int t1)] [.ref b5] _ _ _ _
    replace q6r : 0 ≤ t1.toInt ∧ t1.toInt ≤ 7 ∧ t1.toInt + 1 ≤ (fv Po 1 1).toInt ∧ rv Po 2 t1.toInt.toNat = b5 := q6r
    have g9 : (0 : Int) ≤ (fv Po 1 1).toInt ∧ (fv Po 1 1).toInt ≤ 8 := Typ.rng hT rl_1 (by decide) (by decide) rfl
    have w10 := np_ar q6
    refine mp_a (a_astore_n (L' := [(2, .ref b5), (0, .ref 0), (1, .int t1)]) dX6_steps_8 (by decide) rfl) (mpp 9 rfl ?_)
    refine mp_a (a_aload_n dX6_steps_9 rfl) (mpp 10 rfl ?_)
    refine mp_t (s_ifnonnullR (t := 17) dX6_steps_10 (by decide)) ?_
    refine mp_a (a_aload_n dX6_steps_17 rfl) (mpp 18 rfl ?_)
    refine mt_callv (i := 159) (q' := q_42) (As := []) (rest := []) hT dX6_steps_18 rfl qm_42 (by decide) rfl q6 (by decide) rfl (Nat.le_of_ble_eq_true rfl) rfl ⟨rfl, rfl⟩ ⟨Nat.le_of_ble_eq_true rfl, Nat.le_of_ble_eq_true rfl⟩ (EvP.mono (by decide) (c_CP_isUndecided_NPiece hT hX q6)) (fun r11 P12 g13 => mpp 21 rfl ?_)
    obtain ⟨⟨x14, rfl, g15⟩, e16⟩ := g13
    have e16 := e16.symm
    subst e16
    have wx14 := ti_full x14
    replace g15 : 0 ≤ x14.toInt ∧ x14.toInt ≤ 1 ∧ ((x14.toInt = 1 ∧ 1 ≤ cntF (fun j : Nat => fv Po (b5 + 2) j) 0 (nC (fv Po b5 0).toInt (fv Po b5 1).toInt)) ∨ (x14.toInt = 0 ∧ cntF (fun j : Nat => fv Po (b5 + 2) j) 0 (nC (fv Po b5 0).toInt (fv Po b5 1).toInt) = 0)) := g15
    have g17 := ti_full (fv Po b5 0)
    have g18 : (0 : Int) ≤ (fv Po b5 1).toInt ∧ (fv Po b5 1).toInt ≤ 8 := Typ.rng hT q6 (by decide) (by decide) rfl
    show MEvP _ none q_74 21 [(2, .ref b5), (0, .ref 0), (1, .int t1)] [.int x14] _ _ _ _
    refine mp_Tb (t := 28) (j_if_eq dX6_steps_21) (by decide) (fun c19 => ?_) (fun c19 => mpp 24 rfl ?_)
    · have c19 : x14.toInt = 0 := ti_eq c19
      refine mp_a (a_aload_n dX6_steps_28 rfl) (mpp 29 rfl ?_)
      refine mt_getU (i := 39) (k := 5) (A := 291) hT dX6_steps_29 rfl rl_0 (by decide) rfl (by decide) rfl un_10 (mpp 32 rfl ?_)
      refine mp_a (a_aload_n dX6_steps_32 rfl) (mpp 33 rfl ?_)
      have p20 : b5 ≤ 288 ∨ 298 ≤ b5 := by omega
      refine mt_callv (i := 188) (q' := q_45) (As := [.ref b5]) (rest := []) hT dX6_steps_33 rfl qm_45 (by decide) rfl rl_291 (by decide) rfl (Nat.le_of_ble_eq_true rfl) rfl ⟨rfl, rfl⟩ ⟨Nat.le_of_ble_eq_true rfl, Nat.le_of_ble_eq_true rfl⟩ (EvP.mono (by decide) (c_CR_load_Reducer_NPiece hT hX p20 q6)) (fun r21 P22 g23 => mpp 36 rfl ?_)
      obtain ⟨⟨rfl, g25⟩, hT26, k27, R28⟩ := g23
      have k29 : KW [640, 641, 704, 768] Po P22 := KW.trans KW.refl k27 rfl
      show MEvP _ none q_74 36 [(2, .ref b5), (0, .ref 0), (1, .int t1)] [] _ _ _ _
      refine mp_a (a_aload_n dX6_steps_36 rfl) (mpp 37 rfl ?_)
      refine mt_getU (i := 39) (k := 5) (A := 291) hT26 dX6_steps_37 rfl rl_0 (by decide) rfl (by decide) rfl un_10 (mpp 40 rfl ?_)
      have g31 : (0 : Int) ≤ (fv P22 291 1).toInt ∧ (fv P22 291 1).toInt ≤ 8 := Typ.rng hT26 rl_291 (by decide) (by decide) rfl
      have p32 : (fv P22 291 1).toInt ≤ 8 := by omega
      refine mt_callv (i := 194) (q' := q_51) (As := []) (rest := []) hT26 dX6_steps_40 rfl qm_51 (by decide) rfl rl_291 (by decide) rfl (Nat.le_of_ble_eq_true rfl) rfl ⟨rfl, rfl⟩ ⟨Nat.le_of_ble_eq_true rfl, Nat.le_of_ble_eq_true rfl⟩ (EvP.mono (by decide) (c_CR_reduce_Reducer hT26 (KW.xr k29 hX) p32 )) (fun r33 P34 g35 => mpp 43 rfl ?_)
      obtain ⟨⟨x36, rfl, g37⟩, hT38, k39, R40⟩ := g35
      have k41 : KW [640, 641, 704, 768] Po P34 := KW.trans k29 k39 rfl
      have wx36 := ti_full x36
      replace g37 : 0 ≤ x36.toInt ∧ RD cC (rC P22) x36.toInt.toNat (rC P34) := g37
      show MEvP _ none q_74 43 [(2, .ref b5), (0, .ref 0), (1, .int t1)] [.int x36] _ _ _ _
      have w44_ := g37.2
      rw [rC_load R28.1 R28.2.1 R28.2.2.1 R28.2.2.2.1 (by omega)] at w44_
      have u43 : stepsC Po x36.toInt t1.toInt := (show (x36.toInt = -1001 ∧ (t1.toInt < 0 ∨ (fv Po 1 1).toInt ≤ t1.toInt ∨ 8 ≤ t1.toInt)) ∨ ((0 ≤ t1.toInt ∧ t1.toInt + 1 ≤ (fv Po 1 1).toInt ∧ t1.toInt ≤ 7) ∧ 1 ≤ cntF (fun j : Nat => fv Po ((rv Po 2 t1.toInt.toNat) + 2) j) 0 (nC (fv Po (rv Po 2 t1.toInt.toNat) 0).toInt (fv Po (rv Po 2 t1.toInt.toNat) 1).toInt) ∧ x36.toInt = -1004) ∨ ((0 ≤ t1.toInt ∧ t1.toInt + 1 ≤ (fv Po 1 1).toInt ∧ t1.toInt ≤ 7) ∧ cntF (fun j : Nat => fv Po ((rv Po 2 t1.toInt.toNat) + 2) j) 0 (nC (fv Po (rv Po 2 t1.toInt.toNat) 0).toInt (fv Po (rv Po 2 t1.toInt.toNat) 1).toInt) = 0 ∧ 0 ≤ x36.toInt ∧ (∃ R2 : RS, RD cC (pcR (fv Po (rv Po 2 t1.toInt.toNat) 0).toInt (fv Po (rv Po 2 t1.toInt.toNat) 1).toInt (fun j : Nat => fv Po ((rv Po 2 t1.toInt.toNat) + 1) j) (fun j : Nat => fv Po ((rv Po 2 t1.toInt.toNat) + 2) j)) x36.toInt.toNat R2)) from by rw [q6r.2.2.2]; exact Or.inr (Or.inr (⟨by omega, by omega, by omega, ⟨_, w44_⟩⟩)))
      exact mp_iret ⟨⟨_, rfl, u43⟩, hT38, k41, trivial⟩ dX6_steps_43 (Or.inl rfl)
    · have c19 : x14.toInt ≠ 0 := ti_eq_n c19
      refine mp_a (a_sipush (v := -1004) dX6_steps_24 rfl) (mpp 27 rfl ?_)
      have u45 : stepsC Po (-1004 : Int) t1.toInt := (show ((-1004 : Int) = -1001 ∧ (t1.toInt < 0 ∨ (fv Po 1 1).toInt ≤ t1.toInt ∨ 8 ≤ t1.toInt)) ∨ ((0 ≤ t1.toInt ∧ t1.toInt + 1 ≤ (fv Po 1 1).toInt ∧ t1.toInt ≤ 7) ∧ 1 ≤ cntF (fun j : Nat => fv Po ((rv Po 2 t1.toInt.toNat) + 2) j) 0 (nC (fv Po (rv Po 2 t1.toInt.toNat) 0).toInt (fv Po (rv Po 2 t1.toInt.toNat) 1).toInt) ∧ (-1004 : Int) = -1004) ∨ ((0 ≤ t1.toInt ∧ t1.toInt + 1 ≤ (fv Po 1 1).toInt ∧ t1.toInt ≤ 7) ∧ cntF (fun j : Nat => fv Po ((rv Po 2 t1.toInt.toNat) + 2) j) 0 (nC (fv Po (rv Po 2 t1.toInt.toNat) 0).toInt (fv Po (rv Po 2 t1.toInt.toNat) 1).toInt) = 0 ∧ 0 ≤ (-1004 : Int) ∧ (∃ R2 : RS, RD cC (pcR (fv Po (rv Po 2 t1.toInt.toNat) 0).toInt (fv Po (rv Po 2 t1.toInt.toNat) 1).toInt (fun j : Nat => fv Po ((rv Po 2 t1.toInt.toNat) + 1) j) (fun j : Nat => fv Po ((rv Po 2 t1.toInt.toNat) + 2) j)) (-1004 : Int).toNat R2)) from by rw [q6r.2.2.2]; exact Or.inr (Or.inl (⟨by omega, by omega, by omega⟩)))
      exact mp_iret ⟨⟨_, rfl, u45⟩, hT, KW.refl, trivial⟩ dX6_steps_27 (Or.inl rfl)

set_option maxHeartbeats 4000000 in
theorem c_CR_kindIn {Po : mP} {t0 : Int32} {t1 : Int32} (hT : Typ Po) (hX : XR Po)   : EvP 1 78 [.int t0, .int t1] Po (fun r P' => (∃ x : Int32, r = some (.int x) ∧ (x.toInt = kB t0 t1 ∧ 1 ≤ x.toInt ∧ x.toInt ≤ 2)) ∧ P' = Po) := by
  refine EvP.of qm_78 (Nat.le_of_ble_eq_true rfl) rfl ?_
  show MEvP _ none q_78 0 [(0, .int t0), (1, .int t1)] [] _ 0 0 _
  have w_t0 := ti_full t0
  have w_t1 := ti_full t1
  refine mp_a (a_iload_n dX3_kindIn_0 rfl) (mpp 1 rfl ?_)
  refine mp_a (a_iload_n dX3_kindIn_1 rfl) (mpp 2 rfl ?_)
  obtain ⟨z1, h2⟩ := ti_ex (t0 >>> (t1 &&& 31) : Int32)
  have wz1 := ti_full z1
  refine mp_t (s_ishr (v := z1) dX3_kindIn_2 h2) (mpp 3 rfl ?_)
  refine mp_a (a_iconst (v := 1) dX3_kindIn_3 rfl) (mpp 4 rfl ?_)
  obtain ⟨z3, h4⟩ := ti_ex (z1 &&& 1 : Int32)
  have wz3 := ti_full z3
  refine mp_t (s_iand (v := z3) dX3_kindIn_4 h4) (mpp 5 rfl ?_)
  refine mp_Tb (t := 12) (j_if_ne dX3_kindIn_5) (by decide) (fun c5 => ?_) (fun c5 => mpp 8 rfl ?_)
  · have c5 : z3.toInt ≠ 0 := ti_ne c5
    refine mp_a (a_iconst (v := 2) dX3_kindIn_12 rfl) (mpp 13 rfl ?_)
    have u6 : (2 : Int) = kB t0 t1 ∧ 1 ≤ (2 : Int) ∧ (2 : Int) ≤ 2 := ⟨(kB.two h2 h4 (by omega)).symm, by omega, by omega⟩
    exact mp_iret ⟨⟨_, rfl, u6⟩, rfl⟩ dX3_kindIn_13 (Or.inl rfl)
  · have c5 : z3.toInt = 0 := ti_ne_n c5
    refine mp_a (a_iconst (v := 1) dX3_kindIn_8 rfl) (mpp 9 rfl ?_)
    refine mp_a (a_goto (t := 13) dX3_kindIn_9 (by decide)) ?_
    have u7 : (1 : Int) = kB t0 t1 ∧ 1 ≤ (1 : Int) ∧ (1 : Int) ≤ 2 := ⟨(kB.one h2 h4 (by omega)).symm, by omega, by omega⟩
    exact mp_iret ⟨⟨_, rfl, u7⟩, rfl⟩ dX3_kindIn_13 (Or.inl rfl)

set_option maxHeartbeats 4000000 in
theorem c_CR_changesTo_NPiece_l4 {Po : mP} {a0_ : Nat} {t1 : Int32} (hT : Typ Po) (hX : XR Po)  (ha0 : rl a0_ = 33) : ∀ (n : Nat) (v2 : Int32) (v3 : Int32), (0 ≤ v2.toInt) → (v2.toInt ≤ v3.toInt) → (v3.toInt ≤ 8) → (v2.toInt = chF (fun j : Nat => fv Po (a0_ + 2) j) t1 v3.toInt.toNat) → (((fv Po a0_ 0).toInt = 0 ∧ (v3.toInt ≤ (fv Po a0_ 1).toInt - 1 ∨ v3.toInt = 0)) ∨ ((fv Po a0_ 0).toInt ≠ 0 ∧ v3.toInt ≤ (fv Po a0_ 1).toInt)) → (0 ≤ v3.toInt) → (2147483647 - v3.toInt).toNat = n → MEvP 1 none q_77 4 [(0, .ref a0_), (1, .int t1), (2, .int v2), (3, .int v3)] [] Po 0 0 (fun r P' => (∃ x : Int32, r = some (.int x) ∧ (0 ≤ x.toInt ∧ x.toInt ≤ 8 ∧ x.toInt = chF (fun j : Nat => fv Po (a0_ + 2) j) t1 (nC (fv Po a0_ 0).toInt (fv Po a0_ 1).toInt))) ∧ P' = Po) := by
  intro n
  induction n using Nat.strongRecOn with | _ n ih => ?_
  intro v2 v3 i_0 i_1 i_2 i_3 i_4 i_5 hm
  have w1 := np_ar ha0
  have w_t1 := ti_full t1
  have w_v2 := ti_full v2
  have w_v3 := ti_full v3
  have g2 := ti_full (fv Po a0_ 0)
  have g3 : (0 : Int) ≤ (fv Po a0_ 1).toInt ∧ (fv Po a0_ 1).toInt ≤ 8 := Typ.rng hT ha0 (by decide) (by decide) rfl
  refine mp_a (a_iload_n dX3_changesTo_4 rfl) (mpp 5 rfl ?_)
  refine mp_a (a_aload_n dX3_changesTo_5 rfl) (mpp 6 rfl ?_)
  refine mt_callv (i := 34) (q' := q_25) (As := []) (rest := [.int v3]) hT dX3_changesTo_6 rfl qm_25 (by decide) rfl ha0 (by decide) rfl (Nat.le_of_ble_eq_true rfl) rfl ⟨rfl, rfl⟩ ⟨Nat.le_of_ble_eq_true rfl, Nat.le_of_ble_eq_true rfl⟩ (EvP.mono (by decide) (c_CP_creaseCount_NPiece hT hX ha0)) (fun r4 P5 g6 => mpp 9 rfl ?_)
  obtain ⟨⟨x7, rfl, g8⟩, e9⟩ := g6
  have e9 := e9.symm
  subst e9
  have wx7 := ti_full x7
  replace g8 : -1 ≤ x7.toInt ∧ x7.toInt ≤ (fv Po a0_ 1).toInt ∧ (((fv Po a0_ 0).toInt = 0 ∧ x7.toInt = (fv Po a0_ 1).toInt - 1) ∨ ((fv Po a0_ 0).toInt ≠ 0 ∧ x7.toInt = (fv Po a0_ 1).toInt)) := g8
  show MEvP _ none q_77 9 [(0, .ref a0_), (1, .int t1), (2, .int v2), (3, .int v3)] [.int x7, .int v3] _ _ _ _
  refine mp_Tb (t := 46) (j_icmp_ge dX3_changesTo_9) (by decide) (fun c10 => ?_) (fun c10 => mpp 12 rfl ?_)
  · have c10 : v3.toInt ≥ x7.toInt := ti_ge c10
    refine mp_a (a_iload_n dX3_changesTo_46 rfl) (mpp 47 rfl ?_)
    have u11 : 0 ≤ v2.toInt ∧ v2.toInt ≤ 8 ∧ v2.toInt = chF (fun j : Nat => fv Po (a0_ + 2) j) t1 (nC (fv Po a0_ 0).toInt (fv Po a0_ 1).toInt) := ⟨by omega, by omega, i_3.trans (congrArg (chF _ _) (by unfold nC; split <;> omega))⟩
    exact mp_iret ⟨⟨_, rfl, u11⟩, rfl⟩ dX3_changesTo_47 (Or.inl rfl)
  · have c10 : v3.toInt < x7.toInt := ti_ge_n c10
    refine mp_a (a_aload_n dX3_changesTo_12 rfl) (mpp 13 rfl ?_)
    refine mt_getE (i := 38) (k := 4) hT dX3_changesTo_13 rfl ha0 (by decide) rfl (by decide) rfl (hX.1 a0_ (Or.inr ha0)).2 (fun q12 => mpp 16 rfl ?_)
    refine mp_a (a_iload_n dX3_changesTo_16 rfl) (mpp 17 rfl ?_)
    refine mp_calls (i := 39) (q' := q_12) (As := [.ref (a0_ + 2), .int v3]) (rest := []) dX3_changesTo_17 rfl qm_12 (by decide) rfl (Nat.le_of_ble_eq_true rfl) rfl ⟨rfl, rfl⟩ ⟨Nat.le_of_ble_eq_true rfl, Nat.le_of_ble_eq_true rfl⟩ (EvP.mono (by decide) (c_F_at_creases hT hX q12)) (fun r13 P14 g15 => mpp 20 rfl ?_)
    obtain ⟨⟨x16, rfl, g17⟩, e18⟩ := g15
    have e18 := e18.symm
    subst e18
    have wx16 := ti_full x16
    replace g17 : (0 ≤ v3.toInt ∧ v3.toInt ≤ 7 ∧ x16.toInt = (fv Po (a0_ + 2) v3.toInt.toNat).toInt) ∨ ((v3.toInt < 0 ∨ 8 ≤ v3.toInt) ∧ x16.toInt = 0) := g17
    try replace g17 : x16.toInt = (fv Po (a0_ + 2) v3.toInt.toNat).toInt := (g17.resolve_right (by omega)).2.2
    show MEvP _ none q_77 20 [(0, .ref a0_), (1, .int t1), (2, .int v2), (3, .int v3)] [.int x16] _ _ _ _
    refine mp_a (a_istore (L' := [(4, .int x16), (0, .ref a0_), (1, .int t1), (2, .int v2), (3, .int v3)]) dX3_changesTo_20 (by decide) rfl) (mpp 22 rfl ?_)
    refine mp_a (a_iload dX3_changesTo_22 rfl) (mpp 24 rfl ?_)
    refine mp_Tb (t := 40) (j_if_eq dX3_changesTo_24) (by decide) (fun c19 => ?_) (fun c19 => mpp 27 rfl ?_)
    · have c19 : x16.toInt = 0 := ti_eq c19
      obtain ⟨z20, h21⟩ := ti_ex (v3 + 1 : Int32)
      have wz20 := ti_full z20
      refine mp_a (a_iinc (v := z20) (L' := [(3, .int z20), (4, .int x16), (0, .ref a0_), (1, .int t1), (2, .int v2)]) dX3_changesTo_40 (by decide) rfl h21 rfl) (mpp 43 rfl ?_)
      try have e22 : z20.toInt = v3.toInt + 1 := ti_addz h21 rfl rfl (by omega) (by omega)
      refine mp_a (a_goto (t := 4) dX3_changesTo_43 (by decide)) ?_
      refine MEvP.less (L := [(0, .ref a0_), (1, .int t1), (2, .int v2), (3, .int z20)]) rfl rfl ⟨rfl, rfl, rfl, rfl, trivial⟩ ?_
      have i23 : 0 ≤ v2.toInt := by omega
      have i24 : v2.toInt ≤ z20.toInt := by omega
      have i25 : z20.toInt ≤ 8 := by omega
      have i26 : v2.toInt = chF (fun j : Nat => fv Po (a0_ + 2) j) t1 z20.toInt.toNat := chF.no i_3 (by omega) (Or.inl (by show (fv Po (a0_ + 2) v3.toInt.toNat).toInt = 0; omega)) rfl
      have i27 : ((fv Po a0_ 0).toInt = 0 ∧ (z20.toInt ≤ (fv Po a0_ 1).toInt - 1 ∨ z20.toInt = 0)) ∨ ((fv Po a0_ 0).toInt ≠ 0 ∧ z20.toInt ≤ (fv Po a0_ 1).toInt) := by omega
      have i28 : 0 ≤ z20.toInt := by omega
      exact ih _ (by omega) _ _ i23 i24 i25 i26 i27 i28 rfl
    · have c19 : x16.toInt ≠ 0 := ti_eq_n c19
      refine mp_a (a_iload dX3_changesTo_27 rfl) (mpp 29 rfl ?_)
      refine mp_a (a_iload_n dX3_changesTo_29 rfl) (mpp 30 rfl ?_)
      refine mp_a (a_iload_n dX3_changesTo_30 rfl) (mpp 31 rfl ?_)
      refine mp_calls (i := 94) (q' := q_78) (As := [.int t1, .int v3]) (rest := [.int x16]) dX3_changesTo_31 rfl qm_78 (by decide) rfl (Nat.le_of_ble_eq_true rfl) rfl ⟨rfl, rfl⟩ ⟨Nat.le_of_ble_eq_true rfl, Nat.le_of_ble_eq_true rfl⟩ (EvP.mono (by decide) (c_CR_kindIn hT hX )) (fun r29 P30 g31 => mpp 34 rfl ?_)
      obtain ⟨⟨x32, rfl, g33⟩, e34⟩ := g31
      have e34 := e34.symm
      subst e34
      have wx32 := ti_full x32
      replace g33 : x32.toInt = kB t1 v3 ∧ 1 ≤ x32.toInt ∧ x32.toInt ≤ 2 := g33
      show MEvP _ none q_77 34 [(4, .int x16), (0, .ref a0_), (1, .int t1), (2, .int v2), (3, .int v3)] [.int x32, .int x16] _ _ _ _
      refine mp_Tb (t := 40) (j_icmp_eq dX3_changesTo_34) (by decide) (fun c35 => ?_) (fun c35 => mpp 37 rfl ?_)
      · have c35 : x16.toInt = x32.toInt := ti_eq c35
        obtain ⟨z36, h37⟩ := ti_ex (v3 + 1 : Int32)
        have wz36 := ti_full z36
        refine mp_a (a_iinc (v := z36) (L' := [(3, .int z36), (4, .int x16), (0, .ref a0_), (1, .int t1), (2, .int v2)]) dX3_changesTo_40 (by decide) rfl h37 rfl) (mpp 43 rfl ?_)
        try have e38 : z36.toInt = v3.toInt + 1 := ti_addz h37 rfl rfl (by omega) (by omega)
        refine mp_a (a_goto (t := 4) dX3_changesTo_43 (by decide)) ?_
        refine MEvP.less (L := [(0, .ref a0_), (1, .int t1), (2, .int v2), (3, .int z36)]) rfl rfl ⟨rfl, rfl, rfl, rfl, trivial⟩ ?_
        have i39 : 0 ≤ v2.toInt := by omega
        have i40 : v2.toInt ≤ z36.toInt := by omega
        have i41 : z36.toInt ≤ 8 := by omega
        have i42 : v2.toInt = chF (fun j : Nat => fv Po (a0_ + 2) j) t1 z36.toInt.toNat := chF.no i_3 (by omega) (Or.inr (by show (fv Po (a0_ + 2) v3.toInt.toNat).toInt = kN t1 v3.toInt.toNat; rw [kN_of (by omega)]; omega)) rfl
        have i43 : ((fv Po a0_ 0).toInt = 0 ∧ (z36.toInt ≤ (fv Po a0_ 1).toInt - 1 ∨ z36.toInt = 0)) ∨ ((fv Po a0_ 0).toInt ≠ 0 ∧ z36.toInt ≤ (fv Po a0_ 1).toInt) := by omega
        have i44 : 0 ≤ z36.toInt := by omega
        exact ih _ (by omega) _ _ i39 i40 i41 i42 i43 i44 rfl
      · have c35 : x16.toInt ≠ x32.toInt := ti_eq_n c35
        obtain ⟨z45, h46⟩ := ti_ex (v2 + 1 : Int32)
        have wz45 := ti_full z45
        refine mp_a (a_iinc (v := z45) (L' := [(2, .int z45), (4, .int x16), (0, .ref a0_), (1, .int t1), (3, .int v3)]) dX3_changesTo_37 (by decide) rfl h46 rfl) (mpp 40 rfl ?_)
        try have e47 : z45.toInt = v2.toInt + 1 := ti_addz h46 rfl rfl (by omega) (by omega)
        obtain ⟨z48, h49⟩ := ti_ex (v3 + 1 : Int32)
        have wz48 := ti_full z48
        refine mp_a (a_iinc (v := z48) (L' := [(3, .int z48), (2, .int z45), (4, .int x16), (0, .ref a0_), (1, .int t1)]) dX3_changesTo_40 (by decide) rfl h49 rfl) (mpp 43 rfl ?_)
        try have e50 : z48.toInt = v3.toInt + 1 := ti_addz h49 rfl rfl (by omega) (by omega)
        refine mp_a (a_goto (t := 4) dX3_changesTo_43 (by decide)) ?_
        refine MEvP.less (L := [(0, .ref a0_), (1, .int t1), (2, .int z45), (3, .int z48)]) rfl rfl ⟨rfl, rfl, rfl, rfl, trivial⟩ ?_
        have i51 : 0 ≤ z45.toInt := by omega
        have i52 : z45.toInt ≤ z48.toInt := by omega
        have i53 : z48.toInt ≤ 8 := by omega
        have i54 : z45.toInt = chF (fun j : Nat => fv Po (a0_ + 2) j) t1 z48.toInt.toNat := chF.yes i_3 (by omega) (by show ¬ (fv Po (a0_ + 2) v3.toInt.toNat).toInt = 0; omega) (by show ¬ (fv Po (a0_ + 2) v3.toInt.toNat).toInt = kN t1 v3.toInt.toNat; rw [kN_of (by omega)]; omega) (by omega)
        have i55 : ((fv Po a0_ 0).toInt = 0 ∧ (z48.toInt ≤ (fv Po a0_ 1).toInt - 1 ∨ z48.toInt = 0)) ∨ ((fv Po a0_ 0).toInt ≠ 0 ∧ z48.toInt ≤ (fv Po a0_ 1).toInt) := by omega
        have i56 : 0 ≤ z48.toInt := by omega
        exact ih _ (by omega) _ _ i51 i52 i53 i54 i55 i56 rfl

set_option maxHeartbeats 4000000 in
theorem c_CR_changesTo_NPiece {Po : mP} {a0_ : Nat} {t1 : Int32} (hT : Typ Po) (hX : XR Po)  (ha0 : rl a0_ = 33) : EvP 2 77 [.ref a0_, .int t1] Po (fun r P' => (∃ x : Int32, r = some (.int x) ∧ (0 ≤ x.toInt ∧ x.toInt ≤ 8 ∧ x.toInt = chF (fun j : Nat => fv Po (a0_ + 2) j) t1 (nC (fv Po a0_ 0).toInt (fv Po a0_ 1).toInt))) ∧ P' = Po) := by
  refine EvP.of qm_77 (Nat.le_of_ble_eq_true rfl) rfl ?_
  show MEvP _ none q_77 0 [(0, .ref a0_), (1, .int t1)] [] _ 0 0 _
  have w1 := np_ar ha0
  have w_t1 := ti_full t1
  have g2 := ti_full (fv Po a0_ 0)
  have g3 : (0 : Int) ≤ (fv Po a0_ 1).toInt ∧ (fv Po a0_ 1).toInt ≤ 8 := Typ.rng hT ha0 (by decide) (by decide) rfl
  refine mp_a (a_iconst (v := 0) dX3_changesTo_0 rfl) (mpp 1 rfl ?_)
  refine mp_a (a_istore_n (L' := [(2, .int 0), (0, .ref a0_), (1, .int t1)]) dX3_changesTo_1 (by decide) rfl) (mpp 2 rfl ?_)
  refine mp_a (a_iconst (v := 0) dX3_changesTo_2 rfl) (mpp 3 rfl ?_)
  refine mp_a (a_istore_n (L' := [(3, .int 0), (2, .int 0), (0, .ref a0_), (1, .int t1)]) dX3_changesTo_3 (by decide) rfl) (mpp 4 rfl ?_)
  refine MEvP.less (L := [(0, .ref a0_), (1, .int t1), (2, .int 0), (3, .int 0)]) rfl rfl ⟨rfl, rfl, rfl, rfl, trivial⟩ ?_
  have i4 : 0 ≤ (0 : Int) := by omega
  have i5 : (0 : Int) ≤ (0 : Int) := by omega
  have i6 : (0 : Int) ≤ 8 := by omega
  have i7 : (0 : Int) = chF (fun j : Nat => fv Po (a0_ + 2) j) t1 (0 : Int).toNat := rfl
  have i8 : ((fv Po a0_ 0).toInt = 0 ∧ ((0 : Int) ≤ (fv Po a0_ 1).toInt - 1 ∨ (0 : Int) = 0)) ∨ ((fv Po a0_ 0).toInt ≠ 0 ∧ (0 : Int) ≤ (fv Po a0_ 1).toInt) := by omega
  have i9 : 0 ≤ (0 : Int) := by omega
  exact c_CR_changesTo_NPiece_l4 hT hX  ha0 _ _ _ i4 i5 i6 i7 i8 i9 rfl

set_option maxHeartbeats 4000000 in
theorem c_CR_foldsWith_Reducer_NPiece_l7 {Po : mP} {a1_ : Nat} {t2 : Int32} (hTo : Typ Po) (hX : XR Po) (hp0 : a1_ ≤ 288 ∨ 298 ≤ a1_) (ha1 : rl a1_ = 33) : ∀ (n : Nat) (v3 : Int32), ∀ (P : mP), Typ P → KW [640, 641, 704, 768] Po P → (fv P 291 0 = fv Po a1_ 0 ∧ fv P 291 1 = fv Po a1_ 1) → (∀ j : Nat, j < 8 → fv P 292 j = fv Po (a1_ + 1) j) → (KSET P (fv Po a1_ 0).toInt t2 v3.toInt.toNat) → (KI 291 294 Po P) → ((fv P a1_ 0).toInt = (fv Po a1_ 0).toInt ∧ (fv P a1_ 1).toInt = (fv Po a1_ 1).toInt ∧ (fv P 291 0).toInt = (fv Po a1_ 0).toInt) → (((fv Po a1_ 0).toInt = 0 ∧ (v3.toInt ≤ (fv Po a1_ 1).toInt - 1 ∨ v3.toInt = 0)) ∨ ((fv Po a1_ 0).toInt ≠ 0 ∧ v3.toInt ≤ (fv Po a1_ 1).toInt)) → ((fv Po a1_ 1).toInt ≤ 8) → (0 ≤ v3.toInt) → (2147483647 - v3.toInt).toNat = n → MEvP 3 none q_79 7 [(0, .ref 291), (1, .ref a1_), (2, .int t2), (3, .int v3)] [] P 0 0 (fun r P' => (∃ x : Int32, r = some (.int x) ∧ (0 ≤ x.toInt ∧ x.toInt ≤ 1 ∧ ((x.toInt = 1 ∧ FWf cM eM (fv Po a1_ 0).toInt (fv Po a1_ 1).toInt (fun j : Nat => fv Po (a1_ + 1) j) t2) ∨ (x.toInt = 0 ∧ ¬ FWf cM eM (fv Po a1_ 0).toInt (fv Po a1_ 1).toInt (fun j : Nat => fv Po (a1_ + 1) j) t2)))) ∧ Typ P' ∧ KW [640, 641, 704, 768] Po P' ∧ KI 291 294 Po P') := by
  intro n
  induction n using Nat.strongRecOn with | _ n ih => ?_
  intro v3 P hT hK i_0 i_1 i_2 i_3 i_4 i_5 i_6 i_7 hm
  have w1 := np_ar ha1
  have w_t2 := ti_full t2
  have w_v3 := ti_full v3
  have e2 : (fv P a1_ 0).toInt = (fv Po a1_ 0).toInt := congrArg Int32.toInt (KW.at hK 0 ha1 rfl)
  have g3 := ti_full (fv P a1_ 0)
  have e4 : (fv P a1_ 1).toInt = (fv Po a1_ 1).toInt := congrArg Int32.toInt (KW.at hK 1 ha1 rfl)
  have g5 : (0 : Int) ≤ (fv P a1_ 1).toInt ∧ (fv P a1_ 1).toInt ≤ 8 := Typ.rng hT ha1 (by decide) (by decide) rfl
  have g6 := ti_full (fv P 291 0)
  have g7 := ti_full (fv P 291 0)
  refine mp_a (a_iload_n dX3_foldsWith_7 rfl) (mpp 8 rfl ?_)
  refine mp_a (a_aload_n dX3_foldsWith_8 rfl) (mpp 9 rfl ?_)
  refine mt_callv (i := 34) (q' := q_25) (As := []) (rest := [.int v3]) hT dX3_foldsWith_9 rfl qm_25 (by decide) rfl ha1 (by decide) rfl (Nat.le_of_ble_eq_true rfl) rfl ⟨rfl, rfl⟩ ⟨Nat.le_of_ble_eq_true rfl, Nat.le_of_ble_eq_true rfl⟩ (EvP.mono (by decide) (c_CP_creaseCount_NPiece hT (KW.xr hK hX) ha1)) (fun r8 P9 g10 => mpp 12 rfl ?_)
  obtain ⟨⟨x11, rfl, g12⟩, e13⟩ := g10
  have e13 := e13.symm
  subst e13
  have wx11 := ti_full x11
  replace g12 : -1 ≤ x11.toInt ∧ x11.toInt ≤ (fv P a1_ 1).toInt ∧ (((fv P a1_ 0).toInt = 0 ∧ x11.toInt = (fv P a1_ 1).toInt - 1) ∨ ((fv P a1_ 0).toInt ≠ 0 ∧ x11.toInt = (fv P a1_ 1).toInt)) := g12
  show MEvP _ none q_79 12 [(0, .ref 291), (1, .ref a1_), (2, .int t2), (3, .int v3)] [.int x11, .int v3] _ _ _ _
  refine mp_Tb (t := 31) (j_icmp_ge dX3_foldsWith_12) (by decide) (fun c14 => ?_) (fun c14 => mpp 15 rfl ?_)
  · have c14 : v3.toInt ≥ x11.toInt := ti_ge c14
    refine mp_a (a_aload_n dX3_foldsWith_31 rfl) (mpp 32 rfl ?_)
    have g15 : (0 : Int) ≤ (fv P 291 1).toInt ∧ (fv P 291 1).toInt ≤ 8 := Typ.rng hT rl_291 (by decide) (by decide) rfl
    have p16 : (fv P 291 1).toInt ≤ 8 := by omega
    refine mt_callv (i := 74) (q' := q_51) (As := []) (rest := []) hT dX3_foldsWith_32 rfl qm_51 (by decide) rfl rl_291 (by decide) rfl (Nat.le_of_ble_eq_true rfl) rfl ⟨rfl, rfl⟩ ⟨Nat.le_of_ble_eq_true rfl, Nat.le_of_ble_eq_true rfl⟩ (EvP.mono (by decide) (c_CR_reduce_Reducer hT (KW.xr hK hX) p16 )) (fun r17 P18 g19 => mpp 35 rfl ?_)
    obtain ⟨⟨x20, rfl, g21⟩, hT22, k23, R24⟩ := g19
    have k25 : KW [640, 641, 704, 768] Po P18 := KW.trans hK k23 rfl
    have wx20 := ti_full x20
    replace g21 : 0 ≤ x20.toInt ∧ RD cC (rC P) x20.toInt.toNat (rC P18) := g21
    show MEvP _ none q_79 35 [(0, .ref 291), (1, .ref a1_), (2, .int t2), (3, .int v3)] [.int x20] _ _ _ _
    refine mp_t (s_pop dX3_foldsWith_35 rfl) (mpp 36 rfl ?_)
    refine mp_a (a_aload_n dX3_foldsWith_36 rfl) (mpp 37 rfl ?_)
    refine mt_callv (i := 77) (q' := q_55) (As := []) (rest := []) hT22 dX3_foldsWith_37 rfl qm_55 (by decide) rfl rl_291 (by decide) rfl (Nat.le_of_ble_eq_true rfl) rfl ⟨rfl, rfl⟩ ⟨Nat.le_of_ble_eq_true rfl, Nat.le_of_ble_eq_true rfl⟩ (EvP.mono (by decide) (c_CR_isReduced_Reducer hT22 (KW.xr k25 hX) )) (fun r27 P28 g29 => mpp 40 rfl ?_)
    obtain ⟨⟨x30, rfl, g31⟩, e32⟩ := g29
    have e32 := e32.symm
    subst e32
    have wx30 := ti_full x30
    replace g31 : 0 ≤ x30.toInt ∧ x30.toInt ≤ 1 ∧ ((x30.toInt = 1 ∧ isRf eC (rC P18)) ∨ (x30.toInt = 0 ∧ ¬ isRf eC (rC P18))) := g31
    show MEvP _ none q_79 40 [(0, .ref 291), (1, .ref a1_), (2, .int t2), (3, .int v3)] [.int x30] _ _ _ _
    have w34_n : v3.toInt.toNat = nC (fv Po a1_ 0).toInt (fv Po a1_ 1).toInt := by unfold nC; split <;> omega
    have w34_ := g21.2
    rw [rC_with (congrArg Int32.toInt i_0.1) (congrArg Int32.toInt i_0.2) i_1 (w34_n ▸ i_2) (by omega)] at w34_
    have u33 : 0 ≤ x30.toInt ∧ x30.toInt ≤ 1 ∧ ((x30.toInt = 1 ∧ FWf cM eM (fv Po a1_ 0).toInt (fv Po a1_ 1).toInt (fun j : Nat => fv Po (a1_ + 1) j) t2) ∨ (x30.toInt = 0 ∧ ¬ FWf cM eM (fv Po a1_ 0).toInt (fv Po a1_ 1).toInt (fun j : Nat => fv Po (a1_ + 1) j) t2)) := ⟨by omega, by omega, FWf.ofC w34_ g31.2.2⟩
    have u35 : KI 291 294 Po P18 := fun x j hx => by rw [R24 x j (by omega)]; exact i_3 x j hx
    exact mp_iret ⟨⟨_, rfl, u33⟩, hT22, k25, u35⟩ dX3_foldsWith_40 (Or.inr ⟨rfl, ti_01 (by omega)⟩)
  · have c14 : v3.toInt < x11.toInt := ti_ge_n c14
    refine mp_a (a_aload_n dX3_foldsWith_15 rfl) (mpp 16 rfl ?_)
    refine mp_a (a_iload_n dX3_foldsWith_16 rfl) (mpp 17 rfl ?_)
    refine mp_a (a_iload_n dX3_foldsWith_17 rfl) (mpp 18 rfl ?_)
    refine mp_a (a_iload_n dX3_foldsWith_18 rfl) (mpp 19 rfl ?_)
    refine mp_calls (i := 94) (q' := q_78) (As := [.int t2, .int v3]) (rest := [.int v3, .ref 291]) dX3_foldsWith_19 rfl qm_78 (by decide) rfl (Nat.le_of_ble_eq_true rfl) rfl ⟨rfl, rfl⟩ ⟨Nat.le_of_ble_eq_true rfl, Nat.le_of_ble_eq_true rfl⟩ (EvP.mono (by decide) (c_CR_kindIn hT (KW.xr hK hX) )) (fun r36 P37 g38 => mpp 22 rfl ?_)
    obtain ⟨⟨x39, rfl, g40⟩, e41⟩ := g38
    have e41 := e41.symm
    subst e41
    have wx39 := ti_full x39
    replace g40 : x39.toInt = kB t2 v3 ∧ 1 ≤ x39.toInt ∧ x39.toInt ≤ 2 := g40
    show MEvP _ none q_79 22 [(0, .ref 291), (1, .ref a1_), (2, .int t2), (3, .int v3)] [.int x39, .int v3, .ref 291] _ _ _ _
    have p42 : 0 ≤ v3.toInt := by omega
    have p43 : v3.toInt ≤ 7 := by omega
    refine mt_callv (i := 43) (q' := q_46) (As := [.int v3, .int x39]) (rest := []) hT dX3_foldsWith_22 rfl qm_46 (by decide) rfl rl_291 (by decide) rfl (Nat.le_of_ble_eq_true rfl) rfl ⟨rfl, rfl⟩ ⟨Nat.le_of_ble_eq_true rfl, Nat.le_of_ble_eq_true rfl⟩ (EvP.mono (by decide) (c_CR_putCrease_Reducer hT (KW.xr hK hX) p42 p43 )) (fun r44 P45 g46 => mpp 25 rfl ?_)
    obtain ⟨⟨rfl, g48⟩, hT49, k50, R51⟩ := g46
    have k52 : KW [640, 641, 704, 768] Po P45 := KW.trans hK k50 rfl
    show MEvP _ none q_79 25 [(0, .ref 291), (1, .ref a1_), (2, .int t2), (3, .int v3)] [] _ _ _ _
    obtain ⟨z54, h55⟩ := ti_ex (v3 + 1 : Int32)
    have wz54 := ti_full z54
    refine mp_a (a_iinc (v := z54) (L' := [(3, .int z54), (0, .ref 291), (1, .ref a1_), (2, .int t2)]) dX3_foldsWith_25 (by decide) rfl h55 rfl) (mpp 28 rfl ?_)
    try have e56 : z54.toInt = v3.toInt + 1 := ti_addz h55 rfl rfl (by omega) (by omega)
    refine mp_a (a_goto (t := 7) dX3_foldsWith_28 (by decide)) ?_
    refine MEvP.less (L := [(0, .ref 291), (1, .ref a1_), (2, .int t2), (3, .int z54)]) rfl rfl ⟨rfl, rfl, rfl, rfl, trivial⟩ ?_
    have i57 : fv P45 291 0 = fv Po a1_ 0 ∧ fv P45 291 1 = fv Po a1_ 1 := ⟨by rw [R51.2.1 291 0 (by omega)]; exact i_0.1, by rw [R51.2.1 291 1 (by omega)]; exact i_0.2⟩
    have i58 : ∀ j : Nat, j < 8 → fv P45 292 j = fv Po (a1_ + 1) j := fun j hj => by rw [R51.2.1 292 j (by omega)]; exact i_1 j hj
    have i59 : KSET P45 (fv Po a1_ 0).toInt t2 z54.toInt.toNat := KSET.step i_2 (by omega) (by omega) (show v3.toInt = (v3.toInt.toNat : Int) from by omega) (by rw [kN_of (by omega)]; omega) (by omega) R51.1 R51.2.1
    have i60 : KI 291 294 Po P45 := fun x j hx => by rw [R51.2.1 x j (by omega), i_3 x j (by omega)]
    have e61 : (fv P45 a1_ 0).toInt = (fv P a1_ 0).toInt := congrArg Int32.toInt (KW.at k50 0 ha1 rfl)
    have e62 : (fv P45 a1_ 1).toInt = (fv P a1_ 1).toInt := congrArg Int32.toInt (KW.at k50 1 ha1 rfl)
    have e63 : (fv P45 291 0).toInt = (fv P 291 0).toInt := congrArg Int32.toInt (KW.at k50 0 rl_291 rfl)
    have i64 : (fv P45 a1_ 0).toInt = (fv Po a1_ 0).toInt ∧ (fv P45 a1_ 1).toInt = (fv Po a1_ 1).toInt ∧ (fv P45 291 0).toInt = (fv Po a1_ 0).toInt := ⟨by rw [R51.2.1 a1_ 0 (by omega)]; exact i_4.1, by rw [R51.2.1 a1_ 1 (by omega)]; exact i_4.2.1, by rw [R51.2.1 291 0 (by omega)]; exact i_4.2.2⟩
    have i65 : ((fv Po a1_ 0).toInt = 0 ∧ (z54.toInt ≤ (fv Po a1_ 1).toInt - 1 ∨ z54.toInt = 0)) ∨ ((fv Po a1_ 0).toInt ≠ 0 ∧ z54.toInt ≤ (fv Po a1_ 1).toInt) := by omega
    have i66 : (fv Po a1_ 1).toInt ≤ 8 := by omega
    have i67 : 0 ≤ z54.toInt := by omega
    exact ih _ (by omega) _ P45 hT49 k52 i57 i58 i59 i60 i64 i65 i66 i67 rfl

set_option maxHeartbeats 4000000 in
theorem c_CR_foldsWith_Reducer_NPiece {Po : mP} {a1_ : Nat} {t2 : Int32} (hT : Typ Po) (hX : XR Po)  (hp0 : a1_ ≤ 288 ∨ 298 ≤ a1_) (ha1 : rl a1_ = 33) : EvP 4 79 [.ref 291, .ref a1_, .int t2] Po (fun r P' => (∃ x : Int32, r = some (.int x) ∧ (0 ≤ x.toInt ∧ x.toInt ≤ 1 ∧ ((x.toInt = 1 ∧ FWf cM eM (fv Po a1_ 0).toInt (fv Po a1_ 1).toInt (fun j : Nat => fv Po (a1_ + 1) j) t2) ∨ (x.toInt = 0 ∧ ¬ FWf cM eM (fv Po a1_ 0).toInt (fv Po a1_ 1).toInt (fun j : Nat => fv Po (a1_ + 1) j) t2)))) ∧ Typ P' ∧ KW [640, 641, 704, 768] Po P' ∧ KI 291 294 Po P') := by
  refine EvP.of qm_79 (Nat.le_of_ble_eq_true rfl) rfl ?_
  show MEvP _ none q_79 0 [(0, .ref 291), (1, .ref a1_), (2, .int t2)] [] _ 0 0 _
  have w1 := np_ar ha1
  have w_t2 := ti_full t2
  have g2 := ti_full (fv Po a1_ 0)
  have g3 : (0 : Int) ≤ (fv Po a1_ 1).toInt ∧ (fv Po a1_ 1).toInt ≤ 8 := Typ.rng hT ha1 (by decide) (by decide) rfl
  refine mp_a (a_aload_n dX3_foldsWith_0 rfl) (mpp 1 rfl ?_)
  refine mp_a (a_aload_n dX3_foldsWith_1 rfl) (mpp 2 rfl ?_)
  have p4 : a1_ ≤ 288 ∨ 298 ≤ a1_ := by omega
  refine mt_callv (i := 55) (q' := q_45) (As := [.ref a1_]) (rest := []) hT dX3_foldsWith_2 rfl qm_45 (by decide) rfl rl_291 (by decide) rfl (Nat.le_of_ble_eq_true rfl) rfl ⟨rfl, rfl⟩ ⟨Nat.le_of_ble_eq_true rfl, Nat.le_of_ble_eq_true rfl⟩ (EvP.mono (by decide) (c_CR_load_Reducer_NPiece hT hX p4 ha1)) (fun r5 P6 g7 => mpp 5 rfl ?_)
  obtain ⟨⟨rfl, g9⟩, hT10, k11, R12⟩ := g7
  have k13 : KW [640, 641, 704, 768] Po P6 := KW.trans KW.refl k11 rfl
  show MEvP _ none q_79 5 [(0, .ref 291), (1, .ref a1_), (2, .int t2)] [] _ _ _ _
  refine mp_a (a_iconst (v := 0) dX3_foldsWith_5 rfl) (mpp 6 rfl ?_)
  refine mp_a (a_istore_n (L' := [(3, .int 0), (0, .ref 291), (1, .ref a1_), (2, .int t2)]) dX3_foldsWith_6 (by decide) rfl) (mpp 7 rfl ?_)
  refine MEvP.less (L := [(0, .ref 291), (1, .ref a1_), (2, .int t2), (3, .int 0)]) rfl rfl ⟨rfl, rfl, rfl, rfl, trivial⟩ ?_
  have i15 : fv P6 291 0 = fv Po a1_ 0 ∧ fv P6 291 1 = fv Po a1_ 1 := ⟨R12.1, R12.2.1⟩
  have i16 : ∀ j : Nat, j < 8 → fv P6 292 j = fv Po (a1_ + 1) j := R12.2.2.1
  have i17 : KSET P6 (fv Po a1_ 0).toInt t2 (0 : Int).toNat := fun j hj => absurd hj (Nat.not_lt_zero j)
  have i18 : KI 291 294 Po P6 := fun x j hx => by rw [R12.2.2.2.2 x j (by omega)]
  have e19 : (fv P6 a1_ 0).toInt = (fv Po a1_ 0).toInt := congrArg Int32.toInt (KW.at k11 0 ha1 rfl)
  have e20 : (fv P6 a1_ 1).toInt = (fv Po a1_ 1).toInt := congrArg Int32.toInt (KW.at k11 1 ha1 rfl)
  have g21 := ti_full (fv P6 291 0)
  have i22 : (fv P6 a1_ 0).toInt = (fv Po a1_ 0).toInt ∧ (fv P6 a1_ 1).toInt = (fv Po a1_ 1).toInt ∧ (fv P6 291 0).toInt = (fv Po a1_ 0).toInt := ⟨congrArg Int32.toInt (R12.2.2.2.2 a1_ 0 (by omega)), congrArg Int32.toInt (R12.2.2.2.2 a1_ 1 (by omega)), congrArg Int32.toInt R12.1⟩
  have i23 : ((fv Po a1_ 0).toInt = 0 ∧ ((0 : Int) ≤ (fv Po a1_ 1).toInt - 1 ∨ (0 : Int) = 0)) ∨ ((fv Po a1_ 0).toInt ≠ 0 ∧ (0 : Int) ≤ (fv Po a1_ 1).toInt) := by omega
  have i24 : (fv Po a1_ 1).toInt ≤ 8 := by omega
  have i25 : 0 ≤ (0 : Int) := by omega
  exact c_CR_foldsWith_Reducer_NPiece_l7 hT hX  hp0 ha1 _ _ P6 hT10 k13 i15 i16 i17 i18 i22 i23 i24 i25 rfl

set_option maxHeartbeats 4000000 in
theorem c_CR_countWays_Reducer_NPiece_l4 {Po : mP} {a1_ : Nat} (hTo : Typ Po) (hX : XR Po) (hp0 : a1_ ≤ 288 ∨ 298 ≤ a1_) (ha1 : rl a1_ = 33) : ∀ (n : Nat) (v2 : Int32) (v3 : Int32), ∀ (P : mP), Typ P → KW [640, 641, 704, 768] Po P → (CNr (WAYp cM eM (fv Po a1_ 0).toInt (fv Po a1_ 1).toInt (fun j : Nat => fv Po (a1_ + 1) j) (fun j : Nat => fv Po (a1_ + 2) j)) v3.toInt.toNat v2.toInt) → (v3.toInt.toNat ≤ shN (cI (fv Po a1_ 0).toInt (fv Po a1_ 1).toInt)) → (0 ≤ v2.toInt) → (v2.toInt ≤ v3.toInt) → (KI 291 294 Po P) → (0 ≤ v3.toInt) → (2147483647 - v3.toInt).toNat = n → MEvP 4 none q_76 4 [(0, .ref 291), (1, .ref a1_), (2, .int v2), (3, .int v3)] [] P 0 0 (fun r P' => (∃ x : Int32, r = some (.int x) ∧ (CNr (WAYp cM eM (fv Po a1_ 0).toInt (fv Po a1_ 1).toInt (fun j : Nat => fv Po (a1_ + 1) j) (fun j : Nat => fv Po (a1_ + 2) j)) (shN (cI (fv Po a1_ 0).toInt (fv Po a1_ 1).toInt)) x.toInt)) ∧ Typ P' ∧ KW [640, 641, 704, 768] Po P' ∧ True) := by
  intro n
  induction n using Nat.strongRecOn with | _ n ih => ?_
  intro v2 v3 P hT hK i_0 i_1 i_2 i_3 i_4 i_5 hm
  have w1 := np_ar ha1
  have w_v2 := ti_full v2
  have w_v3 := ti_full v3
  refine mp_a (a_iload_n dX3_countWays_4 rfl) (mpp 5 rfl ?_)
  refine mp_a (a_iconst (v := 1) dX3_countWays_5 rfl) (mpp 6 rfl ?_)
  refine mp_a (a_aload_n dX3_countWays_6 rfl) (mpp 7 rfl ?_)
  refine mt_callv (i := 34) (q' := q_25) (As := []) (rest := [.int 1, .int v3]) hT dX3_countWays_7 rfl qm_25 (by decide) rfl ha1 (by decide) rfl (Nat.le_of_ble_eq_true rfl) rfl ⟨rfl, rfl⟩ ⟨Nat.le_of_ble_eq_true rfl, Nat.le_of_ble_eq_true rfl⟩ (EvP.mono (by decide) (c_CP_creaseCount_NPiece hT (KW.xr hK hX) ha1)) (fun r2 P3 g4 => mpp 10 rfl ?_)
  obtain ⟨⟨x5, rfl, g6⟩, e7⟩ := g4
  have e7 := e7.symm
  subst e7
  have wx5 := ti_full x5
  replace g6 : -1 ≤ x5.toInt ∧ x5.toInt ≤ (fv P a1_ 1).toInt ∧ (((fv P a1_ 0).toInt = 0 ∧ x5.toInt = (fv P a1_ 1).toInt - 1) ∨ ((fv P a1_ 0).toInt ≠ 0 ∧ x5.toInt = (fv P a1_ 1).toInt)) := g6
  have e8 : (fv P a1_ 1).toInt = (fv Po a1_ 1).toInt := congrArg Int32.toInt (KW.at hK 1 ha1 rfl)
  have e9 : (fv P a1_ 0).toInt = (fv Po a1_ 0).toInt := congrArg Int32.toInt (KW.at hK 0 ha1 rfl)
  show MEvP _ none q_76 10 [(0, .ref 291), (1, .ref a1_), (2, .int v2), (3, .int v3)] [.int x5, .int 1, .int v3] _ _ _ _
  obtain ⟨z10, h11⟩ := ti_ex (1 <<< (x5 &&& 31) : Int32)
  have wz10 := ti_full z10
  refine mp_t (s_ishl (v := z10) dX3_countWays_10 h11) (mpp 11 rfl ?_)
  refine mp_Tb (t := 40) (j_icmp_ge dX3_countWays_11) (by decide) (fun c12 => ?_) (fun c12 => mpp 14 rfl ?_)
  · have c12 : v3.toInt ≥ z10.toInt := ti_ge c12
    refine mp_a (a_iload_n dX3_countWays_40 rfl) (mpp 41 rfl ?_)
    have w14_0 : (fv P a1_ 0).toInt = (fv Po a1_ 0).toInt := congrArg Int32.toInt (i_4 a1_ 0 (by omega))
    have w14_1 : (fv P a1_ 1).toInt = (fv Po a1_ 1).toInt := congrArg Int32.toInt (i_4 a1_ 1 (by omega))
    have w14_s : shN (cI (fv Po a1_ 0).toInt (fv Po a1_ 1).toInt) = z10.toInt.toNat := shN_of h11 (by unfold cI; split <;> omega)
    have u13 : CNr (WAYp cM eM (fv Po a1_ 0).toInt (fv Po a1_ 1).toInt (fun j : Nat => fv Po (a1_ + 1) j) (fun j : Nat => fv Po (a1_ + 2) j)) (shN (cI (fv Po a1_ 0).toInt (fv Po a1_ 1).toInt)) v2.toInt := (show v3.toInt.toNat = shN (cI (fv Po a1_ 0).toInt (fv Po a1_ 1).toInt) from by omega) ▸ i_0
    exact mp_iret ⟨⟨_, rfl, u13⟩, hT, hK, trivial⟩ dX3_countWays_41 (Or.inl rfl)
  · have c12 : v3.toInt < z10.toInt := ti_ge_n c12
    refine mp_a (a_aload_n dX3_countWays_14 rfl) (mpp 15 rfl ?_)
    refine mp_a (a_iload_n dX3_countWays_15 rfl) (mpp 16 rfl ?_)
    refine mp_calls (i := 86) (q' := q_77) (As := [.ref a1_, .int v3]) (rest := []) dX3_countWays_16 rfl qm_77 (by decide) rfl (Nat.le_of_ble_eq_true rfl) rfl ⟨rfl, rfl⟩ ⟨Nat.le_of_ble_eq_true rfl, Nat.le_of_ble_eq_true rfl⟩ (EvP.mono (by decide) (c_CR_changesTo_NPiece hT (KW.xr hK hX) ha1)) (fun r15 P16 g17 => mpp 19 rfl ?_)
    obtain ⟨⟨x18, rfl, g19⟩, e20⟩ := g17
    have e20 := e20.symm
    subst e20
    have wx18 := ti_full x18
    replace g19 : 0 ≤ x18.toInt ∧ x18.toInt ≤ 8 ∧ x18.toInt = chF (fun j : Nat => fv P (a1_ + 2) j) v3 (nC (fv P a1_ 0).toInt (fv P a1_ 1).toInt) := g19
    show MEvP _ none q_76 19 [(0, .ref 291), (1, .ref a1_), (2, .int v2), (3, .int v3)] [.int x18] _ _ _ _
    refine mp_Tb (t := 34) (j_if_ne dX3_countWays_19) (by decide) (fun c21 => ?_) (fun c21 => mpp 22 rfl ?_)
    · have c21 : x18.toInt ≠ 0 := ti_ne c21
      obtain ⟨z22, h23⟩ := ti_ex (v3 + 1 : Int32)
      have wz22 := ti_full z22
      refine mp_a (a_iinc (v := z22) (L' := [(3, .int z22), (0, .ref 291), (1, .ref a1_), (2, .int v2)]) dX3_countWays_34 (by decide) rfl h23 rfl) (mpp 37 rfl ?_)
      try have e24 : z22.toInt = v3.toInt + 1 := ti_addz h23 rfl rfl (by omega) (by omega)
      refine mp_a (a_goto (t := 4) dX3_countWays_37 (by decide)) ?_
      refine MEvP.less (L := [(0, .ref 291), (1, .ref a1_), (2, .int v2), (3, .int z22)]) rfl rfl ⟨rfl, rfl, rfl, rfl, trivial⟩ ?_
      have w26_a : ∀ j : Nat, fv P a1_ j = fv Po a1_ j := fun j => i_4 a1_ j (by omega)
      have w26_b : ∀ j : Nat, fv P (a1_ + 1) j = fv Po (a1_ + 1) j := fun j => i_4 (a1_ + 1) j (by omega)
      have w26_c : ∀ j : Nat, fv P (a1_ + 2) j = fv Po (a1_ + 2) j := fun j => i_4 (a1_ + 2) j (by omega)
      have w26_0 := g19
      simp only [w26_a, w26_b, w26_c] at w26_0
      have i25 : CNr (WAYp cM eM (fv Po a1_ 0).toInt (fv Po a1_ 1).toInt (fun j : Nat => fv Po (a1_ + 1) j) (fun j : Nat => fv Po (a1_ + 2) j)) z22.toInt.toNat v2.toInt := CNr.no i_0 (by omega) rfl (by omega) (fun q => by have q1 := q.1; omega) rfl
      have w28_0 : (fv P a1_ 0).toInt = (fv Po a1_ 0).toInt := congrArg Int32.toInt (i_4 a1_ 0 (by omega))
      have w28_1 : (fv P a1_ 1).toInt = (fv Po a1_ 1).toInt := congrArg Int32.toInt (i_4 a1_ 1 (by omega))
      have w28_s : shN (cI (fv Po a1_ 0).toInt (fv Po a1_ 1).toInt) = z10.toInt.toNat := shN_of h11 (by unfold cI; split <;> omega)
      have i27 : z22.toInt.toNat ≤ shN (cI (fv Po a1_ 0).toInt (fv Po a1_ 1).toInt) := by omega
      have i29 : 0 ≤ v2.toInt := by omega
      have i30 : v2.toInt ≤ z22.toInt := by omega
      have i31 : KI 291 294 Po P := fun x j hx => by rw [i_4 x j (by omega)]
      have i32 : 0 ≤ z22.toInt := by omega
      exact ih _ (by omega) _ _ P hT hK i25 i27 i29 i30 i31 i32 rfl
    · have c21 : x18.toInt = 0 := ti_ne_n c21
      refine mp_a (a_aload_n dX3_countWays_22 rfl) (mpp 23 rfl ?_)
      refine mp_a (a_aload_n dX3_countWays_23 rfl) (mpp 24 rfl ?_)
      refine mp_a (a_iload_n dX3_countWays_24 rfl) (mpp 25 rfl ?_)
      have p33 : a1_ ≤ 288 ∨ 298 ≤ a1_ := by omega
      refine mt_callv (i := 90) (q' := q_79) (As := [.ref a1_, .int v3]) (rest := []) hT dX3_countWays_25 rfl qm_79 (by decide) rfl rl_291 (by decide) rfl (Nat.le_of_ble_eq_true rfl) rfl ⟨rfl, rfl⟩ ⟨Nat.le_of_ble_eq_true rfl, Nat.le_of_ble_eq_true rfl⟩ (EvP.mono (by decide) (c_CR_foldsWith_Reducer_NPiece hT (KW.xr hK hX) p33 ha1)) (fun r34 P35 g36 => mpp 28 rfl ?_)
      obtain ⟨⟨x37, rfl, g38⟩, hT39, k40, R41⟩ := g36
      have k42 : KW [640, 641, 704, 768] Po P35 := KW.trans hK k40 rfl
      have wx37 := ti_full x37
      replace g38 : 0 ≤ x37.toInt ∧ x37.toInt ≤ 1 ∧ ((x37.toInt = 1 ∧ FWf cM eM (fv P a1_ 0).toInt (fv P a1_ 1).toInt (fun j : Nat => fv P (a1_ + 1) j) v3) ∨ (x37.toInt = 0 ∧ ¬ FWf cM eM (fv P a1_ 0).toInt (fv P a1_ 1).toInt (fun j : Nat => fv P (a1_ + 1) j) v3)) := g38
      show MEvP _ none q_76 28 [(0, .ref 291), (1, .ref a1_), (2, .int v2), (3, .int v3)] [.int x37] _ _ _ _
      refine mp_Tb (t := 34) (j_if_eq dX3_countWays_28) (by decide) (fun c44 => ?_) (fun c44 => mpp 31 rfl ?_)
      · have c44 : x37.toInt = 0 := ti_eq c44
        obtain ⟨z45, h46⟩ := ti_ex (v3 + 1 : Int32)
        have wz45 := ti_full z45
        refine mp_a (a_iinc (v := z45) (L' := [(3, .int z45), (0, .ref 291), (1, .ref a1_), (2, .int v2)]) dX3_countWays_34 (by decide) rfl h46 rfl) (mpp 37 rfl ?_)
        try have e47 : z45.toInt = v3.toInt + 1 := ti_addz h46 rfl rfl (by omega) (by omega)
        refine mp_a (a_goto (t := 4) dX3_countWays_37 (by decide)) ?_
        refine MEvP.less (L := [(0, .ref 291), (1, .ref a1_), (2, .int v2), (3, .int z45)]) rfl rfl ⟨rfl, rfl, rfl, rfl, trivial⟩ ?_
        have w49_a : ∀ j : Nat, fv P a1_ j = fv Po a1_ j := fun j => i_4 a1_ j (by omega)
        have w49_b : ∀ j : Nat, fv P (a1_ + 1) j = fv Po (a1_ + 1) j := fun j => i_4 (a1_ + 1) j (by omega)
        have w49_c : ∀ j : Nat, fv P (a1_ + 2) j = fv Po (a1_ + 2) j := fun j => i_4 (a1_ + 2) j (by omega)
        have w49_0 := g19
        simp only [w49_a, w49_b, w49_c] at w49_0
        have w49_1 := g38
        simp only [w49_a, w49_b, w49_c] at w49_1
        have i48 : CNr (WAYp cM eM (fv Po a1_ 0).toInt (fv Po a1_ 1).toInt (fun j : Nat => fv Po (a1_ + 1) j) (fun j : Nat => fv Po (a1_ + 2) j)) z45.toInt.toNat v2.toInt := CNr.no i_0 (by omega) rfl (by omega) (fun q => (w49_1.2.2.resolve_left (by omega)).2 q.2) rfl
        have w51_0 : (fv P a1_ 0).toInt = (fv Po a1_ 0).toInt := congrArg Int32.toInt (i_4 a1_ 0 (by omega))
        have w51_1 : (fv P a1_ 1).toInt = (fv Po a1_ 1).toInt := congrArg Int32.toInt (i_4 a1_ 1 (by omega))
        have w51_s : shN (cI (fv Po a1_ 0).toInt (fv Po a1_ 1).toInt) = z10.toInt.toNat := shN_of h11 (by unfold cI; split <;> omega)
        have i50 : z45.toInt.toNat ≤ shN (cI (fv Po a1_ 0).toInt (fv Po a1_ 1).toInt) := by omega
        have i52 : 0 ≤ v2.toInt := by omega
        have i53 : v2.toInt ≤ z45.toInt := by omega
        have i54 : KI 291 294 Po P35 := fun x j hx => by rw [R41 x j (by omega), i_4 x j (by omega)]
        have i55 : 0 ≤ z45.toInt := by omega
        exact ih _ (by omega) _ _ P35 hT39 k42 i48 i50 i52 i53 i54 i55 rfl
      · have c44 : x37.toInt ≠ 0 := ti_eq_n c44
        obtain ⟨z56, h57⟩ := ti_ex (v2 + 1 : Int32)
        have wz56 := ti_full z56
        refine mp_a (a_iinc (v := z56) (L' := [(2, .int z56), (0, .ref 291), (1, .ref a1_), (3, .int v3)]) dX3_countWays_31 (by decide) rfl h57 rfl) (mpp 34 rfl ?_)
        try have e58 : z56.toInt = v2.toInt + 1 := ti_addz h57 rfl rfl (by omega) (by omega)
        obtain ⟨z59, h60⟩ := ti_ex (v3 + 1 : Int32)
        have wz59 := ti_full z59
        refine mp_a (a_iinc (v := z59) (L' := [(3, .int z59), (2, .int z56), (0, .ref 291), (1, .ref a1_)]) dX3_countWays_34 (by decide) rfl h60 rfl) (mpp 37 rfl ?_)
        try have e61 : z59.toInt = v3.toInt + 1 := ti_addz h60 rfl rfl (by omega) (by omega)
        refine mp_a (a_goto (t := 4) dX3_countWays_37 (by decide)) ?_
        refine MEvP.less (L := [(0, .ref 291), (1, .ref a1_), (2, .int z56), (3, .int z59)]) rfl rfl ⟨rfl, rfl, rfl, rfl, trivial⟩ ?_
        have w63_a : ∀ j : Nat, fv P a1_ j = fv Po a1_ j := fun j => i_4 a1_ j (by omega)
        have w63_b : ∀ j : Nat, fv P (a1_ + 1) j = fv Po (a1_ + 1) j := fun j => i_4 (a1_ + 1) j (by omega)
        have w63_c : ∀ j : Nat, fv P (a1_ + 2) j = fv Po (a1_ + 2) j := fun j => i_4 (a1_ + 2) j (by omega)
        have w63_0 := g19
        simp only [w63_a, w63_b, w63_c] at w63_0
        have w63_1 := g38
        simp only [w63_a, w63_b, w63_c] at w63_1
        have i62 : CNr (WAYp cM eM (fv Po a1_ 0).toInt (fv Po a1_ 1).toInt (fun j : Nat => fv Po (a1_ + 1) j) (fun j : Nat => fv Po (a1_ + 2) j)) z59.toInt.toNat z56.toInt := CNr.yes i_0 (by omega) rfl (by omega) ⟨by omega, (w63_1.2.2.resolve_right (by omega)).2⟩ (by omega)
        have w65_0 : (fv P a1_ 0).toInt = (fv Po a1_ 0).toInt := congrArg Int32.toInt (i_4 a1_ 0 (by omega))
        have w65_1 : (fv P a1_ 1).toInt = (fv Po a1_ 1).toInt := congrArg Int32.toInt (i_4 a1_ 1 (by omega))
        have w65_s : shN (cI (fv Po a1_ 0).toInt (fv Po a1_ 1).toInt) = z10.toInt.toNat := shN_of h11 (by unfold cI; split <;> omega)
        have i64 : z59.toInt.toNat ≤ shN (cI (fv Po a1_ 0).toInt (fv Po a1_ 1).toInt) := by omega
        have i66 : 0 ≤ z56.toInt := by omega
        have i67 : z56.toInt ≤ z59.toInt := by omega
        have i68 : KI 291 294 Po P35 := fun x j hx => by rw [R41 x j (by omega), i_4 x j (by omega)]
        have i69 : 0 ≤ z59.toInt := by omega
        exact ih _ (by omega) _ _ P35 hT39 k42 i62 i64 i66 i67 i68 i69 rfl

set_option maxHeartbeats 4000000 in
theorem c_CR_countWays_Reducer_NPiece {Po : mP} {a1_ : Nat} (hT : Typ Po) (hX : XR Po)  (hp0 : a1_ ≤ 288 ∨ 298 ≤ a1_) (ha1 : rl a1_ = 33) : EvP 5 76 [.ref 291, .ref a1_] Po (fun r P' => (∃ x : Int32, r = some (.int x) ∧ (CNr (WAYp cM eM (fv Po a1_ 0).toInt (fv Po a1_ 1).toInt (fun j : Nat => fv Po (a1_ + 1) j) (fun j : Nat => fv Po (a1_ + 2) j)) (shN (cI (fv Po a1_ 0).toInt (fv Po a1_ 1).toInt)) x.toInt)) ∧ Typ P' ∧ KW [640, 641, 704, 768] Po P' ∧ True) := by
  refine EvP.of qm_76 (Nat.le_of_ble_eq_true rfl) rfl ?_
  show MEvP _ none q_76 0 [(0, .ref 291), (1, .ref a1_)] [] _ 0 0 _
  have w1 := np_ar ha1
  have g2 := ti_full (fv Po a1_ 0)
  have g3 : (0 : Int) ≤ (fv Po a1_ 1).toInt ∧ (fv Po a1_ 1).toInt ≤ 8 := Typ.rng hT ha1 (by decide) (by decide) rfl
  refine mp_a (a_iconst (v := 0) dX3_countWays_0 rfl) (mpp 1 rfl ?_)
  refine mp_a (a_istore_n (L' := [(2, .int 0), (0, .ref 291), (1, .ref a1_)]) dX3_countWays_1 (by decide) rfl) (mpp 2 rfl ?_)
  refine mp_a (a_iconst (v := 0) dX3_countWays_2 rfl) (mpp 3 rfl ?_)
  refine mp_a (a_istore_n (L' := [(3, .int 0), (2, .int 0), (0, .ref 291), (1, .ref a1_)]) dX3_countWays_3 (by decide) rfl) (mpp 4 rfl ?_)
  refine MEvP.less (L := [(0, .ref 291), (1, .ref a1_), (2, .int 0), (3, .int 0)]) rfl rfl ⟨rfl, rfl, rfl, rfl, trivial⟩ ?_
  have i4 : CNr (WAYp cM eM (fv Po a1_ 0).toInt (fv Po a1_ 1).toInt (fun j : Nat => fv Po (a1_ + 1) j) (fun j : Nat => fv Po (a1_ + 2) j)) (0 : Int).toNat (0 : Int) := rfl
  have i5 : (0 : Int).toNat ≤ shN (cI (fv Po a1_ 0).toInt (fv Po a1_ 1).toInt) := Nat.zero_le _
  have i6 : 0 ≤ (0 : Int) := by omega
  have i7 : (0 : Int) ≤ (0 : Int) := by omega
  have i8 : KI 291 294 Po Po := KI.refl
  have i9 : 0 ≤ (0 : Int) := by omega
  exact c_CR_countWays_Reducer_NPiece_l4 hT hX  hp0 ha1 _ _ _ Po hT KW.refl i4 i5 i6 i7 i8 i9 rfl

set_option maxHeartbeats 4000000 in
theorem c_F_ways {Po : mP} {t1 : Int32} (hT : Typ Po) (hX : XR Po)   : EvP 6 75 [.ref 0, .int t1] Po (fun r P' => (∃ x : Int32, r = some (.int x) ∧ (waysC Po x.toInt t1.toInt)) ∧ Typ P' ∧ KW [640, 641, 704, 768] Po P' ∧ True) := by
  refine EvP.of qm_75 (Nat.le_of_ble_eq_true rfl) rfl ?_
  show MEvP _ none q_75 0 [(0, .ref 0), (1, .int t1)] [] _ 0 0 _
  have w_t1 := ti_full t1
  refine mp_a (a_aload_n dX6_ways_0 rfl) (mpp 1 rfl ?_)
  refine mt_getU (i := 10) (k := 0) (A := 1) hT dX6_ways_1 rfl rl_0 (by decide) rfl (by decide) rfl un_31 (mpp 4 rfl ?_)
  refine mp_a (a_iload_n dX6_ways_4 rfl) (mpp 5 rfl ?_)
  refine mt_callv (i := 94) (q' := q_9) (As := [.int t1]) (rest := []) hT dX6_ways_5 rfl qm_9 (by decide) rfl rl_1 (by decide) rfl (Nat.le_of_ble_eq_true rfl) rfl ⟨rfl, rfl⟩ ⟨Nat.le_of_ble_eq_true rfl, Nat.le_of_ble_eq_true rfl⟩ (EvP.mono (by decide) (c_CS_pieceAt_NState hT hX )) (fun r1 P2 g3 => mpp 8 rfl ?_)
  obtain ⟨g3, e4⟩ := g3
  have e4 := e4.symm
  subst e4
  rcases g3 with ⟨rfl, q6n⟩ | ⟨b5, rfl, q6, q6r⟩
  · show MEvP _ none q_75 8 [(0, .ref 0), (1, .int t1)] [.null] _ _ _ _
    replace q6n : t1.toInt < 0 ∨ (fv Po 1 1).toInt ≤ t1.toInt ∨ 8 ≤ t1.toInt := q6n
    have g7 : (0 : Int) ≤ (fv Po 1 1).toInt ∧ (fv Po 1 1).toInt ≤ 8 := Typ.rng hT rl_1 (by decide) (by decide) rfl
    refine mp_a (a_astore_nN (L' := [(2, .null), (0, .ref 0), (1, .int t1)]) dX6_ways_8 (by decide) rfl) (mpp 9 rfl ?_)
    refine mp_a (a_aload_nN dX6_ways_9 rfl) (mpp 10 rfl ?_)
    refine mp_t (s_ifnonnullN dX6_ways_10) (mpp 13 rfl ?_)
    refine mp_a (a_sipush (v := -1001) dX6_ways_13 rfl) (mpp 16 rfl ?_)
    refine mp_a (a_goto (t := 27) dX6_ways_16 (by decide)) ?_
    have u8 : waysC Po (-1001 : Int) t1.toInt := (show ((-1001 : Int) = -1001 ∧ (t1.toInt < 0 ∨ (fv Po 1 1).toInt ≤ t1.toInt ∨ 8 ≤ t1.toInt)) ∨ ((0 ≤ t1.toInt ∧ t1.toInt + 1 ≤ (fv Po 1 1).toInt ∧ t1.toInt ≤ 7) ∧ CNr (WAYp cM eM (fv Po (rv Po 2 t1.toInt.toNat) 0).toInt (fv Po (rv Po 2 t1.toInt.toNat) 1).toInt (fun j : Nat => fv Po ((rv Po 2 t1.toInt.toNat) + 1) j) (fun j : Nat => fv Po ((rv Po 2 t1.toInt.toNat) + 2) j)) (shN (cI (fv Po (rv Po 2 t1.toInt.toNat) 0).toInt (fv Po (rv Po 2 t1.toInt.toNat) 1).toInt)) (-1001 : Int)) from by exact Or.inl (⟨by omega, by omega⟩))
    exact mp_iret ⟨⟨_, rfl, u8⟩, hT, KW.refl, trivial⟩ dX6_ways_27 (Or.inl rfl)
  · show MEvP _ none q_75 8 [(0, .ref 0), (1, .int t1)] [.ref b5] _ _ _ _
    replace q6r : 0 ≤ t1.toInt ∧ t1.toInt ≤ 7 ∧ t1.toInt + 1 ≤ (fv Po 1 1).toInt ∧ rv Po 2 t1.toInt.toNat = b5 := q6r
    have g9 : (0 : Int) ≤ (fv Po 1 1).toInt ∧ (fv Po 1 1).toInt ≤ 8 := Typ.rng hT rl_1 (by decide) (by decide) rfl
    have w10 := np_ar q6
    refine mp_a (a_astore_n (L' := [(2, .ref b5), (0, .ref 0), (1, .int t1)]) dX6_ways_8 (by decide) rfl) (mpp 9 rfl ?_)
    refine mp_a (a_aload_n dX6_ways_9 rfl) (mpp 10 rfl ?_)
    refine mp_t (s_ifnonnullR (t := 19) dX6_ways_10 (by decide)) ?_
    refine mp_a (a_aload_n dX6_ways_19 rfl) (mpp 20 rfl ?_)
    refine mt_getU (i := 39) (k := 5) (A := 291) hT dX6_ways_20 rfl rl_0 (by decide) rfl (by decide) rfl un_10 (mpp 23 rfl ?_)
    refine mp_a (a_aload_n dX6_ways_23 rfl) (mpp 24 rfl ?_)
    have p11 : b5 ≤ 288 ∨ 298 ≤ b5 := by omega
    refine mt_callv (i := 197) (q' := q_76) (As := [.ref b5]) (rest := []) hT dX6_ways_24 rfl qm_76 (by decide) rfl rl_291 (by decide) rfl (Nat.le_of_ble_eq_true rfl) rfl ⟨rfl, rfl⟩ ⟨Nat.le_of_ble_eq_true rfl, Nat.le_of_ble_eq_true rfl⟩ (EvP.mono (by decide) (c_CR_countWays_Reducer_NPiece hT hX p11 q6)) (fun r12 P13 g14 => mpp 27 rfl ?_)
    obtain ⟨⟨x15, rfl, g16⟩, hT17, k18, R19⟩ := g14
    have k20 : KW [640, 641, 704, 768] Po P13 := KW.trans KW.refl k18 rfl
    have wx15 := ti_full x15
    replace g16 : CNr (WAYp cM eM (fv Po b5 0).toInt (fv Po b5 1).toInt (fun j : Nat => fv Po (b5 + 1) j) (fun j : Nat => fv Po (b5 + 2) j)) (shN (cI (fv Po b5 0).toInt (fv Po b5 1).toInt)) x15.toInt := g16
    have g22 := ti_full (fv Po b5 0)
    have g23 : (0 : Int) ≤ (fv Po b5 1).toInt ∧ (fv Po b5 1).toInt ≤ 8 := Typ.rng hT q6 (by decide) (by decide) rfl
    show MEvP _ none q_75 27 [(2, .ref b5), (0, .ref 0), (1, .int t1)] [.int x15] _ _ _ _
    have u24 : waysC Po x15.toInt t1.toInt := (show (x15.toInt = -1001 ∧ (t1.toInt < 0 ∨ (fv Po 1 1).toInt ≤ t1.toInt ∨ 8 ≤ t1.toInt)) ∨ ((0 ≤ t1.toInt ∧ t1.toInt + 1 ≤ (fv Po 1 1).toInt ∧ t1.toInt ≤ 7) ∧ CNr (WAYp cM eM (fv Po (rv Po 2 t1.toInt.toNat) 0).toInt (fv Po (rv Po 2 t1.toInt.toNat) 1).toInt (fun j : Nat => fv Po ((rv Po 2 t1.toInt.toNat) + 1) j) (fun j : Nat => fv Po ((rv Po 2 t1.toInt.toNat) + 2) j)) (shN (cI (fv Po (rv Po 2 t1.toInt.toNat) 0).toInt (fv Po (rv Po 2 t1.toInt.toNat) 1).toInt)) x15.toInt) from by rw [q6r.2.2.2]; exact Or.inr (⟨by omega, g16⟩))
    exact mp_iret ⟨⟨_, rfl, u24⟩, hT17, k20, trivial⟩ dX6_ways_27 (Or.inl rfl)

