/-! methods on typed pools, 3 (written by a program) -/
set_option maxHeartbeats 4000000 in
theorem c_CP_takeCreases_Piece {Po : mP} {a0_ : Nat} {t1 : Int32} (hT : Typ Po) (hX : XR Po)  (hp0 : 1 ≤ (fv Po a0_ 1).toInt) (ha0 : rl a0_ = 3) : EvP 2 24 [.ref a0_, .int t1] Po (fun r P' => (∃ x : Int32, r = some (.int x) ∧ (0 ≤ x.toInt ∧ x.toInt ≤ 1 ∧ ((x.toInt = 1 ∧ okCr t1.toInt (nC (fv Po a0_ 0).toInt (fv Po a0_ 1).toInt) ∧ ∀ j : Nat, j < (nC (fv Po a0_ 0).toInt (fv Po a0_ 1).toInt) → fv P' (a0_ + 2) j = dgI t1.toInt (nC (fv Po a0_ 0).toInt (fv Po a0_ 1).toInt) j) ∨ (x.toInt = 0 ∧ ¬ okCr t1.toInt (nC (fv Po a0_ 0).toInt (fv Po a0_ 1).toInt))))) ∧ Typ P' ∧ KW [320] Po P' ∧ KI (a0_ + 2) (a0_ + 3) Po P') := by
  refine EvP.of qm_24 (Nat.le_of_ble_eq_true rfl) rfl ?_
  show MEvP _ none q_24 0 [(0, .ref a0_), (1, .int t1)] [] _ 0 0 _
  have w1 := pc_ar ha0
  have w_t1 := ti_full t1
  have g2 : (0 : Int) ≤ (fv Po a0_ 1).toInt ∧ (fv Po a0_ 1).toInt ≤ 8 := Typ.rng hT ha0 (by decide) (by decide) rfl
  have g3 := ti_full (fv Po a0_ 0)
  refine mp_a (a_iload_n dX2_takeCreases_0 rfl) (mpp 1 rfl ?_)
  refine mp_Tb (t := 8) (j_if_lt dX2_takeCreases_1) (by decide) (fun c4 => ?_) (fun c4 => mpp 4 rfl ?_)
  · have c4 : t1.toInt < 0 := ti_lt c4
    refine mp_a (a_iconst (v := 0) dX2_takeCreases_8 rfl) (mpp 9 rfl ?_)
    refine mp_a (a_istore_n (L' := [(2, .int 0), (0, .ref a0_), (1, .int t1)]) dX2_takeCreases_9 (by decide) rfl) (mpp 10 rfl ?_)
    refine mp_a (a_iload_n dX2_takeCreases_10 rfl) (mpp 11 rfl ?_)
    refine mp_a (a_istore_n (L' := [(3, .int t1), (2, .int 0), (0, .ref a0_), (1, .int t1)]) dX2_takeCreases_11 (by decide) rfl) (mpp 12 rfl ?_)
    refine mp_a (a_aload_n dX2_takeCreases_12 rfl) (mpp 13 rfl ?_)
    refine mt_callv (i := 37) (q' := q_25) (As := []) (rest := []) hT dX2_takeCreases_13 rfl qm_25 (by decide) rfl ha0 (by decide) rfl (Nat.le_of_ble_eq_true rfl) rfl ⟨rfl, rfl⟩ ⟨Nat.le_of_ble_eq_true rfl, Nat.le_of_ble_eq_true rfl⟩ (EvP.mono (by decide) (c_CP_creaseCount_Piece hT hX ha0)) (fun r5 P6 g7 => mpp 16 rfl ?_)
    obtain ⟨⟨x8, rfl, g9⟩, e10⟩ := g7
    have e10 := e10.symm
    subst e10
    have wx8 := ti_full x8
    replace g9 : -1 ≤ x8.toInt ∧ x8.toInt ≤ (fv Po a0_ 1).toInt ∧ (((fv Po a0_ 0).toInt = 0 ∧ x8.toInt = (fv Po a0_ 1).toInt - 1) ∨ ((fv Po a0_ 0).toInt ≠ 0 ∧ x8.toInt = (fv Po a0_ 1).toInt)) := g9
    show MEvP _ none q_24 16 [(3, .int t1), (2, .int 0), (0, .ref a0_), (1, .int t1)] [.int x8] _ _ _ _
    refine mp_a (a_iconst (v := 1) dX2_takeCreases_16 rfl) (mpp 17 rfl ?_)
    obtain ⟨z11, h12⟩ := ti_ex (x8 - 1 : Int32)
    have wz11 := ti_full z11
    refine mp_t (s_isub (v := z11) dX2_takeCreases_17 h12) (mpp 18 rfl ?_)
    try have e13 : z11.toInt = x8.toInt - 1 := ti_subz h12 rfl rfl (by omega) (by omega)
    refine mp_a (a_istore (L' := [(4, .int z11), (3, .int t1), (2, .int 0), (0, .ref a0_), (1, .int t1)]) dX2_takeCreases_18 (by decide) rfl) (mpp 20 rfl ?_)
    refine MEvP.less (L := [(0, .ref a0_), (1, .int t1), (2, .int 0), (3, .int t1), (4, .int z11)]) rfl rfl ⟨rfl, rfl, rfl, rfl, rfl, trivial⟩ ?_
    have i14 : ((0 : Int) = 0 ∧ ¬ okCr t1.toInt (nC (fv Po a0_ 0).toInt (fv Po a0_ 1).toInt)) ∨ ((0 : Int) = 1 ∧ 0 ≤ t1.toInt ∧ SM2 t1.toInt (nC (fv Po a0_ 0).toInt (fv Po a0_ 1).toInt) z11.toInt) := Or.inl ⟨rfl, fun h => by have := h.1; omega⟩
    have i15 : t1.toInt < 0 ∨ (t1.toInt = dvF t1.toInt ((nC (fv Po a0_ 0).toInt (fv Po a0_ 1).toInt) - 1 - z11.toInt).toNat ∧ DGR Po (a0_ + 2) t1.toInt (nC (fv Po a0_ 0).toInt (fv Po a0_ 1).toInt) z11.toInt) := Or.inr ⟨by rw [show (((nC (fv Po a0_ 0).toInt (fv Po a0_ 1).toInt) : Int) - 1 - z11.toInt).toNat = 0 from by unfold nC; split <;> omega]; rfl, DGR.start (by unfold nC; split <;> omega)⟩
    have i16 : (-1) ≤ z11.toInt := by omega
    have i17 : z11.toInt + 1 ≤ (nC (fv Po a0_ 0).toInt (fv Po a0_ 1).toInt) := by unfold nC; split <;> omega
    have i18 : KI (a0_ + 2) (a0_ + 3) Po Po := KI.refl
    have i19 : (fv Po a0_ 0).toInt = (fv Po a0_ 0).toInt ∧ (fv Po a0_ 1).toInt = (fv Po a0_ 1).toInt := by omega
    have i20 : z11.toInt ≤ 7 := by omega
    exact c_CP_takeCreases_Piece_l20 hT hX  hp0 ha0 _ _ _ _ Po hT KW.refl i14 i15 i16 i17 i18 i19 i20 rfl
  · have c4 : t1.toInt ≥ 0 := ti_lt_n c4
    refine mp_a (a_iconst (v := 1) dX2_takeCreases_4 rfl) (mpp 5 rfl ?_)
    refine mp_a (a_goto (t := 9) dX2_takeCreases_5 (by decide)) ?_
    refine mp_a (a_istore_n (L' := [(2, .int 1), (0, .ref a0_), (1, .int t1)]) dX2_takeCreases_9 (by decide) rfl) (mpp 10 rfl ?_)
    refine mp_a (a_iload_n dX2_takeCreases_10 rfl) (mpp 11 rfl ?_)
    refine mp_a (a_istore_n (L' := [(3, .int t1), (2, .int 1), (0, .ref a0_), (1, .int t1)]) dX2_takeCreases_11 (by decide) rfl) (mpp 12 rfl ?_)
    refine mp_a (a_aload_n dX2_takeCreases_12 rfl) (mpp 13 rfl ?_)
    refine mt_callv (i := 37) (q' := q_25) (As := []) (rest := []) hT dX2_takeCreases_13 rfl qm_25 (by decide) rfl ha0 (by decide) rfl (Nat.le_of_ble_eq_true rfl) rfl ⟨rfl, rfl⟩ ⟨Nat.le_of_ble_eq_true rfl, Nat.le_of_ble_eq_true rfl⟩ (EvP.mono (by decide) (c_CP_creaseCount_Piece hT hX ha0)) (fun r21 P22 g23 => mpp 16 rfl ?_)
    obtain ⟨⟨x24, rfl, g25⟩, e26⟩ := g23
    have e26 := e26.symm
    subst e26
    have wx24 := ti_full x24
    replace g25 : -1 ≤ x24.toInt ∧ x24.toInt ≤ (fv Po a0_ 1).toInt ∧ (((fv Po a0_ 0).toInt = 0 ∧ x24.toInt = (fv Po a0_ 1).toInt - 1) ∨ ((fv Po a0_ 0).toInt ≠ 0 ∧ x24.toInt = (fv Po a0_ 1).toInt)) := g25
    show MEvP _ none q_24 16 [(3, .int t1), (2, .int 1), (0, .ref a0_), (1, .int t1)] [.int x24] _ _ _ _
    refine mp_a (a_iconst (v := 1) dX2_takeCreases_16 rfl) (mpp 17 rfl ?_)
    obtain ⟨z27, h28⟩ := ti_ex (x24 - 1 : Int32)
    have wz27 := ti_full z27
    refine mp_t (s_isub (v := z27) dX2_takeCreases_17 h28) (mpp 18 rfl ?_)
    try have e29 : z27.toInt = x24.toInt - 1 := ti_subz h28 rfl rfl (by omega) (by omega)
    refine mp_a (a_istore (L' := [(4, .int z27), (3, .int t1), (2, .int 1), (0, .ref a0_), (1, .int t1)]) dX2_takeCreases_18 (by decide) rfl) (mpp 20 rfl ?_)
    refine MEvP.less (L := [(0, .ref a0_), (1, .int t1), (2, .int 1), (3, .int t1), (4, .int z27)]) rfl rfl ⟨rfl, rfl, rfl, rfl, rfl, trivial⟩ ?_
    have i30 : ((1 : Int) = 0 ∧ ¬ okCr t1.toInt (nC (fv Po a0_ 0).toInt (fv Po a0_ 1).toInt)) ∨ ((1 : Int) = 1 ∧ 0 ≤ t1.toInt ∧ SM2 t1.toInt (nC (fv Po a0_ 0).toInt (fv Po a0_ 1).toInt) z27.toInt) := Or.inr ⟨rfl, by omega, SM2.start (by unfold nC; split <;> omega)⟩
    have i31 : t1.toInt < 0 ∨ (t1.toInt = dvF t1.toInt ((nC (fv Po a0_ 0).toInt (fv Po a0_ 1).toInt) - 1 - z27.toInt).toNat ∧ DGR Po (a0_ + 2) t1.toInt (nC (fv Po a0_ 0).toInt (fv Po a0_ 1).toInt) z27.toInt) := Or.inr ⟨by rw [show (((nC (fv Po a0_ 0).toInt (fv Po a0_ 1).toInt) : Int) - 1 - z27.toInt).toNat = 0 from by unfold nC; split <;> omega]; rfl, DGR.start (by unfold nC; split <;> omega)⟩
    have i32 : (-1) ≤ z27.toInt := by omega
    have i33 : z27.toInt + 1 ≤ (nC (fv Po a0_ 0).toInt (fv Po a0_ 1).toInt) := by unfold nC; split <;> omega
    have i34 : KI (a0_ + 2) (a0_ + 3) Po Po := KI.refl
    have i35 : (fv Po a0_ 0).toInt = (fv Po a0_ 0).toInt ∧ (fv Po a0_ 1).toInt = (fv Po a0_ 1).toInt := by omega
    have i36 : z27.toInt ≤ 7 := by omega
    exact c_CP_takeCreases_Piece_l20 hT hX  hp0 ha0 _ _ _ _ Po hT KW.refl i30 i31 i32 i33 i34 i35 i36 rfl

set_option maxHeartbeats 4000000 in
theorem c_CP_copyFrom_NPiece_Piece {Po : mP} {a0_ : Nat} {a1_ : Nat} (hT : Typ Po) (hX : XR Po)  (hp0 : a0_ + 3 ≤ a1_ ∨ a1_ + 3 ≤ a0_) (ha0 : rl a0_ = 33) (ha1 : rl a1_ = 3) : EvP 2 18 [.ref a0_, .ref a1_] Po (fun r P' => (r = none ∧ (True)) ∧ Typ P' ∧ KW [256, 320, 2112, 2113, 2114] Po P' ∧ fv P' a0_ 0 = fv Po a1_ 0 ∧ fv P' a0_ 1 = fv Po a1_ 1 ∧ fv P' a0_ 2 = fv Po a1_ 2 ∧ (∀ j : Nat, j < 8 → fv P' (a0_ + 1) j = fv Po (a1_ + 1) j) ∧ (∀ j : Nat, j < 8 → fv P' (a0_ + 2) j = fv Po (a1_ + 2) j) ∧ KI a0_ (a0_ + 3) Po P') := by
  refine EvP.of qm_18 (Nat.le_of_ble_eq_true rfl) rfl ?_
  show MEvP _ none q_18 0 [(0, .ref a0_), (1, .ref a1_)] [] _ 0 0 _
  have w1 := np_ar ha0
  have w2 := pc_ar ha1
  refine mp_a (a_aload_n dX2_copyFrom_0 rfl) (mpp 1 rfl ?_)
  refine mp_a (a_aload_n dX2_copyFrom_1 rfl) (mpp 2 rfl ?_)
  have g3 := ti_full (fv Po a1_ 0)
  refine mt_getI (i := 18) (k := 0) hT dX2_copyFrom_2 rfl ha1 (by decide) rfl (by decide) rfl (fun g4 g5 => mpp 5 rfl ?_)
  refine mt_putI (i := 18) (k := 0) (x := (fv Po a1_ 0)) hT dX2_copyFrom_5 rfl ha0 (by decide) rfl (by decide) rfl (ti_full (fv Po a1_ 0)) rfl rfl (fun P6 hT7 f8 f9 f10 => mpp 8 rfl ?_)
  have k11 : KW [256, 320, 2112, 2113, 2114] Po P6 := KW.step KW.refl ha0 rfl f9 f10
  have e12 : (fv P6 a0_ 0).toInt = (fv Po a1_ 0).toInt := congrArg Int32.toInt f8
  refine mp_a (a_aload_n dX2_copyFrom_8 rfl) (mpp 9 rfl ?_)
  refine mp_a (a_aload_n dX2_copyFrom_9 rfl) (mpp 10 rfl ?_)
  have g13 : (0 : Int) ≤ (fv P6 a1_ 1).toInt ∧ (fv P6 a1_ 1).toInt ≤ 8 := Typ.rng hT7 ha1 (by decide) (by decide) rfl
  refine mt_getI (i := 26) (k := 1) hT7 dX2_copyFrom_10 rfl ha1 (by decide) rfl (by decide) rfl (fun g14 g15 => mpp 13 rfl ?_)
  refine mt_putI (i := 26) (k := 1) (x := (fv P6 a1_ 1)) hT7 dX2_copyFrom_13 rfl ha0 (by decide) rfl (by decide) rfl ⟨by omega, by omega⟩ rfl rfl (fun P16 hT17 f18 f19 f20 => mpp 16 rfl ?_)
  have k21 : KW [256, 320, 2112, 2113, 2114] Po P16 := KW.step k11 ha0 rfl f19 f20
  have e22 : (fv P16 a0_ 1).toInt = (fv P6 a1_ 1).toInt := congrArg Int32.toInt f18
  refine mp_a (a_aload_n dX2_copyFrom_16 rfl) (mpp 17 rfl ?_)
  refine mp_a (a_aload_n dX2_copyFrom_17 rfl) (mpp 18 rfl ?_)
  have g23 : (0 : Int) ≤ (fv P16 a1_ 2).toInt ∧ (fv P16 a1_ 2).toInt ≤ 1 := Typ.rng hT17 ha1 (by decide) (by decide) rfl
  refine mt_getI (i := 22) (k := 2) hT17 dX2_copyFrom_18 rfl ha1 (by decide) rfl (by decide) rfl (fun g24 g25 => mpp 21 rfl ?_)
  refine mt_putI (i := 22) (k := 2) (x := (fv P16 a1_ 2)) hT17 dX2_copyFrom_21 rfl ha0 (by decide) rfl (by decide) rfl ⟨by omega, by omega⟩ (ti_fit (by omega)) rfl (fun P26 hT27 f28 f29 f30 => mpp 24 rfl ?_)
  have k31 : KW [256, 320, 2112, 2113, 2114] Po P26 := KW.step k21 ha0 rfl f29 f30
  have e32 : (fv P26 a0_ 2).toInt = (fv P16 a1_ 2).toInt := congrArg Int32.toInt f28
  refine mp_a (a_aload_n dX2_copyFrom_24 rfl) (mpp 25 rfl ?_)
  refine mt_getE (i := 9) (k := 3) hT27 dX2_copyFrom_25 rfl ha1 (by decide) rfl (by decide) rfl ((KW.xr k31 hX).1 a1_ (Or.inl ha1)).1 (fun q33 => mpp 28 rfl ?_)
  refine mp_a (a_aload_n dX2_copyFrom_28 rfl) (mpp 29 rfl ?_)
  refine mt_getE (i := 9) (k := 3) hT27 dX2_copyFrom_29 rfl ha0 (by decide) rfl (by decide) rfl ((KW.xr k31 hX).1 a0_ (Or.inr ha0)).1 (fun q34 => mpp 32 rfl ?_)
  have p35 : ¬ (a1_ + 1) = (a0_ + 1) := by omega
  refine mp_calls (i := 44) (q' := q_19) (As := [.ref (a1_ + 1), .ref (a0_ + 1)]) (rest := []) dX2_copyFrom_32 rfl qm_19 (by decide) rfl (Nat.le_of_ble_eq_true rfl) rfl ⟨rfl, rfl⟩ ⟨Nat.le_of_ble_eq_true rfl, Nat.le_of_ble_eq_true rfl⟩ (EvP.mono (by decide) (c_F_copyRow_sizes_sizes hT27 (KW.xr k31 hX) p35 q33 q34)) (fun r36 P37 g38 => mpp 35 rfl ?_)
  obtain ⟨⟨rfl, g40⟩, hT41, k42, R43⟩ := g38
  have k44 : KW [256, 320, 2112, 2113, 2114] Po P37 := KW.trans k31 k42 rfl
  show MEvP _ none q_18 35 [(0, .ref a0_), (1, .ref a1_)] [] _ _ _ _
  refine mp_a (a_aload_n dX2_copyFrom_35 rfl) (mpp 36 rfl ?_)
  refine mt_getE (i := 15) (k := 4) hT41 dX2_copyFrom_36 rfl ha1 (by decide) rfl (by decide) rfl ((KW.xr k44 hX).1 a1_ (Or.inl ha1)).2 (fun q46 => mpp 39 rfl ?_)
  refine mp_a (a_aload_n dX2_copyFrom_39 rfl) (mpp 40 rfl ?_)
  refine mt_getE (i := 15) (k := 4) hT41 dX2_copyFrom_40 rfl ha0 (by decide) rfl (by decide) rfl ((KW.xr k44 hX).1 a0_ (Or.inr ha0)).2 (fun q47 => mpp 43 rfl ?_)
  have p48 : ¬ (a1_ + 2) = (a0_ + 2) := by omega
  refine mp_calls (i := 44) (q' := q_19) (As := [.ref (a1_ + 2), .ref (a0_ + 2)]) (rest := []) dX2_copyFrom_43 rfl qm_19 (by decide) rfl (Nat.le_of_ble_eq_true rfl) rfl ⟨rfl, rfl⟩ ⟨Nat.le_of_ble_eq_true rfl, Nat.le_of_ble_eq_true rfl⟩ (EvP.mono (by decide) (c_F_copyRow_creases_creases hT41 (KW.xr k44 hX) p48 q46 q47)) (fun r49 P50 g51 => mpp 46 rfl ?_)
  obtain ⟨⟨rfl, g53⟩, hT54, k55, R56⟩ := g51
  have k57 : KW [256, 320, 2112, 2113, 2114] Po P50 := KW.trans k44 k55 rfl
  show MEvP _ none q_18 46 [(0, .ref a0_), (1, .ref a1_)] [] _ _ _ _
  have u59 : fv P50 a0_ 0 = fv Po a1_ 0 := by rw [R56.2 a0_ 0 (by omega), R43.2 a0_ 0 (by omega), f29 a0_ 0 (by omega), f19 a0_ 0 (by omega), f8]
  have u60 : fv P50 a0_ 1 = fv Po a1_ 1 := by rw [R56.2 a0_ 1 (by omega), R43.2 a0_ 1 (by omega), f29 a0_ 1 (by omega), f18, f9 a1_ 1 (by omega)]
  have u61 : fv P50 a0_ 2 = fv Po a1_ 2 := by rw [R56.2 a0_ 2 (by omega), R43.2 a0_ 2 (by omega), f28, f19 a1_ 2 (by omega), f9 a1_ 2 (by omega)]
  have u62 : (∀ j : Nat, j < 8 → fv P50 (a0_ + 1) j = fv Po (a1_ + 1) j) := by
    intro j hj
    rw [R56.2 (a0_ + 1) j (by omega), R43.1 j (by omega), f29 (a1_ + 1) j (by omega), f19 (a1_ + 1) j (by omega), f9 (a1_ + 1) j (by omega)]
  have u63 : (∀ j : Nat, j < 8 → fv P50 (a0_ + 2) j = fv Po (a1_ + 2) j) := by
    intro j hj
    rw [R56.1 j (by omega), R43.2 (a1_ + 2) j (by omega), f29 (a1_ + 2) j (by omega), f19 (a1_ + 2) j (by omega), f9 (a1_ + 2) j (by omega)]
  have u64 : KI a0_ (a0_ + 3) Po P50 := by
    intro x j hx
    rw [R56.2 x j (by omega), R43.2 x j (by omega), f29 x j (by omega), f19 x j (by omega), f9 x j (by omega)]
  exact mp_ret ⟨⟨rfl, trivial⟩, hT54, k57, ⟨u59, u60, u61, u62, u63, u64⟩⟩ dX2_copyFrom_46 rfl

set_option maxHeartbeats 4000000 in
theorem c_CS_addCopyOf_NState_Piece {Po : mP} {a1_ : Nat} (hT : Typ Po) (hX : XR Po)  (hJ : Inj Po) (hp0 : (fv Po 1 1).toInt ≤ 7) (ha1 : rl a1_ = 3) : EvP 3 27 [.ref 1, .ref a1_] Po (fun r P' => (r = none ∧ (True)) ∧ Typ P' ∧ KW [256, 320, 1985, 2112, 2113, 2114] Po P' ∧ Inj P' ∧ (fv P' 1 1).toInt = (fv Po 1 1).toInt + 1 ∧ fv P' 1 2 = fv Po 1 2 ∧ fv P' 1 3 = fv Po 1 3 ∧ (PE P' (rv Po 2 (fv Po 1 1).toInt.toNat) Po a1_) ∧ (∀ k : Nat, k < 8 → ¬ (k : Int) = (fv Po 1 1).toInt → PE P' (rv Po 2 k) Po (rv Po 2 k)) ∧ KI 1 27 Po P') := by
  refine EvP.of qm_27 (Nat.le_of_ble_eq_true rfl) rfl ?_
  show MEvP _ none q_27 0 [(0, .ref 1), (1, .ref a1_)] [] _ 0 0 _
  have w1 := pc_ar ha1
  have g2 : (0 : Int) ≤ (fv Po 1 1).toInt ∧ (fv Po 1 1).toInt ≤ 8 := Typ.rng hT rl_1 (by decide) (by decide) rfl
  refine mp_a (a_aload_n dX5_addCopyOf_0 rfl) (mpp 1 rfl ?_)
  refine mt_getI (i := 22) (k := 1) hT dX5_addCopyOf_1 rfl rl_1 (by decide) rfl (by decide) rfl (fun g3 g4 => mpp 4 rfl ?_)
  refine mp_a (a_aload_n dX5_addCopyOf_4 rfl) (mpp 5 rfl ?_)
  refine mt_getU (i := 11) (k := 0) (A := 2) hT dX5_addCopyOf_5 rfl rl_1 (by decide) rfl (by decide) rfl un_32 (mpp 8 rfl ?_)
  refine mt_len (n := 8) hT dX5_addCopyOf_8 rl_2 (by decide) (by decide) rfl (mpp 9 rfl ?_)
  refine mp_Tb (t := 13) (j_icmp_lt dX5_addCopyOf_9) (by decide) (fun c5 => ?_) (fun c5 => mpp 12 rfl ?_)
  · have c5 : (fv Po 1 1).toInt < 8 := ti_lt c5
    refine mp_a (a_aload_n dX5_addCopyOf_13 rfl) (mpp 14 rfl ?_)
    refine mp_t (s_dup dX5_addCopyOf_14 rfl) (mpp 15 rfl ?_)
    refine mt_getI (i := 22) (k := 1) hT dX5_addCopyOf_15 rfl rl_1 (by decide) rfl (by decide) rfl (fun g6 g7 => mpp 18 rfl ?_)
    refine mp_a (a_iconst (v := 1) dX5_addCopyOf_18 rfl) (mpp 19 rfl ?_)
    obtain ⟨z8, h9⟩ := ti_ex ((fv Po 1 1) + 1 : Int32)
    have wz8 := ti_full z8
    refine mp_t (s_iadd (v := z8) dX5_addCopyOf_19 h9) (mpp 20 rfl ?_)
    try have e10 : z8.toInt = (fv Po 1 1).toInt + 1 := ti_addz h9 rfl rfl (by omega) (by omega)
    refine mt_putI (i := 22) (k := 1) (x := z8) hT dX5_addCopyOf_20 rfl rl_1 (by decide) rfl (by decide) rfl ⟨by omega, by omega⟩ rfl rfl (fun P11 hT12 f13 f14 f15 => mpp 23 rfl ?_)
    have k16 : KW [256, 320, 1985, 2112, 2113, 2114] Po P11 := KW.step KW.refl rl_1 rfl f14 f15
    have J17 := Inj.st hJ f15
    have e18 : (fv P11 1 1).toInt = z8.toInt := congrArg Int32.toInt f13
    refine mp_a (a_aload_n dX5_addCopyOf_23 rfl) (mpp 24 rfl ?_)
    refine mp_a (a_aload_n dX5_addCopyOf_24 rfl) (mpp 25 rfl ?_)
    refine mt_getI (i := 22) (k := 1) hT12 dX5_addCopyOf_25 rfl rl_1 (by decide) rfl (by decide) rfl (fun g19 g20 => mpp 28 rfl ?_)
    refine mp_a (a_iconst (v := 1) dX5_addCopyOf_28 rfl) (mpp 29 rfl ?_)
    obtain ⟨z21, h22⟩ := ti_ex ((fv P11 1 1) - 1 : Int32)
    have wz21 := ti_full z21
    refine mp_t (s_isub (v := z21) dX5_addCopyOf_29 h22) (mpp 30 rfl ?_)
    try have e23 : z21.toInt = (fv P11 1 1).toInt - 1 := ti_subz h22 rfl rfl (by omega) (by omega)
    refine mt_callv (i := 28) (q' := q_9) (As := [.int z21]) (rest := []) hT12 dX5_addCopyOf_30 rfl qm_9 (by decide) rfl rl_1 (by decide) rfl (Nat.le_of_ble_eq_true rfl) rfl ⟨rfl, rfl⟩ ⟨Nat.le_of_ble_eq_true rfl, Nat.le_of_ble_eq_true rfl⟩ (EvP.mono (by decide) (c_CS_pieceAt_NState hT12 (KW.xr k16 hX) )) (fun r24 P25 g26 => mpp 33 rfl ?_)
    obtain ⟨g26, e27⟩ := g26
    have e27 := e27.symm
    subst e27
    rcases g26 with ⟨rfl, q29n⟩ | ⟨b28, rfl, q29, q29r⟩
    · show MEvP _ none q_27 33 [(0, .ref 1), (1, .ref a1_)] [.null] _ _ _ _
      replace q29n : z21.toInt < 0 ∨ (fv P11 1 1).toInt ≤ z21.toInt ∨ 8 ≤ z21.toInt := q29n
      refine mp_a (a_astore_nN (L' := [(2, .null), (0, .ref 1), (1, .ref a1_)]) dX5_addCopyOf_33 (by decide) rfl) (mpp 34 rfl ?_)
      refine mp_a (a_aload_nN dX5_addCopyOf_34 rfl) (mpp 35 rfl ?_)
      exfalso
      omega
    · show MEvP _ none q_27 33 [(0, .ref 1), (1, .ref a1_)] [.ref b28] _ _ _ _
      replace q29r : 0 ≤ z21.toInt ∧ z21.toInt ≤ 7 ∧ z21.toInt + 1 ≤ (fv P11 1 1).toInt ∧ rv P11 2 z21.toInt.toNat = b28 := q29r
      have w30 := np_ar q29
      refine mp_a (a_astore_n (L' := [(2, .ref b28), (0, .ref 1), (1, .ref a1_)]) dX5_addCopyOf_33 (by decide) rfl) (mpp 34 rfl ?_)
      refine mp_a (a_aload_n dX5_addCopyOf_34 rfl) (mpp 35 rfl ?_)
      refine mp_t (s_ifnullR dX5_addCopyOf_35) (mpp 38 rfl ?_)
      refine mp_a (a_aload_n dX5_addCopyOf_38 rfl) (mpp 39 rfl ?_)
      refine mp_a (a_aload_n dX5_addCopyOf_39 rfl) (mpp 40 rfl ?_)
      have p31 : b28 + 3 ≤ a1_ ∨ a1_ + 3 ≤ b28 := by omega
      refine mt_callv (i := 32) (q' := q_18) (As := [.ref a1_]) (rest := []) hT12 dX5_addCopyOf_40 rfl qm_18 (by decide) rfl q29 (by decide) rfl (Nat.le_of_ble_eq_true rfl) rfl ⟨rfl, rfl⟩ ⟨Nat.le_of_ble_eq_true rfl, Nat.le_of_ble_eq_true rfl⟩ (EvP.mono (by decide) (c_CP_copyFrom_NPiece_Piece hT12 (KW.xr k16 hX) p31 q29 ha1)) (fun r32 P33 g34 => mpp 43 rfl ?_)
      obtain ⟨⟨rfl, g36⟩, hT37, k38, R39⟩ := g34
      have k40 : KW [256, 320, 1985, 2112, 2113, 2114] Po P33 := KW.trans k16 k38 rfl
      have J42 := Inj.kw J17 k38 rfl
      show MEvP _ none q_27 43 [(2, .ref b28), (0, .ref 1), (1, .ref a1_)] [] _ _ _ _
      have e44 : (fv P33 1 1).toInt = (fv P11 1 1).toInt := congrArg Int32.toInt (KW.at k38 1 rl_1 rfl)
      have u43 : (fv P33 1 1).toInt = (fv Po 1 1).toInt + 1 := by omega
      have u45 : fv P33 1 2 = fv Po 1 2 := by rw [R39.2.2.2.2.2 1 2 (by omega), f14 1 2 (by omega)]
      have u46 : fv P33 1 3 = fv Po 1 3 := by rw [R39.2.2.2.2.2 1 3 (by omega), f14 1 3 (by omega)]
      have qa : rv Po 2 (fv Po 1 1).toInt.toNat = b28 := (congrArg (rv Po 2) (show (fv Po 1 1).toInt.toNat = _ from by omega)).trans ((k16.2.2 rfl _).symm.trans q29r.2.2.2)
      have ka : KI 1 2 Po P11 := fun x j hx => f14 x j (by omega)
      have u47 : (PE P33 (rv Po 2 (fv Po 1 1).toInt.toNat) Po a1_) := by rw [qa]; exact PE.src (P := P11) ⟨R39.1, R39.2.1, R39.2.2.1, R39.2.2.2.1, R39.2.2.2.2.1⟩ ka (by omega)
      have u48 : (∀ k : Nat, k < 8 → ¬ (k : Int) = (fv Po 1 1).toInt → PE P33 (rv Po 2 k) Po (rv Po 2 k)) := fun k hk hn => (PE.keep (PE.keep (PE.refl Po _) ka (by have := (rv_np hT k hk).2.2.1; omega)) R39.2.2.2.2.2 (np_dis hJ hT hk (by omega) (fun e => hn (by omega)) qa))
      have u49 : KI 1 27 Po P33 := by
        intro x j hx
        rw [R39.2.2.2.2.2 x j (by omega), f14 x j (by omega)]
      exact mp_ret ⟨⟨rfl, trivial⟩, hT37, k40, J42, ⟨u43, u45, u46, u47, u48, u49⟩⟩ dX5_addCopyOf_43 rfl
  · have c5 : (fv Po 1 1).toInt ≥ 8 := ti_lt_n c5
    exfalso
    omega

set_option maxHeartbeats 4000000 in
theorem c_F_add {Po : mP} {t1 : Int32} {t2 : Int32} {t3 : Int32} (hT : Typ Po) (hX : XR Po)  (hJ : Inj Po)  : EvP 5 20 [.ref 0, .int t1, .int t2, .int t3] Po (fun r P' => (∃ x : Int32, r = some (.int x) ∧ (KPX Po P' ∧ addC Po P' x.toInt t1.toInt t2.toInt t3.toInt)) ∧ Typ P' ∧ KW [10, 11, 12, 65, 66, 67, 192, 193, 194, 256, 320, 385, 386, 1985, 2112, 2113, 2114] Po P' ∧ Inj P' ∧ True) := by
  refine EvP.of qm_20 (Nat.le_of_ble_eq_true rfl) rfl ?_
  show MEvP _ none q_20 0 [(0, .ref 0), (1, .int t1), (2, .int t2), (3, .int t3)] [] _ 0 0 _
  have w_t1 := ti_full t1
  have w_t2 := ti_full t2
  have w_t3 := ti_full t3
  refine mp_a (a_iload_n dX6_add_0 rfl) (mpp 1 rfl ?_)
  refine mp_Tb (t := 13) (j_if_eq dX6_add_1) (by decide) (fun c1 => ?_) (fun c1 => mpp 4 rfl ?_)
  · have c1 : t1.toInt = 0 := ti_eq c1
    refine mp_a (a_aload_n dX6_add_13 rfl) (mpp 14 rfl ?_)
    refine mt_getE (i := 53) (k := 7) hT dX6_add_14 rfl rl_0 (by decide) rfl (by decide) rfl hX.2.2.2.2.2 (fun q2 => mpp 17 rfl ?_)
    refine mp_a (a_iload_n dX6_add_17 rfl) (mpp 18 rfl ?_)
    refine mp_a (a_iload_n dX6_add_18 rfl) (mpp 19 rfl ?_)
    have p3 : t1.toInt = 0 ∨ t1.toInt = 1 := by omega
    refine mt_callv (i := 79) (q' := q_21) (As := [.int t1, .int t2]) (rest := []) hT dX6_add_19 rfl qm_21 (by decide) rfl q2 (by decide) rfl (Nat.le_of_ble_eq_true rfl) rfl ⟨rfl, rfl⟩ ⟨Nat.le_of_ble_eq_true rfl, Nat.le_of_ble_eq_true rfl⟩ (EvP.mono (by decide) (c_CP_takeSizes_Piece hT hX p3 q2)) (fun r4 P5 g6 => mpp 22 rfl ?_)
    obtain ⟨⟨x7, rfl, g8⟩, hT9, k10, R11⟩ := g6
    have k12 : KW [10, 11, 12, 65, 66, 67, 192, 193, 194, 256, 320, 385, 386, 1985, 2112, 2113, 2114] Po P5 := KW.trans KW.refl k10 rfl
    have J14 := Inj.kw hJ k10 rfl
    have wx7 := ti_full x7
    replace g8 : 0 ≤ x7.toInt ∧ x7.toInt ≤ 1 ∧ ((x7.toInt = 1 ∧ ∃ c : Nat, okSz t1.toInt t2.toInt c ∧ (fv P5 298 0).toInt = t1.toInt ∧ (fv P5 298 2).toInt = 0 ∧ (fv P5 298 1).toInt = (c : Int) ∧ ∀ j : Nat, j < c → fv P5 (298 + 1) j = dgI t2.toInt c j) ∨ (x7.toInt = 0 ∧ ∀ c : Nat, ¬ okSz t1.toInt t2.toInt c)) := g8
    show MEvP _ none q_20 22 [(0, .ref 0), (1, .int t1), (2, .int t2), (3, .int t3)] [.int x7] _ _ _ _
    refine mp_Tb (t := 36) (j_if_eq dX6_add_22) (by decide) (fun c15 => ?_) (fun c15 => mpp 25 rfl ?_)
    · have c15 : x7.toInt = 0 := ti_eq c15
      refine mp_a (a_sipush (v := -1002) dX6_add_36 rfl) (mpp 39 rfl ?_)
      have e17 : (fv P5 1 1).toInt = (fv Po 1 1).toInt := congrArg Int32.toInt (R11 1 1 (by omega))
      have e18 : (fv P5 1 2).toInt = (fv Po 1 2).toInt := congrArg Int32.toInt (R11 1 2 (by omega))
      have e19 : (fv P5 1 3).toInt = (fv Po 1 3).toInt := congrArg Int32.toInt (R11 1 3 (by omega))
      have u16 : KPX Po P5 ∧ addC Po P5 (-1002 : Int) t1.toInt t2.toInt t3.toInt := ⟨⟨by rw [R11 0 8 (by omega)], fun x j hx => by rw [R11 x j (by omega)]⟩, (show ((-1002 : Int) = -1002 ∧ (∀ c : Nat, ¬ (okSz t1.toInt t2.toInt c ∧ okCr t3.toInt (nC t1.toInt c))) ∧ NCH Po P5) ∨ ((-1002 : Int) = -1003 ∧ (∃ c : Nat, okSz t1.toInt t2.toInt c ∧ okCr t3.toInt (nC t1.toInt c)) ∧ 8 ≤ (fv Po 1 1).toInt ∧ NCH Po P5) ∨ ((fv Po 1 1).toInt ≤ 7 ∧ (-1002 : Int) = (fv Po 1 1).toInt ∧ PSH Po P5 ∧ (fv P5 1 1).toInt = (fv Po 1 1).toInt + 1 ∧ (fv P5 1 2).toInt = (fv Po 1 2).toInt ∧ (fv P5 1 3).toInt = (fv Po 1 3).toInt ∧ (∃ c : Nat, okSz t1.toInt t2.toInt c ∧ okCr t3.toInt (nC t1.toInt c) ∧ (fv P5 (rv Po 2 (fv Po 1 1).toInt.toNat) 0).toInt = t1.toInt ∧ (fv P5 (rv Po 2 (fv Po 1 1).toInt.toNat) 2).toInt = 0 ∧ (fv P5 (rv Po 2 (fv Po 1 1).toInt.toNat) 1).toInt = (c : Int) ∧ (∀ j : Nat, j < c → fv P5 ((rv Po 2 (fv Po 1 1).toInt.toNat) + 1) j = dgI t2.toInt c j) ∧ ∀ j : Nat, j < nC t1.toInt c → fv P5 ((rv Po 2 (fv Po 1 1).toInt.toNat) + 2) j = dgI t3.toInt (nC t1.toInt c) j) ∧ (∀ k : Nat, k < 8 → ¬ (k : Int) = (fv Po 1 1).toInt → PEx P5 Po (rv Po 2 k) 0) ∧ ∀ k : Nat, rv P5 2 k = rv Po 2 k) from by exact Or.inl (⟨by omega, fun c h => (g8.2.2.resolve_left (by omega)).2 c h.1, ⟨fun x j h1 h2 => by rw [R11 x j (by omega)], fun k => by rw [k10.2.2 rfl k]⟩⟩))⟩
      exact mp_iret ⟨⟨_, rfl, u16⟩, hT9, k12, J14, trivial⟩ dX6_add_39 (Or.inl rfl)
    · have c15 : x7.toInt ≠ 0 := ti_eq_n c15
      refine mp_a (a_aload_n dX6_add_25 rfl) (mpp 26 rfl ?_)
      refine mt_getE (i := 53) (k := 7) hT9 dX6_add_26 rfl rl_0 (by decide) rfl (by decide) rfl (KW.xr k12 hX).2.2.2.2.2 (fun q21 => mpp 29 rfl ?_)
      refine mp_a (a_iload_n dX6_add_29 rfl) (mpp 30 rfl ?_)
      have g22 : (0 : Int) ≤ (fv P5 298 1).toInt ∧ (fv P5 298 1).toInt ≤ 8 := Typ.rng hT9 q21 (by decide) (by decide) rfl
      have p23 : 1 ≤ (fv P5 298 1).toInt := by obtain ⟨o1, o2, o3, o4, o5, o6⟩ := (g8.2.2.resolve_right (by omega)).2; have := o2.1.2.1; omega
      refine mt_callv (i := 83) (q' := q_24) (As := [.int t3]) (rest := []) hT9 dX6_add_30 rfl qm_24 (by decide) rfl q21 (by decide) rfl (Nat.le_of_ble_eq_true rfl) rfl ⟨rfl, rfl⟩ ⟨Nat.le_of_ble_eq_true rfl, Nat.le_of_ble_eq_true rfl⟩ (EvP.mono (by decide) (c_CP_takeCreases_Piece hT9 (KW.xr k12 hX) p23 q21)) (fun r24 P25 g26 => mpp 33 rfl ?_)
      obtain ⟨⟨x27, rfl, g28⟩, hT29, k30, R31⟩ := g26
      have k32 : KW [10, 11, 12, 65, 66, 67, 192, 193, 194, 256, 320, 385, 386, 1985, 2112, 2113, 2114] Po P25 := KW.trans k12 k30 rfl
      have J34 := Inj.kw J14 k30 rfl
      have wx27 := ti_full x27
      replace g28 : 0 ≤ x27.toInt ∧ x27.toInt ≤ 1 ∧ ((x27.toInt = 1 ∧ okCr t3.toInt (nC (fv P5 298 0).toInt (fv P5 298 1).toInt) ∧ ∀ j : Nat, j < (nC (fv P5 298 0).toInt (fv P5 298 1).toInt) → fv P25 (298 + 2) j = dgI t3.toInt (nC (fv P5 298 0).toInt (fv P5 298 1).toInt) j) ∨ (x27.toInt = 0 ∧ ¬ okCr t3.toInt (nC (fv P5 298 0).toInt (fv P5 298 1).toInt))) := g28
      have g35 := ti_full (fv P5 298 0)
      show MEvP _ none q_20 33 [(0, .ref 0), (1, .int t1), (2, .int t2), (3, .int t3)] [.int x27] _ _ _ _
      refine mp_Tb (t := 40) (j_if_ne dX6_add_33) (by decide) (fun c36 => ?_) (fun c36 => mpp 36 rfl ?_)
      · have c36 : x27.toInt ≠ 0 := ti_ne c36
        refine mp_a (a_aload_n dX6_add_40 rfl) (mpp 41 rfl ?_)
        refine mt_getU (i := 10) (k := 0) (A := 1) hT29 dX6_add_41 rfl rl_0 (by decide) rfl (by decide) rfl un_31 (mpp 44 rfl ?_)
        have g37 : (0 : Int) ≤ (fv P25 1 1).toInt ∧ (fv P25 1 1).toInt ≤ 8 := Typ.rng hT29 rl_1 (by decide) (by decide) rfl
        refine mt_getI (i := 87) (k := 1) hT29 dX6_add_44 rfl rl_1 (by decide) rfl (by decide) rfl (fun g38 g39 => mpp 47 rfl ?_)
        refine mp_a (a_bipush (v := 8) dX6_add_47 rfl) (mpp 49 rfl ?_)
        refine mp_Tb (t := 60) (j_icmp_lt dX6_add_49) (by decide) (fun c40 => ?_) (fun c40 => mpp 52 rfl ?_)
        · have c40 : (fv P25 1 1).toInt < 8 := ti_lt c40
          refine mp_a (a_aload_n dX6_add_60 rfl) (mpp 61 rfl ?_)
          refine mt_getU (i := 25) (k := 3) (A := 79) hT29 dX6_add_61 rfl rl_0 (by decide) rfl (by decide) rfl un_6 (mpp 64 rfl ?_)
          refine mp_a (a_aload_n dX6_add_64 rfl) (mpp 65 rfl ?_)
          refine mt_getU (i := 10) (k := 0) (A := 1) hT29 dX6_add_65 rfl rl_0 (by decide) rfl (by decide) rfl un_31 (mpp 68 rfl ?_)
          refine mt_callv (i := 72) (q' := q_15) (As := [.ref 1]) (rest := []) hT29 dX6_add_68 rfl qm_15 (by decide) rfl rl_79 (by decide) rfl (Nat.le_of_ble_eq_true rfl) rfl ⟨rfl, rfl⟩ ⟨Nat.le_of_ble_eq_true rfl, Nat.le_of_ble_eq_true rfl⟩ (EvP.mono (by decide) (c_CH_push_History_NState hT29 (KW.xr k32 hX) J34 )) (fun r41 P42 g43 => mpp 71 rfl ?_)
          obtain ⟨⟨rfl, g45⟩, hT46, k47, J50, R48⟩ := g43
          have k49 : KW [10, 11, 12, 65, 66, 67, 192, 193, 194, 256, 320, 385, 386, 1985, 2112, 2113, 2114] Po P42 := KW.trans k32 k47 rfl
          show MEvP _ none q_20 71 [(0, .ref 0), (1, .int t1), (2, .int t2), (3, .int t3)] [] _ _ _ _
          refine mp_a (a_aload_n dX6_add_71 rfl) (mpp 72 rfl ?_)
          refine mt_getU (i := 10) (k := 0) (A := 1) hT46 dX6_add_72 rfl rl_0 (by decide) rfl (by decide) rfl un_31 (mpp 75 rfl ?_)
          refine mp_a (a_aload_n dX6_add_75 rfl) (mpp 76 rfl ?_)
          refine mt_getE (i := 53) (k := 7) hT46 dX6_add_76 rfl rl_0 (by decide) rfl (by decide) rfl (KW.xr k49 hX).2.2.2.2.2 (fun q51 => mpp 79 rfl ?_)
          have e52 : (fv P42 1 1).toInt = (fv P25 1 1).toInt := congrArg Int32.toInt (KW.at k47 1 rl_1 rfl)
          have p53 : (fv P42 1 1).toInt ≤ 7 := by omega
          refine mt_callv (i := 90) (q' := q_27) (As := [.ref 298]) (rest := []) hT46 dX6_add_79 rfl qm_27 (by decide) rfl rl_1 (by decide) rfl (Nat.le_of_ble_eq_true rfl) rfl ⟨rfl, rfl⟩ ⟨Nat.le_of_ble_eq_true rfl, Nat.le_of_ble_eq_true rfl⟩ (EvP.mono (by decide) (c_CS_addCopyOf_NState_Piece hT46 (KW.xr k49 hX) J50 p53 q51)) (fun r54 P55 g56 => mpp 82 rfl ?_)
          obtain ⟨⟨rfl, g58⟩, hT59, k60, J63, R61⟩ := g56
          have k62 : KW [10, 11, 12, 65, 66, 67, 192, 193, 194, 256, 320, 385, 386, 1985, 2112, 2113, 2114] Po P55 := KW.trans k49 k60 rfl
          show MEvP _ none q_20 82 [(0, .ref 0), (1, .int t1), (2, .int t2), (3, .int t3)] [] _ _ _ _
          refine mp_a (a_aload_n dX6_add_82 rfl) (mpp 83 rfl ?_)
          refine mt_getU (i := 10) (k := 0) (A := 1) hT59 dX6_add_83 rfl rl_0 (by decide) rfl (by decide) rfl un_31 (mpp 86 rfl ?_)
          have g64 : (0 : Int) ≤ (fv P55 1 1).toInt ∧ (fv P55 1 1).toInt ≤ 8 := Typ.rng hT59 rl_1 (by decide) (by decide) rfl
          refine mt_getI (i := 87) (k := 1) hT59 dX6_add_86 rfl rl_1 (by decide) rfl (by decide) rfl (fun g65 g66 => mpp 89 rfl ?_)
          refine mp_a (a_iconst (v := 1) dX6_add_89 rfl) (mpp 90 rfl ?_)
          obtain ⟨z67, h68⟩ := ti_ex ((fv P55 1 1) - 1 : Int32)
          have wz67 := ti_full z67
          refine mp_t (s_isub (v := z67) dX6_add_90 h68) (mpp 91 rfl ?_)
          try have e69 : z67.toInt = (fv P55 1 1).toInt - 1 := ti_subz h68 rfl rfl (by omega) (by omega)
          have e71 : (fv P5 1 1).toInt = (fv Po 1 1).toInt := congrArg Int32.toInt (R11 1 1 (by omega))
          have e72 : (fv P5 1 2).toInt = (fv Po 1 2).toInt := congrArg Int32.toInt (R11 1 2 (by omega))
          have e73 : (fv P5 1 3).toInt = (fv Po 1 3).toInt := congrArg Int32.toInt (R11 1 3 (by omega))
          have e74 : (fv P25 1 1).toInt = (fv P5 1 1).toInt := congrArg Int32.toInt (R31 1 1 (by omega))
          have e75 : (fv P25 1 2).toInt = (fv P5 1 2).toInt := congrArg Int32.toInt (R31 1 2 (by omega))
          have e76 : (fv P25 1 3).toInt = (fv P5 1 3).toInt := congrArg Int32.toInt (R31 1 3 (by omega))
          have e77 : (fv P42 1 1).toInt = (fv P25 1 1).toInt := congrArg Int32.toInt (R48.2.2.2.2.2 1 1 (by omega))
          have e78 : (fv P42 1 2).toInt = (fv P25 1 2).toInt := congrArg Int32.toInt (R48.2.2.2.2.2 1 2 (by omega))
          have e79 : (fv P42 1 3).toInt = (fv P25 1 3).toInt := congrArg Int32.toInt (R48.2.2.2.2.2 1 3 (by omega))
          have e80 : (fv P55 1 2).toInt = (fv P42 1 2).toInt := congrArg Int32.toInt (R61.2.1)
          have e81 : (fv P55 1 3).toInt = (fv P42 1 3).toInt := congrArg Int32.toInt (R61.2.2.1)
          obtain ⟨cs82_, as82_, bs82_, ds82_, es82_, fs82_⟩ := (g8.2.2.resolve_right (by omega)).2
          have hs82_ := g28.2.2
          rw [bs82_, es82_] at hs82_
          have v83_ : ∀ k : Nat, rv P42 2 k = rv Po 2 k := fun k => by rw [k47.2.2 rfl k, k30.2.2 rfl k, k10.2.2 rfl k]
          have v84_ := R61.2.2.2.1
          rw [v83_, show (fv P42 1 1).toInt.toNat = (fv Po 1 1).toInt.toNat from by omega] at v84_
          have is82_ := (hs82_.resolve_right (by omega)).2
          have js82_ := as82_.1.2.2.1
          have ks82_ := nC_le (kd := t1.toInt) (c := cs82_)
          have u70 : KPX Po P55 ∧ addC Po P55 z67.toInt t1.toInt t2.toInt t3.toInt := ⟨⟨by rw [R61.2.2.2.2.2 0 8 (by omega), R48.2.2.2.2.2 0 8 (by omega), R31 0 8 (by omega), R11 0 8 (by omega)], fun x j hx => by rw [R61.2.2.2.2.2 x j (by omega), R48.2.2.2.2.2 x j (by omega), R31 x j (by omega), R11 x j (by omega)]⟩, (show (z67.toInt = -1002 ∧ (∀ c : Nat, ¬ (okSz t1.toInt t2.toInt c ∧ okCr t3.toInt (nC t1.toInt c))) ∧ NCH Po P55) ∨ (z67.toInt = -1003 ∧ (∃ c : Nat, okSz t1.toInt t2.toInt c ∧ okCr t3.toInt (nC t1.toInt c)) ∧ 8 ≤ (fv Po 1 1).toInt ∧ NCH Po P55) ∨ ((fv Po 1 1).toInt ≤ 7 ∧ z67.toInt = (fv Po 1 1).toInt ∧ PSH Po P55 ∧ (fv P55 1 1).toInt = (fv Po 1 1).toInt + 1 ∧ (fv P55 1 2).toInt = (fv Po 1 2).toInt ∧ (fv P55 1 3).toInt = (fv Po 1 3).toInt ∧ (∃ c : Nat, okSz t1.toInt t2.toInt c ∧ okCr t3.toInt (nC t1.toInt c) ∧ (fv P55 (rv Po 2 (fv Po 1 1).toInt.toNat) 0).toInt = t1.toInt ∧ (fv P55 (rv Po 2 (fv Po 1 1).toInt.toNat) 2).toInt = 0 ∧ (fv P55 (rv Po 2 (fv Po 1 1).toInt.toNat) 1).toInt = (c : Int) ∧ (∀ j : Nat, j < c → fv P55 ((rv Po 2 (fv Po 1 1).toInt.toNat) + 1) j = dgI t2.toInt c j) ∧ ∀ j : Nat, j < nC t1.toInt c → fv P55 ((rv Po 2 (fv Po 1 1).toInt.toNat) + 2) j = dgI t3.toInt (nC t1.toInt c) j) ∧ (∀ k : Nat, k < 8 → ¬ (k : Int) = (fv Po 1 1).toInt → PEx P55 Po (rv Po 2 k) 0) ∧ ∀ k : Nat, rv P55 2 k = rv Po 2 k) from by exact Or.inr (Or.inr (⟨by omega, by omega, PSH.mk (P := P25) (Q := P42) hT R48.1 R48.2.1 R48.2.2.1 R48.2.2.2.1 R48.2.2.2.2.1 (fun x j h1 h2 => by rw [R61.2.2.2.2.2 x j (by omega)]) (fun x j hx => by rw [R31 x j (by omega), R11 x j (by omega)]) (fun k => by rw [k30.2.2 rfl k, k10.2.2 rfl k]) (Typ.rng hT rl_79 (by decide) (by decide) rfl), by omega, by omega, by omega, ⟨cs82_, as82_, is82_.1, (by have w := congrArg Int32.toInt (v84_.1.trans (by rw [R48.2.2.2.2.2 298 0 (by omega), R31 298 0 (by omega)])); omega), (by have w := congrArg Int32.toInt (v84_.2.2.1.trans (by rw [R48.2.2.2.2.2 298 2 (by omega), R31 298 2 (by omega)])); omega), (by have w := congrArg Int32.toInt (v84_.2.1.trans (by rw [R48.2.2.2.2.2 298 1 (by omega), R31 298 1 (by omega)])); omega), (fun j hj => (v84_.2.2.2.1 j (by omega)).trans ((show fv P42 (298 + 1) j = fv P5 (298 + 1) j from by rw [R48.2.2.2.2.2 (298 + 1) j (by omega), R31 (298 + 1) j (by omega)]).trans (fs82_ j hj))), (fun j hj => (v84_.2.2.2.2 j (by omega)).trans ((show fv P42 (298 + 2) j = fv P25 (298 + 2) j from by rw [R48.2.2.2.2.2 (298 + 2) j (by omega)]).trans (is82_.2 j hj)))⟩, PEx.mk (b := 0) hT v83_ R61.2.2.2.2.1 (fun x j h1 h2 h3 => by rw [R48.2.2.2.2.2 x j (by omega), R31 x j (by omega), R11 x j (by omega)]) (by omega) (by omega), fun k => by rw [k60.2.2 rfl k, k47.2.2 rfl k, k30.2.2 rfl k, k10.2.2 rfl k]⟩)))⟩
          exact mp_iret ⟨⟨_, rfl, u70⟩, hT59, k62, J63, trivial⟩ dX6_add_91 (Or.inl rfl)
        · have c40 : (fv P25 1 1).toInt ≥ 8 := ti_lt_n c40
          refine mp_a (a_aload_n dX6_add_52 rfl) (mpp 53 rfl ?_)
          refine mp_a (a_iconst (v := 1) dX6_add_53 rfl) (mpp 54 rfl ?_)
          refine mp_a (a_bipush (v := 8) dX6_add_54 rfl) (mpp 56 rfl ?_)
          refine mt_callv (i := 68) (q' := q_14) (As := [.int 1, .int 8]) (rest := []) hT29 dX6_add_56 rfl qm_14 (by decide) rfl rl_0 (by decide) rfl (Nat.le_of_ble_eq_true rfl) rfl ⟨rfl, rfl⟩ ⟨Nat.le_of_ble_eq_true rfl, Nat.le_of_ble_eq_true rfl⟩ (EvP.mono (by decide) (c_F_refuse hT29 (KW.xr k32 hX) )) (fun r85 P86 g87 => mpp 59 rfl ?_)
          obtain ⟨⟨x88, rfl, g89⟩, hT90, k91, R92⟩ := g87
          have k93 : KW [10, 11, 12, 65, 66, 67, 192, 193, 194, 256, 320, 385, 386, 1985, 2112, 2113, 2114] Po P86 := KW.trans k32 k91 rfl
          have J95 := Inj.kw J34 k91 rfl
          have wx88 := ti_full x88
          replace g89 : x88.toInt = -1003 := g89
          show MEvP _ none q_20 59 [(0, .ref 0), (1, .int t1), (2, .int t2), (3, .int t3)] [.int x88] _ _ _ _
          have e97 : (fv P5 1 1).toInt = (fv Po 1 1).toInt := congrArg Int32.toInt (R11 1 1 (by omega))
          have e98 : (fv P5 1 2).toInt = (fv Po 1 2).toInt := congrArg Int32.toInt (R11 1 2 (by omega))
          have e99 : (fv P5 1 3).toInt = (fv Po 1 3).toInt := congrArg Int32.toInt (R11 1 3 (by omega))
          have e100 : (fv P25 1 1).toInt = (fv P5 1 1).toInt := congrArg Int32.toInt (R31 1 1 (by omega))
          have e101 : (fv P25 1 2).toInt = (fv P5 1 2).toInt := congrArg Int32.toInt (R31 1 2 (by omega))
          have e102 : (fv P25 1 3).toInt = (fv P5 1 3).toInt := congrArg Int32.toInt (R31 1 3 (by omega))
          have e103 : (fv P86 1 1).toInt = (fv P25 1 1).toInt := congrArg Int32.toInt (R92.2 1 1 (by omega))
          have e104 : (fv P86 1 2).toInt = (fv P25 1 2).toInt := congrArg Int32.toInt (R92.2 1 2 (by omega))
          have e105 : (fv P86 1 3).toInt = (fv P25 1 3).toInt := congrArg Int32.toInt (R92.2 1 3 (by omega))
          obtain ⟨cs106_, as106_, bs106_, ds106_, es106_, fs106_⟩ := (g8.2.2.resolve_right (by omega)).2
          have hs106_ := g28.2.2
          rw [bs106_, es106_] at hs106_
          have u96 : KPX Po P86 ∧ addC Po P86 x88.toInt t1.toInt t2.toInt t3.toInt := ⟨⟨by rw [R92.1, R31 0 8 (by omega), R11 0 8 (by omega)], fun x j hx => by rw [R92.2 x j (by omega), R31 x j (by omega), R11 x j (by omega)]⟩, (show (x88.toInt = -1002 ∧ (∀ c : Nat, ¬ (okSz t1.toInt t2.toInt c ∧ okCr t3.toInt (nC t1.toInt c))) ∧ NCH Po P86) ∨ (x88.toInt = -1003 ∧ (∃ c : Nat, okSz t1.toInt t2.toInt c ∧ okCr t3.toInt (nC t1.toInt c)) ∧ 8 ≤ (fv Po 1 1).toInt ∧ NCH Po P86) ∨ ((fv Po 1 1).toInt ≤ 7 ∧ x88.toInt = (fv Po 1 1).toInt ∧ PSH Po P86 ∧ (fv P86 1 1).toInt = (fv Po 1 1).toInt + 1 ∧ (fv P86 1 2).toInt = (fv Po 1 2).toInt ∧ (fv P86 1 3).toInt = (fv Po 1 3).toInt ∧ (∃ c : Nat, okSz t1.toInt t2.toInt c ∧ okCr t3.toInt (nC t1.toInt c) ∧ (fv P86 (rv Po 2 (fv Po 1 1).toInt.toNat) 0).toInt = t1.toInt ∧ (fv P86 (rv Po 2 (fv Po 1 1).toInt.toNat) 2).toInt = 0 ∧ (fv P86 (rv Po 2 (fv Po 1 1).toInt.toNat) 1).toInt = (c : Int) ∧ (∀ j : Nat, j < c → fv P86 ((rv Po 2 (fv Po 1 1).toInt.toNat) + 1) j = dgI t2.toInt c j) ∧ ∀ j : Nat, j < nC t1.toInt c → fv P86 ((rv Po 2 (fv Po 1 1).toInt.toNat) + 2) j = dgI t3.toInt (nC t1.toInt c) j) ∧ (∀ k : Nat, k < 8 → ¬ (k : Int) = (fv Po 1 1).toInt → PEx P86 Po (rv Po 2 k) 0) ∧ ∀ k : Nat, rv P86 2 k = rv Po 2 k) from by exact Or.inr (Or.inl (⟨by omega, ⟨cs106_, as106_, (hs106_.resolve_right (by omega)).2.1⟩, by omega, ⟨fun x j h1 h2 => by rw [R92.2 x j (by omega), R31 x j (by omega), R11 x j (by omega)], fun k => by rw [k91.2.2 rfl k, k30.2.2 rfl k, k10.2.2 rfl k]⟩⟩)))⟩
          exact mp_iret ⟨⟨_, rfl, u96⟩, hT90, k93, J95, trivial⟩ dX6_add_59 (Or.inl rfl)
      · have c36 : x27.toInt = 0 := ti_ne_n c36
        refine mp_a (a_sipush (v := -1002) dX6_add_36 rfl) (mpp 39 rfl ?_)
        have e108 : (fv P5 1 1).toInt = (fv Po 1 1).toInt := congrArg Int32.toInt (R11 1 1 (by omega))
        have e109 : (fv P5 1 2).toInt = (fv Po 1 2).toInt := congrArg Int32.toInt (R11 1 2 (by omega))
        have e110 : (fv P5 1 3).toInt = (fv Po 1 3).toInt := congrArg Int32.toInt (R11 1 3 (by omega))
        have e111 : (fv P25 1 1).toInt = (fv P5 1 1).toInt := congrArg Int32.toInt (R31 1 1 (by omega))
        have e112 : (fv P25 1 2).toInt = (fv P5 1 2).toInt := congrArg Int32.toInt (R31 1 2 (by omega))
        have e113 : (fv P25 1 3).toInt = (fv P5 1 3).toInt := congrArg Int32.toInt (R31 1 3 (by omega))
        obtain ⟨cs115_, as115_, bs115_, ds115_, es115_, fs115_⟩ := (g8.2.2.resolve_right (by omega)).2
        have hs115_ := g28.2.2
        rw [bs115_, es115_] at hs115_
        have u107 : KPX Po P25 ∧ addC Po P25 (-1002 : Int) t1.toInt t2.toInt t3.toInt := ⟨⟨by rw [R31 0 8 (by omega), R11 0 8 (by omega)], fun x j hx => by rw [R31 x j (by omega), R11 x j (by omega)]⟩, (show ((-1002 : Int) = -1002 ∧ (∀ c : Nat, ¬ (okSz t1.toInt t2.toInt c ∧ okCr t3.toInt (nC t1.toInt c))) ∧ NCH Po P25) ∨ ((-1002 : Int) = -1003 ∧ (∃ c : Nat, okSz t1.toInt t2.toInt c ∧ okCr t3.toInt (nC t1.toInt c)) ∧ 8 ≤ (fv Po 1 1).toInt ∧ NCH Po P25) ∨ ((fv Po 1 1).toInt ≤ 7 ∧ (-1002 : Int) = (fv Po 1 1).toInt ∧ PSH Po P25 ∧ (fv P25 1 1).toInt = (fv Po 1 1).toInt + 1 ∧ (fv P25 1 2).toInt = (fv Po 1 2).toInt ∧ (fv P25 1 3).toInt = (fv Po 1 3).toInt ∧ (∃ c : Nat, okSz t1.toInt t2.toInt c ∧ okCr t3.toInt (nC t1.toInt c) ∧ (fv P25 (rv Po 2 (fv Po 1 1).toInt.toNat) 0).toInt = t1.toInt ∧ (fv P25 (rv Po 2 (fv Po 1 1).toInt.toNat) 2).toInt = 0 ∧ (fv P25 (rv Po 2 (fv Po 1 1).toInt.toNat) 1).toInt = (c : Int) ∧ (∀ j : Nat, j < c → fv P25 ((rv Po 2 (fv Po 1 1).toInt.toNat) + 1) j = dgI t2.toInt c j) ∧ ∀ j : Nat, j < nC t1.toInt c → fv P25 ((rv Po 2 (fv Po 1 1).toInt.toNat) + 2) j = dgI t3.toInt (nC t1.toInt c) j) ∧ (∀ k : Nat, k < 8 → ¬ (k : Int) = (fv Po 1 1).toInt → PEx P25 Po (rv Po 2 k) 0) ∧ ∀ k : Nat, rv P25 2 k = rv Po 2 k) from by exact Or.inl (⟨by omega, fun c h => by have e := h.1.1.1.uniq as115_.1.1; subst e; exact (hs115_.resolve_left (by omega)).2 h.2, ⟨fun x j h1 h2 => by rw [R31 x j (by omega), R11 x j (by omega)], fun k => by rw [k30.2.2 rfl k, k10.2.2 rfl k]⟩⟩))⟩
        exact mp_iret ⟨⟨_, rfl, u107⟩, hT29, k32, J34, trivial⟩ dX6_add_39 (Or.inl rfl)
  · have c1 : t1.toInt ≠ 0 := ti_eq_n c1
    refine mp_a (a_iload_n dX6_add_4 rfl) (mpp 5 rfl ?_)
    refine mp_a (a_iconst (v := 1) dX6_add_5 rfl) (mpp 6 rfl ?_)
    refine mp_Tb (t := 13) (j_icmp_eq dX6_add_6) (by decide) (fun c116 => ?_) (fun c116 => mpp 9 rfl ?_)
    · have c116 : t1.toInt = 1 := ti_eq c116
      refine mp_a (a_aload_n dX6_add_13 rfl) (mpp 14 rfl ?_)
      refine mt_getE (i := 53) (k := 7) hT dX6_add_14 rfl rl_0 (by decide) rfl (by decide) rfl hX.2.2.2.2.2 (fun q117 => mpp 17 rfl ?_)
      refine mp_a (a_iload_n dX6_add_17 rfl) (mpp 18 rfl ?_)
      refine mp_a (a_iload_n dX6_add_18 rfl) (mpp 19 rfl ?_)
      have p118 : t1.toInt = 0 ∨ t1.toInt = 1 := by omega
      refine mt_callv (i := 79) (q' := q_21) (As := [.int t1, .int t2]) (rest := []) hT dX6_add_19 rfl qm_21 (by decide) rfl q117 (by decide) rfl (Nat.le_of_ble_eq_true rfl) rfl ⟨rfl, rfl⟩ ⟨Nat.le_of_ble_eq_true rfl, Nat.le_of_ble_eq_true rfl⟩ (EvP.mono (by decide) (c_CP_takeSizes_Piece hT hX p118 q117)) (fun r119 P120 g121 => mpp 22 rfl ?_)
      obtain ⟨⟨x122, rfl, g123⟩, hT124, k125, R126⟩ := g121
      have k127 : KW [10, 11, 12, 65, 66, 67, 192, 193, 194, 256, 320, 385, 386, 1985, 2112, 2113, 2114] Po P120 := KW.trans KW.refl k125 rfl
      have J129 := Inj.kw hJ k125 rfl
      have wx122 := ti_full x122
      replace g123 : 0 ≤ x122.toInt ∧ x122.toInt ≤ 1 ∧ ((x122.toInt = 1 ∧ ∃ c : Nat, okSz t1.toInt t2.toInt c ∧ (fv P120 298 0).toInt = t1.toInt ∧ (fv P120 298 2).toInt = 0 ∧ (fv P120 298 1).toInt = (c : Int) ∧ ∀ j : Nat, j < c → fv P120 (298 + 1) j = dgI t2.toInt c j) ∨ (x122.toInt = 0 ∧ ∀ c : Nat, ¬ okSz t1.toInt t2.toInt c)) := g123
      show MEvP _ none q_20 22 [(0, .ref 0), (1, .int t1), (2, .int t2), (3, .int t3)] [.int x122] _ _ _ _
      refine mp_Tb (t := 36) (j_if_eq dX6_add_22) (by decide) (fun c130 => ?_) (fun c130 => mpp 25 rfl ?_)
      · have c130 : x122.toInt = 0 := ti_eq c130
        refine mp_a (a_sipush (v := -1002) dX6_add_36 rfl) (mpp 39 rfl ?_)
        have e132 : (fv P120 1 1).toInt = (fv Po 1 1).toInt := congrArg Int32.toInt (R126 1 1 (by omega))
        have e133 : (fv P120 1 2).toInt = (fv Po 1 2).toInt := congrArg Int32.toInt (R126 1 2 (by omega))
        have e134 : (fv P120 1 3).toInt = (fv Po 1 3).toInt := congrArg Int32.toInt (R126 1 3 (by omega))
        have u131 : KPX Po P120 ∧ addC Po P120 (-1002 : Int) t1.toInt t2.toInt t3.toInt := ⟨⟨by rw [R126 0 8 (by omega)], fun x j hx => by rw [R126 x j (by omega)]⟩, (show ((-1002 : Int) = -1002 ∧ (∀ c : Nat, ¬ (okSz t1.toInt t2.toInt c ∧ okCr t3.toInt (nC t1.toInt c))) ∧ NCH Po P120) ∨ ((-1002 : Int) = -1003 ∧ (∃ c : Nat, okSz t1.toInt t2.toInt c ∧ okCr t3.toInt (nC t1.toInt c)) ∧ 8 ≤ (fv Po 1 1).toInt ∧ NCH Po P120) ∨ ((fv Po 1 1).toInt ≤ 7 ∧ (-1002 : Int) = (fv Po 1 1).toInt ∧ PSH Po P120 ∧ (fv P120 1 1).toInt = (fv Po 1 1).toInt + 1 ∧ (fv P120 1 2).toInt = (fv Po 1 2).toInt ∧ (fv P120 1 3).toInt = (fv Po 1 3).toInt ∧ (∃ c : Nat, okSz t1.toInt t2.toInt c ∧ okCr t3.toInt (nC t1.toInt c) ∧ (fv P120 (rv Po 2 (fv Po 1 1).toInt.toNat) 0).toInt = t1.toInt ∧ (fv P120 (rv Po 2 (fv Po 1 1).toInt.toNat) 2).toInt = 0 ∧ (fv P120 (rv Po 2 (fv Po 1 1).toInt.toNat) 1).toInt = (c : Int) ∧ (∀ j : Nat, j < c → fv P120 ((rv Po 2 (fv Po 1 1).toInt.toNat) + 1) j = dgI t2.toInt c j) ∧ ∀ j : Nat, j < nC t1.toInt c → fv P120 ((rv Po 2 (fv Po 1 1).toInt.toNat) + 2) j = dgI t3.toInt (nC t1.toInt c) j) ∧ (∀ k : Nat, k < 8 → ¬ (k : Int) = (fv Po 1 1).toInt → PEx P120 Po (rv Po 2 k) 0) ∧ ∀ k : Nat, rv P120 2 k = rv Po 2 k) from by exact Or.inl (⟨by omega, fun c h => (g123.2.2.resolve_left (by omega)).2 c h.1, ⟨fun x j h1 h2 => by rw [R126 x j (by omega)], fun k => by rw [k125.2.2 rfl k]⟩⟩))⟩
        exact mp_iret ⟨⟨_, rfl, u131⟩, hT124, k127, J129, trivial⟩ dX6_add_39 (Or.inl rfl)
      · have c130 : x122.toInt ≠ 0 := ti_eq_n c130
        refine mp_a (a_aload_n dX6_add_25 rfl) (mpp 26 rfl ?_)
        refine mt_getE (i := 53) (k := 7) hT124 dX6_add_26 rfl rl_0 (by decide) rfl (by decide) rfl (KW.xr k127 hX).2.2.2.2.2 (fun q136 => mpp 29 rfl ?_)
        refine mp_a (a_iload_n dX6_add_29 rfl) (mpp 30 rfl ?_)
        have g137 : (0 : Int) ≤ (fv P120 298 1).toInt ∧ (fv P120 298 1).toInt ≤ 8 := Typ.rng hT124 q136 (by decide) (by decide) rfl
        have p138 : 1 ≤ (fv P120 298 1).toInt := by obtain ⟨o1, o2, o3, o4, o5, o6⟩ := (g123.2.2.resolve_right (by omega)).2; have := o2.1.2.1; omega
        refine mt_callv (i := 83) (q' := q_24) (As := [.int t3]) (rest := []) hT124 dX6_add_30 rfl qm_24 (by decide) rfl q136 (by decide) rfl (Nat.le_of_ble_eq_true rfl) rfl ⟨rfl, rfl⟩ ⟨Nat.le_of_ble_eq_true rfl, Nat.le_of_ble_eq_true rfl⟩ (EvP.mono (by decide) (c_CP_takeCreases_Piece hT124 (KW.xr k127 hX) p138 q136)) (fun r139 P140 g141 => mpp 33 rfl ?_)
        obtain ⟨⟨x142, rfl, g143⟩, hT144, k145, R146⟩ := g141
        have k147 : KW [10, 11, 12, 65, 66, 67, 192, 193, 194, 256, 320, 385, 386, 1985, 2112, 2113, 2114] Po P140 := KW.trans k127 k145 rfl
        have J149 := Inj.kw J129 k145 rfl
        have wx142 := ti_full x142
        replace g143 : 0 ≤ x142.toInt ∧ x142.toInt ≤ 1 ∧ ((x142.toInt = 1 ∧ okCr t3.toInt (nC (fv P120 298 0).toInt (fv P120 298 1).toInt) ∧ ∀ j : Nat, j < (nC (fv P120 298 0).toInt (fv P120 298 1).toInt) → fv P140 (298 + 2) j = dgI t3.toInt (nC (fv P120 298 0).toInt (fv P120 298 1).toInt) j) ∨ (x142.toInt = 0 ∧ ¬ okCr t3.toInt (nC (fv P120 298 0).toInt (fv P120 298 1).toInt))) := g143
        have g150 := ti_full (fv P120 298 0)
        show MEvP _ none q_20 33 [(0, .ref 0), (1, .int t1), (2, .int t2), (3, .int t3)] [.int x142] _ _ _ _
        refine mp_Tb (t := 40) (j_if_ne dX6_add_33) (by decide) (fun c151 => ?_) (fun c151 => mpp 36 rfl ?_)
        · have c151 : x142.toInt ≠ 0 := ti_ne c151
          refine mp_a (a_aload_n dX6_add_40 rfl) (mpp 41 rfl ?_)
          refine mt_getU (i := 10) (k := 0) (A := 1) hT144 dX6_add_41 rfl rl_0 (by decide) rfl (by decide) rfl un_31 (mpp 44 rfl ?_)
          have g152 : (0 : Int) ≤ (fv P140 1 1).toInt ∧ (fv P140 1 1).toInt ≤ 8 := Typ.rng hT144 rl_1 (by decide) (by decide) rfl
          refine mt_getI (i := 87) (k := 1) hT144 dX6_add_44 rfl rl_1 (by decide) rfl (by decide) rfl (fun g153 g154 => mpp 47 rfl ?_)
          refine mp_a (a_bipush (v := 8) dX6_add_47 rfl) (mpp 49 rfl ?_)
          refine mp_Tb (t := 60) (j_icmp_lt dX6_add_49) (by decide) (fun c155 => ?_) (fun c155 => mpp 52 rfl ?_)
          · have c155 : (fv P140 1 1).toInt < 8 := ti_lt c155
            refine mp_a (a_aload_n dX6_add_60 rfl) (mpp 61 rfl ?_)
            refine mt_getU (i := 25) (k := 3) (A := 79) hT144 dX6_add_61 rfl rl_0 (by decide) rfl (by decide) rfl un_6 (mpp 64 rfl ?_)
            refine mp_a (a_aload_n dX6_add_64 rfl) (mpp 65 rfl ?_)
            refine mt_getU (i := 10) (k := 0) (A := 1) hT144 dX6_add_65 rfl rl_0 (by decide) rfl (by decide) rfl un_31 (mpp 68 rfl ?_)
            refine mt_callv (i := 72) (q' := q_15) (As := [.ref 1]) (rest := []) hT144 dX6_add_68 rfl qm_15 (by decide) rfl rl_79 (by decide) rfl (Nat.le_of_ble_eq_true rfl) rfl ⟨rfl, rfl⟩ ⟨Nat.le_of_ble_eq_true rfl, Nat.le_of_ble_eq_true rfl⟩ (EvP.mono (by decide) (c_CH_push_History_NState hT144 (KW.xr k147 hX) J149 )) (fun r156 P157 g158 => mpp 71 rfl ?_)
            obtain ⟨⟨rfl, g160⟩, hT161, k162, J165, R163⟩ := g158
            have k164 : KW [10, 11, 12, 65, 66, 67, 192, 193, 194, 256, 320, 385, 386, 1985, 2112, 2113, 2114] Po P157 := KW.trans k147 k162 rfl
            show MEvP _ none q_20 71 [(0, .ref 0), (1, .int t1), (2, .int t2), (3, .int t3)] [] _ _ _ _
            refine mp_a (a_aload_n dX6_add_71 rfl) (mpp 72 rfl ?_)
            refine mt_getU (i := 10) (k := 0) (A := 1) hT161 dX6_add_72 rfl rl_0 (by decide) rfl (by decide) rfl un_31 (mpp 75 rfl ?_)
            refine mp_a (a_aload_n dX6_add_75 rfl) (mpp 76 rfl ?_)
            refine mt_getE (i := 53) (k := 7) hT161 dX6_add_76 rfl rl_0 (by decide) rfl (by decide) rfl (KW.xr k164 hX).2.2.2.2.2 (fun q166 => mpp 79 rfl ?_)
            have e167 : (fv P157 1 1).toInt = (fv P140 1 1).toInt := congrArg Int32.toInt (KW.at k162 1 rl_1 rfl)
            have p168 : (fv P157 1 1).toInt ≤ 7 := by omega
            refine mt_callv (i := 90) (q' := q_27) (As := [.ref 298]) (rest := []) hT161 dX6_add_79 rfl qm_27 (by decide) rfl rl_1 (by decide) rfl (Nat.le_of_ble_eq_true rfl) rfl ⟨rfl, rfl⟩ ⟨Nat.le_of_ble_eq_true rfl, Nat.le_of_ble_eq_true rfl⟩ (EvP.mono (by decide) (c_CS_addCopyOf_NState_Piece hT161 (KW.xr k164 hX) J165 p168 q166)) (fun r169 P170 g171 => mpp 82 rfl ?_)
            obtain ⟨⟨rfl, g173⟩, hT174, k175, J178, R176⟩ := g171
            have k177 : KW [10, 11, 12, 65, 66, 67, 192, 193, 194, 256, 320, 385, 386, 1985, 2112, 2113, 2114] Po P170 := KW.trans k164 k175 rfl
            show MEvP _ none q_20 82 [(0, .ref 0), (1, .int t1), (2, .int t2), (3, .int t3)] [] _ _ _ _
            refine mp_a (a_aload_n dX6_add_82 rfl) (mpp 83 rfl ?_)
            refine mt_getU (i := 10) (k := 0) (A := 1) hT174 dX6_add_83 rfl rl_0 (by decide) rfl (by decide) rfl un_31 (mpp 86 rfl ?_)
            have g179 : (0 : Int) ≤ (fv P170 1 1).toInt ∧ (fv P170 1 1).toInt ≤ 8 := Typ.rng hT174 rl_1 (by decide) (by decide) rfl
            refine mt_getI (i := 87) (k := 1) hT174 dX6_add_86 rfl rl_1 (by decide) rfl (by decide) rfl (fun g180 g181 => mpp 89 rfl ?_)
            refine mp_a (a_iconst (v := 1) dX6_add_89 rfl) (mpp 90 rfl ?_)
            obtain ⟨z182, h183⟩ := ti_ex ((fv P170 1 1) - 1 : Int32)
            have wz182 := ti_full z182
            refine mp_t (s_isub (v := z182) dX6_add_90 h183) (mpp 91 rfl ?_)
            try have e184 : z182.toInt = (fv P170 1 1).toInt - 1 := ti_subz h183 rfl rfl (by omega) (by omega)
            have e186 : (fv P120 1 1).toInt = (fv Po 1 1).toInt := congrArg Int32.toInt (R126 1 1 (by omega))
            have e187 : (fv P120 1 2).toInt = (fv Po 1 2).toInt := congrArg Int32.toInt (R126 1 2 (by omega))
            have e188 : (fv P120 1 3).toInt = (fv Po 1 3).toInt := congrArg Int32.toInt (R126 1 3 (by omega))
            have e189 : (fv P140 1 1).toInt = (fv P120 1 1).toInt := congrArg Int32.toInt (R146 1 1 (by omega))
            have e190 : (fv P140 1 2).toInt = (fv P120 1 2).toInt := congrArg Int32.toInt (R146 1 2 (by omega))
            have e191 : (fv P140 1 3).toInt = (fv P120 1 3).toInt := congrArg Int32.toInt (R146 1 3 (by omega))
            have e192 : (fv P157 1 1).toInt = (fv P140 1 1).toInt := congrArg Int32.toInt (R163.2.2.2.2.2 1 1 (by omega))
            have e193 : (fv P157 1 2).toInt = (fv P140 1 2).toInt := congrArg Int32.toInt (R163.2.2.2.2.2 1 2 (by omega))
            have e194 : (fv P157 1 3).toInt = (fv P140 1 3).toInt := congrArg Int32.toInt (R163.2.2.2.2.2 1 3 (by omega))
            have e195 : (fv P170 1 2).toInt = (fv P157 1 2).toInt := congrArg Int32.toInt (R176.2.1)
            have e196 : (fv P170 1 3).toInt = (fv P157 1 3).toInt := congrArg Int32.toInt (R176.2.2.1)
            obtain ⟨cs197_, as197_, bs197_, ds197_, es197_, fs197_⟩ := (g123.2.2.resolve_right (by omega)).2
            have hs197_ := g143.2.2
            rw [bs197_, es197_] at hs197_
            have v198_ : ∀ k : Nat, rv P157 2 k = rv Po 2 k := fun k => by rw [k162.2.2 rfl k, k145.2.2 rfl k, k125.2.2 rfl k]
            have v199_ := R176.2.2.2.1
            rw [v198_, show (fv P157 1 1).toInt.toNat = (fv Po 1 1).toInt.toNat from by omega] at v199_
            have is197_ := (hs197_.resolve_right (by omega)).2
            have js197_ := as197_.1.2.2.1
            have ks197_ := nC_le (kd := t1.toInt) (c := cs197_)
            have u185 : KPX Po P170 ∧ addC Po P170 z182.toInt t1.toInt t2.toInt t3.toInt := ⟨⟨by rw [R176.2.2.2.2.2 0 8 (by omega), R163.2.2.2.2.2 0 8 (by omega), R146 0 8 (by omega), R126 0 8 (by omega)], fun x j hx => by rw [R176.2.2.2.2.2 x j (by omega), R163.2.2.2.2.2 x j (by omega), R146 x j (by omega), R126 x j (by omega)]⟩, (show (z182.toInt = -1002 ∧ (∀ c : Nat, ¬ (okSz t1.toInt t2.toInt c ∧ okCr t3.toInt (nC t1.toInt c))) ∧ NCH Po P170) ∨ (z182.toInt = -1003 ∧ (∃ c : Nat, okSz t1.toInt t2.toInt c ∧ okCr t3.toInt (nC t1.toInt c)) ∧ 8 ≤ (fv Po 1 1).toInt ∧ NCH Po P170) ∨ ((fv Po 1 1).toInt ≤ 7 ∧ z182.toInt = (fv Po 1 1).toInt ∧ PSH Po P170 ∧ (fv P170 1 1).toInt = (fv Po 1 1).toInt + 1 ∧ (fv P170 1 2).toInt = (fv Po 1 2).toInt ∧ (fv P170 1 3).toInt = (fv Po 1 3).toInt ∧ (∃ c : Nat, okSz t1.toInt t2.toInt c ∧ okCr t3.toInt (nC t1.toInt c) ∧ (fv P170 (rv Po 2 (fv Po 1 1).toInt.toNat) 0).toInt = t1.toInt ∧ (fv P170 (rv Po 2 (fv Po 1 1).toInt.toNat) 2).toInt = 0 ∧ (fv P170 (rv Po 2 (fv Po 1 1).toInt.toNat) 1).toInt = (c : Int) ∧ (∀ j : Nat, j < c → fv P170 ((rv Po 2 (fv Po 1 1).toInt.toNat) + 1) j = dgI t2.toInt c j) ∧ ∀ j : Nat, j < nC t1.toInt c → fv P170 ((rv Po 2 (fv Po 1 1).toInt.toNat) + 2) j = dgI t3.toInt (nC t1.toInt c) j) ∧ (∀ k : Nat, k < 8 → ¬ (k : Int) = (fv Po 1 1).toInt → PEx P170 Po (rv Po 2 k) 0) ∧ ∀ k : Nat, rv P170 2 k = rv Po 2 k) from by exact Or.inr (Or.inr (⟨by omega, by omega, PSH.mk (P := P140) (Q := P157) hT R163.1 R163.2.1 R163.2.2.1 R163.2.2.2.1 R163.2.2.2.2.1 (fun x j h1 h2 => by rw [R176.2.2.2.2.2 x j (by omega)]) (fun x j hx => by rw [R146 x j (by omega), R126 x j (by omega)]) (fun k => by rw [k145.2.2 rfl k, k125.2.2 rfl k]) (Typ.rng hT rl_79 (by decide) (by decide) rfl), by omega, by omega, by omega, ⟨cs197_, as197_, is197_.1, (by have w := congrArg Int32.toInt (v199_.1.trans (by rw [R163.2.2.2.2.2 298 0 (by omega), R146 298 0 (by omega)])); omega), (by have w := congrArg Int32.toInt (v199_.2.2.1.trans (by rw [R163.2.2.2.2.2 298 2 (by omega), R146 298 2 (by omega)])); omega), (by have w := congrArg Int32.toInt (v199_.2.1.trans (by rw [R163.2.2.2.2.2 298 1 (by omega), R146 298 1 (by omega)])); omega), (fun j hj => (v199_.2.2.2.1 j (by omega)).trans ((show fv P157 (298 + 1) j = fv P120 (298 + 1) j from by rw [R163.2.2.2.2.2 (298 + 1) j (by omega), R146 (298 + 1) j (by omega)]).trans (fs197_ j hj))), (fun j hj => (v199_.2.2.2.2 j (by omega)).trans ((show fv P157 (298 + 2) j = fv P140 (298 + 2) j from by rw [R163.2.2.2.2.2 (298 + 2) j (by omega)]).trans (is197_.2 j hj)))⟩, PEx.mk (b := 0) hT v198_ R176.2.2.2.2.1 (fun x j h1 h2 h3 => by rw [R163.2.2.2.2.2 x j (by omega), R146 x j (by omega), R126 x j (by omega)]) (by omega) (by omega), fun k => by rw [k175.2.2 rfl k, k162.2.2 rfl k, k145.2.2 rfl k, k125.2.2 rfl k]⟩)))⟩
            exact mp_iret ⟨⟨_, rfl, u185⟩, hT174, k177, J178, trivial⟩ dX6_add_91 (Or.inl rfl)
          · have c155 : (fv P140 1 1).toInt ≥ 8 := ti_lt_n c155
            refine mp_a (a_aload_n dX6_add_52 rfl) (mpp 53 rfl ?_)
            refine mp_a (a_iconst (v := 1) dX6_add_53 rfl) (mpp 54 rfl ?_)
            refine mp_a (a_bipush (v := 8) dX6_add_54 rfl) (mpp 56 rfl ?_)
            refine mt_callv (i := 68) (q' := q_14) (As := [.int 1, .int 8]) (rest := []) hT144 dX6_add_56 rfl qm_14 (by decide) rfl rl_0 (by decide) rfl (Nat.le_of_ble_eq_true rfl) rfl ⟨rfl, rfl⟩ ⟨Nat.le_of_ble_eq_true rfl, Nat.le_of_ble_eq_true rfl⟩ (EvP.mono (by decide) (c_F_refuse hT144 (KW.xr k147 hX) )) (fun r200 P201 g202 => mpp 59 rfl ?_)
            obtain ⟨⟨x203, rfl, g204⟩, hT205, k206, R207⟩ := g202
            have k208 : KW [10, 11, 12, 65, 66, 67, 192, 193, 194, 256, 320, 385, 386, 1985, 2112, 2113, 2114] Po P201 := KW.trans k147 k206 rfl
            have J210 := Inj.kw J149 k206 rfl
            have wx203 := ti_full x203
            replace g204 : x203.toInt = -1003 := g204
            show MEvP _ none q_20 59 [(0, .ref 0), (1, .int t1), (2, .int t2), (3, .int t3)] [.int x203] _ _ _ _
            have e212 : (fv P120 1 1).toInt = (fv Po 1 1).toInt := congrArg Int32.toInt (R126 1 1 (by omega))
            have e213 : (fv P120 1 2).toInt = (fv Po 1 2).toInt := congrArg Int32.toInt (R126 1 2 (by omega))
            have e214 : (fv P120 1 3).toInt = (fv Po 1 3).toInt := congrArg Int32.toInt (R126 1 3 (by omega))
            have e215 : (fv P140 1 1).toInt = (fv P120 1 1).toInt := congrArg Int32.toInt (R146 1 1 (by omega))
            have e216 : (fv P140 1 2).toInt = (fv P120 1 2).toInt := congrArg Int32.toInt (R146 1 2 (by omega))
            have e217 : (fv P140 1 3).toInt = (fv P120 1 3).toInt := congrArg Int32.toInt (R146 1 3 (by omega))
            have e218 : (fv P201 1 1).toInt = (fv P140 1 1).toInt := congrArg Int32.toInt (R207.2 1 1 (by omega))
            have e219 : (fv P201 1 2).toInt = (fv P140 1 2).toInt := congrArg Int32.toInt (R207.2 1 2 (by omega))
            have e220 : (fv P201 1 3).toInt = (fv P140 1 3).toInt := congrArg Int32.toInt (R207.2 1 3 (by omega))
            obtain ⟨cs221_, as221_, bs221_, ds221_, es221_, fs221_⟩ := (g123.2.2.resolve_right (by omega)).2
            have hs221_ := g143.2.2
            rw [bs221_, es221_] at hs221_
            have u211 : KPX Po P201 ∧ addC Po P201 x203.toInt t1.toInt t2.toInt t3.toInt := ⟨⟨by rw [R207.1, R146 0 8 (by omega), R126 0 8 (by omega)], fun x j hx => by rw [R207.2 x j (by omega), R146 x j (by omega), R126 x j (by omega)]⟩, (show (x203.toInt = -1002 ∧ (∀ c : Nat, ¬ (okSz t1.toInt t2.toInt c ∧ okCr t3.toInt (nC t1.toInt c))) ∧ NCH Po P201) ∨ (x203.toInt = -1003 ∧ (∃ c : Nat, okSz t1.toInt t2.toInt c ∧ okCr t3.toInt (nC t1.toInt c)) ∧ 8 ≤ (fv Po 1 1).toInt ∧ NCH Po P201) ∨ ((fv Po 1 1).toInt ≤ 7 ∧ x203.toInt = (fv Po 1 1).toInt ∧ PSH Po P201 ∧ (fv P201 1 1).toInt = (fv Po 1 1).toInt + 1 ∧ (fv P201 1 2).toInt = (fv Po 1 2).toInt ∧ (fv P201 1 3).toInt = (fv Po 1 3).toInt ∧ (∃ c : Nat, okSz t1.toInt t2.toInt c ∧ okCr t3.toInt (nC t1.toInt c) ∧ (fv P201 (rv Po 2 (fv Po 1 1).toInt.toNat) 0).toInt = t1.toInt ∧ (fv P201 (rv Po 2 (fv Po 1 1).toInt.toNat) 2).toInt = 0 ∧ (fv P201 (rv Po 2 (fv Po 1 1).toInt.toNat) 1).toInt = (c : Int) ∧ (∀ j : Nat, j < c → fv P201 ((rv Po 2 (fv Po 1 1).toInt.toNat) + 1) j = dgI t2.toInt c j) ∧ ∀ j : Nat, j < nC t1.toInt c → fv P201 ((rv Po 2 (fv Po 1 1).toInt.toNat) + 2) j = dgI t3.toInt (nC t1.toInt c) j) ∧ (∀ k : Nat, k < 8 → ¬ (k : Int) = (fv Po 1 1).toInt → PEx P201 Po (rv Po 2 k) 0) ∧ ∀ k : Nat, rv P201 2 k = rv Po 2 k) from by exact Or.inr (Or.inl (⟨by omega, ⟨cs221_, as221_, (hs221_.resolve_right (by omega)).2.1⟩, by omega, ⟨fun x j h1 h2 => by rw [R207.2 x j (by omega), R146 x j (by omega), R126 x j (by omega)], fun k => by rw [k206.2.2 rfl k, k145.2.2 rfl k, k125.2.2 rfl k]⟩⟩)))⟩
            exact mp_iret ⟨⟨_, rfl, u211⟩, hT205, k208, J210, trivial⟩ dX6_add_59 (Or.inl rfl)
        · have c151 : x142.toInt = 0 := ti_ne_n c151
          refine mp_a (a_sipush (v := -1002) dX6_add_36 rfl) (mpp 39 rfl ?_)
          have e223 : (fv P120 1 1).toInt = (fv Po 1 1).toInt := congrArg Int32.toInt (R126 1 1 (by omega))
          have e224 : (fv P120 1 2).toInt = (fv Po 1 2).toInt := congrArg Int32.toInt (R126 1 2 (by omega))
          have e225 : (fv P120 1 3).toInt = (fv Po 1 3).toInt := congrArg Int32.toInt (R126 1 3 (by omega))
          have e226 : (fv P140 1 1).toInt = (fv P120 1 1).toInt := congrArg Int32.toInt (R146 1 1 (by omega))
          have e227 : (fv P140 1 2).toInt = (fv P120 1 2).toInt := congrArg Int32.toInt (R146 1 2 (by omega))
          have e228 : (fv P140 1 3).toInt = (fv P120 1 3).toInt := congrArg Int32.toInt (R146 1 3 (by omega))
          obtain ⟨cs230_, as230_, bs230_, ds230_, es230_, fs230_⟩ := (g123.2.2.resolve_right (by omega)).2
          have hs230_ := g143.2.2
          rw [bs230_, es230_] at hs230_
          have u222 : KPX Po P140 ∧ addC Po P140 (-1002 : Int) t1.toInt t2.toInt t3.toInt := ⟨⟨by rw [R146 0 8 (by omega), R126 0 8 (by omega)], fun x j hx => by rw [R146 x j (by omega), R126 x j (by omega)]⟩, (show ((-1002 : Int) = -1002 ∧ (∀ c : Nat, ¬ (okSz t1.toInt t2.toInt c ∧ okCr t3.toInt (nC t1.toInt c))) ∧ NCH Po P140) ∨ ((-1002 : Int) = -1003 ∧ (∃ c : Nat, okSz t1.toInt t2.toInt c ∧ okCr t3.toInt (nC t1.toInt c)) ∧ 8 ≤ (fv Po 1 1).toInt ∧ NCH Po P140) ∨ ((fv Po 1 1).toInt ≤ 7 ∧ (-1002 : Int) = (fv Po 1 1).toInt ∧ PSH Po P140 ∧ (fv P140 1 1).toInt = (fv Po 1 1).toInt + 1 ∧ (fv P140 1 2).toInt = (fv Po 1 2).toInt ∧ (fv P140 1 3).toInt = (fv Po 1 3).toInt ∧ (∃ c : Nat, okSz t1.toInt t2.toInt c ∧ okCr t3.toInt (nC t1.toInt c) ∧ (fv P140 (rv Po 2 (fv Po 1 1).toInt.toNat) 0).toInt = t1.toInt ∧ (fv P140 (rv Po 2 (fv Po 1 1).toInt.toNat) 2).toInt = 0 ∧ (fv P140 (rv Po 2 (fv Po 1 1).toInt.toNat) 1).toInt = (c : Int) ∧ (∀ j : Nat, j < c → fv P140 ((rv Po 2 (fv Po 1 1).toInt.toNat) + 1) j = dgI t2.toInt c j) ∧ ∀ j : Nat, j < nC t1.toInt c → fv P140 ((rv Po 2 (fv Po 1 1).toInt.toNat) + 2) j = dgI t3.toInt (nC t1.toInt c) j) ∧ (∀ k : Nat, k < 8 → ¬ (k : Int) = (fv Po 1 1).toInt → PEx P140 Po (rv Po 2 k) 0) ∧ ∀ k : Nat, rv P140 2 k = rv Po 2 k) from by exact Or.inl (⟨by omega, fun c h => by have e := h.1.1.1.uniq as230_.1.1; subst e; exact (hs230_.resolve_left (by omega)).2 h.2, ⟨fun x j h1 h2 => by rw [R146 x j (by omega), R126 x j (by omega)], fun k => by rw [k145.2.2 rfl k, k125.2.2 rfl k]⟩⟩))⟩
          exact mp_iret ⟨⟨_, rfl, u222⟩, hT144, k147, J149, trivial⟩ dX6_add_39 (Or.inl rfl)
    · have c116 : t1.toInt ≠ 1 := ti_eq_n c116
      refine mp_a (a_sipush (v := -1002) dX6_add_9 rfl) (mpp 12 rfl ?_)
      have u231 : KPX Po Po ∧ addC Po Po (-1002 : Int) t1.toInt t2.toInt t3.toInt := ⟨⟨rfl, fun x j hx => rfl⟩, (show ((-1002 : Int) = -1002 ∧ (∀ c : Nat, ¬ (okSz t1.toInt t2.toInt c ∧ okCr t3.toInt (nC t1.toInt c))) ∧ NCH Po Po) ∨ ((-1002 : Int) = -1003 ∧ (∃ c : Nat, okSz t1.toInt t2.toInt c ∧ okCr t3.toInt (nC t1.toInt c)) ∧ 8 ≤ (fv Po 1 1).toInt ∧ NCH Po Po) ∨ ((fv Po 1 1).toInt ≤ 7 ∧ (-1002 : Int) = (fv Po 1 1).toInt ∧ PSH Po Po ∧ (fv Po 1 1).toInt = (fv Po 1 1).toInt + 1 ∧ (fv Po 1 2).toInt = (fv Po 1 2).toInt ∧ (fv Po 1 3).toInt = (fv Po 1 3).toInt ∧ (∃ c : Nat, okSz t1.toInt t2.toInt c ∧ okCr t3.toInt (nC t1.toInt c) ∧ (fv Po (rv Po 2 (fv Po 1 1).toInt.toNat) 0).toInt = t1.toInt ∧ (fv Po (rv Po 2 (fv Po 1 1).toInt.toNat) 2).toInt = 0 ∧ (fv Po (rv Po 2 (fv Po 1 1).toInt.toNat) 1).toInt = (c : Int) ∧ (∀ j : Nat, j < c → fv Po ((rv Po 2 (fv Po 1 1).toInt.toNat) + 1) j = dgI t2.toInt c j) ∧ ∀ j : Nat, j < nC t1.toInt c → fv Po ((rv Po 2 (fv Po 1 1).toInt.toNat) + 2) j = dgI t3.toInt (nC t1.toInt c) j) ∧ (∀ k : Nat, k < 8 → ¬ (k : Int) = (fv Po 1 1).toInt → PEx Po Po (rv Po 2 k) 0) ∧ ∀ k : Nat, rv Po 2 k = rv Po 2 k) from by exact Or.inl (⟨by omega, fun c h => by rcases h.1.2 with o0 | o0 <;> omega, ⟨fun x j h1 h2 => rfl, fun k => rfl⟩⟩))⟩
      exact mp_iret ⟨⟨_, rfl, u231⟩, hT, KW.refl, hJ, trivial⟩ dX6_add_12 (Or.inl rfl)

set_option maxHeartbeats 4000000 in
theorem c_CP_creaseCount_NPiece {Po : mP} {a0_ : Nat} (hT : Typ Po) (hX : XR Po)  (ha0 : rl a0_ = 33) : EvP 1 25 [.ref a0_] Po (fun r P' => (∃ x : Int32, r = some (.int x) ∧ (-1 ≤ x.toInt ∧ x.toInt ≤ (fv Po a0_ 1).toInt ∧ (((fv Po a0_ 0).toInt = 0 ∧ x.toInt = (fv Po a0_ 1).toInt - 1) ∨ ((fv Po a0_ 0).toInt ≠ 0 ∧ x.toInt = (fv Po a0_ 1).toInt)))) ∧ P' = Po) := by
  refine EvP.of qm_25 (Nat.le_of_ble_eq_true rfl) rfl ?_
  show MEvP _ none q_25 0 [(0, .ref a0_)] [] _ 0 0 _
  have w1 := np_ar ha0
  have g2 : (0 : Int) ≤ (fv Po a0_ 1).toInt ∧ (fv Po a0_ 1).toInt ≤ 8 := Typ.rng hT ha0 (by decide) (by decide) rfl
  have g3 := ti_full (fv Po a0_ 0)
  refine mp_a (a_aload_n dX2_creaseCount_0 rfl) (mpp 1 rfl ?_)
  refine mt_getI (i := 18) (k := 0) hT dX2_creaseCount_1 rfl ha0 (by decide) rfl (by decide) rfl (fun g4 g5 => mpp 4 rfl ?_)
  refine mp_Tb (t := 16) (j_if_ne dX2_creaseCount_4) (by decide) (fun c6 => ?_) (fun c6 => mpp 7 rfl ?_)
  · have c6 : (fv Po a0_ 0).toInt ≠ 0 := ti_ne c6
    refine mp_a (a_aload_n dX2_creaseCount_16 rfl) (mpp 17 rfl ?_)
    refine mt_getI (i := 26) (k := 1) hT dX2_creaseCount_17 rfl ha0 (by decide) rfl (by decide) rfl (fun g7 g8 => mpp 20 rfl ?_)
    have u9 : -1 ≤ (fv Po a0_ 1).toInt ∧ (fv Po a0_ 1).toInt ≤ (fv Po a0_ 1).toInt ∧ (((fv Po a0_ 0).toInt = 0 ∧ (fv Po a0_ 1).toInt = (fv Po a0_ 1).toInt - 1) ∨ ((fv Po a0_ 0).toInt ≠ 0 ∧ (fv Po a0_ 1).toInt = (fv Po a0_ 1).toInt)) := by omega
    exact mp_iret ⟨⟨_, rfl, u9⟩, rfl⟩ dX2_creaseCount_20 (Or.inl rfl)
  · have c6 : (fv Po a0_ 0).toInt = 0 := ti_ne_n c6
    refine mp_a (a_aload_n dX2_creaseCount_7 rfl) (mpp 8 rfl ?_)
    refine mt_getI (i := 26) (k := 1) hT dX2_creaseCount_8 rfl ha0 (by decide) rfl (by decide) rfl (fun g10 g11 => mpp 11 rfl ?_)
    refine mp_a (a_iconst (v := 1) dX2_creaseCount_11 rfl) (mpp 12 rfl ?_)
    obtain ⟨z12, h13⟩ := ti_ex ((fv Po a0_ 1) - 1 : Int32)
    have wz12 := ti_full z12
    refine mp_t (s_isub (v := z12) dX2_creaseCount_12 h13) (mpp 13 rfl ?_)
    try have e14 : z12.toInt = (fv Po a0_ 1).toInt - 1 := ti_subz h13 rfl rfl (by omega) (by omega)
    refine mp_a (a_goto (t := 20) dX2_creaseCount_13 (by decide)) ?_
    have u15 : -1 ≤ z12.toInt ∧ z12.toInt ≤ (fv Po a0_ 1).toInt ∧ (((fv Po a0_ 0).toInt = 0 ∧ z12.toInt = (fv Po a0_ 1).toInt - 1) ∨ ((fv Po a0_ 0).toInt ≠ 0 ∧ z12.toInt = (fv Po a0_ 1).toInt)) := by omega
    exact mp_iret ⟨⟨_, rfl, u15⟩, rfl⟩ dX2_creaseCount_20 (Or.inl rfl)

set_option maxHeartbeats 4000000 in
theorem c_CP_hasCrease_NPiece {Po : mP} {a0_ : Nat} {t1 : Int32} (hT : Typ Po) (hX : XR Po)  (ha0 : rl a0_ = 33) : EvP 2 29 [.ref a0_, .int t1] Po (fun r P' => (∃ x : Int32, r = some (.int x) ∧ (0 ≤ x.toInt ∧ x.toInt ≤ 1 ∧ ((x.toInt = 0 ∧ (t1.toInt < 0 ∨ ((fv Po a0_ 0).toInt = 0 ∧ (fv Po a0_ 1).toInt - 1 ≤ t1.toInt) ∨ ((fv Po a0_ 0).toInt ≠ 0 ∧ (fv Po a0_ 1).toInt ≤ t1.toInt))) ∨ (x.toInt = 1 ∧ 0 ≤ t1.toInt ∧ t1.toInt + 1 ≤ (fv Po a0_ 1).toInt ∧ (((fv Po a0_ 0).toInt = 0 ∧ t1.toInt < (fv Po a0_ 1).toInt - 1) ∨ ((fv Po a0_ 0).toInt ≠ 0 ∧ t1.toInt < (fv Po a0_ 1).toInt)))))) ∧ P' = Po) := by
  refine EvP.of qm_29 (Nat.le_of_ble_eq_true rfl) rfl ?_
  show MEvP _ none q_29 0 [(0, .ref a0_), (1, .int t1)] [] _ 0 0 _
  have w1 := np_ar ha0
  have w_t1 := ti_full t1
  have g2 := ti_full (fv Po a0_ 0)
  have g3 : (0 : Int) ≤ (fv Po a0_ 1).toInt ∧ (fv Po a0_ 1).toInt ≤ 8 := Typ.rng hT ha0 (by decide) (by decide) rfl
  refine mp_a (a_iload_n dX2_hasCrease_0 rfl) (mpp 1 rfl ?_)
  refine mp_Tb (t := 16) (j_if_lt dX2_hasCrease_1) (by decide) (fun c4 => ?_) (fun c4 => mpp 4 rfl ?_)
  · have c4 : t1.toInt < 0 := ti_lt c4
    refine mp_a (a_iconst (v := 0) dX2_hasCrease_16 rfl) (mpp 17 rfl ?_)
    have u5 : 0 ≤ (0 : Int) ∧ (0 : Int) ≤ 1 ∧ (((0 : Int) = 0 ∧ (t1.toInt < 0 ∨ ((fv Po a0_ 0).toInt = 0 ∧ (fv Po a0_ 1).toInt - 1 ≤ t1.toInt) ∨ ((fv Po a0_ 0).toInt ≠ 0 ∧ (fv Po a0_ 1).toInt ≤ t1.toInt))) ∨ ((0 : Int) = 1 ∧ 0 ≤ t1.toInt ∧ t1.toInt + 1 ≤ (fv Po a0_ 1).toInt ∧ (((fv Po a0_ 0).toInt = 0 ∧ t1.toInt < (fv Po a0_ 1).toInt - 1) ∨ ((fv Po a0_ 0).toInt ≠ 0 ∧ t1.toInt < (fv Po a0_ 1).toInt)))) := by omega
    exact mp_iret ⟨⟨_, rfl, u5⟩, rfl⟩ dX2_hasCrease_17 (Or.inr ⟨rfl, by decide⟩)
  · have c4 : t1.toInt ≥ 0 := ti_lt_n c4
    refine mp_a (a_iload_n dX2_hasCrease_4 rfl) (mpp 5 rfl ?_)
    refine mp_a (a_aload_n dX2_hasCrease_5 rfl) (mpp 6 rfl ?_)
    refine mt_callv (i := 37) (q' := q_25) (As := []) (rest := [.int t1]) hT dX2_hasCrease_6 rfl qm_25 (by decide) rfl ha0 (by decide) rfl (Nat.le_of_ble_eq_true rfl) rfl ⟨rfl, rfl⟩ ⟨Nat.le_of_ble_eq_true rfl, Nat.le_of_ble_eq_true rfl⟩ (EvP.mono (by decide) (c_CP_creaseCount_NPiece hT hX ha0)) (fun r6 P7 g8 => mpp 9 rfl ?_)
    obtain ⟨⟨x9, rfl, g10⟩, e11⟩ := g8
    have e11 := e11.symm
    subst e11
    have wx9 := ti_full x9
    replace g10 : -1 ≤ x9.toInt ∧ x9.toInt ≤ (fv Po a0_ 1).toInt ∧ (((fv Po a0_ 0).toInt = 0 ∧ x9.toInt = (fv Po a0_ 1).toInt - 1) ∨ ((fv Po a0_ 0).toInt ≠ 0 ∧ x9.toInt = (fv Po a0_ 1).toInt)) := g10
    show MEvP _ none q_29 9 [(0, .ref a0_), (1, .int t1)] [.int x9, .int t1] _ _ _ _
    refine mp_Tb (t := 16) (j_icmp_ge dX2_hasCrease_9) (by decide) (fun c12 => ?_) (fun c12 => mpp 12 rfl ?_)
    · have c12 : t1.toInt ≥ x9.toInt := ti_ge c12
      refine mp_a (a_iconst (v := 0) dX2_hasCrease_16 rfl) (mpp 17 rfl ?_)
      have u13 : 0 ≤ (0 : Int) ∧ (0 : Int) ≤ 1 ∧ (((0 : Int) = 0 ∧ (t1.toInt < 0 ∨ ((fv Po a0_ 0).toInt = 0 ∧ (fv Po a0_ 1).toInt - 1 ≤ t1.toInt) ∨ ((fv Po a0_ 0).toInt ≠ 0 ∧ (fv Po a0_ 1).toInt ≤ t1.toInt))) ∨ ((0 : Int) = 1 ∧ 0 ≤ t1.toInt ∧ t1.toInt + 1 ≤ (fv Po a0_ 1).toInt ∧ (((fv Po a0_ 0).toInt = 0 ∧ t1.toInt < (fv Po a0_ 1).toInt - 1) ∨ ((fv Po a0_ 0).toInt ≠ 0 ∧ t1.toInt < (fv Po a0_ 1).toInt)))) := by omega
      exact mp_iret ⟨⟨_, rfl, u13⟩, rfl⟩ dX2_hasCrease_17 (Or.inr ⟨rfl, by decide⟩)
    · have c12 : t1.toInt < x9.toInt := ti_ge_n c12
      refine mp_a (a_iconst (v := 1) dX2_hasCrease_12 rfl) (mpp 13 rfl ?_)
      refine mp_a (a_goto (t := 17) dX2_hasCrease_13 (by decide)) ?_
      have u14 : 0 ≤ (1 : Int) ∧ (1 : Int) ≤ 1 ∧ (((1 : Int) = 0 ∧ (t1.toInt < 0 ∨ ((fv Po a0_ 0).toInt = 0 ∧ (fv Po a0_ 1).toInt - 1 ≤ t1.toInt) ∨ ((fv Po a0_ 0).toInt ≠ 0 ∧ (fv Po a0_ 1).toInt ≤ t1.toInt))) ∨ ((1 : Int) = 1 ∧ 0 ≤ t1.toInt ∧ t1.toInt + 1 ≤ (fv Po a0_ 1).toInt ∧ (((fv Po a0_ 0).toInt = 0 ∧ t1.toInt < (fv Po a0_ 1).toInt - 1) ∨ ((fv Po a0_ 0).toInt ≠ 0 ∧ t1.toInt < (fv Po a0_ 1).toInt)))) := by omega
      exact mp_iret ⟨⟨_, rfl, u14⟩, rfl⟩ dX2_hasCrease_17 (Or.inr ⟨rfl, by decide⟩)

set_option maxHeartbeats 4000000 in
theorem c_F_at_creases {Po : mP} {a0_ : Nat} {t1 : Int32} (hT : Typ Po) (hX : XR Po)  (ha0 : rl a0_ = 5) : EvP 1 12 [.ref a0_, .int t1] Po (fun r P' => (∃ x : Int32, r = some (.int x) ∧ ((0 ≤ t1.toInt ∧ t1.toInt ≤ 7 ∧ x.toInt = (fv Po a0_ t1.toInt.toNat).toInt) ∨ ((t1.toInt < 0 ∨ 8 ≤ t1.toInt) ∧ x.toInt = 0))) ∧ P' = Po) := by
  refine EvP.of qm_12 (Nat.le_of_ble_eq_true rfl) rfl ?_
  show MEvP _ none q_12 0 [(0, .ref a0_), (1, .int t1)] [] _ 0 0 _
  have w_t1 := ti_full t1
  refine mp_a (a_iload_n dX6_at_0 rfl) (mpp 1 rfl ?_)
  refine mp_Tb (t := 16) (j_if_lt dX6_at_1) (by decide) (fun c1 => ?_) (fun c1 => mpp 4 rfl ?_)
  · have c1 : t1.toInt < 0 := ti_lt c1
    refine mp_a (a_iconst (v := 0) dX6_at_16 rfl) (mpp 17 rfl ?_)
    have u2 : (0 ≤ t1.toInt ∧ t1.toInt ≤ 7 ∧ (0 : Int) = (fv Po a0_ t1.toInt.toNat).toInt) ∨ ((t1.toInt < 0 ∨ 8 ≤ t1.toInt) ∧ (0 : Int) = 0) := by omega
    exact mp_iret ⟨⟨_, rfl, u2⟩, rfl⟩ dX6_at_17 (Or.inl rfl)
  · have c1 : t1.toInt ≥ 0 := ti_lt_n c1
    refine mp_a (a_iload_n dX6_at_4 rfl) (mpp 5 rfl ?_)
    refine mp_a (a_aload_n dX6_at_5 rfl) (mpp 6 rfl ?_)
    refine mt_len (n := 8) hT dX6_at_6 ha0 (by decide) (by decide) rfl (mpp 7 rfl ?_)
    refine mp_Tb (t := 16) (j_icmp_ge dX6_at_7) (by decide) (fun c3 => ?_) (fun c3 => mpp 10 rfl ?_)
    · have c3 : t1.toInt ≥ 8 := ti_ge c3
      refine mp_a (a_iconst (v := 0) dX6_at_16 rfl) (mpp 17 rfl ?_)
      have u4 : (0 ≤ t1.toInt ∧ t1.toInt ≤ 7 ∧ (0 : Int) = (fv Po a0_ t1.toInt.toNat).toInt) ∨ ((t1.toInt < 0 ∨ 8 ≤ t1.toInt) ∧ (0 : Int) = 0) := by omega
      exact mp_iret ⟨⟨_, rfl, u4⟩, rfl⟩ dX6_at_17 (Or.inl rfl)
    · have c3 : t1.toInt < 8 := ti_ge_n c3
      refine mp_a (a_aload_n dX6_at_10 rfl) (mpp 11 rfl ?_)
      refine mp_a (a_iload_n dX6_at_11 rfl) (mpp 12 rfl ?_)
      refine mt_ial (n := 8) hT dX6_at_12 ha0 (by decide) rfl rfl (by omega) (by omega) rfl (fun g5 g6 => mpp 13 rfl ?_)
      refine mp_a (a_goto (t := 17) dX6_at_13 (by decide)) ?_
      have u7 : (0 ≤ t1.toInt ∧ t1.toInt ≤ 7 ∧ (fv Po a0_ t1.toInt.toNat).toInt = (fv Po a0_ t1.toInt.toNat).toInt) ∨ ((t1.toInt < 0 ∨ 8 ≤ t1.toInt) ∧ (fv Po a0_ t1.toInt.toNat).toInt = 0) := by omega
      exact mp_iret ⟨⟨_, rfl, u7⟩, rfl⟩ dX6_at_17 (Or.inl rfl)

set_option maxHeartbeats 4000000 in
theorem c_F_mark {Po : mP} {t1 : Int32} {t2 : Int32} {t3 : Int32} (hT : Typ Po) (hX : XR Po)  (hJ : Inj Po)  : EvP 5 28 [.ref 0, .int t1, .int t2, .int t3] Po (fun r P' => (∃ x : Int32, r = some (.int x) ∧ (KPX Po P' ∧ markC Po P' x.toInt t1.toInt t2.toInt t3.toInt)) ∧ Typ P' ∧ KW [10, 11, 12, 65, 66, 67, 192, 193, 194, 256, 320, 385, 386] Po P' ∧ Inj P' ∧ True) := by
  refine EvP.of qm_28 (Nat.le_of_ble_eq_true rfl) rfl ?_
  show MEvP _ none q_28 0 [(0, .ref 0), (1, .int t1), (2, .int t2), (3, .int t3)] [] _ 0 0 _
  have w_t1 := ti_full t1
  have w_t2 := ti_full t2
  have w_t3 := ti_full t3
  refine mp_a (a_aload_n dX6_mark_0 rfl) (mpp 1 rfl ?_)
  refine mt_getU (i := 10) (k := 0) (A := 1) hT dX6_mark_1 rfl rl_0 (by decide) rfl (by decide) rfl un_31 (mpp 4 rfl ?_)
  refine mp_a (a_iload_n dX6_mark_4 rfl) (mpp 5 rfl ?_)
  refine mt_callv (i := 94) (q' := q_9) (As := [.int t1]) (rest := []) hT dX6_mark_5 rfl qm_9 (by decide) rfl rl_1 (by decide) rfl (Nat.le_of_ble_eq_true rfl) rfl ⟨rfl, rfl⟩ ⟨Nat.le_of_ble_eq_true rfl, Nat.le_of_ble_eq_true rfl⟩ (EvP.mono (by decide) (c_CS_pieceAt_NState hT hX )) (fun r1 P2 g3 => mpp 8 rfl ?_)
  obtain ⟨g3, e4⟩ := g3
  have e4 := e4.symm
  subst e4
  rcases g3 with ⟨rfl, q6n⟩ | ⟨b5, rfl, q6, q6r⟩
  · show MEvP _ none q_28 8 [(0, .ref 0), (1, .int t1), (2, .int t2), (3, .int t3)] [.null] _ _ _ _
    replace q6n : t1.toInt < 0 ∨ (fv Po 1 1).toInt ≤ t1.toInt ∨ 8 ≤ t1.toInt := q6n
    have g7 : (0 : Int) ≤ (fv Po 1 1).toInt ∧ (fv Po 1 1).toInt ≤ 8 := Typ.rng hT rl_1 (by decide) (by decide) rfl
    refine mp_a (a_astoreN (L' := [(4, .null), (0, .ref 0), (1, .int t1), (2, .int t2), (3, .int t3)]) dX6_mark_8 (by decide) rfl) (mpp 10 rfl ?_)
    refine mp_a (a_aloadN dX6_mark_10 rfl) (mpp 12 rfl ?_)
    refine mp_t (s_ifnullN (t := 24) dX6_mark_12 (by decide)) ?_
    refine mp_a (a_sipush (v := -1001) dX6_mark_24 rfl) (mpp 27 rfl ?_)
    have u8 : KPX Po Po ∧ markC Po Po (-1001 : Int) t1.toInt t2.toInt t3.toInt := ⟨⟨rfl, fun x j hx => rfl⟩, (show ((-1001 : Int) = -1001 ∧ ((t1.toInt < 0 ∨ (fv Po 1 1).toInt ≤ t1.toInt ∨ 8 ≤ t1.toInt) ∨ ((0 ≤ t1.toInt ∧ t1.toInt + 1 ≤ (fv Po 1 1).toInt ∧ t1.toInt ≤ 7) ∧ (t2.toInt < 0 ∨ ((fv Po (rv Po 2 t1.toInt.toNat) 0).toInt = 0 ∧ (fv Po (rv Po 2 t1.toInt.toNat) 1).toInt - 1 ≤ t2.toInt) ∨ ((fv Po (rv Po 2 t1.toInt.toNat) 0).toInt ≠ 0 ∧ (fv Po (rv Po 2 t1.toInt.toNat) 1).toInt ≤ t2.toInt)))) ∧ NCH Po Po) ∨ ((-1001 : Int) = -1002 ∧ (0 ≤ t1.toInt ∧ t1.toInt + 1 ≤ (fv Po 1 1).toInt ∧ t1.toInt ≤ 7) ∧ (0 ≤ t2.toInt ∧ (((fv Po (rv Po 2 t1.toInt.toNat) 0).toInt = 0 ∧ t2.toInt < (fv Po (rv Po 2 t1.toInt.toNat) 1).toInt - 1) ∨ ((fv Po (rv Po 2 t1.toInt.toNat) 0).toInt ≠ 0 ∧ t2.toInt < (fv Po (rv Po 2 t1.toInt.toNat) 1).toInt))) ∧ (t3.toInt < 0 ∨ 2 < t3.toInt) ∧ NCH Po Po) ∨ ((-1001 : Int) = -1003 ∧ (0 ≤ t1.toInt ∧ t1.toInt + 1 ≤ (fv Po 1 1).toInt ∧ t1.toInt ≤ 7) ∧ (0 ≤ t2.toInt ∧ (((fv Po (rv Po 2 t1.toInt.toNat) 0).toInt = 0 ∧ t2.toInt < (fv Po (rv Po 2 t1.toInt.toNat) 1).toInt - 1) ∨ ((fv Po (rv Po 2 t1.toInt.toNat) 0).toInt ≠ 0 ∧ t2.toInt < (fv Po (rv Po 2 t1.toInt.toNat) 1).toInt))) ∧ (0 ≤ t3.toInt ∧ t3.toInt ≤ 2) ∧ (fv Po (rv Po 2 t1.toInt.toNat) 2).toInt = 1 ∧ NCH Po Po) ∨ ((0 ≤ t1.toInt ∧ t1.toInt + 1 ≤ (fv Po 1 1).toInt ∧ t1.toInt ≤ 7) ∧ (0 ≤ t2.toInt ∧ (((fv Po (rv Po 2 t1.toInt.toNat) 0).toInt = 0 ∧ t2.toInt < (fv Po (rv Po 2 t1.toInt.toNat) 1).toInt - 1) ∨ ((fv Po (rv Po 2 t1.toInt.toNat) 0).toInt ≠ 0 ∧ t2.toInt < (fv Po (rv Po 2 t1.toInt.toNat) 1).toInt))) ∧ (0 ≤ t3.toInt ∧ t3.toInt ≤ 2) ∧ (fv Po (rv Po 2 t1.toInt.toNat) 2).toInt = 0 ∧ (-1001 : Int) = (fv Po ((rv Po 2 t1.toInt.toNat) + 2) t2.toInt.toNat).toInt ∧ PSH Po Po ∧ (fv Po ((rv Po 2 t1.toInt.toNat) + 2) t2.toInt.toNat).toInt = t3.toInt ∧ (∀ x j : Nat, 1 ≤ x → x < 27 → ¬ (x = ((rv Po 2 t1.toInt.toNat) + 2) ∧ j = t2.toInt.toNat) → fv Po x j = fv Po x j) ∧ ∀ k : Nat, rv Po 2 k = rv Po 2 k) from by exact Or.inl (⟨by omega, by omega, ⟨fun x j h1 h2 => rfl, fun k => rfl⟩⟩))⟩
    exact mp_iret ⟨⟨_, rfl, u8⟩, hT, KW.refl, hJ, trivial⟩ dX6_mark_27 (Or.inl rfl)
  · show MEvP _ none q_28 8 [(0, .ref 0), (1, .int t1), (2, .int t2), (3, .int t3)] [.ref b5] _ _ _ _
    replace q6r : 0 ≤ t1.toInt ∧ t1.toInt ≤ 7 ∧ t1.toInt + 1 ≤ (fv Po 1 1).toInt ∧ rv Po 2 t1.toInt.toNat = b5 := q6r
    have g9 : (0 : Int) ≤ (fv Po 1 1).toInt ∧ (fv Po 1 1).toInt ≤ 8 := Typ.rng hT rl_1 (by decide) (by decide) rfl
    have w10 := np_ar q6
    refine mp_a (a_astore (L' := [(4, .ref b5), (0, .ref 0), (1, .int t1), (2, .int t2), (3, .int t3)]) dX6_mark_8 (by decide) rfl) (mpp 10 rfl ?_)
    refine mp_a (a_aload dX6_mark_10 rfl) (mpp 12 rfl ?_)
    refine mp_t (s_ifnullR dX6_mark_12) (mpp 15 rfl ?_)
    refine mp_a (a_aload dX6_mark_15 rfl) (mpp 17 rfl ?_)
    refine mp_a (a_iload_n dX6_mark_17 rfl) (mpp 18 rfl ?_)
    refine mt_callv (i := 98) (q' := q_29) (As := [.int t2]) (rest := []) hT dX6_mark_18 rfl qm_29 (by decide) rfl q6 (by decide) rfl (Nat.le_of_ble_eq_true rfl) rfl ⟨rfl, rfl⟩ ⟨Nat.le_of_ble_eq_true rfl, Nat.le_of_ble_eq_true rfl⟩ (EvP.mono (by decide) (c_CP_hasCrease_NPiece hT hX q6)) (fun r11 P12 g13 => mpp 21 rfl ?_)
    obtain ⟨⟨x14, rfl, g15⟩, e16⟩ := g13
    have e16 := e16.symm
    subst e16
    have wx14 := ti_full x14
    replace g15 : 0 ≤ x14.toInt ∧ x14.toInt ≤ 1 ∧ ((x14.toInt = 0 ∧ (t2.toInt < 0 ∨ ((fv Po b5 0).toInt = 0 ∧ (fv Po b5 1).toInt - 1 ≤ t2.toInt) ∨ ((fv Po b5 0).toInt ≠ 0 ∧ (fv Po b5 1).toInt ≤ t2.toInt))) ∨ (x14.toInt = 1 ∧ 0 ≤ t2.toInt ∧ t2.toInt + 1 ≤ (fv Po b5 1).toInt ∧ (((fv Po b5 0).toInt = 0 ∧ t2.toInt < (fv Po b5 1).toInt - 1) ∨ ((fv Po b5 0).toInt ≠ 0 ∧ t2.toInt < (fv Po b5 1).toInt)))) := g15
    have g17 := ti_full (fv Po b5 0)
    have g18 : (0 : Int) ≤ (fv Po b5 1).toInt ∧ (fv Po b5 1).toInt ≤ 8 := Typ.rng hT q6 (by decide) (by decide) rfl
    show MEvP _ none q_28 21 [(4, .ref b5), (0, .ref 0), (1, .int t1), (2, .int t2), (3, .int t3)] [.int x14] _ _ _ _
    refine mp_Tb (t := 28) (j_if_ne dX6_mark_21) (by decide) (fun c19 => ?_) (fun c19 => mpp 24 rfl ?_)
    · have c19 : x14.toInt ≠ 0 := ti_ne c19
      refine mp_a (a_iload_n dX6_mark_28 rfl) (mpp 29 rfl ?_)
      refine mp_calls (i := 101) (q' := q_26) (As := [.int t3]) (rest := []) dX6_mark_29 rfl qm_26 (by decide) rfl (Nat.le_of_ble_eq_true rfl) rfl ⟨rfl, rfl⟩ ⟨Nat.le_of_ble_eq_true rfl, Nat.le_of_ble_eq_true rfl⟩ (EvP.mono (by decide) (c_F_isCreaseKind hT hX )) (fun r20 P21 g22 => mpp 32 rfl ?_)
      obtain ⟨⟨x23, rfl, g24⟩, e25⟩ := g22
      have e25 := e25.symm
      subst e25
      have wx23 := ti_full x23
      replace g24 : 0 ≤ x23.toInt ∧ x23.toInt ≤ 1 ∧ ((x23.toInt = 1 ∧ 0 ≤ t3.toInt ∧ t3.toInt ≤ 2) ∨ (x23.toInt = 0 ∧ (t3.toInt < 0 ∨ 2 < t3.toInt))) := g24
      show MEvP _ none q_28 32 [(4, .ref b5), (0, .ref 0), (1, .int t1), (2, .int t2), (3, .int t3)] [.int x23] _ _ _ _
      refine mp_Tb (t := 39) (j_if_ne dX6_mark_32) (by decide) (fun c26 => ?_) (fun c26 => mpp 35 rfl ?_)
      · have c26 : x23.toInt ≠ 0 := ti_ne c26
        refine mp_a (a_aload dX6_mark_39 rfl) (mpp 41 rfl ?_)
        have g27 : (0 : Int) ≤ (fv Po b5 2).toInt ∧ (fv Po b5 2).toInt ≤ 1 := Typ.rng hT q6 (by decide) (by decide) rfl
        refine mt_getI (i := 104) (k := 2) hT dX6_mark_41 rfl q6 (by decide) rfl (by decide) rfl (fun g28 g29 => mpp 44 rfl ?_)
        refine mp_Tb (t := 54) (j_if_eq dX6_mark_44) (by decide) (fun c30 => ?_) (fun c30 => mpp 47 rfl ?_)
        · have c30 : (fv Po b5 2).toInt = 0 := ti_eq c30
          refine mp_a (a_aload_n dX6_mark_54 rfl) (mpp 55 rfl ?_)
          refine mt_getU (i := 25) (k := 3) (A := 79) hT dX6_mark_55 rfl rl_0 (by decide) rfl (by decide) rfl un_6 (mpp 58 rfl ?_)
          refine mp_a (a_aload_n dX6_mark_58 rfl) (mpp 59 rfl ?_)
          refine mt_getU (i := 10) (k := 0) (A := 1) hT dX6_mark_59 rfl rl_0 (by decide) rfl (by decide) rfl un_31 (mpp 62 rfl ?_)
          refine mt_callv (i := 72) (q' := q_15) (As := [.ref 1]) (rest := []) hT dX6_mark_62 rfl qm_15 (by decide) rfl rl_79 (by decide) rfl (Nat.le_of_ble_eq_true rfl) rfl ⟨rfl, rfl⟩ ⟨Nat.le_of_ble_eq_true rfl, Nat.le_of_ble_eq_true rfl⟩ (EvP.mono (by decide) (c_CH_push_History_NState hT hX hJ )) (fun r31 P32 g33 => mpp 65 rfl ?_)
          obtain ⟨⟨rfl, g35⟩, hT36, k37, J40, R38⟩ := g33
          have k39 : KW [10, 11, 12, 65, 66, 67, 192, 193, 194, 256, 320, 385, 386] Po P32 := KW.trans KW.refl k37 rfl
          show MEvP _ none q_28 65 [(4, .ref b5), (0, .ref 0), (1, .int t1), (2, .int t2), (3, .int t3)] [] _ _ _ _
          refine mp_a (a_aload dX6_mark_65 rfl) (mpp 67 rfl ?_)
          refine mt_getE (i := 108) (k := 4) hT36 dX6_mark_67 rfl q6 (by decide) rfl (by decide) rfl ((KW.xr k39 hX).1 b5 (Or.inr q6)).2 (fun q41 => mpp 70 rfl ?_)
          refine mp_a (a_iload_n dX6_mark_70 rfl) (mpp 71 rfl ?_)
          refine mp_calls (i := 112) (q' := q_12) (As := [.ref (b5 + 2), .int t2]) (rest := []) dX6_mark_71 rfl qm_12 (by decide) rfl (Nat.le_of_ble_eq_true rfl) rfl ⟨rfl, rfl⟩ ⟨Nat.le_of_ble_eq_true rfl, Nat.le_of_ble_eq_true rfl⟩ (EvP.mono (by decide) (c_F_at_creases hT36 (KW.xr k39 hX) q41)) (fun r42 P43 g44 => mpp 74 rfl ?_)
          obtain ⟨⟨x45, rfl, g46⟩, e47⟩ := g44
          have e47 := e47.symm
          subst e47
          have wx45 := ti_full x45
          replace g46 : (0 ≤ t2.toInt ∧ t2.toInt ≤ 7 ∧ x45.toInt = (fv P32 (b5 + 2) t2.toInt.toNat).toInt) ∨ ((t2.toInt < 0 ∨ 8 ≤ t2.toInt) ∧ x45.toInt = 0) := g46
          try replace g46 : x45.toInt = (fv P32 (b5 + 2) t2.toInt.toNat).toInt := (g46.resolve_right (by omega)).2.2
          show MEvP _ none q_28 74 [(4, .ref b5), (0, .ref 0), (1, .int t1), (2, .int t2), (3, .int t3)] [.int x45] _ _ _ _
          refine mp_a (a_istore (L' := [(5, .int x45), (4, .ref b5), (0, .ref 0), (1, .int t1), (2, .int t2), (3, .int t3)]) dX6_mark_74 (by decide) rfl) (mpp 76 rfl ?_)
          refine mp_a (a_aload dX6_mark_76 rfl) (mpp 78 rfl ?_)
          refine mt_getE (i := 108) (k := 4) hT36 dX6_mark_78 rfl q6 (by decide) rfl (by decide) rfl ((KW.xr k39 hX).1 b5 (Or.inr q6)).2 (fun q48 => mpp 81 rfl ?_)
          refine mp_a (a_iload_n dX6_mark_81 rfl) (mpp 82 rfl ?_)
          refine mp_a (a_iload_n dX6_mark_82 rfl) (mpp 83 rfl ?_)
          refine mp_calls (i := 116) (q' := q_22) (As := [.ref (b5 + 2), .int t2, .int t3]) (rest := []) dX6_mark_83 rfl qm_22 (by decide) rfl (Nat.le_of_ble_eq_true rfl) rfl ⟨rfl, rfl⟩ ⟨Nat.le_of_ble_eq_true rfl, Nat.le_of_ble_eq_true rfl⟩ (EvP.mono (by decide) (c_F_put_creases hT36 (KW.xr k39 hX) q48)) (fun r49 P50 g51 => mpp 86 rfl ?_)
          obtain ⟨⟨rfl, g53⟩, hT54, k55, R56⟩ := g51
          have k57 : KW [10, 11, 12, 65, 66, 67, 192, 193, 194, 256, 320, 385, 386] Po P50 := KW.trans k39 k55 rfl
          have J59 := Inj.kw J40 k55 rfl
          show MEvP _ none q_28 86 [(5, .int x45), (4, .ref b5), (0, .ref 0), (1, .int t1), (2, .int t2), (3, .int t3)] [] _ _ _ _
          refine mp_a (a_iload dX6_mark_86 rfl) (mpp 88 rfl ?_)
          have e61 : (fv P32 1 1).toInt = (fv Po 1 1).toInt := congrArg Int32.toInt (R38.2.2.2.2.2 1 1 (by omega))
          have e62 : (fv P32 1 2).toInt = (fv Po 1 2).toInt := congrArg Int32.toInt (R38.2.2.2.2.2 1 2 (by omega))
          have e63 : (fv P32 1 3).toInt = (fv Po 1 3).toInt := congrArg Int32.toInt (R38.2.2.2.2.2 1 3 (by omega))
          have e64 : (fv P50 1 1).toInt = (fv P32 1 1).toInt := congrArg Int32.toInt (R56.2.2 1 1 (by omega))
          have e65 : (fv P50 1 2).toInt = (fv P32 1 2).toInt := congrArg Int32.toInt (R56.2.2 1 2 (by omega))
          have e66 : (fv P50 1 3).toInt = (fv P32 1 3).toInt := congrArg Int32.toInt (R56.2.2 1 3 (by omega))
          have u60 : KPX Po P50 ∧ markC Po P50 x45.toInt t1.toInt t2.toInt t3.toInt := ⟨⟨by rw [R56.2.2 0 8 (by omega), R38.2.2.2.2.2 0 8 (by omega)], fun x j hx => by rw [R56.2.1 x j (by omega), R38.2.2.2.2.2 x j (by omega)]⟩, (show (x45.toInt = -1001 ∧ ((t1.toInt < 0 ∨ (fv Po 1 1).toInt ≤ t1.toInt ∨ 8 ≤ t1.toInt) ∨ ((0 ≤ t1.toInt ∧ t1.toInt + 1 ≤ (fv Po 1 1).toInt ∧ t1.toInt ≤ 7) ∧ (t2.toInt < 0 ∨ ((fv Po (rv Po 2 t1.toInt.toNat) 0).toInt = 0 ∧ (fv Po (rv Po 2 t1.toInt.toNat) 1).toInt - 1 ≤ t2.toInt) ∨ ((fv Po (rv Po 2 t1.toInt.toNat) 0).toInt ≠ 0 ∧ (fv Po (rv Po 2 t1.toInt.toNat) 1).toInt ≤ t2.toInt)))) ∧ NCH Po P50) ∨ (x45.toInt = -1002 ∧ (0 ≤ t1.toInt ∧ t1.toInt + 1 ≤ (fv Po 1 1).toInt ∧ t1.toInt ≤ 7) ∧ (0 ≤ t2.toInt ∧ (((fv Po (rv Po 2 t1.toInt.toNat) 0).toInt = 0 ∧ t2.toInt < (fv Po (rv Po 2 t1.toInt.toNat) 1).toInt - 1) ∨ ((fv Po (rv Po 2 t1.toInt.toNat) 0).toInt ≠ 0 ∧ t2.toInt < (fv Po (rv Po 2 t1.toInt.toNat) 1).toInt))) ∧ (t3.toInt < 0 ∨ 2 < t3.toInt) ∧ NCH Po P50) ∨ (x45.toInt = -1003 ∧ (0 ≤ t1.toInt ∧ t1.toInt + 1 ≤ (fv Po 1 1).toInt ∧ t1.toInt ≤ 7) ∧ (0 ≤ t2.toInt ∧ (((fv Po (rv Po 2 t1.toInt.toNat) 0).toInt = 0 ∧ t2.toInt < (fv Po (rv Po 2 t1.toInt.toNat) 1).toInt - 1) ∨ ((fv Po (rv Po 2 t1.toInt.toNat) 0).toInt ≠ 0 ∧ t2.toInt < (fv Po (rv Po 2 t1.toInt.toNat) 1).toInt))) ∧ (0 ≤ t3.toInt ∧ t3.toInt ≤ 2) ∧ (fv Po (rv Po 2 t1.toInt.toNat) 2).toInt = 1 ∧ NCH Po P50) ∨ ((0 ≤ t1.toInt ∧ t1.toInt + 1 ≤ (fv Po 1 1).toInt ∧ t1.toInt ≤ 7) ∧ (0 ≤ t2.toInt ∧ (((fv Po (rv Po 2 t1.toInt.toNat) 0).toInt = 0 ∧ t2.toInt < (fv Po (rv Po 2 t1.toInt.toNat) 1).toInt - 1) ∨ ((fv Po (rv Po 2 t1.toInt.toNat) 0).toInt ≠ 0 ∧ t2.toInt < (fv Po (rv Po 2 t1.toInt.toNat) 1).toInt))) ∧ (0 ≤ t3.toInt ∧ t3.toInt ≤ 2) ∧ (fv Po (rv Po 2 t1.toInt.toNat) 2).toInt = 0 ∧ x45.toInt = (fv Po ((rv Po 2 t1.toInt.toNat) + 2) t2.toInt.toNat).toInt ∧ PSH Po P50 ∧ (fv P50 ((rv Po 2 t1.toInt.toNat) + 2) t2.toInt.toNat).toInt = t3.toInt ∧ (∀ x j : Nat, 1 ≤ x → x < 27 → ¬ (x = ((rv Po 2 t1.toInt.toNat) + 2) ∧ j = t2.toInt.toNat) → fv P50 x j = fv Po x j) ∧ ∀ k : Nat, rv P50 2 k = rv Po 2 k) from by rw [q6r.2.2.2]; exact Or.inr (Or.inr (Or.inr (⟨by omega, by omega, by omega, by omega, by have h0 := congrArg Int32.toInt (show fv P32 (b5 + 2) t2.toInt.toNat = fv Po (b5 + 2) t2.toInt.toNat from by rw [R38.2.2.2.2.2 (b5 + 2) t2.toInt.toNat (by omega)]); omega, PSH.mk (P := Po) (Q := P32) hT R38.1 R38.2.1 R38.2.2.1 R38.2.2.2.1 R38.2.2.2.2.1 (fun x j h1 h2 => by rw [R56.2.1 x j (by omega)]) (fun x j hx => rfl) (fun k => rfl) (Typ.rng hT rl_79 (by decide) (by decide) rfl), R56.1.resolve_left (by omega), fun x j h1 h2 h3 => by rw [R56.2.1 x j h3, R38.2.2.2.2.2 x j (by omega)], fun k => by rw [k55.2.2 rfl k, k37.2.2 rfl k]⟩))))⟩
          exact mp_iret ⟨⟨_, rfl, u60⟩, hT54, k57, J59, trivial⟩ dX6_mark_88 (Or.inl rfl)
        · have c30 : (fv Po b5 2).toInt ≠ 0 := ti_eq_n c30
          refine mp_a (a_aload_n dX6_mark_47 rfl) (mpp 48 rfl ?_)
          refine mp_a (a_iconst (v := 2) dX6_mark_48 rfl) (mpp 49 rfl ?_)
          refine mp_a (a_iload_n dX6_mark_49 rfl) (mpp 50 rfl ?_)
          refine mt_callv (i := 68) (q' := q_14) (As := [.int 2, .int t1]) (rest := []) hT dX6_mark_50 rfl qm_14 (by decide) rfl rl_0 (by decide) rfl (Nat.le_of_ble_eq_true rfl) rfl ⟨rfl, rfl⟩ ⟨Nat.le_of_ble_eq_true rfl, Nat.le_of_ble_eq_true rfl⟩ (EvP.mono (by decide) (c_F_refuse hT hX )) (fun r67 P68 g69 => mpp 53 rfl ?_)
          obtain ⟨⟨x70, rfl, g71⟩, hT72, k73, R74⟩ := g69
          have k75 : KW [10, 11, 12, 65, 66, 67, 192, 193, 194, 256, 320, 385, 386] Po P68 := KW.trans KW.refl k73 rfl
          have J77 := Inj.kw hJ k73 rfl
          have wx70 := ti_full x70
          replace g71 : x70.toInt = -1003 := g71
          show MEvP _ none q_28 53 [(4, .ref b5), (0, .ref 0), (1, .int t1), (2, .int t2), (3, .int t3)] [.int x70] _ _ _ _
          have e79 : (fv P68 1 1).toInt = (fv Po 1 1).toInt := congrArg Int32.toInt (R74.2 1 1 (by omega))
          have e80 : (fv P68 1 2).toInt = (fv Po 1 2).toInt := congrArg Int32.toInt (R74.2 1 2 (by omega))
          have e81 : (fv P68 1 3).toInt = (fv Po 1 3).toInt := congrArg Int32.toInt (R74.2 1 3 (by omega))
          have u78 : KPX Po P68 ∧ markC Po P68 x70.toInt t1.toInt t2.toInt t3.toInt := ⟨⟨by rw [R74.1], fun x j hx => by rw [R74.2 x j (by omega)]⟩, (show (x70.toInt = -1001 ∧ ((t1.toInt < 0 ∨ (fv Po 1 1).toInt ≤ t1.toInt ∨ 8 ≤ t1.toInt) ∨ ((0 ≤ t1.toInt ∧ t1.toInt + 1 ≤ (fv Po 1 1).toInt ∧ t1.toInt ≤ 7) ∧ (t2.toInt < 0 ∨ ((fv Po (rv Po 2 t1.toInt.toNat) 0).toInt = 0 ∧ (fv Po (rv Po 2 t1.toInt.toNat) 1).toInt - 1 ≤ t2.toInt) ∨ ((fv Po (rv Po 2 t1.toInt.toNat) 0).toInt ≠ 0 ∧ (fv Po (rv Po 2 t1.toInt.toNat) 1).toInt ≤ t2.toInt)))) ∧ NCH Po P68) ∨ (x70.toInt = -1002 ∧ (0 ≤ t1.toInt ∧ t1.toInt + 1 ≤ (fv Po 1 1).toInt ∧ t1.toInt ≤ 7) ∧ (0 ≤ t2.toInt ∧ (((fv Po (rv Po 2 t1.toInt.toNat) 0).toInt = 0 ∧ t2.toInt < (fv Po (rv Po 2 t1.toInt.toNat) 1).toInt - 1) ∨ ((fv Po (rv Po 2 t1.toInt.toNat) 0).toInt ≠ 0 ∧ t2.toInt < (fv Po (rv Po 2 t1.toInt.toNat) 1).toInt))) ∧ (t3.toInt < 0 ∨ 2 < t3.toInt) ∧ NCH Po P68) ∨ (x70.toInt = -1003 ∧ (0 ≤ t1.toInt ∧ t1.toInt + 1 ≤ (fv Po 1 1).toInt ∧ t1.toInt ≤ 7) ∧ (0 ≤ t2.toInt ∧ (((fv Po (rv Po 2 t1.toInt.toNat) 0).toInt = 0 ∧ t2.toInt < (fv Po (rv Po 2 t1.toInt.toNat) 1).toInt - 1) ∨ ((fv Po (rv Po 2 t1.toInt.toNat) 0).toInt ≠ 0 ∧ t2.toInt < (fv Po (rv Po 2 t1.toInt.toNat) 1).toInt))) ∧ (0 ≤ t3.toInt ∧ t3.toInt ≤ 2) ∧ (fv Po (rv Po 2 t1.toInt.toNat) 2).toInt = 1 ∧ NCH Po P68) ∨ ((0 ≤ t1.toInt ∧ t1.toInt + 1 ≤ (fv Po 1 1).toInt ∧ t1.toInt ≤ 7) ∧ (0 ≤ t2.toInt ∧ (((fv Po (rv Po 2 t1.toInt.toNat) 0).toInt = 0 ∧ t2.toInt < (fv Po (rv Po 2 t1.toInt.toNat) 1).toInt - 1) ∨ ((fv Po (rv Po 2 t1.toInt.toNat) 0).toInt ≠ 0 ∧ t2.toInt < (fv Po (rv Po 2 t1.toInt.toNat) 1).toInt))) ∧ (0 ≤ t3.toInt ∧ t3.toInt ≤ 2) ∧ (fv Po (rv Po 2 t1.toInt.toNat) 2).toInt = 0 ∧ x70.toInt = (fv Po ((rv Po 2 t1.toInt.toNat) + 2) t2.toInt.toNat).toInt ∧ PSH Po P68 ∧ (fv P68 ((rv Po 2 t1.toInt.toNat) + 2) t2.toInt.toNat).toInt = t3.toInt ∧ (∀ x j : Nat, 1 ≤ x → x < 27 → ¬ (x = ((rv Po 2 t1.toInt.toNat) + 2) ∧ j = t2.toInt.toNat) → fv P68 x j = fv Po x j) ∧ ∀ k : Nat, rv P68 2 k = rv Po 2 k) from by rw [q6r.2.2.2]; exact Or.inr (Or.inr (Or.inl (⟨by omega, by omega, by omega, by omega, by omega, ⟨fun x j h1 h2 => by rw [R74.2 x j (by omega)], fun k => by rw [k73.2.2 rfl k]⟩⟩))))⟩
          exact mp_iret ⟨⟨_, rfl, u78⟩, hT72, k75, J77, trivial⟩ dX6_mark_53 (Or.inl rfl)
      · have c26 : x23.toInt = 0 := ti_ne_n c26
        refine mp_a (a_sipush (v := -1002) dX6_mark_35 rfl) (mpp 38 rfl ?_)
        have u82 : KPX Po Po ∧ markC Po Po (-1002 : Int) t1.toInt t2.toInt t3.toInt := ⟨⟨rfl, fun x j hx => rfl⟩, (show ((-1002 : Int) = -1001 ∧ ((t1.toInt < 0 ∨ (fv Po 1 1).toInt ≤ t1.toInt ∨ 8 ≤ t1.toInt) ∨ ((0 ≤ t1.toInt ∧ t1.toInt + 1 ≤ (fv Po 1 1).toInt ∧ t1.toInt ≤ 7) ∧ (t2.toInt < 0 ∨ ((fv Po (rv Po 2 t1.toInt.toNat) 0).toInt = 0 ∧ (fv Po (rv Po 2 t1.toInt.toNat) 1).toInt - 1 ≤ t2.toInt) ∨ ((fv Po (rv Po 2 t1.toInt.toNat) 0).toInt ≠ 0 ∧ (fv Po (rv Po 2 t1.toInt.toNat) 1).toInt ≤ t2.toInt)))) ∧ NCH Po Po) ∨ ((-1002 : Int) = -1002 ∧ (0 ≤ t1.toInt ∧ t1.toInt + 1 ≤ (fv Po 1 1).toInt ∧ t1.toInt ≤ 7) ∧ (0 ≤ t2.toInt ∧ (((fv Po (rv Po 2 t1.toInt.toNat) 0).toInt = 0 ∧ t2.toInt < (fv Po (rv Po 2 t1.toInt.toNat) 1).toInt - 1) ∨ ((fv Po (rv Po 2 t1.toInt.toNat) 0).toInt ≠ 0 ∧ t2.toInt < (fv Po (rv Po 2 t1.toInt.toNat) 1).toInt))) ∧ (t3.toInt < 0 ∨ 2 < t3.toInt) ∧ NCH Po Po) ∨ ((-1002 : Int) = -1003 ∧ (0 ≤ t1.toInt ∧ t1.toInt + 1 ≤ (fv Po 1 1).toInt ∧ t1.toInt ≤ 7) ∧ (0 ≤ t2.toInt ∧ (((fv Po (rv Po 2 t1.toInt.toNat) 0).toInt = 0 ∧ t2.toInt < (fv Po (rv Po 2 t1.toInt.toNat) 1).toInt - 1) ∨ ((fv Po (rv Po 2 t1.toInt.toNat) 0).toInt ≠ 0 ∧ t2.toInt < (fv Po (rv Po 2 t1.toInt.toNat) 1).toInt))) ∧ (0 ≤ t3.toInt ∧ t3.toInt ≤ 2) ∧ (fv Po (rv Po 2 t1.toInt.toNat) 2).toInt = 1 ∧ NCH Po Po) ∨ ((0 ≤ t1.toInt ∧ t1.toInt + 1 ≤ (fv Po 1 1).toInt ∧ t1.toInt ≤ 7) ∧ (0 ≤ t2.toInt ∧ (((fv Po (rv Po 2 t1.toInt.toNat) 0).toInt = 0 ∧ t2.toInt < (fv Po (rv Po 2 t1.toInt.toNat) 1).toInt - 1) ∨ ((fv Po (rv Po 2 t1.toInt.toNat) 0).toInt ≠ 0 ∧ t2.toInt < (fv Po (rv Po 2 t1.toInt.toNat) 1).toInt))) ∧ (0 ≤ t3.toInt ∧ t3.toInt ≤ 2) ∧ (fv Po (rv Po 2 t1.toInt.toNat) 2).toInt = 0 ∧ (-1002 : Int) = (fv Po ((rv Po 2 t1.toInt.toNat) + 2) t2.toInt.toNat).toInt ∧ PSH Po Po ∧ (fv Po ((rv Po 2 t1.toInt.toNat) + 2) t2.toInt.toNat).toInt = t3.toInt ∧ (∀ x j : Nat, 1 ≤ x → x < 27 → ¬ (x = ((rv Po 2 t1.toInt.toNat) + 2) ∧ j = t2.toInt.toNat) → fv Po x j = fv Po x j) ∧ ∀ k : Nat, rv Po 2 k = rv Po 2 k) from by rw [q6r.2.2.2]; exact Or.inr (Or.inl (⟨by omega, by omega, by omega, by omega, ⟨fun x j h1 h2 => rfl, fun k => rfl⟩⟩)))⟩
        exact mp_iret ⟨⟨_, rfl, u82⟩, hT, KW.refl, hJ, trivial⟩ dX6_mark_38 (Or.inl rfl)
    · have c19 : x14.toInt = 0 := ti_ne_n c19
      refine mp_a (a_sipush (v := -1001) dX6_mark_24 rfl) (mpp 27 rfl ?_)
      have u83 : KPX Po Po ∧ markC Po Po (-1001 : Int) t1.toInt t2.toInt t3.toInt := ⟨⟨rfl, fun x j hx => rfl⟩, (show ((-1001 : Int) = -1001 ∧ ((t1.toInt < 0 ∨ (fv Po 1 1).toInt ≤ t1.toInt ∨ 8 ≤ t1.toInt) ∨ ((0 ≤ t1.toInt ∧ t1.toInt + 1 ≤ (fv Po 1 1).toInt ∧ t1.toInt ≤ 7) ∧ (t2.toInt < 0 ∨ ((fv Po (rv Po 2 t1.toInt.toNat) 0).toInt = 0 ∧ (fv Po (rv Po 2 t1.toInt.toNat) 1).toInt - 1 ≤ t2.toInt) ∨ ((fv Po (rv Po 2 t1.toInt.toNat) 0).toInt ≠ 0 ∧ (fv Po (rv Po 2 t1.toInt.toNat) 1).toInt ≤ t2.toInt)))) ∧ NCH Po Po) ∨ ((-1001 : Int) = -1002 ∧ (0 ≤ t1.toInt ∧ t1.toInt + 1 ≤ (fv Po 1 1).toInt ∧ t1.toInt ≤ 7) ∧ (0 ≤ t2.toInt ∧ (((fv Po (rv Po 2 t1.toInt.toNat) 0).toInt = 0 ∧ t2.toInt < (fv Po (rv Po 2 t1.toInt.toNat) 1).toInt - 1) ∨ ((fv Po (rv Po 2 t1.toInt.toNat) 0).toInt ≠ 0 ∧ t2.toInt < (fv Po (rv Po 2 t1.toInt.toNat) 1).toInt))) ∧ (t3.toInt < 0 ∨ 2 < t3.toInt) ∧ NCH Po Po) ∨ ((-1001 : Int) = -1003 ∧ (0 ≤ t1.toInt ∧ t1.toInt + 1 ≤ (fv Po 1 1).toInt ∧ t1.toInt ≤ 7) ∧ (0 ≤ t2.toInt ∧ (((fv Po (rv Po 2 t1.toInt.toNat) 0).toInt = 0 ∧ t2.toInt < (fv Po (rv Po 2 t1.toInt.toNat) 1).toInt - 1) ∨ ((fv Po (rv Po 2 t1.toInt.toNat) 0).toInt ≠ 0 ∧ t2.toInt < (fv Po (rv Po 2 t1.toInt.toNat) 1).toInt))) ∧ (0 ≤ t3.toInt ∧ t3.toInt ≤ 2) ∧ (fv Po (rv Po 2 t1.toInt.toNat) 2).toInt = 1 ∧ NCH Po Po) ∨ ((0 ≤ t1.toInt ∧ t1.toInt + 1 ≤ (fv Po 1 1).toInt ∧ t1.toInt ≤ 7) ∧ (0 ≤ t2.toInt ∧ (((fv Po (rv Po 2 t1.toInt.toNat) 0).toInt = 0 ∧ t2.toInt < (fv Po (rv Po 2 t1.toInt.toNat) 1).toInt - 1) ∨ ((fv Po (rv Po 2 t1.toInt.toNat) 0).toInt ≠ 0 ∧ t2.toInt < (fv Po (rv Po 2 t1.toInt.toNat) 1).toInt))) ∧ (0 ≤ t3.toInt ∧ t3.toInt ≤ 2) ∧ (fv Po (rv Po 2 t1.toInt.toNat) 2).toInt = 0 ∧ (-1001 : Int) = (fv Po ((rv Po 2 t1.toInt.toNat) + 2) t2.toInt.toNat).toInt ∧ PSH Po Po ∧ (fv Po ((rv Po 2 t1.toInt.toNat) + 2) t2.toInt.toNat).toInt = t3.toInt ∧ (∀ x j : Nat, 1 ≤ x → x < 27 → ¬ (x = ((rv Po 2 t1.toInt.toNat) + 2) ∧ j = t2.toInt.toNat) → fv Po x j = fv Po x j) ∧ ∀ k : Nat, rv Po 2 k = rv Po 2 k) from by rw [q6r.2.2.2]; exact Or.inl (⟨by omega, by omega, ⟨fun x j h1 h2 => rfl, fun k => rfl⟩⟩))⟩
      exact mp_iret ⟨⟨_, rfl, u83⟩, hT, KW.refl, hJ, trivial⟩ dX6_mark_27 (Or.inl rfl)

