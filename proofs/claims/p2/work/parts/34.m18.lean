/-! methods on typed pools, 18 (written by a program) -/
set_option maxHeartbeats 4000000 in
theorem c_CS_faultPosition_Script {Po : mP}  (hT : Typ Po) (hX : XR Po)   : EvP 6 95 [.ref 289] Po (fun r P' => (∃ x : Int32, r = some (.int x) ∧ ((x.toInt = -1004 ∧ TKT (chC Po) (fv Po 289 1).toInt 0) ∨ (0 ≤ x.toInt ∧ ¬ TKT (chC Po) (fv Po 289 1).toInt 0))) ∧ Typ P' ∧ KW [514, 515, 516, 517, 518, 519] Po P' ∧ fv P' 289 1 = fv Po 289 1 ∧ KI 289 290 Po P') := by
  refine EvP.of qm_95 (Nat.le_of_ble_eq_true rfl) rfl ?_
  show MEvP _ none q_95 0 [(0, .ref 289)] [] _ 0 0 _
  have g1 : (0 : Int) ≤ (fv Po 289 1).toInt ∧ (fv Po 289 1).toInt ≤ 80 := Typ.rng hT rl_289 (by decide) (by decide) rfl
  refine mp_a (a_aload_n dX4_faultPosition_0 rfl) (mpp 1 rfl ?_)
  refine mt_callv (i := 26) (q' := q_96) (As := []) (rest := []) hT dX4_faultPosition_1 rfl qm_96 (by decide) rfl rl_289 (by decide) rfl (Nat.le_of_ble_eq_true rfl) rfl ⟨rfl, rfl⟩ ⟨Nat.le_of_ble_eq_true rfl, Nat.le_of_ble_eq_true rfl⟩ (EvP.mono (by decide) (c_CS_rewind_Script hT hX )) (fun r2 P3 g4 => mpp 4 rfl ?_)
  obtain ⟨⟨rfl, g6⟩, hT7, k8, R9⟩ := g4
  have k10 : KW [514, 515, 516, 517, 518, 519] Po P3 := KW.trans KW.refl k8 rfl
  replace g6 : (fv P3 289 2).toInt = 0 := g6
  have g12 := ti_full (fv P3 289 2)
  show MEvP _ none q_95 4 [(0, .ref 289)] [] _ _ _ _
  refine mp_a (a_iconst (v := 0) dX4_faultPosition_4 rfl) (mpp 5 rfl ?_)
  refine mp_a (a_istore_n (L' := [(1, .int 0), (0, .ref 289)]) dX4_faultPosition_5 (by decide) rfl) (mpp 6 rfl ?_)
  refine MEvP.less (L := [(0, .ref 289), (1, .int 0)]) rfl rfl ⟨rfl, rfl, trivial⟩ ?_
  have i13 : KI 289 290 Po P3 ∧ fv P3 289 1 = fv Po 289 1 := ⟨fun x j hx => by rw [R9.2 x j (by omega)], by rw [R9.1]⟩
  have i14 : 0 ≤ (fv P3 289 2).toInt ∧ 2 * (0 : Int) ≤ (fv P3 289 2).toInt ∧ (fv P3 289 2).toInt ≤ (fv Po 289 1).toInt := by omega
  have i15 : TKT (chC Po) (fv Po 289 1).toInt 0 ↔ TKT (chC Po) (fv Po 289 1).toInt (fv P3 289 2).toInt := by rw [show (fv P3 289 2).toInt = 0 from by omega]
  have i16 : (fv Po 289 1).toInt ≤ 80 := by omega
  have i17 : 0 ≤ (0 : Int) := by omega
  exact c_CS_faultPosition_Script_l6 hT hX   _ _ P3 hT7 k10 i13 i14 i15 i16 i17 rfl

set_option maxHeartbeats 4000000 in
theorem c_CS_clear_Script {Po : mP}  (hT : Typ Po) (hX : XR Po)   : EvP 1 106 [.ref 289] Po (fun r P' => (r = none ∧ ((fv P' 289 1).toInt = 0)) ∧ Typ P' ∧ KW [513] Po P' ∧ fv P' 289 2 = fv Po 289 2 ∧ fv P' 289 3 = fv Po 289 3 ∧ fv P' 289 4 = fv Po 289 4 ∧ fv P' 289 5 = fv Po 289 5 ∧ fv P' 289 6 = fv Po 289 6 ∧ fv P' 289 7 = fv Po 289 7 ∧ KI 289 290 Po P') := by
  refine EvP.of qm_106 (Nat.le_of_ble_eq_true rfl) rfl ?_
  show MEvP _ none q_106 0 [(0, .ref 289)] [] _ 0 0 _
  refine mp_a (a_aload_n dX4_clear_0 rfl) (mpp 1 rfl ?_)
  refine mp_a (a_iconst (v := 0) dX4_clear_1 rfl) (mpp 2 rfl ?_)
  refine mt_putI (i := 15) (k := 1) (x := 0) hT dX4_clear_2 rfl rl_289 (by decide) rfl (by decide) rfl (by decide) rfl rfl (fun P1 hT2 f3 f4 f5 => mpp 5 rfl ?_)
  have k6 : KW [513] Po P1 := KW.step KW.refl rl_289 rfl f4 f5
  have e7 : (fv P1 289 1).toInt = 0 := congrArg Int32.toInt f3
  have u8 : (fv P1 289 1).toInt = 0 := by omega
  have u9 : fv P1 289 2 = fv Po 289 2 := by rw [f4 289 2 (by omega)]
  have u10 : fv P1 289 3 = fv Po 289 3 := by rw [f4 289 3 (by omega)]
  have u11 : fv P1 289 4 = fv Po 289 4 := by rw [f4 289 4 (by omega)]
  have u12 : fv P1 289 5 = fv Po 289 5 := by rw [f4 289 5 (by omega)]
  have u13 : fv P1 289 6 = fv Po 289 6 := by rw [f4 289 6 (by omega)]
  have u14 : fv P1 289 7 = fv Po 289 7 := by rw [f4 289 7 (by omega)]
  have u15 : KI 289 290 Po P1 := by
    intro x j hx
    rw [f4 x j (by omega)]
  exact mp_ret ⟨⟨rfl, u8⟩, hT2, k6, ⟨u9, u10, u11, u12, u13, u14, u15⟩⟩ dX4_clear_5 rfl

set_option maxHeartbeats 4000000 in
theorem c_CP_copyFrom_Piece_Piece {Po : mP} {a0_ : Nat} {a1_ : Nat} (hT : Typ Po) (hX : XR Po)  (hp0 : a0_ + 3 ≤ a1_ ∨ a1_ + 3 ≤ a0_) (ha0 : rl a0_ = 3) (ha1 : rl a1_ = 3) : EvP 2 18 [.ref a0_, .ref a1_] Po (fun r P' => (r = none ∧ (True)) ∧ Typ P' ∧ KW [192, 193, 194, 256, 320] Po P' ∧ fv P' a0_ 0 = fv Po a1_ 0 ∧ fv P' a0_ 1 = fv Po a1_ 1 ∧ fv P' a0_ 2 = fv Po a1_ 2 ∧ (∀ j : Nat, j < 8 → fv P' (a0_ + 1) j = fv Po (a1_ + 1) j) ∧ (∀ j : Nat, j < 8 → fv P' (a0_ + 2) j = fv Po (a1_ + 2) j) ∧ KI a0_ (a0_ + 3) Po P') := by
  refine EvP.of qm_18 (Nat.le_of_ble_eq_true rfl) rfl ?_
  show MEvP _ none q_18 0 [(0, .ref a0_), (1, .ref a1_)] [] _ 0 0 _
  have w1 := pc_ar ha0
  have w2 := pc_ar ha1
  refine mp_a (a_aload_n dX2_copyFrom_0 rfl) (mpp 1 rfl ?_)
  refine mp_a (a_aload_n dX2_copyFrom_1 rfl) (mpp 2 rfl ?_)
  have g3 := ti_full (fv Po a1_ 0)
  refine mt_getI (i := 18) (k := 0) hT dX2_copyFrom_2 rfl ha1 (by decide) rfl (by decide) rfl (fun g4 g5 => mpp 5 rfl ?_)
  refine mt_putI (i := 18) (k := 0) (x := (fv Po a1_ 0)) hT dX2_copyFrom_5 rfl ha0 (by decide) rfl (by decide) rfl (ti_full (fv Po a1_ 0)) rfl rfl (fun P6 hT7 f8 f9 f10 => mpp 8 rfl ?_)
  have k11 : KW [192, 193, 194, 256, 320] Po P6 := KW.step KW.refl ha0 rfl f9 f10
  have e12 : (fv P6 a0_ 0).toInt = (fv Po a1_ 0).toInt := congrArg Int32.toInt f8
  refine mp_a (a_aload_n dX2_copyFrom_8 rfl) (mpp 9 rfl ?_)
  refine mp_a (a_aload_n dX2_copyFrom_9 rfl) (mpp 10 rfl ?_)
  have g13 : (0 : Int) ≤ (fv P6 a1_ 1).toInt ∧ (fv P6 a1_ 1).toInt ≤ 8 := Typ.rng hT7 ha1 (by decide) (by decide) rfl
  refine mt_getI (i := 26) (k := 1) hT7 dX2_copyFrom_10 rfl ha1 (by decide) rfl (by decide) rfl (fun g14 g15 => mpp 13 rfl ?_)
  refine mt_putI (i := 26) (k := 1) (x := (fv P6 a1_ 1)) hT7 dX2_copyFrom_13 rfl ha0 (by decide) rfl (by decide) rfl ⟨by omega, by omega⟩ rfl rfl (fun P16 hT17 f18 f19 f20 => mpp 16 rfl ?_)
  have k21 : KW [192, 193, 194, 256, 320] Po P16 := KW.step k11 ha0 rfl f19 f20
  have e22 : (fv P16 a0_ 1).toInt = (fv P6 a1_ 1).toInt := congrArg Int32.toInt f18
  refine mp_a (a_aload_n dX2_copyFrom_16 rfl) (mpp 17 rfl ?_)
  refine mp_a (a_aload_n dX2_copyFrom_17 rfl) (mpp 18 rfl ?_)
  have g23 : (0 : Int) ≤ (fv P16 a1_ 2).toInt ∧ (fv P16 a1_ 2).toInt ≤ 1 := Typ.rng hT17 ha1 (by decide) (by decide) rfl
  refine mt_getI (i := 22) (k := 2) hT17 dX2_copyFrom_18 rfl ha1 (by decide) rfl (by decide) rfl (fun g24 g25 => mpp 21 rfl ?_)
  refine mt_putI (i := 22) (k := 2) (x := (fv P16 a1_ 2)) hT17 dX2_copyFrom_21 rfl ha0 (by decide) rfl (by decide) rfl ⟨by omega, by omega⟩ (ti_fit (by omega)) rfl (fun P26 hT27 f28 f29 f30 => mpp 24 rfl ?_)
  have k31 : KW [192, 193, 194, 256, 320] Po P26 := KW.step k21 ha0 rfl f29 f30
  have e32 : (fv P26 a0_ 2).toInt = (fv P16 a1_ 2).toInt := congrArg Int32.toInt f28
  refine mp_a (a_aload_n dX2_copyFrom_24 rfl) (mpp 25 rfl ?_)
  refine mt_getE (i := 9) (k := 3) hT27 dX2_copyFrom_25 rfl ha1 (by decide) rfl (by decide) rfl ((KW.xr k31 hX).1 a1_ (Or.inl ha1)).1 (fun q33 => mpp 28 rfl ?_)
  refine mp_a (a_aload_n dX2_copyFrom_28 rfl) (mpp 29 rfl ?_)
  refine mt_getE (i := 9) (k := 3) hT27 dX2_copyFrom_29 rfl ha0 (by decide) rfl (by decide) rfl ((KW.xr k31 hX).1 a0_ (Or.inl ha0)).1 (fun q34 => mpp 32 rfl ?_)
  have p35 : ¬ (a1_ + 1) = (a0_ + 1) := by omega
  refine mp_calls (i := 44) (q' := q_19) (As := [.ref (a1_ + 1), .ref (a0_ + 1)]) (rest := []) dX2_copyFrom_32 rfl qm_19 (by decide) rfl (Nat.le_of_ble_eq_true rfl) rfl ⟨rfl, rfl⟩ ⟨Nat.le_of_ble_eq_true rfl, Nat.le_of_ble_eq_true rfl⟩ (EvP.mono (by decide) (c_F_copyRow_sizes_sizes hT27 (KW.xr k31 hX) p35 q33 q34)) (fun r36 P37 g38 => mpp 35 rfl ?_)
  obtain ⟨⟨rfl, g40⟩, hT41, k42, R43⟩ := g38
  have k44 : KW [192, 193, 194, 256, 320] Po P37 := KW.trans k31 k42 rfl
  show MEvP _ none q_18 35 [(0, .ref a0_), (1, .ref a1_)] [] _ _ _ _
  refine mp_a (a_aload_n dX2_copyFrom_35 rfl) (mpp 36 rfl ?_)
  refine mt_getE (i := 15) (k := 4) hT41 dX2_copyFrom_36 rfl ha1 (by decide) rfl (by decide) rfl ((KW.xr k44 hX).1 a1_ (Or.inl ha1)).2 (fun q46 => mpp 39 rfl ?_)
  refine mp_a (a_aload_n dX2_copyFrom_39 rfl) (mpp 40 rfl ?_)
  refine mt_getE (i := 15) (k := 4) hT41 dX2_copyFrom_40 rfl ha0 (by decide) rfl (by decide) rfl ((KW.xr k44 hX).1 a0_ (Or.inl ha0)).2 (fun q47 => mpp 43 rfl ?_)
  have p48 : ¬ (a1_ + 2) = (a0_ + 2) := by omega
  refine mp_calls (i := 44) (q' := q_19) (As := [.ref (a1_ + 2), .ref (a0_ + 2)]) (rest := []) dX2_copyFrom_43 rfl qm_19 (by decide) rfl (Nat.le_of_ble_eq_true rfl) rfl ⟨rfl, rfl⟩ ⟨Nat.le_of_ble_eq_true rfl, Nat.le_of_ble_eq_true rfl⟩ (EvP.mono (by decide) (c_F_copyRow_creases_creases hT41 (KW.xr k44 hX) p48 q46 q47)) (fun r49 P50 g51 => mpp 46 rfl ?_)
  obtain ⟨⟨rfl, g53⟩, hT54, k55, R56⟩ := g51
  have k57 : KW [192, 193, 194, 256, 320] Po P50 := KW.trans k44 k55 rfl
  show MEvP _ none q_18 46 [(0, .ref a0_), (1, .ref a1_)] [] _ _ _ _
  have u59 : fv P50 a0_ 0 = fv Po a1_ 0 := by rw [R56.2 a0_ 0 (by omega), R43.2 a0_ 0 (by omega), f29 a0_ 0 (by omega), f19 a0_ 0 (by omega), f8]
  have u60 : fv P50 a0_ 1 = fv Po a1_ 1 := by rw [R56.2 a0_ 1 (by omega), R43.2 a0_ 1 (by omega), f29 a0_ 1 (by omega), f18, f9 a1_ 1 (by omega)]
  have u61 : fv P50 a0_ 2 = fv Po a1_ 2 := by rw [R56.2 a0_ 2 (by omega), R43.2 a0_ 2 (by omega), f28, f19 a1_ 2 (by omega), f9 a1_ 2 (by omega)]
  have u62 : (∀ j : Nat, j < 8 → fv P50 (a0_ + 1) j = fv Po (a1_ + 1) j) := by
    intro j hj
    rw [R56.2 (a0_ + 1) j (by omega), R43.1 j (by omega), f29 (a1_ + 1) j (by omega), f19 (a1_ + 1) j (by omega), f9 (a1_ + 1) j (by omega)]
  have u63 : (∀ j : Nat, j < 8 → fv P50 (a0_ + 2) j = fv Po (a1_ + 2) j) := by
    intro j hj
    rw [R56.1 j (by omega), R43.2 (a1_ + 2) j (by omega), f29 (a1_ + 2) j (by omega), f19 (a1_ + 2) j (by omega), f9 (a1_ + 2) j (by omega)]
  have u64 : KI a0_ (a0_ + 3) Po P50 := by
    intro x j hx
    rw [R56.2 x j (by omega), R43.2 x j (by omega), f29 x j (by omega), f19 x j (by omega), f9 x j (by omega)]
  exact mp_ret ⟨⟨rfl, trivial⟩, hT54, k57, ⟨u59, u60, u61, u62, u63, u64⟩⟩ dX2_copyFrom_46 rfl

set_option maxHeartbeats 4000000 in
theorem c_CS_copyFrom_State_State_l26 {Po : mP} {a0_ : Nat} {a1_ : Nat} (hTo : Typ Po) (hX : XR Po) (hJo : Inj Po) (hp0 : a0_ + 26 ≤ a1_ ∨ a1_ + 26 ≤ a0_) (ha0 : rl a0_ = 1) (ha1 : rl a1_ = 1) : ∀ (n : Nat) (v2 : Int32), ∀ (P : mP), Typ P → KW [65, 66, 67, 192, 193, 194, 256, 320] Po P → Inj P → ((fv P a0_ 1 = fv Po a1_ 1 ∧ fv P a0_ 2 = fv Po a1_ 2 ∧ fv P a0_ 3 = fv Po a1_ 3)) → (∀ k : Nat, k < 8 → (k : Int) < v2.toInt → PE P (a0_ + 2 + 3 * k) Po (a1_ + 2 + 3 * k)) → (KI a0_ (a0_ + 26) Po P) → ((fv P a0_ 1).toInt = (fv Po a1_ 1).toInt) → (0 ≤ v2.toInt) → (0 ≤ v2.toInt) → (2147483647 - v2.toInt).toNat = n → MEvP 2 none q_17 26 [(0, .ref a0_), (1, .ref a1_), (2, .int v2)] [] P 0 0 (fun r P' => (r = none ∧ (True)) ∧ Typ P' ∧ KW [65, 66, 67, 192, 193, 194, 256, 320] Po P' ∧ Inj P' ∧ fv P' a0_ 1 = fv Po a1_ 1 ∧ fv P' a0_ 2 = fv Po a1_ 2 ∧ fv P' a0_ 3 = fv Po a1_ 3 ∧ (∀ k : Nat, k < 8 → (k : Int) < (fv Po a1_ 1).toInt → PE P' (a0_ + 2 + 3 * k) Po (a1_ + 2 + 3 * k)) ∧ KI a0_ (a0_ + 26) Po P') := by
  intro n
  induction n using Nat.strongRecOn with | _ n ih => ?_
  intro v2 P hT hK hJ i_0 i_1 i_2 i_3 i_4 i_5 hm
  have w1 := st_ar ha0
  have w2 := st_ar ha1
  have w_v2 := ti_full v2
  have g3 : (0 : Int) ≤ (fv P a0_ 1).toInt ∧ (fv P a0_ 1).toInt ≤ 8 := Typ.rng hT ha0 (by decide) (by decide) rfl
  have g4 : (0 : Int) ≤ (fv P a0_ 1).toInt ∧ (fv P a0_ 1).toInt ≤ 8 := Typ.rng hT ha0 (by decide) (by decide) rfl
  have eB : (fv P a1_ 1).toInt = (fv Po a1_ 1).toInt := congrArg Int32.toInt (i_2 _ _ (by omega))
  refine mp_a (a_iload_n dX5_copyFrom_26 rfl) (mpp 27 rfl ?_)
  refine mp_a (a_aload_n dX5_copyFrom_27 rfl) (mpp 28 rfl ?_)
  refine mt_getI (i := 22) (k := 1) hT dX5_copyFrom_28 rfl ha0 (by decide) rfl (by decide) rfl (fun g5 g6 => mpp 31 rfl ?_)
  refine mp_Tb (t := 68) (j_icmp_ge dX5_copyFrom_31) (by decide) (fun c7 => ?_) (fun c7 => mpp 34 rfl ?_)
  · have c7 : v2.toInt ≥ (fv P a0_ 1).toInt := ti_ge c7
    have u8 : fv P a0_ 1 = fv Po a1_ 1 ∧ fv P a0_ 2 = fv Po a1_ 2 ∧ fv P a0_ 3 = fv Po a1_ 3 ∧ (∀ k : Nat, k < 8 → (k : Int) < (fv Po a1_ 1).toInt → PE P (a0_ + 2 + 3 * k) Po (a1_ + 2 + 3 * k)) ∧ KI a0_ (a0_ + 26) Po P := ⟨i_0.1, i_0.2.1, i_0.2.2, fun k hk h => i_1 k hk (by omega), i_2⟩
    exact mp_ret ⟨⟨rfl, trivial⟩, hT, hK, hJ, u8⟩ dX5_copyFrom_68 rfl
  · have c7 : v2.toInt < (fv P a0_ 1).toInt := ti_ge_n c7
    refine mp_a (a_aload_n dX5_copyFrom_34 rfl) (mpp 35 rfl ?_)
    refine mp_a (a_iload_n dX5_copyFrom_35 rfl) (mpp 36 rfl ?_)
    refine mt_callv (i := 28) (q' := q_9) (As := [.int v2]) (rest := []) hT dX5_copyFrom_36 rfl qm_9 (by decide) rfl ha0 (by decide) rfl (Nat.le_of_ble_eq_true rfl) rfl ⟨rfl, rfl⟩ ⟨Nat.le_of_ble_eq_true rfl, Nat.le_of_ble_eq_true rfl⟩ (EvP.mono (by decide) (c_CS_pieceAt_State hT (KW.xr hK hX) ha0)) (fun r9 P10 g11 => mpp 39 rfl ?_)
    obtain ⟨g11, e12⟩ := g11
    have e12 := e12.symm
    subst e12
    rcases g11 with ⟨rfl, q14n⟩ | ⟨b13, rfl, q14, q14r⟩
    · show MEvP _ none q_17 39 [(0, .ref a0_), (1, .ref a1_), (2, .int v2)] [.null] _ _ _ _
      replace q14n : v2.toInt < 0 ∨ (fv P a0_ 1).toInt ≤ v2.toInt ∨ 8 ≤ v2.toInt := q14n
      refine mp_a (a_astore_nN (L' := [(3, .null), (0, .ref a0_), (1, .ref a1_), (2, .int v2)]) dX5_copyFrom_39 (by decide) rfl) (mpp 40 rfl ?_)
      refine mp_a (a_aload_n dX5_copyFrom_40 rfl) (mpp 41 rfl ?_)
      refine mp_a (a_iload_n dX5_copyFrom_41 rfl) (mpp 42 rfl ?_)
      refine mt_callv (i := 28) (q' := q_9) (As := [.int v2]) (rest := []) hT dX5_copyFrom_42 rfl qm_9 (by decide) rfl ha1 (by decide) rfl (Nat.le_of_ble_eq_true rfl) rfl ⟨rfl, rfl⟩ ⟨Nat.le_of_ble_eq_true rfl, Nat.le_of_ble_eq_true rfl⟩ (EvP.mono (by decide) (c_CS_pieceAt_State hT (KW.xr hK hX) ha1)) (fun r15 P16 g17 => mpp 45 rfl ?_)
      obtain ⟨g17, e18⟩ := g17
      have e18 := e18.symm
      subst e18
      rcases g17 with ⟨rfl, q20n⟩ | ⟨b19, rfl, q20, q20r⟩
      · show MEvP _ none q_17 45 [(3, .null), (0, .ref a0_), (1, .ref a1_), (2, .int v2)] [.null] _ _ _ _
        replace q20n : v2.toInt < 0 ∨ (fv P a1_ 1).toInt ≤ v2.toInt ∨ 8 ≤ v2.toInt := q20n
        have g21 : (0 : Int) ≤ (fv P a1_ 1).toInt ∧ (fv P a1_ 1).toInt ≤ 8 := Typ.rng hT ha1 (by decide) (by decide) rfl
        refine mp_a (a_astoreN (L' := [(4, .null), (3, .null), (0, .ref a0_), (1, .ref a1_), (2, .int v2)]) dX5_copyFrom_45 (by decide) rfl) (mpp 47 rfl ?_)
        refine mp_a (a_aload_nN dX5_copyFrom_47 rfl) (mpp 48 rfl ?_)
        refine mp_t (s_ifnullN (t := 62) dX5_copyFrom_48 (by decide)) ?_
        obtain ⟨z22, h23⟩ := ti_ex (v2 + 1 : Int32)
        have wz22 := ti_full z22
        refine mp_a (a_iinc (v := z22) (L' := [(2, .int z22), (4, .null), (3, .null), (0, .ref a0_), (1, .ref a1_)]) dX5_copyFrom_62 (by decide) rfl h23 rfl) (mpp 65 rfl ?_)
        try have e24 : z22.toInt = v2.toInt + 1 := ti_addz h23 rfl rfl (by omega) (by omega)
        refine mp_a (a_goto (t := 26) dX5_copyFrom_65 (by decide)) ?_
        refine MEvP.less (L := [(0, .ref a0_), (1, .ref a1_), (2, .int z22)]) rfl rfl ⟨rfl, rfl, rfl, trivial⟩ ?_
        have i25 : (fv P a0_ 1 = fv Po a1_ 1 ∧ fv P a0_ 2 = fv Po a1_ 2 ∧ fv P a0_ 3 = fv Po a1_ 3) := ⟨i_0.1, i_0.2.1, i_0.2.2⟩
        have i26 : ∀ k : Nat, k < 8 → (k : Int) < z22.toInt → PE P (a0_ + 2 + 3 * k) Po (a1_ + 2 + 3 * k) := fun k hk h => i_1 k hk (by omega)
        have i27 : KI a0_ (a0_ + 26) Po P := i_2
        have i28 : (fv P a0_ 1).toInt = (fv Po a1_ 1).toInt := by omega
        have i29 : 0 ≤ z22.toInt := by omega
        have i30 : 0 ≤ z22.toInt := by omega
        exact ih _ (by omega) _ P hT hK hJ i25 i26 i27 i28 i29 i30 rfl
      · show MEvP _ none q_17 45 [(3, .null), (0, .ref a0_), (1, .ref a1_), (2, .int v2)] [.ref b19] _ _ _ _
        replace q20r : 0 ≤ v2.toInt ∧ v2.toInt ≤ 7 ∧ v2.toInt + 1 ≤ (fv P a1_ 1).toInt ∧ b19 = a1_ + 2 + 3 * v2.toInt.toNat := q20r
        have g31 : (0 : Int) ≤ (fv P a1_ 1).toInt ∧ (fv P a1_ 1).toInt ≤ 8 := Typ.rng hT ha1 (by decide) (by decide) rfl
        have w32 := pc_ar q20
        refine mp_a (a_astore (L' := [(4, .ref b19), (3, .null), (0, .ref a0_), (1, .ref a1_), (2, .int v2)]) dX5_copyFrom_45 (by decide) rfl) (mpp 47 rfl ?_)
        refine mp_a (a_aload_nN dX5_copyFrom_47 rfl) (mpp 48 rfl ?_)
        refine mp_t (s_ifnullN (t := 62) dX5_copyFrom_48 (by decide)) ?_
        obtain ⟨z33, h34⟩ := ti_ex (v2 + 1 : Int32)
        have wz33 := ti_full z33
        refine mp_a (a_iinc (v := z33) (L' := [(2, .int z33), (4, .ref b19), (3, .null), (0, .ref a0_), (1, .ref a1_)]) dX5_copyFrom_62 (by decide) rfl h34 rfl) (mpp 65 rfl ?_)
        try have e35 : z33.toInt = v2.toInt + 1 := ti_addz h34 rfl rfl (by omega) (by omega)
        refine mp_a (a_goto (t := 26) dX5_copyFrom_65 (by decide)) ?_
        refine MEvP.less (L := [(0, .ref a0_), (1, .ref a1_), (2, .int z33)]) rfl rfl ⟨rfl, rfl, rfl, trivial⟩ ?_
        have i36 : (fv P a0_ 1 = fv Po a1_ 1 ∧ fv P a0_ 2 = fv Po a1_ 2 ∧ fv P a0_ 3 = fv Po a1_ 3) := ⟨i_0.1, i_0.2.1, i_0.2.2⟩
        have i37 : ∀ k : Nat, k < 8 → (k : Int) < z33.toInt → PE P (a0_ + 2 + 3 * k) Po (a1_ + 2 + 3 * k) := fun k hk h => i_1 k hk (by omega)
        have i38 : KI a0_ (a0_ + 26) Po P := i_2
        have i39 : (fv P a0_ 1).toInt = (fv Po a1_ 1).toInt := by omega
        have i40 : 0 ≤ z33.toInt := by omega
        have i41 : 0 ≤ z33.toInt := by omega
        exact ih _ (by omega) _ P hT hK hJ i36 i37 i38 i39 i40 i41 rfl
    · show MEvP _ none q_17 39 [(0, .ref a0_), (1, .ref a1_), (2, .int v2)] [.ref b13] _ _ _ _
      replace q14r : 0 ≤ v2.toInt ∧ v2.toInt ≤ 7 ∧ v2.toInt + 1 ≤ (fv P a0_ 1).toInt ∧ b13 = a0_ + 2 + 3 * v2.toInt.toNat := q14r
      have w42 := pc_ar q14
      refine mp_a (a_astore_n (L' := [(3, .ref b13), (0, .ref a0_), (1, .ref a1_), (2, .int v2)]) dX5_copyFrom_39 (by decide) rfl) (mpp 40 rfl ?_)
      refine mp_a (a_aload_n dX5_copyFrom_40 rfl) (mpp 41 rfl ?_)
      refine mp_a (a_iload_n dX5_copyFrom_41 rfl) (mpp 42 rfl ?_)
      refine mt_callv (i := 28) (q' := q_9) (As := [.int v2]) (rest := []) hT dX5_copyFrom_42 rfl qm_9 (by decide) rfl ha1 (by decide) rfl (Nat.le_of_ble_eq_true rfl) rfl ⟨rfl, rfl⟩ ⟨Nat.le_of_ble_eq_true rfl, Nat.le_of_ble_eq_true rfl⟩ (EvP.mono (by decide) (c_CS_pieceAt_State hT (KW.xr hK hX) ha1)) (fun r43 P44 g45 => mpp 45 rfl ?_)
      obtain ⟨g45, e46⟩ := g45
      have e46 := e46.symm
      subst e46
      rcases g45 with ⟨rfl, q48n⟩ | ⟨b47, rfl, q48, q48r⟩
      · show MEvP _ none q_17 45 [(3, .ref b13), (0, .ref a0_), (1, .ref a1_), (2, .int v2)] [.null] _ _ _ _
        replace q48n : v2.toInt < 0 ∨ (fv P a1_ 1).toInt ≤ v2.toInt ∨ 8 ≤ v2.toInt := q48n
        have g49 : (0 : Int) ≤ (fv P a1_ 1).toInt ∧ (fv P a1_ 1).toInt ≤ 8 := Typ.rng hT ha1 (by decide) (by decide) rfl
        refine mp_a (a_astoreN (L' := [(4, .null), (3, .ref b13), (0, .ref a0_), (1, .ref a1_), (2, .int v2)]) dX5_copyFrom_45 (by decide) rfl) (mpp 47 rfl ?_)
        refine mp_a (a_aload_n dX5_copyFrom_47 rfl) (mpp 48 rfl ?_)
        refine mp_t (s_ifnullR dX5_copyFrom_48) (mpp 51 rfl ?_)
        refine mp_a (a_aloadN dX5_copyFrom_51 rfl) (mpp 53 rfl ?_)
        refine mp_t (s_ifnullN (t := 62) dX5_copyFrom_53 (by decide)) ?_
        obtain ⟨z50, h51⟩ := ti_ex (v2 + 1 : Int32)
        have wz50 := ti_full z50
        refine mp_a (a_iinc (v := z50) (L' := [(2, .int z50), (4, .null), (3, .ref b13), (0, .ref a0_), (1, .ref a1_)]) dX5_copyFrom_62 (by decide) rfl h51 rfl) (mpp 65 rfl ?_)
        try have e52 : z50.toInt = v2.toInt + 1 := ti_addz h51 rfl rfl (by omega) (by omega)
        refine mp_a (a_goto (t := 26) dX5_copyFrom_65 (by decide)) ?_
        refine MEvP.less (L := [(0, .ref a0_), (1, .ref a1_), (2, .int z50)]) rfl rfl ⟨rfl, rfl, rfl, trivial⟩ ?_
        have i53 : (fv P a0_ 1 = fv Po a1_ 1 ∧ fv P a0_ 2 = fv Po a1_ 2 ∧ fv P a0_ 3 = fv Po a1_ 3) := ⟨i_0.1, i_0.2.1, i_0.2.2⟩
        have i54 : ∀ k : Nat, k < 8 → (k : Int) < z50.toInt → PE P (a0_ + 2 + 3 * k) Po (a1_ + 2 + 3 * k) := fun k hk h => i_1 k hk (by omega)
        have i55 : KI a0_ (a0_ + 26) Po P := i_2
        have i56 : (fv P a0_ 1).toInt = (fv Po a1_ 1).toInt := by omega
        have i57 : 0 ≤ z50.toInt := by omega
        have i58 : 0 ≤ z50.toInt := by omega
        exact ih _ (by omega) _ P hT hK hJ i53 i54 i55 i56 i57 i58 rfl
      · show MEvP _ none q_17 45 [(3, .ref b13), (0, .ref a0_), (1, .ref a1_), (2, .int v2)] [.ref b47] _ _ _ _
        replace q48r : 0 ≤ v2.toInt ∧ v2.toInt ≤ 7 ∧ v2.toInt + 1 ≤ (fv P a1_ 1).toInt ∧ b47 = a1_ + 2 + 3 * v2.toInt.toNat := q48r
        have g59 : (0 : Int) ≤ (fv P a1_ 1).toInt ∧ (fv P a1_ 1).toInt ≤ 8 := Typ.rng hT ha1 (by decide) (by decide) rfl
        have w60 := pc_ar q48
        refine mp_a (a_astore (L' := [(4, .ref b47), (3, .ref b13), (0, .ref a0_), (1, .ref a1_), (2, .int v2)]) dX5_copyFrom_45 (by decide) rfl) (mpp 47 rfl ?_)
        refine mp_a (a_aload_n dX5_copyFrom_47 rfl) (mpp 48 rfl ?_)
        refine mp_t (s_ifnullR dX5_copyFrom_48) (mpp 51 rfl ?_)
        refine mp_a (a_aload dX5_copyFrom_51 rfl) (mpp 53 rfl ?_)
        refine mp_t (s_ifnullR dX5_copyFrom_53) (mpp 56 rfl ?_)
        refine mp_a (a_aload_n dX5_copyFrom_56 rfl) (mpp 57 rfl ?_)
        refine mp_a (a_aload dX5_copyFrom_57 rfl) (mpp 59 rfl ?_)
        have p61 : b13 + 3 ≤ b47 ∨ b47 + 3 ≤ b13 := by omega
        refine mt_callv (i := 32) (q' := q_18) (As := [.ref b47]) (rest := []) hT dX5_copyFrom_59 rfl qm_18 (by decide) rfl q14 (by decide) rfl (Nat.le_of_ble_eq_true rfl) rfl ⟨rfl, rfl⟩ ⟨Nat.le_of_ble_eq_true rfl, Nat.le_of_ble_eq_true rfl⟩ (EvP.mono (by decide) (c_CP_copyFrom_Piece_Piece hT (KW.xr hK hX) p61 q14 q48)) (fun r62 P63 g64 => mpp 62 rfl ?_)
        obtain ⟨⟨rfl, g66⟩, hT67, k68, R69⟩ := g64
        have k70 : KW [65, 66, 67, 192, 193, 194, 256, 320] Po P63 := KW.trans hK k68 rfl
        have J72 := Inj.kw hJ k68 rfl
        show MEvP _ none q_17 62 [(4, .ref b47), (3, .ref b13), (0, .ref a0_), (1, .ref a1_), (2, .int v2)] [] _ _ _ _
        obtain ⟨z73, h74⟩ := ti_ex (v2 + 1 : Int32)
        have wz73 := ti_full z73
        refine mp_a (a_iinc (v := z73) (L' := [(2, .int z73), (4, .ref b47), (3, .ref b13), (0, .ref a0_), (1, .ref a1_)]) dX5_copyFrom_62 (by decide) rfl h74 rfl) (mpp 65 rfl ?_)
        try have e75 : z73.toInt = v2.toInt + 1 := ti_addz h74 rfl rfl (by omega) (by omega)
        refine mp_a (a_goto (t := 26) dX5_copyFrom_65 (by decide)) ?_
        refine MEvP.less (L := [(0, .ref a0_), (1, .ref a1_), (2, .int z73)]) rfl rfl ⟨rfl, rfl, rfl, trivial⟩ ?_
        have i76 : (fv P63 a0_ 1 = fv Po a1_ 1 ∧ fv P63 a0_ 2 = fv Po a1_ 2 ∧ fv P63 a0_ 3 = fv Po a1_ 3) := ⟨by rw [R69.2.2.2.2.2 a0_ 1 (by omega)]; exact i_0.1, by rw [R69.2.2.2.2.2 a0_ 2 (by omega)]; exact i_0.2.1, by rw [R69.2.2.2.2.2 a0_ 3 (by omega)]; exact i_0.2.2⟩
        have i77 : ∀ k : Nat, k < 8 → (k : Int) < z73.toInt → PE P63 (a0_ + 2 + 3 * k) Po (a1_ + 2 + 3 * k) := pe_back (fun k => a0_ + 2 + 3 * k) (fun k => a1_ + 2 + 3 * k) (v := v2.toInt) i_1 (by omega) (by omega) q14r.2.2.2.symm q48r.2.2.2.symm ⟨R69.1, R69.2.1, R69.2.2.1, R69.2.2.2.1, R69.2.2.2.2.1⟩ i_2 (by omega) R69.2.2.2.2.2 (fun k hk hn => by omega)
        have i78 : KI a0_ (a0_ + 26) Po P63 := i_2.trans R69.2.2.2.2.2 (by omega)
        have e79 : (fv P63 a0_ 1).toInt = (fv P a0_ 1).toInt := congrArg Int32.toInt (KW.at k68 1 ha0 rfl)
        have i80 : (fv P63 a0_ 1).toInt = (fv Po a1_ 1).toInt := by omega
        have i81 : 0 ≤ z73.toInt := by omega
        have i82 : 0 ≤ z73.toInt := by omega
        exact ih _ (by omega) _ P63 hT67 k70 J72 i76 i77 i78 i80 i81 i82 rfl

set_option maxHeartbeats 4000000 in
theorem c_CS_copyFrom_State_State {Po : mP} {a0_ : Nat} {a1_ : Nat} (hT : Typ Po) (hX : XR Po)  (hJ : Inj Po) (hp0 : a0_ + 26 ≤ a1_ ∨ a1_ + 26 ≤ a0_) (ha0 : rl a0_ = 1) (ha1 : rl a1_ = 1) : EvP 3 17 [.ref a0_, .ref a1_] Po (fun r P' => (r = none ∧ (True)) ∧ Typ P' ∧ KW [65, 66, 67, 192, 193, 194, 256, 320] Po P' ∧ Inj P' ∧ fv P' a0_ 1 = fv Po a1_ 1 ∧ fv P' a0_ 2 = fv Po a1_ 2 ∧ fv P' a0_ 3 = fv Po a1_ 3 ∧ (∀ k : Nat, k < 8 → (k : Int) < (fv Po a1_ 1).toInt → PE P' (a0_ + 2 + 3 * k) Po (a1_ + 2 + 3 * k)) ∧ KI a0_ (a0_ + 26) Po P') := by
  refine EvP.of qm_17 (Nat.le_of_ble_eq_true rfl) rfl ?_
  show MEvP _ none q_17 0 [(0, .ref a0_), (1, .ref a1_)] [] _ 0 0 _
  have w1 := st_ar ha0
  have w2 := st_ar ha1
  have g3 : (0 : Int) ≤ (fv Po a1_ 1).toInt ∧ (fv Po a1_ 1).toInt ≤ 8 := Typ.rng hT ha1 (by decide) (by decide) rfl
  refine mp_a (a_aload_n dX5_copyFrom_0 rfl) (mpp 1 rfl ?_)
  refine mp_a (a_aload_n dX5_copyFrom_1 rfl) (mpp 2 rfl ?_)
  refine mt_getI (i := 22) (k := 1) hT dX5_copyFrom_2 rfl ha1 (by decide) rfl (by decide) rfl (fun g4 g5 => mpp 5 rfl ?_)
  refine mt_putI (i := 22) (k := 1) (x := (fv Po a1_ 1)) hT dX5_copyFrom_5 rfl ha0 (by decide) rfl (by decide) rfl ⟨by omega, by omega⟩ rfl rfl (fun P6 hT7 f8 f9 f10 => mpp 8 rfl ?_)
  have k11 : KW [65, 66, 67, 192, 193, 194, 256, 320] Po P6 := KW.step KW.refl ha0 rfl f9 f10
  have J12 := Inj.st hJ f10
  have e13 : (fv P6 a0_ 1).toInt = (fv Po a1_ 1).toInt := congrArg Int32.toInt f8
  refine mp_a (a_aload_n dX5_copyFrom_8 rfl) (mpp 9 rfl ?_)
  refine mp_a (a_aload_n dX5_copyFrom_9 rfl) (mpp 10 rfl ?_)
  have g14 := ti_full (fv P6 a1_ 2)
  refine mt_getI (i := 17) (k := 2) hT7 dX5_copyFrom_10 rfl ha1 (by decide) rfl (by decide) rfl (fun g15 g16 => mpp 13 rfl ?_)
  refine mt_putI (i := 17) (k := 2) (x := (fv P6 a1_ 2)) hT7 dX5_copyFrom_13 rfl ha0 (by decide) rfl (by decide) rfl (ti_full (fv P6 a1_ 2)) rfl rfl (fun P17 hT18 f19 f20 f21 => mpp 16 rfl ?_)
  have k22 : KW [65, 66, 67, 192, 193, 194, 256, 320] Po P17 := KW.step k11 ha0 rfl f20 f21
  have J23 := Inj.st J12 f21
  have e24 : (fv P17 a0_ 2).toInt = (fv P6 a1_ 2).toInt := congrArg Int32.toInt f19
  refine mp_a (a_aload_n dX5_copyFrom_16 rfl) (mpp 17 rfl ?_)
  refine mp_a (a_aload_n dX5_copyFrom_17 rfl) (mpp 18 rfl ?_)
  have g25 := ti_full (fv P17 a1_ 3)
  refine mt_getI (i := 25) (k := 3) hT18 dX5_copyFrom_18 rfl ha1 (by decide) rfl (by decide) rfl (fun g26 g27 => mpp 21 rfl ?_)
  refine mt_putI (i := 25) (k := 3) (x := (fv P17 a1_ 3)) hT18 dX5_copyFrom_21 rfl ha0 (by decide) rfl (by decide) rfl (ti_full (fv P17 a1_ 3)) rfl rfl (fun P28 hT29 f30 f31 f32 => mpp 24 rfl ?_)
  have k33 : KW [65, 66, 67, 192, 193, 194, 256, 320] Po P28 := KW.step k22 ha0 rfl f31 f32
  have J34 := Inj.st J23 f32
  have e35 : (fv P28 a0_ 3).toInt = (fv P17 a1_ 3).toInt := congrArg Int32.toInt f30
  refine mp_a (a_iconst (v := 0) dX5_copyFrom_24 rfl) (mpp 25 rfl ?_)
  refine mp_a (a_istore_n (L' := [(2, .int 0), (0, .ref a0_), (1, .ref a1_)]) dX5_copyFrom_25 (by decide) rfl) (mpp 26 rfl ?_)
  refine MEvP.less (L := [(0, .ref a0_), (1, .ref a1_), (2, .int 0)]) rfl rfl ⟨rfl, rfl, rfl, trivial⟩ ?_
  have i36 : (fv P28 a0_ 1 = fv Po a1_ 1 ∧ fv P28 a0_ 2 = fv Po a1_ 2 ∧ fv P28 a0_ 3 = fv Po a1_ 3) := ⟨by rw [f31 a0_ 1 (by omega), f20 a0_ 1 (by omega), f8], by rw [f31 a0_ 2 (by omega), f19, f9 a1_ 2 (by omega)], by rw [f30, f20 a1_ 3 (by omega), f9 a1_ 3 (by omega)]⟩
  have i37 : ∀ k : Nat, k < 8 → (k : Int) < (0 : Int) → PE P28 (a0_ + 2 + 3 * k) Po (a1_ + 2 + 3 * k) := fun k hk h => absurd h (by omega)
  have i38 : KI a0_ (a0_ + 26) Po P28 := by intro x j hx; rw [f31 x j (by omega), f20 x j (by omega), f9 x j (by omega)]
  have e39 : (fv P28 a0_ 1).toInt = (fv P6 a0_ 1).toInt := congrArg Int32.toInt ((f31 a0_ 1 (ne_k rfl)).trans (f20 a0_ 1 (ne_k rfl)))
  have i40 : (fv P28 a0_ 1).toInt = (fv Po a1_ 1).toInt := by omega
  have i41 : 0 ≤ (0 : Int) := by omega
  have i42 : 0 ≤ (0 : Int) := by omega
  exact c_CS_copyFrom_State_State_l26 hT hX hJ hp0 ha0 ha1 _ _ P28 hT29 k33 J34 i36 i37 i38 i40 i41 i42 rfl

set_option maxHeartbeats 4000000 in
theorem c_CH_push_History_State {Po : mP} {a1_ : Nat} (hT : Typ Po) (hX : XR Po)  (hJ : Inj Po) (hp0 : a1_ + 26 ≤ 81) (ha1 : rl a1_ = 1) : EvP 4 15 [.ref 79, .ref a1_] Po (fun r P' => (r = none ∧ (True)) ∧ Typ P' ∧ KW [65, 66, 67, 192, 193, 194, 256, 320, 385, 386] Po P' ∧ Inj P' ∧ (((fv Po 79 3).toInt = 1 ∧ (fv P' 79 1).toInt = (fv Po 79 1).toInt ∧ (fv P' 79 2).toInt = (fv Po 79 2).toInt) ∨ ((fv Po 79 3).toInt = 0 ∧ (((fv Po 79 1).toInt < 7 ∧ (fv P' 79 1).toInt = (fv Po 79 1).toInt + 1) ∨ ((fv Po 79 1).toInt = 7 ∧ (fv P' 79 1).toInt = 0)) ∧ (((fv Po 79 2).toInt < 8 ∧ (fv P' 79 2).toInt = (fv Po 79 2).toInt + 1) ∨ ((fv Po 79 2).toInt = 8 ∧ (fv P' 79 2).toInt = 8)))) ∧ ((fv Po 79 3).toInt = 1 ∨ SCs P' (81 + 26 * (fv Po 79 1).toInt.toNat) Po a1_) ∧ (∀ x j : Nat, ¬ x = 79 → (x < (81 + 26 * (fv Po 79 1).toInt.toNat) ∨ (81 + 26 * (fv Po 79 1).toInt.toNat) + 26 ≤ x) → fv P' x j = fv Po x j) ∧ ((fv Po 79 3).toInt = 0 ∨ ∀ x j : Nat, fv P' x j = fv Po x j) ∧ fv P' 79 3 = fv Po 79 3 ∧ KI 79 289 Po P') := by
  refine EvP.of qm_15 (Nat.le_of_ble_eq_true rfl) rfl ?_
  show MEvP _ none q_15 0 [(0, .ref 79), (1, .ref a1_)] [] _ 0 0 _
  have w1 := st_ar ha1
  have g2 : (0 : Int) ≤ (fv Po 79 3).toInt ∧ (fv Po 79 3).toInt ≤ 1 := Typ.rng hT rl_79 (by decide) (by decide) rfl
  have g3 : (0 : Int) ≤ (fv Po 79 1).toInt ∧ (fv Po 79 1).toInt ≤ 7 := Typ.rng hT rl_79 (by decide) (by decide) rfl
  have g4 : (0 : Int) ≤ (fv Po 79 2).toInt ∧ (fv Po 79 2).toInt ≤ 8 := Typ.rng hT rl_79 (by decide) (by decide) rfl
  refine mp_a (a_aload_n dX0_push_0 rfl) (mpp 1 rfl ?_)
  refine mp_a (a_aload_n dX0_push_1 rfl) (mpp 2 rfl ?_)
  refine mt_getI (i := 18) (k := 1) hT dX0_push_2 rfl rl_79 (by decide) rfl (by decide) rfl (fun g5 g6 => mpp 5 rfl ?_)
  refine mt_callv (i := 22) (q' := q_16) (As := [.int (fv Po 79 1)]) (rest := []) hT dX0_push_5 rfl qm_16 (by decide) rfl rl_79 (by decide) rfl (Nat.le_of_ble_eq_true rfl) rfl ⟨rfl, rfl⟩ ⟨Nat.le_of_ble_eq_true rfl, Nat.le_of_ble_eq_true rfl⟩ (EvP.mono (by decide) (c_CH_stateAt_History hT hX )) (fun r7 P8 g9 => mpp 8 rfl ?_)
  obtain ⟨g9, e10⟩ := g9
  have e10 := e10.symm
  subst e10
  rcases g9 with ⟨rfl, q12n⟩ | ⟨b11, rfl, q12, q12r⟩
  · show MEvP _ none q_15 8 [(0, .ref 79), (1, .ref a1_)] [.null] _ _ _ _
    replace q12n : (fv Po 79 1).toInt < 0 ∨ 8 ≤ (fv Po 79 1).toInt := q12n
    refine mp_a (a_astore_nN (L' := [(2, .null), (0, .ref 79), (1, .ref a1_)]) dX0_push_8 (by decide) rfl) (mpp 9 rfl ?_)
    refine mp_a (a_aload_nN dX0_push_9 rfl) (mpp 10 rfl ?_)
    exfalso
    omega
  · show MEvP _ none q_15 8 [(0, .ref 79), (1, .ref a1_)] [.ref b11] _ _ _ _
    replace q12r : 0 ≤ (fv Po 79 1).toInt ∧ (fv Po 79 1).toInt ≤ 7 ∧ b11 = 81 + 26 * (fv Po 79 1).toInt.toNat := q12r
    have w13 := st_ar q12
    refine mp_a (a_astore_n (L' := [(2, .ref b11), (0, .ref 79), (1, .ref a1_)]) dX0_push_8 (by decide) rfl) (mpp 9 rfl ?_)
    refine mp_a (a_aload_n dX0_push_9 rfl) (mpp 10 rfl ?_)
    refine mp_t (s_ifnullR dX0_push_10) (mpp 13 rfl ?_)
    refine mp_a (a_aload_n dX0_push_13 rfl) (mpp 14 rfl ?_)
    refine mt_getI (i := 26) (k := 3) hT dX0_push_14 rfl rl_79 (by decide) rfl (by decide) rfl (fun g14 g15 => mpp 17 rfl ?_)
    refine mp_Tb (t := 63) (j_if_ne dX0_push_17) (by decide) (fun c16 => ?_) (fun c16 => mpp 20 rfl ?_)
    · have c16 : (fv Po 79 3).toInt ≠ 0 := ti_ne c16
      have u17 : (((fv Po 79 3).toInt = 1 ∧ (fv Po 79 1).toInt = (fv Po 79 1).toInt ∧ (fv Po 79 2).toInt = (fv Po 79 2).toInt) ∨ ((fv Po 79 3).toInt = 0 ∧ (((fv Po 79 1).toInt < 7 ∧ (fv Po 79 1).toInt = (fv Po 79 1).toInt + 1) ∨ ((fv Po 79 1).toInt = 7 ∧ (fv Po 79 1).toInt = 0)) ∧ (((fv Po 79 2).toInt < 8 ∧ (fv Po 79 2).toInt = (fv Po 79 2).toInt + 1) ∨ ((fv Po 79 2).toInt = 8 ∧ (fv Po 79 2).toInt = 8)))) := by omega
      have u18 : ((fv Po 79 3).toInt = 1 ∨ SCs Po (81 + 26 * (fv Po 79 1).toInt.toNat) Po a1_) := Or.inl (by omega)
      have u19 : (∀ x j : Nat, ¬ x = 79 → (x < (81 + 26 * (fv Po 79 1).toInt.toNat) ∨ (81 + 26 * (fv Po 79 1).toInt.toNat) + 26 ≤ x) → fv Po x j = fv Po x j) := fun _ _ _ _ => rfl
      have u20 : ((fv Po 79 3).toInt = 0 ∨ ∀ x j : Nat, fv Po x j = fv Po x j) := Or.inr (fun _ _ => rfl)
      have u21 : fv Po 79 3 = fv Po 79 3 := by rw []
      have u22 : KI 79 289 Po Po := fun _ _ _ => rfl
      exact mp_ret ⟨⟨rfl, trivial⟩, hT, KW.refl, hJ, ⟨u17, u18, u19, u20, u21, u22⟩⟩ dX0_push_63 rfl
    · have c16 : (fv Po 79 3).toInt = 0 := ti_ne_n c16
      refine mp_a (a_aload_n dX0_push_20 rfl) (mpp 21 rfl ?_)
      refine mp_a (a_aload_n dX0_push_21 rfl) (mpp 22 rfl ?_)
      have p23 : b11 + 26 ≤ a1_ ∨ a1_ + 26 ≤ b11 := by omega
      refine mt_callv (i := 30) (q' := q_17) (As := [.ref a1_]) (rest := []) hT dX0_push_22 rfl qm_17 (by decide) rfl q12 (by decide) rfl (Nat.le_of_ble_eq_true rfl) rfl ⟨rfl, rfl⟩ ⟨Nat.le_of_ble_eq_true rfl, Nat.le_of_ble_eq_true rfl⟩ (EvP.mono (by decide) (c_CS_copyFrom_State_State hT hX hJ p23 q12 ha1)) (fun r24 P25 g26 => mpp 25 rfl ?_)
      obtain ⟨⟨rfl, g28⟩, hT29, k30, J33, R31⟩ := g26
      have k32 : KW [65, 66, 67, 192, 193, 194, 256, 320, 385, 386] Po P25 := KW.trans KW.refl k30 rfl
      show MEvP _ none q_15 25 [(2, .ref b11), (0, .ref 79), (1, .ref a1_)] [] _ _ _ _
      refine mp_a (a_aload_n dX0_push_25 rfl) (mpp 26 rfl ?_)
      refine mp_a (a_aload_n dX0_push_26 rfl) (mpp 27 rfl ?_)
      have e34 : (fv P25 79 1).toInt = (fv Po 79 1).toInt := congrArg Int32.toInt (KW.at k30 1 rl_79 rfl)
      refine mt_getI (i := 18) (k := 1) hT29 dX0_push_27 rfl rl_79 (by decide) rfl (by decide) rfl (fun g35 g36 => mpp 30 rfl ?_)
      refine mp_a (a_bipush (v := 7) dX0_push_30 rfl) (mpp 32 rfl ?_)
      refine mp_Tb (t := 44) (j_icmp_ge dX0_push_32) (by decide) (fun c37 => ?_) (fun c37 => mpp 35 rfl ?_)
      · have c37 : (fv P25 79 1).toInt ≥ 7 := ti_ge c37
        refine mp_a (a_iconst (v := 0) dX0_push_44 rfl) (mpp 45 rfl ?_)
        refine mt_putI (i := 18) (k := 1) (x := 0) hT29 dX0_push_45 rfl rl_79 (by decide) rfl (by decide) rfl (by decide) rfl rfl (fun P38 hT39 f40 f41 f42 => mpp 48 rfl ?_)
        have k43 : KW [65, 66, 67, 192, 193, 194, 256, 320, 385, 386] Po P38 := KW.step k32 rl_79 rfl f41 f42
        have J44 := Inj.st J33 f42
        have e45 : (fv P38 79 1).toInt = 0 := congrArg Int32.toInt f40
        refine mp_a (a_aload_n dX0_push_48 rfl) (mpp 49 rfl ?_)
        refine mp_a (a_aload_n dX0_push_49 rfl) (mpp 50 rfl ?_)
        have e46 : (fv P38 79 2).toInt = (fv Po 79 2).toInt := congrArg Int32.toInt ((f41 79 2 (ne_k rfl)).trans (KW.at k30 2 rl_79 rfl))
        refine mt_getI (i := 34) (k := 2) hT39 dX0_push_50 rfl rl_79 (by decide) rfl (by decide) rfl (fun g47 g48 => mpp 53 rfl ?_)
        refine mp_a (a_iconst (v := 1) dX0_push_53 rfl) (mpp 54 rfl ?_)
        obtain ⟨z49, h50⟩ := ti_ex ((fv P38 79 2) + 1 : Int32)
        have wz49 := ti_full z49
        refine mp_t (s_iadd (v := z49) dX0_push_54 h50) (mpp 55 rfl ?_)
        try have e51 : z49.toInt = (fv P38 79 2).toInt + 1 := ti_addz h50 rfl rfl (by omega) (by omega)
        refine mp_a (a_bipush (v := 8) dX0_push_55 rfl) (mpp 57 rfl ?_)
        obtain ⟨z52, h53⟩ := ti_ex (if (8 : Nat) = 7 then (if z49 < 8 then 8 else z49) else (if 8 < z49 then 8 else z49) : Int32)
        have e54 : z52.toInt = min z49.toInt 8 := ti_mm8 h53
        refine mp_math (i := 37) (k := 0) (v := z52) dX0_push_57 rfl (by decide) (Nat.le_of_ble_eq_true rfl) h53 ⟨Nat.le_of_ble_eq_true rfl, Nat.le_of_ble_eq_true rfl⟩ (mpp 60 rfl ?_)
        refine mt_putI (i := 34) (k := 2) (x := z52) hT39 dX0_push_60 rfl rl_79 (by decide) rfl (by decide) rfl ⟨by omega, by omega⟩ rfl rfl (fun P55 hT56 f57 f58 f59 => mpp 63 rfl ?_)
        have k60 : KW [65, 66, 67, 192, 193, 194, 256, 320, 385, 386] Po P55 := KW.step k43 rl_79 rfl f58 f59
        have J61 := Inj.st J44 f59
        have e62 : (fv P55 79 2).toInt = z52.toInt := congrArg Int32.toInt f57
        have e64 : (fv P55 79 1).toInt = (fv P38 79 1).toInt := congrArg Int32.toInt (f58 79 1 (ne_k rfl))
        have u63 : (((fv Po 79 3).toInt = 1 ∧ (fv P55 79 1).toInt = (fv Po 79 1).toInt ∧ (fv P55 79 2).toInt = (fv Po 79 2).toInt) ∨ ((fv Po 79 3).toInt = 0 ∧ (((fv Po 79 1).toInt < 7 ∧ (fv P55 79 1).toInt = (fv Po 79 1).toInt + 1) ∨ ((fv Po 79 1).toInt = 7 ∧ (fv P55 79 1).toInt = 0)) ∧ (((fv Po 79 2).toInt < 8 ∧ (fv P55 79 2).toInt = (fv Po 79 2).toInt + 1) ∨ ((fv Po 79 2).toInt = 8 ∧ (fv P55 79 2).toInt = 8)))) := by omega
        have ka : KI 79 80 P25 P55 := fun x j hx => by rw [f58 x j (by omega), f41 x j (by omega)]
        have eb := q12r.2.2
        have u65 : ((fv Po 79 3).toInt = 1 ∨ SCs P55 (81 + 26 * (fv Po 79 1).toInt.toNat) Po a1_) := Or.inr (eb ▸ SCs.keep (show SCs P25 b11 Po a1_ from ⟨R31.1, R31.2.1, R31.2.2.1, R31.2.2.2.1⟩) ka (by omega))
        have u66 : (∀ x j : Nat, ¬ x = 79 → (x < (81 + 26 * (fv Po 79 1).toInt.toNat) ∨ (81 + 26 * (fv Po 79 1).toInt.toNat) + 26 ≤ x) → fv P55 x j = fv Po x j) := fun x j h1 h2 => by rw [f58 x j (by omega), f41 x j (by omega), R31.2.2.2.2 x j (by omega)]
        have u67 : ((fv Po 79 3).toInt = 0 ∨ ∀ x j : Nat, fv P55 x j = fv Po x j) := Or.inl (by omega)
        have u68 : fv P55 79 3 = fv Po 79 3 := by rw [f58 79 3 (by omega), f41 79 3 (by omega), R31.2.2.2.2 79 3 (by omega)]
        have u69 : KI 79 289 Po P55 := by
          intro x j hx
          rw [f58 x j (by omega), f41 x j (by omega), R31.2.2.2.2 x j (by omega)]
        exact mp_ret ⟨⟨rfl, trivial⟩, hT56, k60, J61, ⟨u63, u65, u66, u67, u68, u69⟩⟩ dX0_push_63 rfl
      · have c37 : (fv P25 79 1).toInt < 7 := ti_ge_n c37
        refine mp_a (a_aload_n dX0_push_35 rfl) (mpp 36 rfl ?_)
        refine mt_getI (i := 18) (k := 1) hT29 dX0_push_36 rfl rl_79 (by decide) rfl (by decide) rfl (fun g70 g71 => mpp 39 rfl ?_)
        refine mp_a (a_iconst (v := 1) dX0_push_39 rfl) (mpp 40 rfl ?_)
        obtain ⟨z72, h73⟩ := ti_ex ((fv P25 79 1) + 1 : Int32)
        have wz72 := ti_full z72
        refine mp_t (s_iadd (v := z72) dX0_push_40 h73) (mpp 41 rfl ?_)
        try have e74 : z72.toInt = (fv P25 79 1).toInt + 1 := ti_addz h73 rfl rfl (by omega) (by omega)
        refine mp_a (a_goto (t := 45) dX0_push_41 (by decide)) ?_
        refine mt_putI (i := 18) (k := 1) (x := z72) hT29 dX0_push_45 rfl rl_79 (by decide) rfl (by decide) rfl ⟨by omega, by omega⟩ rfl rfl (fun P75 hT76 f77 f78 f79 => mpp 48 rfl ?_)
        have k80 : KW [65, 66, 67, 192, 193, 194, 256, 320, 385, 386] Po P75 := KW.step k32 rl_79 rfl f78 f79
        have J81 := Inj.st J33 f79
        have e82 : (fv P75 79 1).toInt = z72.toInt := congrArg Int32.toInt f77
        refine mp_a (a_aload_n dX0_push_48 rfl) (mpp 49 rfl ?_)
        refine mp_a (a_aload_n dX0_push_49 rfl) (mpp 50 rfl ?_)
        have e83 : (fv P75 79 2).toInt = (fv Po 79 2).toInt := congrArg Int32.toInt ((f78 79 2 (ne_k rfl)).trans (KW.at k30 2 rl_79 rfl))
        refine mt_getI (i := 34) (k := 2) hT76 dX0_push_50 rfl rl_79 (by decide) rfl (by decide) rfl (fun g84 g85 => mpp 53 rfl ?_)
        refine mp_a (a_iconst (v := 1) dX0_push_53 rfl) (mpp 54 rfl ?_)
        obtain ⟨z86, h87⟩ := ti_ex ((fv P75 79 2) + 1 : Int32)
        have wz86 := ti_full z86
        refine mp_t (s_iadd (v := z86) dX0_push_54 h87) (mpp 55 rfl ?_)
        try have e88 : z86.toInt = (fv P75 79 2).toInt + 1 := ti_addz h87 rfl rfl (by omega) (by omega)
        refine mp_a (a_bipush (v := 8) dX0_push_55 rfl) (mpp 57 rfl ?_)
        obtain ⟨z89, h90⟩ := ti_ex (if (8 : Nat) = 7 then (if z86 < 8 then 8 else z86) else (if 8 < z86 then 8 else z86) : Int32)
        have e91 : z89.toInt = min z86.toInt 8 := ti_mm8 h90
        refine mp_math (i := 37) (k := 0) (v := z89) dX0_push_57 rfl (by decide) (Nat.le_of_ble_eq_true rfl) h90 ⟨Nat.le_of_ble_eq_true rfl, Nat.le_of_ble_eq_true rfl⟩ (mpp 60 rfl ?_)
        refine mt_putI (i := 34) (k := 2) (x := z89) hT76 dX0_push_60 rfl rl_79 (by decide) rfl (by decide) rfl ⟨by omega, by omega⟩ rfl rfl (fun P92 hT93 f94 f95 f96 => mpp 63 rfl ?_)
        have k97 : KW [65, 66, 67, 192, 193, 194, 256, 320, 385, 386] Po P92 := KW.step k80 rl_79 rfl f95 f96
        have J98 := Inj.st J81 f96
        have e99 : (fv P92 79 2).toInt = z89.toInt := congrArg Int32.toInt f94
        have e101 : (fv P92 79 1).toInt = (fv P75 79 1).toInt := congrArg Int32.toInt (f95 79 1 (ne_k rfl))
        have u100 : (((fv Po 79 3).toInt = 1 ∧ (fv P92 79 1).toInt = (fv Po 79 1).toInt ∧ (fv P92 79 2).toInt = (fv Po 79 2).toInt) ∨ ((fv Po 79 3).toInt = 0 ∧ (((fv Po 79 1).toInt < 7 ∧ (fv P92 79 1).toInt = (fv Po 79 1).toInt + 1) ∨ ((fv Po 79 1).toInt = 7 ∧ (fv P92 79 1).toInt = 0)) ∧ (((fv Po 79 2).toInt < 8 ∧ (fv P92 79 2).toInt = (fv Po 79 2).toInt + 1) ∨ ((fv Po 79 2).toInt = 8 ∧ (fv P92 79 2).toInt = 8)))) := by omega
        have ka : KI 79 80 P25 P92 := fun x j hx => by rw [f95 x j (by omega), f78 x j (by omega)]
        have eb := q12r.2.2
        have u102 : ((fv Po 79 3).toInt = 1 ∨ SCs P92 (81 + 26 * (fv Po 79 1).toInt.toNat) Po a1_) := Or.inr (eb ▸ SCs.keep (show SCs P25 b11 Po a1_ from ⟨R31.1, R31.2.1, R31.2.2.1, R31.2.2.2.1⟩) ka (by omega))
        have u103 : (∀ x j : Nat, ¬ x = 79 → (x < (81 + 26 * (fv Po 79 1).toInt.toNat) ∨ (81 + 26 * (fv Po 79 1).toInt.toNat) + 26 ≤ x) → fv P92 x j = fv Po x j) := fun x j h1 h2 => by rw [f95 x j (by omega), f78 x j (by omega), R31.2.2.2.2 x j (by omega)]
        have u104 : ((fv Po 79 3).toInt = 0 ∨ ∀ x j : Nat, fv P92 x j = fv Po x j) := Or.inl (by omega)
        have u105 : fv P92 79 3 = fv Po 79 3 := by rw [f95 79 3 (by omega), f78 79 3 (by omega), R31.2.2.2.2 79 3 (by omega)]
        have u106 : KI 79 289 Po P92 := by
          intro x j hx
          rw [f95 x j (by omega), f78 x j (by omega), R31.2.2.2.2 x j (by omega)]
        exact mp_ret ⟨⟨rfl, trivial⟩, hT93, k97, J98, ⟨u100, u102, u103, u104, u105, u106⟩⟩ dX0_push_63 rfl

set_option maxHeartbeats 4000000 in
theorem c_CS_copyFrom_NState_State_l26 {Po : mP} {a1_ : Nat} (hTo : Typ Po) (hX : XR Po) (hJo : Inj Po) (ha1 : rl a1_ = 1) : ∀ (n : Nat) (v2 : Int32), ∀ (P : mP), Typ P → KW [256, 320, 1985, 1986, 1987, 2112, 2113, 2114] Po P → Inj P → ((fv P 1 1 = fv Po a1_ 1 ∧ fv P 1 2 = fv Po a1_ 2 ∧ fv P 1 3 = fv Po a1_ 3)) → (∀ k : Nat, k < 8 → (k : Int) < v2.toInt → PE P (rv Po 2 k) Po (a1_ + 2 + 3 * k)) → (KI 1 (1 + 26) Po P) → ((fv P 1 1).toInt = (fv Po a1_ 1).toInt) → (0 ≤ v2.toInt) → (0 ≤ v2.toInt) → (2147483647 - v2.toInt).toNat = n → MEvP 2 none q_17 26 [(0, .ref 1), (1, .ref a1_), (2, .int v2)] [] P 0 0 (fun r P' => (r = none ∧ (True)) ∧ Typ P' ∧ KW [256, 320, 1985, 1986, 1987, 2112, 2113, 2114] Po P' ∧ Inj P' ∧ fv P' 1 1 = fv Po a1_ 1 ∧ fv P' 1 2 = fv Po a1_ 2 ∧ fv P' 1 3 = fv Po a1_ 3 ∧ (∀ k : Nat, k < 8 → (k : Int) < (fv Po a1_ 1).toInt → PE P' (rv P' 2 k) Po (a1_ + 2 + 3 * k)) ∧ KI 1 (1 + 26) Po P') := by
  intro n
  induction n using Nat.strongRecOn with | _ n ih => ?_
  intro v2 P hT hK hJ i_0 i_1 i_2 i_3 i_4 i_5 hm
  have w1 := st_ar ha1
  have w_v2 := ti_full v2
  have g2 : (0 : Int) ≤ (fv P 1 1).toInt ∧ (fv P 1 1).toInt ≤ 8 := Typ.rng hT rl_1 (by decide) (by decide) rfl
  have g3 : (0 : Int) ≤ (fv P 1 1).toInt ∧ (fv P 1 1).toInt ≤ 8 := Typ.rng hT rl_1 (by decide) (by decide) rfl
  have eB : (fv P a1_ 1).toInt = (fv Po a1_ 1).toInt := congrArg Int32.toInt (i_2 _ _ (by omega))
  refine mp_a (a_iload_n dX5_copyFrom_26 rfl) (mpp 27 rfl ?_)
  refine mp_a (a_aload_n dX5_copyFrom_27 rfl) (mpp 28 rfl ?_)
  refine mt_getI (i := 22) (k := 1) hT dX5_copyFrom_28 rfl rl_1 (by decide) rfl (by decide) rfl (fun g4 g5 => mpp 31 rfl ?_)
  refine mp_Tb (t := 68) (j_icmp_ge dX5_copyFrom_31) (by decide) (fun c6 => ?_) (fun c6 => mpp 34 rfl ?_)
  · have c6 : v2.toInt ≥ (fv P 1 1).toInt := ti_ge c6
    have u7 : fv P 1 1 = fv Po a1_ 1 ∧ fv P 1 2 = fv Po a1_ 2 ∧ fv P 1 3 = fv Po a1_ 3 ∧ (∀ k : Nat, k < 8 → (k : Int) < (fv Po a1_ 1).toInt → PE P (rv P 2 k) Po (a1_ + 2 + 3 * k)) ∧ KI 1 (1 + 26) Po P := ⟨i_0.1, i_0.2.1, i_0.2.2, fun k hk h => by rw [hK.2.2 rfl k]; exact i_1 k hk (by omega), i_2⟩
    exact mp_ret ⟨⟨rfl, trivial⟩, hT, hK, hJ, u7⟩ dX5_copyFrom_68 rfl
  · have c6 : v2.toInt < (fv P 1 1).toInt := ti_ge_n c6
    refine mp_a (a_aload_n dX5_copyFrom_34 rfl) (mpp 35 rfl ?_)
    refine mp_a (a_iload_n dX5_copyFrom_35 rfl) (mpp 36 rfl ?_)
    refine mt_callv (i := 28) (q' := q_9) (As := [.int v2]) (rest := []) hT dX5_copyFrom_36 rfl qm_9 (by decide) rfl rl_1 (by decide) rfl (Nat.le_of_ble_eq_true rfl) rfl ⟨rfl, rfl⟩ ⟨Nat.le_of_ble_eq_true rfl, Nat.le_of_ble_eq_true rfl⟩ (EvP.mono (by decide) (c_CS_pieceAt_NState hT (KW.xr hK hX) )) (fun r8 P9 g10 => mpp 39 rfl ?_)
    obtain ⟨g10, e11⟩ := g10
    have e11 := e11.symm
    subst e11
    rcases g10 with ⟨rfl, q13n⟩ | ⟨b12, rfl, q13, q13r⟩
    · show MEvP _ none q_17 39 [(0, .ref 1), (1, .ref a1_), (2, .int v2)] [.null] _ _ _ _
      replace q13n : v2.toInt < 0 ∨ (fv P 1 1).toInt ≤ v2.toInt ∨ 8 ≤ v2.toInt := q13n
      refine mp_a (a_astore_nN (L' := [(3, .null), (0, .ref 1), (1, .ref a1_), (2, .int v2)]) dX5_copyFrom_39 (by decide) rfl) (mpp 40 rfl ?_)
      refine mp_a (a_aload_n dX5_copyFrom_40 rfl) (mpp 41 rfl ?_)
      refine mp_a (a_iload_n dX5_copyFrom_41 rfl) (mpp 42 rfl ?_)
      refine mt_callv (i := 28) (q' := q_9) (As := [.int v2]) (rest := []) hT dX5_copyFrom_42 rfl qm_9 (by decide) rfl ha1 (by decide) rfl (Nat.le_of_ble_eq_true rfl) rfl ⟨rfl, rfl⟩ ⟨Nat.le_of_ble_eq_true rfl, Nat.le_of_ble_eq_true rfl⟩ (EvP.mono (by decide) (c_CS_pieceAt_State hT (KW.xr hK hX) ha1)) (fun r14 P15 g16 => mpp 45 rfl ?_)
      obtain ⟨g16, e17⟩ := g16
      have e17 := e17.symm
      subst e17
      rcases g16 with ⟨rfl, q19n⟩ | ⟨b18, rfl, q19, q19r⟩
      · show MEvP _ none q_17 45 [(3, .null), (0, .ref 1), (1, .ref a1_), (2, .int v2)] [.null] _ _ _ _
        replace q19n : v2.toInt < 0 ∨ (fv P a1_ 1).toInt ≤ v2.toInt ∨ 8 ≤ v2.toInt := q19n
        have e20 : (fv P a1_ 1).toInt = (fv Po a1_ 1).toInt := congrArg Int32.toInt (KW.at hK 1 ha1 rfl)
        refine mp_a (a_astoreN (L' := [(4, .null), (3, .null), (0, .ref 1), (1, .ref a1_), (2, .int v2)]) dX5_copyFrom_45 (by decide) rfl) (mpp 47 rfl ?_)
        refine mp_a (a_aload_nN dX5_copyFrom_47 rfl) (mpp 48 rfl ?_)
        refine mp_t (s_ifnullN (t := 62) dX5_copyFrom_48 (by decide)) ?_
        obtain ⟨z21, h22⟩ := ti_ex (v2 + 1 : Int32)
        have wz21 := ti_full z21
        refine mp_a (a_iinc (v := z21) (L' := [(2, .int z21), (4, .null), (3, .null), (0, .ref 1), (1, .ref a1_)]) dX5_copyFrom_62 (by decide) rfl h22 rfl) (mpp 65 rfl ?_)
        try have e23 : z21.toInt = v2.toInt + 1 := ti_addz h22 rfl rfl (by omega) (by omega)
        refine mp_a (a_goto (t := 26) dX5_copyFrom_65 (by decide)) ?_
        refine MEvP.less (L := [(0, .ref 1), (1, .ref a1_), (2, .int z21)]) rfl rfl ⟨rfl, rfl, rfl, trivial⟩ ?_
        have i24 : (fv P 1 1 = fv Po a1_ 1 ∧ fv P 1 2 = fv Po a1_ 2 ∧ fv P 1 3 = fv Po a1_ 3) := ⟨i_0.1, i_0.2.1, i_0.2.2⟩
        have i25 : ∀ k : Nat, k < 8 → (k : Int) < z21.toInt → PE P (rv Po 2 k) Po (a1_ + 2 + 3 * k) := fun k hk h => i_1 k hk (by omega)
        have i26 : KI 1 (1 + 26) Po P := i_2
        have i27 : (fv P 1 1).toInt = (fv Po a1_ 1).toInt := by omega
        have i28 : 0 ≤ z21.toInt := by omega
        have i29 : 0 ≤ z21.toInt := by omega
        exact ih _ (by omega) _ P hT hK hJ i24 i25 i26 i27 i28 i29 rfl
      · show MEvP _ none q_17 45 [(3, .null), (0, .ref 1), (1, .ref a1_), (2, .int v2)] [.ref b18] _ _ _ _
        replace q19r : 0 ≤ v2.toInt ∧ v2.toInt ≤ 7 ∧ v2.toInt + 1 ≤ (fv P a1_ 1).toInt ∧ b18 = a1_ + 2 + 3 * v2.toInt.toNat := q19r
        have e30 : (fv P a1_ 1).toInt = (fv Po a1_ 1).toInt := congrArg Int32.toInt (KW.at hK 1 ha1 rfl)
        have w31 := pc_ar q19
        refine mp_a (a_astore (L' := [(4, .ref b18), (3, .null), (0, .ref 1), (1, .ref a1_), (2, .int v2)]) dX5_copyFrom_45 (by decide) rfl) (mpp 47 rfl ?_)
        refine mp_a (a_aload_nN dX5_copyFrom_47 rfl) (mpp 48 rfl ?_)
        refine mp_t (s_ifnullN (t := 62) dX5_copyFrom_48 (by decide)) ?_
        obtain ⟨z32, h33⟩ := ti_ex (v2 + 1 : Int32)
        have wz32 := ti_full z32
        refine mp_a (a_iinc (v := z32) (L' := [(2, .int z32), (4, .ref b18), (3, .null), (0, .ref 1), (1, .ref a1_)]) dX5_copyFrom_62 (by decide) rfl h33 rfl) (mpp 65 rfl ?_)
        try have e34 : z32.toInt = v2.toInt + 1 := ti_addz h33 rfl rfl (by omega) (by omega)
        refine mp_a (a_goto (t := 26) dX5_copyFrom_65 (by decide)) ?_
        refine MEvP.less (L := [(0, .ref 1), (1, .ref a1_), (2, .int z32)]) rfl rfl ⟨rfl, rfl, rfl, trivial⟩ ?_
        have i35 : (fv P 1 1 = fv Po a1_ 1 ∧ fv P 1 2 = fv Po a1_ 2 ∧ fv P 1 3 = fv Po a1_ 3) := ⟨i_0.1, i_0.2.1, i_0.2.2⟩
        have i36 : ∀ k : Nat, k < 8 → (k : Int) < z32.toInt → PE P (rv Po 2 k) Po (a1_ + 2 + 3 * k) := fun k hk h => i_1 k hk (by omega)
        have i37 : KI 1 (1 + 26) Po P := i_2
        have i38 : (fv P 1 1).toInt = (fv Po a1_ 1).toInt := by omega
        have i39 : 0 ≤ z32.toInt := by omega
        have i40 : 0 ≤ z32.toInt := by omega
        exact ih _ (by omega) _ P hT hK hJ i35 i36 i37 i38 i39 i40 rfl
    · show MEvP _ none q_17 39 [(0, .ref 1), (1, .ref a1_), (2, .int v2)] [.ref b12] _ _ _ _
      replace q13r : 0 ≤ v2.toInt ∧ v2.toInt ≤ 7 ∧ v2.toInt + 1 ≤ (fv P 1 1).toInt ∧ rv P 2 v2.toInt.toNat = b12 := q13r
      have w41 := np_ar q13
      refine mp_a (a_astore_n (L' := [(3, .ref b12), (0, .ref 1), (1, .ref a1_), (2, .int v2)]) dX5_copyFrom_39 (by decide) rfl) (mpp 40 rfl ?_)
      refine mp_a (a_aload_n dX5_copyFrom_40 rfl) (mpp 41 rfl ?_)
      refine mp_a (a_iload_n dX5_copyFrom_41 rfl) (mpp 42 rfl ?_)
      refine mt_callv (i := 28) (q' := q_9) (As := [.int v2]) (rest := []) hT dX5_copyFrom_42 rfl qm_9 (by decide) rfl ha1 (by decide) rfl (Nat.le_of_ble_eq_true rfl) rfl ⟨rfl, rfl⟩ ⟨Nat.le_of_ble_eq_true rfl, Nat.le_of_ble_eq_true rfl⟩ (EvP.mono (by decide) (c_CS_pieceAt_State hT (KW.xr hK hX) ha1)) (fun r42 P43 g44 => mpp 45 rfl ?_)
      obtain ⟨g44, e45⟩ := g44
      have e45 := e45.symm
      subst e45
      rcases g44 with ⟨rfl, q47n⟩ | ⟨b46, rfl, q47, q47r⟩
      · show MEvP _ none q_17 45 [(3, .ref b12), (0, .ref 1), (1, .ref a1_), (2, .int v2)] [.null] _ _ _ _
        replace q47n : v2.toInt < 0 ∨ (fv P a1_ 1).toInt ≤ v2.toInt ∨ 8 ≤ v2.toInt := q47n
        have e48 : (fv P a1_ 1).toInt = (fv Po a1_ 1).toInt := congrArg Int32.toInt (KW.at hK 1 ha1 rfl)
        refine mp_a (a_astoreN (L' := [(4, .null), (3, .ref b12), (0, .ref 1), (1, .ref a1_), (2, .int v2)]) dX5_copyFrom_45 (by decide) rfl) (mpp 47 rfl ?_)
        refine mp_a (a_aload_n dX5_copyFrom_47 rfl) (mpp 48 rfl ?_)
        refine mp_t (s_ifnullR dX5_copyFrom_48) (mpp 51 rfl ?_)
        refine mp_a (a_aloadN dX5_copyFrom_51 rfl) (mpp 53 rfl ?_)
        refine mp_t (s_ifnullN (t := 62) dX5_copyFrom_53 (by decide)) ?_
        obtain ⟨z49, h50⟩ := ti_ex (v2 + 1 : Int32)
        have wz49 := ti_full z49
        refine mp_a (a_iinc (v := z49) (L' := [(2, .int z49), (4, .null), (3, .ref b12), (0, .ref 1), (1, .ref a1_)]) dX5_copyFrom_62 (by decide) rfl h50 rfl) (mpp 65 rfl ?_)
        try have e51 : z49.toInt = v2.toInt + 1 := ti_addz h50 rfl rfl (by omega) (by omega)
        refine mp_a (a_goto (t := 26) dX5_copyFrom_65 (by decide)) ?_
        refine MEvP.less (L := [(0, .ref 1), (1, .ref a1_), (2, .int z49)]) rfl rfl ⟨rfl, rfl, rfl, trivial⟩ ?_
        have i52 : (fv P 1 1 = fv Po a1_ 1 ∧ fv P 1 2 = fv Po a1_ 2 ∧ fv P 1 3 = fv Po a1_ 3) := ⟨i_0.1, i_0.2.1, i_0.2.2⟩
        have i53 : ∀ k : Nat, k < 8 → (k : Int) < z49.toInt → PE P (rv Po 2 k) Po (a1_ + 2 + 3 * k) := fun k hk h => i_1 k hk (by omega)
        have i54 : KI 1 (1 + 26) Po P := i_2
        have i55 : (fv P 1 1).toInt = (fv Po a1_ 1).toInt := by omega
        have i56 : 0 ≤ z49.toInt := by omega
        have i57 : 0 ≤ z49.toInt := by omega
        exact ih _ (by omega) _ P hT hK hJ i52 i53 i54 i55 i56 i57 rfl
      · show MEvP _ none q_17 45 [(3, .ref b12), (0, .ref 1), (1, .ref a1_), (2, .int v2)] [.ref b46] _ _ _ _
        replace q47r : 0 ≤ v2.toInt ∧ v2.toInt ≤ 7 ∧ v2.toInt + 1 ≤ (fv P a1_ 1).toInt ∧ b46 = a1_ + 2 + 3 * v2.toInt.toNat := q47r
        have e58 : (fv P a1_ 1).toInt = (fv Po a1_ 1).toInt := congrArg Int32.toInt (KW.at hK 1 ha1 rfl)
        have w59 := pc_ar q47
        refine mp_a (a_astore (L' := [(4, .ref b46), (3, .ref b12), (0, .ref 1), (1, .ref a1_), (2, .int v2)]) dX5_copyFrom_45 (by decide) rfl) (mpp 47 rfl ?_)
        refine mp_a (a_aload_n dX5_copyFrom_47 rfl) (mpp 48 rfl ?_)
        refine mp_t (s_ifnullR dX5_copyFrom_48) (mpp 51 rfl ?_)
        refine mp_a (a_aload dX5_copyFrom_51 rfl) (mpp 53 rfl ?_)
        refine mp_t (s_ifnullR dX5_copyFrom_53) (mpp 56 rfl ?_)
        refine mp_a (a_aload_n dX5_copyFrom_56 rfl) (mpp 57 rfl ?_)
        refine mp_a (a_aload dX5_copyFrom_57 rfl) (mpp 59 rfl ?_)
        have p60 : b12 + 3 ≤ b46 ∨ b46 + 3 ≤ b12 := by omega
        refine mt_callv (i := 32) (q' := q_18) (As := [.ref b46]) (rest := []) hT dX5_copyFrom_59 rfl qm_18 (by decide) rfl q13 (by decide) rfl (Nat.le_of_ble_eq_true rfl) rfl ⟨rfl, rfl⟩ ⟨Nat.le_of_ble_eq_true rfl, Nat.le_of_ble_eq_true rfl⟩ (EvP.mono (by decide) (c_CP_copyFrom_NPiece_Piece hT (KW.xr hK hX) p60 q13 q47)) (fun r61 P62 g63 => mpp 62 rfl ?_)
        obtain ⟨⟨rfl, g65⟩, hT66, k67, R68⟩ := g63
        have k69 : KW [256, 320, 1985, 1986, 1987, 2112, 2113, 2114] Po P62 := KW.trans hK k67 rfl
        have J71 := Inj.kw hJ k67 rfl
        show MEvP _ none q_17 62 [(4, .ref b46), (3, .ref b12), (0, .ref 1), (1, .ref a1_), (2, .int v2)] [] _ _ _ _
        obtain ⟨z72, h73⟩ := ti_ex (v2 + 1 : Int32)
        have wz72 := ti_full z72
        refine mp_a (a_iinc (v := z72) (L' := [(2, .int z72), (4, .ref b46), (3, .ref b12), (0, .ref 1), (1, .ref a1_)]) dX5_copyFrom_62 (by decide) rfl h73 rfl) (mpp 65 rfl ?_)
        try have e74 : z72.toInt = v2.toInt + 1 := ti_addz h73 rfl rfl (by omega) (by omega)
        refine mp_a (a_goto (t := 26) dX5_copyFrom_65 (by decide)) ?_
        refine MEvP.less (L := [(0, .ref 1), (1, .ref a1_), (2, .int z72)]) rfl rfl ⟨rfl, rfl, rfl, trivial⟩ ?_
        have i75 : (fv P62 1 1 = fv Po a1_ 1 ∧ fv P62 1 2 = fv Po a1_ 2 ∧ fv P62 1 3 = fv Po a1_ 3) := ⟨by rw [R68.2.2.2.2.2 1 1 (by omega)]; exact i_0.1, by rw [R68.2.2.2.2.2 1 2 (by omega)]; exact i_0.2.1, by rw [R68.2.2.2.2.2 1 3 (by omega)]; exact i_0.2.2⟩
        have i76 : ∀ k : Nat, k < 8 → (k : Int) < z72.toInt → PE P62 (rv Po 2 k) Po (a1_ + 2 + 3 * k) := pe_back (fun k => rv Po 2 k) (fun k => a1_ + 2 + 3 * k) (v := v2.toInt) i_1 (by omega) (by omega) ((hK.2.2 rfl _).symm.trans q13r.2.2.2) q47r.2.2.2.symm ⟨R68.1, R68.2.1, R68.2.2.1, R68.2.2.2.1, R68.2.2.2.2.1⟩ i_2 (by omega) R68.2.2.2.2.2 (fun k hk hn => np_dis hJo hTo hk (by omega) hn ((hK.2.2 rfl _).symm.trans q13r.2.2.2))
        have i77 : KI 1 (1 + 26) Po P62 := i_2.trans R68.2.2.2.2.2 (by omega)
        have e78 : (fv P62 1 1).toInt = (fv P 1 1).toInt := congrArg Int32.toInt (KW.at k67 1 rl_1 rfl)
        have i79 : (fv P62 1 1).toInt = (fv Po a1_ 1).toInt := by omega
        have i80 : 0 ≤ z72.toInt := by omega
        have i81 : 0 ≤ z72.toInt := by omega
        exact ih _ (by omega) _ P62 hT66 k69 J71 i75 i76 i77 i79 i80 i81 rfl

set_option maxHeartbeats 4000000 in
theorem c_CS_copyFrom_NState_State {Po : mP} {a1_ : Nat} (hT : Typ Po) (hX : XR Po)  (hJ : Inj Po) (ha1 : rl a1_ = 1) : EvP 3 17 [.ref 1, .ref a1_] Po (fun r P' => (r = none ∧ (True)) ∧ Typ P' ∧ KW [256, 320, 1985, 1986, 1987, 2112, 2113, 2114] Po P' ∧ Inj P' ∧ fv P' 1 1 = fv Po a1_ 1 ∧ fv P' 1 2 = fv Po a1_ 2 ∧ fv P' 1 3 = fv Po a1_ 3 ∧ (∀ k : Nat, k < 8 → (k : Int) < (fv Po a1_ 1).toInt → PE P' (rv P' 2 k) Po (a1_ + 2 + 3 * k)) ∧ KI 1 (1 + 26) Po P') := by
  refine EvP.of qm_17 (Nat.le_of_ble_eq_true rfl) rfl ?_
  show MEvP _ none q_17 0 [(0, .ref 1), (1, .ref a1_)] [] _ 0 0 _
  have w1 := st_ar ha1
  have g2 : (0 : Int) ≤ (fv Po a1_ 1).toInt ∧ (fv Po a1_ 1).toInt ≤ 8 := Typ.rng hT ha1 (by decide) (by decide) rfl
  refine mp_a (a_aload_n dX5_copyFrom_0 rfl) (mpp 1 rfl ?_)
  refine mp_a (a_aload_n dX5_copyFrom_1 rfl) (mpp 2 rfl ?_)
  refine mt_getI (i := 22) (k := 1) hT dX5_copyFrom_2 rfl ha1 (by decide) rfl (by decide) rfl (fun g3 g4 => mpp 5 rfl ?_)
  refine mt_putI (i := 22) (k := 1) (x := (fv Po a1_ 1)) hT dX5_copyFrom_5 rfl rl_1 (by decide) rfl (by decide) rfl ⟨by omega, by omega⟩ rfl rfl (fun P5 hT6 f7 f8 f9 => mpp 8 rfl ?_)
  have k10 : KW [256, 320, 1985, 1986, 1987, 2112, 2113, 2114] Po P5 := KW.step KW.refl rl_1 rfl f8 f9
  have J11 := Inj.st hJ f9
  have e12 : (fv P5 1 1).toInt = (fv Po a1_ 1).toInt := congrArg Int32.toInt f7
  refine mp_a (a_aload_n dX5_copyFrom_8 rfl) (mpp 9 rfl ?_)
  refine mp_a (a_aload_n dX5_copyFrom_9 rfl) (mpp 10 rfl ?_)
  have g13 := ti_full (fv P5 a1_ 2)
  refine mt_getI (i := 17) (k := 2) hT6 dX5_copyFrom_10 rfl ha1 (by decide) rfl (by decide) rfl (fun g14 g15 => mpp 13 rfl ?_)
  refine mt_putI (i := 17) (k := 2) (x := (fv P5 a1_ 2)) hT6 dX5_copyFrom_13 rfl rl_1 (by decide) rfl (by decide) rfl (ti_full (fv P5 a1_ 2)) rfl rfl (fun P16 hT17 f18 f19 f20 => mpp 16 rfl ?_)
  have k21 : KW [256, 320, 1985, 1986, 1987, 2112, 2113, 2114] Po P16 := KW.step k10 rl_1 rfl f19 f20
  have J22 := Inj.st J11 f20
  have e23 : (fv P16 1 2).toInt = (fv P5 a1_ 2).toInt := congrArg Int32.toInt f18
  refine mp_a (a_aload_n dX5_copyFrom_16 rfl) (mpp 17 rfl ?_)
  refine mp_a (a_aload_n dX5_copyFrom_17 rfl) (mpp 18 rfl ?_)
  have g24 := ti_full (fv P16 a1_ 3)
  refine mt_getI (i := 25) (k := 3) hT17 dX5_copyFrom_18 rfl ha1 (by decide) rfl (by decide) rfl (fun g25 g26 => mpp 21 rfl ?_)
  refine mt_putI (i := 25) (k := 3) (x := (fv P16 a1_ 3)) hT17 dX5_copyFrom_21 rfl rl_1 (by decide) rfl (by decide) rfl (ti_full (fv P16 a1_ 3)) rfl rfl (fun P27 hT28 f29 f30 f31 => mpp 24 rfl ?_)
  have k32 : KW [256, 320, 1985, 1986, 1987, 2112, 2113, 2114] Po P27 := KW.step k21 rl_1 rfl f30 f31
  have J33 := Inj.st J22 f31
  have e34 : (fv P27 1 3).toInt = (fv P16 a1_ 3).toInt := congrArg Int32.toInt f29
  refine mp_a (a_iconst (v := 0) dX5_copyFrom_24 rfl) (mpp 25 rfl ?_)
  refine mp_a (a_istore_n (L' := [(2, .int 0), (0, .ref 1), (1, .ref a1_)]) dX5_copyFrom_25 (by decide) rfl) (mpp 26 rfl ?_)
  refine MEvP.less (L := [(0, .ref 1), (1, .ref a1_), (2, .int 0)]) rfl rfl ⟨rfl, rfl, rfl, trivial⟩ ?_
  have i35 : (fv P27 1 1 = fv Po a1_ 1 ∧ fv P27 1 2 = fv Po a1_ 2 ∧ fv P27 1 3 = fv Po a1_ 3) := ⟨by rw [f30 1 1 (by omega), f19 1 1 (by omega), f7], by rw [f30 1 2 (by omega), f18, f8 a1_ 2 (by omega)], by rw [f29, f19 a1_ 3 (by omega), f8 a1_ 3 (by omega)]⟩
  have i36 : ∀ k : Nat, k < 8 → (k : Int) < (0 : Int) → PE P27 (rv Po 2 k) Po (a1_ + 2 + 3 * k) := fun k hk h => absurd h (by omega)
  have i37 : KI 1 (1 + 26) Po P27 := by intro x j hx; rw [f30 x j (by omega), f19 x j (by omega), f8 x j (by omega)]
  have e38 : (fv P27 1 1).toInt = (fv P5 1 1).toInt := congrArg Int32.toInt ((f30 1 1 (ne_k rfl)).trans (f19 1 1 (ne_k rfl)))
  have i39 : (fv P27 1 1).toInt = (fv Po a1_ 1).toInt := by omega
  have i40 : 0 ≤ (0 : Int) := by omega
  have i41 : 0 ≤ (0 : Int) := by omega
  exact c_CS_copyFrom_NState_State_l26 hT hX hJ ha1 _ _ P27 hT28 k32 J33 i35 i36 i37 i39 i40 i41 rfl

set_option maxHeartbeats 4000000 in
theorem c_F_withCreasesAsTold {Po : mP} {t1 : Int32} (hT : Typ Po) (hX : XR Po)   : EvP 2 108 [.ref 0, .int t1] Po (fun r P' => (∃ x : Int32, r = some (.int x) ∧ (((t1.toInt < 0 ∨ (fv Po 1 1).toInt ≤ t1.toInt ∨ 8 ≤ t1.toInt) ∧ x.toInt = t1.toInt) ∨ ((0 ≤ t1.toInt ∧ t1.toInt + 1 ≤ (fv Po 1 1).toInt ∧ t1.toInt ≤ 7) ∧ ccQ Po (rv Po 2 t1.toInt.toNat) = (fv Po 289 6).toInt ∧ x.toInt = t1.toInt) ∨ ((0 ≤ t1.toInt ∧ t1.toInt + 1 ≤ (fv Po 1 1).toInt ∧ t1.toInt ≤ 7) ∧ ¬ ccQ Po (rv Po 2 t1.toInt.toNat) = (fv Po 289 6).toInt ∧ x.toInt = -1002))) ∧ P' = Po) := by
  refine EvP.of qm_108 (Nat.le_of_ble_eq_true rfl) rfl ?_
  show MEvP _ none q_108 0 [(0, .ref 0), (1, .int t1)] [] _ 0 0 _
  have w_t1 := ti_full t1
  have g1 : (0 : Int) ≤ (fv Po 1 1).toInt ∧ (fv Po 1 1).toInt ≤ 8 := Typ.rng hT rl_1 (by decide) (by decide) rfl
  have g2 := ti_full (fv Po 289 6)
  refine mp_a (a_aload_n dX6_withCreasesAsTold_0 rfl) (mpp 1 rfl ?_)
  refine mt_getU (i := 10) (k := 0) (A := 1) hT dX6_withCreasesAsTold_1 rfl rl_0 (by decide) rfl (by decide) rfl un_31 (mpp 4 rfl ?_)
  refine mp_a (a_iload_n dX6_withCreasesAsTold_4 rfl) (mpp 5 rfl ?_)
  refine mt_callv (i := 94) (q' := q_9) (As := [.int t1]) (rest := []) hT dX6_withCreasesAsTold_5 rfl qm_9 (by decide) rfl rl_1 (by decide) rfl (Nat.le_of_ble_eq_true rfl) rfl ⟨rfl, rfl⟩ ⟨Nat.le_of_ble_eq_true rfl, Nat.le_of_ble_eq_true rfl⟩ (EvP.mono (by decide) (c_CS_pieceAt_NState hT hX )) (fun r3 P4 g5 => mpp 8 rfl ?_)
  obtain ⟨g5, e6⟩ := g5
  have e6 := e6.symm
  subst e6
  rcases g5 with ⟨rfl, q8n⟩ | ⟨b7, rfl, q8, q8r⟩
  · show MEvP _ none q_108 8 [(0, .ref 0), (1, .int t1)] [.null] _ _ _ _
    replace q8n : t1.toInt < 0 ∨ (fv Po 1 1).toInt ≤ t1.toInt ∨ 8 ≤ t1.toInt := q8n
    refine mp_a (a_astore_nN (L' := [(2, .null), (0, .ref 0), (1, .int t1)]) dX6_withCreasesAsTold_8 (by decide) rfl) (mpp 9 rfl ?_)
    refine mp_a (a_aload_nN dX6_withCreasesAsTold_9 rfl) (mpp 10 rfl ?_)
    refine mp_t (s_ifnonnullN dX6_withCreasesAsTold_10) (mpp 13 rfl ?_)
    refine mp_a (a_iload_n dX6_withCreasesAsTold_13 rfl) (mpp 14 rfl ?_)
    have u9 : ((t1.toInt < 0 ∨ (fv Po 1 1).toInt ≤ t1.toInt ∨ 8 ≤ t1.toInt) ∧ t1.toInt = t1.toInt) ∨ ((0 ≤ t1.toInt ∧ t1.toInt + 1 ≤ (fv Po 1 1).toInt ∧ t1.toInt ≤ 7) ∧ ccQ Po (rv Po 2 t1.toInt.toNat) = (fv Po 289 6).toInt ∧ t1.toInt = t1.toInt) ∨ ((0 ≤ t1.toInt ∧ t1.toInt + 1 ≤ (fv Po 1 1).toInt ∧ t1.toInt ≤ 7) ∧ ¬ ccQ Po (rv Po 2 t1.toInt.toNat) = (fv Po 289 6).toInt ∧ t1.toInt = -1002) := Or.inl ⟨by omega, rfl⟩
    exact mp_iret ⟨⟨_, rfl, u9⟩, rfl⟩ dX6_withCreasesAsTold_14 (Or.inl rfl)
  · show MEvP _ none q_108 8 [(0, .ref 0), (1, .int t1)] [.ref b7] _ _ _ _
    replace q8r : 0 ≤ t1.toInt ∧ t1.toInt ≤ 7 ∧ t1.toInt + 1 ≤ (fv Po 1 1).toInt ∧ rv Po 2 t1.toInt.toNat = b7 := q8r
    have w10 := np_ar q8
    refine mp_a (a_astore_n (L' := [(2, .ref b7), (0, .ref 0), (1, .int t1)]) dX6_withCreasesAsTold_8 (by decide) rfl) (mpp 9 rfl ?_)
    refine mp_a (a_aload_n dX6_withCreasesAsTold_9 rfl) (mpp 10 rfl ?_)
    refine mp_t (s_ifnonnullR (t := 15) dX6_withCreasesAsTold_10 (by decide)) ?_
    refine mp_a (a_aload_n dX6_withCreasesAsTold_15 rfl) (mpp 16 rfl ?_)
    refine mt_callv (i := 123) (q' := q_25) (As := []) (rest := []) hT dX6_withCreasesAsTold_16 rfl qm_25 (by decide) rfl q8 (by decide) rfl (Nat.le_of_ble_eq_true rfl) rfl ⟨rfl, rfl⟩ ⟨Nat.le_of_ble_eq_true rfl, Nat.le_of_ble_eq_true rfl⟩ (EvP.mono (by decide) (c_CP_creaseCount_NPiece hT hX q8)) (fun r11 P12 g13 => mpp 19 rfl ?_)
    obtain ⟨⟨x14, rfl, g15⟩, e16⟩ := g13
    have e16 := e16.symm
    subst e16
    have wx14 := ti_full x14
    replace g15 : -1 ≤ x14.toInt ∧ x14.toInt ≤ (fv Po b7 1).toInt ∧ (((fv Po b7 0).toInt = 0 ∧ x14.toInt = (fv Po b7 1).toInt - 1) ∨ ((fv Po b7 0).toInt ≠ 0 ∧ x14.toInt = (fv Po b7 1).toInt)) := g15
    have g17 : (0 : Int) ≤ (fv Po b7 1).toInt ∧ (fv Po b7 1).toInt ≤ 8 := Typ.rng hT q8 (by decide) (by decide) rfl
    have g18 := ti_full (fv Po b7 0)
    show MEvP _ none q_108 19 [(2, .ref b7), (0, .ref 0), (1, .int t1)] [.int x14] _ _ _ _
    refine mp_a (a_aload_n dX6_withCreasesAsTold_19 rfl) (mpp 20 rfl ?_)
    refine mt_getU (i := 32) (k := 4) (A := 289) hT dX6_withCreasesAsTold_20 rfl rl_0 (by decide) rfl (by decide) rfl un_8 (mpp 23 rfl ?_)
    refine mt_getI (i := 309) (k := 6) hT dX6_withCreasesAsTold_23 rfl rl_289 (by decide) rfl (by decide) rfl (fun g19 g20 => mpp 26 rfl ?_)
    refine mp_Tb (t := 33) (j_icmp_ne dX6_withCreasesAsTold_26) (by decide) (fun c21 => ?_) (fun c21 => mpp 29 rfl ?_)
    · have c21 : x14.toInt ≠ (fv Po 289 6).toInt := ti_ne c21
      refine mp_a (a_sipush (v := -1002) dX6_withCreasesAsTold_33 rfl) (mpp 36 rfl ?_)
      have w23_ : ccQ Po b7 = x14.toInt := by unfold ccQ; split <;> omega
      have u22 : ((t1.toInt < 0 ∨ (fv Po 1 1).toInt ≤ t1.toInt ∨ 8 ≤ t1.toInt) ∧ (-1002 : Int) = t1.toInt) ∨ ((0 ≤ t1.toInt ∧ t1.toInt + 1 ≤ (fv Po 1 1).toInt ∧ t1.toInt ≤ 7) ∧ ccQ Po (rv Po 2 t1.toInt.toNat) = (fv Po 289 6).toInt ∧ (-1002 : Int) = t1.toInt) ∨ ((0 ≤ t1.toInt ∧ t1.toInt + 1 ≤ (fv Po 1 1).toInt ∧ t1.toInt ≤ 7) ∧ ¬ ccQ Po (rv Po 2 t1.toInt.toNat) = (fv Po 289 6).toInt ∧ (-1002 : Int) = -1002) := by rw [q8r.2.2.2, w23_]; exact Or.inr (Or.inr ⟨by omega, by omega, by omega⟩)
      exact mp_iret ⟨⟨_, rfl, u22⟩, rfl⟩ dX6_withCreasesAsTold_36 (Or.inl rfl)
    · have c21 : x14.toInt = (fv Po 289 6).toInt := ti_ne_n c21
      refine mp_a (a_iload_n dX6_withCreasesAsTold_29 rfl) (mpp 30 rfl ?_)
      refine mp_a (a_goto (t := 36) dX6_withCreasesAsTold_30 (by decide)) ?_
      have w25_ : ccQ Po b7 = x14.toInt := by unfold ccQ; split <;> omega
      have u24 : ((t1.toInt < 0 ∨ (fv Po 1 1).toInt ≤ t1.toInt ∨ 8 ≤ t1.toInt) ∧ t1.toInt = t1.toInt) ∨ ((0 ≤ t1.toInt ∧ t1.toInt + 1 ≤ (fv Po 1 1).toInt ∧ t1.toInt ≤ 7) ∧ ccQ Po (rv Po 2 t1.toInt.toNat) = (fv Po 289 6).toInt ∧ t1.toInt = t1.toInt) ∨ ((0 ≤ t1.toInt ∧ t1.toInt + 1 ≤ (fv Po 1 1).toInt ∧ t1.toInt ≤ 7) ∧ ¬ ccQ Po (rv Po 2 t1.toInt.toNat) = (fv Po 289 6).toInt ∧ t1.toInt = -1002) := by rw [q8r.2.2.2, w25_]; exact Or.inr (Or.inl ⟨by omega, by omega, by omega⟩)
      exact mp_iret ⟨⟨_, rfl, u24⟩, rfl⟩ dX6_withCreasesAsTold_36 (Or.inl rfl)

