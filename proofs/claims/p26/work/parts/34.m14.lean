/-! methods on typed pools, 14 (written by a program) -/
set_option maxHeartbeats 4000000 in
theorem c_CP_copyFrom_Piece_Piece {Po : mP} {a0_ : Nat} {a1_ : Nat} (hT : Typ Po)  (ha0 : rl a0_ = 3) (ha1 : rl a1_ = 3) : EvP 2 18 [.ref a0_, .ref a1_] Po (fun r P' => (r = none ∧ (True)) ∧ Typ P' ∧ KW [192, 193, 194, 256, 320] Po P' ∧ True) := by
  refine EvP.of qm_18 (Nat.le_of_ble_eq_true rfl) rfl ?_
  show MEvP _ none q_18 0 [(0, .ref a0_), (1, .ref a1_)] [] _ 0 0 _
  refine mp_a (a_aload_n dX2_copyFrom_0 rfl) (mpp 1 rfl ?_)
  refine mp_a (a_aload_n dX2_copyFrom_1 rfl) (mpp 2 rfl ?_)
  have g1 := ti_full (fv Po a1_ 0)
  refine mt_getI (i := 18) (k := 0) hT dX2_copyFrom_2 rfl ha1 (by decide) rfl (by decide) rfl (fun g2 g3 => mpp 5 rfl ?_)
  refine mt_putI (i := 18) (k := 0) (x := (fv Po a1_ 0)) hT dX2_copyFrom_5 rfl ha0 (by decide) rfl (by decide) rfl (ti_full (fv Po a1_ 0)) rfl rfl (fun P4 hT5 f6 f7 => mpp 8 rfl ?_)
  have k8 : KW [192, 193, 194, 256, 320] Po P4 := KW.step KW.refl ha0 rfl f7
  have e9 : (fv P4 a0_ 0).toInt = (fv Po a1_ 0).toInt := congrArg Int32.toInt f6
  refine mp_a (a_aload_n dX2_copyFrom_8 rfl) (mpp 9 rfl ?_)
  refine mp_a (a_aload_n dX2_copyFrom_9 rfl) (mpp 10 rfl ?_)
  have g10 : (0 : Int) ≤ (fv P4 a1_ 1).toInt ∧ (fv P4 a1_ 1).toInt ≤ 8 := Typ.rng hT5 ha1 (by decide) (by decide) rfl
  refine mt_getI (i := 26) (k := 1) hT5 dX2_copyFrom_10 rfl ha1 (by decide) rfl (by decide) rfl (fun g11 g12 => mpp 13 rfl ?_)
  refine mt_putI (i := 26) (k := 1) (x := (fv P4 a1_ 1)) hT5 dX2_copyFrom_13 rfl ha0 (by decide) rfl (by decide) rfl ⟨by omega, by omega⟩ rfl rfl (fun P13 hT14 f15 f16 => mpp 16 rfl ?_)
  have k17 : KW [192, 193, 194, 256, 320] Po P13 := KW.step k8 ha0 rfl f16
  have e18 : (fv P13 a0_ 1).toInt = (fv P4 a1_ 1).toInt := congrArg Int32.toInt f15
  refine mp_a (a_aload_n dX2_copyFrom_16 rfl) (mpp 17 rfl ?_)
  refine mp_a (a_aload_n dX2_copyFrom_17 rfl) (mpp 18 rfl ?_)
  have g19 : (0 : Int) ≤ (fv P13 a1_ 2).toInt ∧ (fv P13 a1_ 2).toInt ≤ 1 := Typ.rng hT14 ha1 (by decide) (by decide) rfl
  refine mt_getI (i := 22) (k := 2) hT14 dX2_copyFrom_18 rfl ha1 (by decide) rfl (by decide) rfl (fun g20 g21 => mpp 21 rfl ?_)
  refine mt_putI (i := 22) (k := 2) (x := (fv P13 a1_ 2)) hT14 dX2_copyFrom_21 rfl ha0 (by decide) rfl (by decide) rfl ⟨by omega, by omega⟩ (ti_fit (by omega)) rfl (fun P22 hT23 f24 f25 => mpp 24 rfl ?_)
  have k26 : KW [192, 193, 194, 256, 320] Po P22 := KW.step k17 ha0 rfl f25
  have e27 : (fv P22 a0_ 2).toInt = (fv P13 a1_ 2).toInt := congrArg Int32.toInt f24
  refine mp_a (a_aload_n dX2_copyFrom_24 rfl) (mpp 25 rfl ?_)
  refine mt_getR (i := 9) (k := 3) hT23 dX2_copyFrom_25 rfl ha1 (by decide) rfl (by decide) rfl (fun q28 => mpp 28 rfl ?_)
  generalize rv P22 a1_ 3 = b29 at q28 ⊢
  refine mp_a (a_aload_n dX2_copyFrom_28 rfl) (mpp 29 rfl ?_)
  refine mt_getR (i := 9) (k := 3) hT23 dX2_copyFrom_29 rfl ha0 (by decide) rfl (by decide) rfl (fun q30 => mpp 32 rfl ?_)
  generalize rv P22 a0_ 3 = b31 at q30 ⊢
  refine mp_calls (i := 44) (q' := q_19) (As := [.ref b29, .ref b31]) (rest := []) dX2_copyFrom_32 rfl qm_19 (by decide) rfl (Nat.le_of_ble_eq_true rfl) rfl ⟨rfl, rfl⟩ ⟨Nat.le_of_ble_eq_true rfl, Nat.le_of_ble_eq_true rfl⟩ (EvP.mono (by decide) (c_F_copyRow_sizes_sizes hT23 q28 q30)) (fun r32 P33 g34 => mpp 35 rfl ?_)
  obtain ⟨⟨rfl, g36⟩, hT37, k38, R39⟩ := g34
  have k40 : KW [192, 193, 194, 256, 320] Po P33 := KW.trans k26 k38 rfl
  show MEvP _ none q_18 35 [(0, .ref a0_), (1, .ref a1_)] [] _ _ _ _
  refine mp_a (a_aload_n dX2_copyFrom_35 rfl) (mpp 36 rfl ?_)
  refine mt_getR (i := 15) (k := 4) hT37 dX2_copyFrom_36 rfl ha1 (by decide) rfl (by decide) rfl (fun q41 => mpp 39 rfl ?_)
  generalize rv P33 a1_ 4 = b42 at q41 ⊢
  refine mp_a (a_aload_n dX2_copyFrom_39 rfl) (mpp 40 rfl ?_)
  refine mt_getR (i := 15) (k := 4) hT37 dX2_copyFrom_40 rfl ha0 (by decide) rfl (by decide) rfl (fun q43 => mpp 43 rfl ?_)
  generalize rv P33 a0_ 4 = b44 at q43 ⊢
  refine mp_calls (i := 44) (q' := q_19) (As := [.ref b42, .ref b44]) (rest := []) dX2_copyFrom_43 rfl qm_19 (by decide) rfl (Nat.le_of_ble_eq_true rfl) rfl ⟨rfl, rfl⟩ ⟨Nat.le_of_ble_eq_true rfl, Nat.le_of_ble_eq_true rfl⟩ (EvP.mono (by decide) (c_F_copyRow_creases_creases hT37 q41 q43)) (fun r45 P46 g47 => mpp 46 rfl ?_)
  obtain ⟨⟨rfl, g49⟩, hT50, k51, R52⟩ := g47
  have k53 : KW [192, 193, 194, 256, 320] Po P46 := KW.trans k40 k51 rfl
  show MEvP _ none q_18 46 [(0, .ref a0_), (1, .ref a1_)] [] _ _ _ _
  exact mp_ret ⟨⟨rfl, trivial⟩, hT50, k53, trivial⟩ dX2_copyFrom_46 rfl

set_option maxHeartbeats 4000000 in
theorem c_CS_copyFrom_State_State_l26 {Po : mP} {a0_ : Nat} {a1_ : Nat} (ha0 : rl a0_ = 1) (ha1 : rl a1_ = 1) : ∀ (n : Nat) (v2 : Int32), ∀ (P : mP), Typ P → KW [65, 66, 67, 192, 193, 194, 256, 320] Po P → (0 ≤ v2.toInt) → (2147483647 - v2.toInt).toNat = n → MEvP 2 none q_17 26 [(0, .ref a0_), (1, .ref a1_), (2, .int v2)] [] P 0 0 (fun r P' => (r = none ∧ (True)) ∧ Typ P' ∧ KW [65, 66, 67, 192, 193, 194, 256, 320] Po P' ∧ True) := by
  intro n
  induction n using Nat.strongRecOn with | _ n ih => ?_
  intro v2 P hT hK i_0 hm
  have w_v2 := ti_full v2
  refine mp_a (a_iload_n dX5_copyFrom_26 rfl) (mpp 27 rfl ?_)
  refine mp_a (a_aload_n dX5_copyFrom_27 rfl) (mpp 28 rfl ?_)
  have g1 := ti_full (fv P a0_ 1)
  refine mt_getI (i := 22) (k := 1) hT dX5_copyFrom_28 rfl ha0 (by decide) rfl (by decide) rfl (fun g2 g3 => mpp 31 rfl ?_)
  refine mp_Tb (t := 68) (j_icmp_ge dX5_copyFrom_31) (by decide) (fun c4 => ?_) (fun c4 => mpp 34 rfl ?_)
  · have c4 : v2.toInt ≥ (fv P a0_ 1).toInt := ti_ge c4
    exact mp_ret ⟨⟨rfl, trivial⟩, hT, hK, trivial⟩ dX5_copyFrom_68 rfl
  · have c4 : v2.toInt < (fv P a0_ 1).toInt := ti_ge_n c4
    refine mp_a (a_aload_n dX5_copyFrom_34 rfl) (mpp 35 rfl ?_)
    refine mp_a (a_iload_n dX5_copyFrom_35 rfl) (mpp 36 rfl ?_)
    refine mt_callv (i := 28) (q' := q_9) (As := [.int v2]) (rest := []) hT dX5_copyFrom_36 rfl qm_9 (by decide) rfl ha0 (by decide) rfl (Nat.le_of_ble_eq_true rfl) rfl ⟨rfl, rfl⟩ ⟨Nat.le_of_ble_eq_true rfl, Nat.le_of_ble_eq_true rfl⟩ (EvP.mono (by decide) (c_CS_pieceAt_State hT ha0)) (fun r5 P6 g7 => mpp 39 rfl ?_)
    obtain ⟨g7, e8⟩ := g7
    have e8 := e8.symm
    subst e8
    rcases g7 with rfl | ⟨b9, rfl, q10, q10r⟩
    · show MEvP _ none q_17 39 [(0, .ref a0_), (1, .ref a1_), (2, .int v2)] [.null] _ _ _ _
      refine mp_a (a_astore_nN (L' := [(3, .null), (0, .ref a0_), (1, .ref a1_), (2, .int v2)]) dX5_copyFrom_39 (by decide) rfl) (mpp 40 rfl ?_)
      refine mp_a (a_aload_n dX5_copyFrom_40 rfl) (mpp 41 rfl ?_)
      refine mp_a (a_iload_n dX5_copyFrom_41 rfl) (mpp 42 rfl ?_)
      refine mt_callv (i := 28) (q' := q_9) (As := [.int v2]) (rest := []) hT dX5_copyFrom_42 rfl qm_9 (by decide) rfl ha1 (by decide) rfl (Nat.le_of_ble_eq_true rfl) rfl ⟨rfl, rfl⟩ ⟨Nat.le_of_ble_eq_true rfl, Nat.le_of_ble_eq_true rfl⟩ (EvP.mono (by decide) (c_CS_pieceAt_State hT ha1)) (fun r11 P12 g13 => mpp 45 rfl ?_)
      obtain ⟨g13, e14⟩ := g13
      have e14 := e14.symm
      subst e14
      rcases g13 with rfl | ⟨b15, rfl, q16, q16r⟩
      · show MEvP _ none q_17 45 [(3, .null), (0, .ref a0_), (1, .ref a1_), (2, .int v2)] [.null] _ _ _ _
        refine mp_a (a_astoreN (L' := [(4, .null), (3, .null), (0, .ref a0_), (1, .ref a1_), (2, .int v2)]) dX5_copyFrom_45 (by decide) rfl) (mpp 47 rfl ?_)
        refine mp_a (a_aload_nN dX5_copyFrom_47 rfl) (mpp 48 rfl ?_)
        refine mp_t (s_ifnullN (t := 62) dX5_copyFrom_48 (by decide)) ?_
        obtain ⟨z17, h18⟩ := ti_ex (v2 + 1 : Int32)
        have wz17 := ti_full z17
        refine mp_a (a_iinc (v := z17) (L' := [(2, .int z17), (4, .null), (3, .null), (0, .ref a0_), (1, .ref a1_)]) dX5_copyFrom_62 (by decide) rfl h18 rfl) (mpp 65 rfl ?_)
        try have e19 : z17.toInt = v2.toInt + 1 := ti_addz h18 rfl rfl (by omega) (by omega)
        refine mp_a (a_goto (t := 26) dX5_copyFrom_65 (by decide)) ?_
        refine MEvP.less (L := [(0, .ref a0_), (1, .ref a1_), (2, .int z17)]) rfl rfl ⟨rfl, rfl, rfl, trivial⟩ ?_
        have i20 : 0 ≤ z17.toInt := by omega
        exact ih _ (by omega) _ P hT hK i20 rfl
      · show MEvP _ none q_17 45 [(3, .null), (0, .ref a0_), (1, .ref a1_), (2, .int v2)] [.ref b15] _ _ _ _
        refine mp_a (a_astore (L' := [(4, .ref b15), (3, .null), (0, .ref a0_), (1, .ref a1_), (2, .int v2)]) dX5_copyFrom_45 (by decide) rfl) (mpp 47 rfl ?_)
        refine mp_a (a_aload_nN dX5_copyFrom_47 rfl) (mpp 48 rfl ?_)
        refine mp_t (s_ifnullN (t := 62) dX5_copyFrom_48 (by decide)) ?_
        obtain ⟨z21, h22⟩ := ti_ex (v2 + 1 : Int32)
        have wz21 := ti_full z21
        refine mp_a (a_iinc (v := z21) (L' := [(2, .int z21), (4, .ref b15), (3, .null), (0, .ref a0_), (1, .ref a1_)]) dX5_copyFrom_62 (by decide) rfl h22 rfl) (mpp 65 rfl ?_)
        try have e23 : z21.toInt = v2.toInt + 1 := ti_addz h22 rfl rfl (by omega) (by omega)
        refine mp_a (a_goto (t := 26) dX5_copyFrom_65 (by decide)) ?_
        refine MEvP.less (L := [(0, .ref a0_), (1, .ref a1_), (2, .int z21)]) rfl rfl ⟨rfl, rfl, rfl, trivial⟩ ?_
        have i24 : 0 ≤ z21.toInt := by omega
        exact ih _ (by omega) _ P hT hK i24 rfl
    · show MEvP _ none q_17 39 [(0, .ref a0_), (1, .ref a1_), (2, .int v2)] [.ref b9] _ _ _ _
      refine mp_a (a_astore_n (L' := [(3, .ref b9), (0, .ref a0_), (1, .ref a1_), (2, .int v2)]) dX5_copyFrom_39 (by decide) rfl) (mpp 40 rfl ?_)
      refine mp_a (a_aload_n dX5_copyFrom_40 rfl) (mpp 41 rfl ?_)
      refine mp_a (a_iload_n dX5_copyFrom_41 rfl) (mpp 42 rfl ?_)
      refine mt_callv (i := 28) (q' := q_9) (As := [.int v2]) (rest := []) hT dX5_copyFrom_42 rfl qm_9 (by decide) rfl ha1 (by decide) rfl (Nat.le_of_ble_eq_true rfl) rfl ⟨rfl, rfl⟩ ⟨Nat.le_of_ble_eq_true rfl, Nat.le_of_ble_eq_true rfl⟩ (EvP.mono (by decide) (c_CS_pieceAt_State hT ha1)) (fun r25 P26 g27 => mpp 45 rfl ?_)
      obtain ⟨g27, e28⟩ := g27
      have e28 := e28.symm
      subst e28
      rcases g27 with rfl | ⟨b29, rfl, q30, q30r⟩
      · show MEvP _ none q_17 45 [(3, .ref b9), (0, .ref a0_), (1, .ref a1_), (2, .int v2)] [.null] _ _ _ _
        refine mp_a (a_astoreN (L' := [(4, .null), (3, .ref b9), (0, .ref a0_), (1, .ref a1_), (2, .int v2)]) dX5_copyFrom_45 (by decide) rfl) (mpp 47 rfl ?_)
        refine mp_a (a_aload_n dX5_copyFrom_47 rfl) (mpp 48 rfl ?_)
        refine mp_t (s_ifnullR dX5_copyFrom_48) (mpp 51 rfl ?_)
        refine mp_a (a_aloadN dX5_copyFrom_51 rfl) (mpp 53 rfl ?_)
        refine mp_t (s_ifnullN (t := 62) dX5_copyFrom_53 (by decide)) ?_
        obtain ⟨z31, h32⟩ := ti_ex (v2 + 1 : Int32)
        have wz31 := ti_full z31
        refine mp_a (a_iinc (v := z31) (L' := [(2, .int z31), (4, .null), (3, .ref b9), (0, .ref a0_), (1, .ref a1_)]) dX5_copyFrom_62 (by decide) rfl h32 rfl) (mpp 65 rfl ?_)
        try have e33 : z31.toInt = v2.toInt + 1 := ti_addz h32 rfl rfl (by omega) (by omega)
        refine mp_a (a_goto (t := 26) dX5_copyFrom_65 (by decide)) ?_
        refine MEvP.less (L := [(0, .ref a0_), (1, .ref a1_), (2, .int z31)]) rfl rfl ⟨rfl, rfl, rfl, trivial⟩ ?_
        have i34 : 0 ≤ z31.toInt := by omega
        exact ih _ (by omega) _ P hT hK i34 rfl
      · show MEvP _ none q_17 45 [(3, .ref b9), (0, .ref a0_), (1, .ref a1_), (2, .int v2)] [.ref b29] _ _ _ _
        refine mp_a (a_astore (L' := [(4, .ref b29), (3, .ref b9), (0, .ref a0_), (1, .ref a1_), (2, .int v2)]) dX5_copyFrom_45 (by decide) rfl) (mpp 47 rfl ?_)
        refine mp_a (a_aload_n dX5_copyFrom_47 rfl) (mpp 48 rfl ?_)
        refine mp_t (s_ifnullR dX5_copyFrom_48) (mpp 51 rfl ?_)
        refine mp_a (a_aload dX5_copyFrom_51 rfl) (mpp 53 rfl ?_)
        refine mp_t (s_ifnullR dX5_copyFrom_53) (mpp 56 rfl ?_)
        refine mp_a (a_aload_n dX5_copyFrom_56 rfl) (mpp 57 rfl ?_)
        refine mp_a (a_aload dX5_copyFrom_57 rfl) (mpp 59 rfl ?_)
        refine mt_callv (i := 32) (q' := q_18) (As := [.ref b29]) (rest := []) hT dX5_copyFrom_59 rfl qm_18 (by decide) rfl q10 (by decide) rfl (Nat.le_of_ble_eq_true rfl) rfl ⟨rfl, rfl⟩ ⟨Nat.le_of_ble_eq_true rfl, Nat.le_of_ble_eq_true rfl⟩ (EvP.mono (by decide) (c_CP_copyFrom_Piece_Piece hT q10 q30)) (fun r35 P36 g37 => mpp 62 rfl ?_)
        obtain ⟨⟨rfl, g39⟩, hT40, k41, R42⟩ := g37
        have k43 : KW [65, 66, 67, 192, 193, 194, 256, 320] Po P36 := KW.trans hK k41 rfl
        show MEvP _ none q_17 62 [(4, .ref b29), (3, .ref b9), (0, .ref a0_), (1, .ref a1_), (2, .int v2)] [] _ _ _ _
        obtain ⟨z44, h45⟩ := ti_ex (v2 + 1 : Int32)
        have wz44 := ti_full z44
        refine mp_a (a_iinc (v := z44) (L' := [(2, .int z44), (4, .ref b29), (3, .ref b9), (0, .ref a0_), (1, .ref a1_)]) dX5_copyFrom_62 (by decide) rfl h45 rfl) (mpp 65 rfl ?_)
        try have e46 : z44.toInt = v2.toInt + 1 := ti_addz h45 rfl rfl (by omega) (by omega)
        refine mp_a (a_goto (t := 26) dX5_copyFrom_65 (by decide)) ?_
        refine MEvP.less (L := [(0, .ref a0_), (1, .ref a1_), (2, .int z44)]) rfl rfl ⟨rfl, rfl, rfl, trivial⟩ ?_
        have i47 : 0 ≤ z44.toInt := by omega
        exact ih _ (by omega) _ P36 hT40 k43 i47 rfl

set_option maxHeartbeats 4000000 in
theorem c_CS_copyFrom_State_State {Po : mP} {a0_ : Nat} {a1_ : Nat} (hT : Typ Po)  (ha0 : rl a0_ = 1) (ha1 : rl a1_ = 1) : EvP 3 17 [.ref a0_, .ref a1_] Po (fun r P' => (r = none ∧ (True)) ∧ Typ P' ∧ KW [65, 66, 67, 192, 193, 194, 256, 320] Po P' ∧ True) := by
  refine EvP.of qm_17 (Nat.le_of_ble_eq_true rfl) rfl ?_
  show MEvP _ none q_17 0 [(0, .ref a0_), (1, .ref a1_)] [] _ 0 0 _
  refine mp_a (a_aload_n dX5_copyFrom_0 rfl) (mpp 1 rfl ?_)
  refine mp_a (a_aload_n dX5_copyFrom_1 rfl) (mpp 2 rfl ?_)
  have g1 := ti_full (fv Po a1_ 1)
  refine mt_getI (i := 22) (k := 1) hT dX5_copyFrom_2 rfl ha1 (by decide) rfl (by decide) rfl (fun g2 g3 => mpp 5 rfl ?_)
  refine mt_putI (i := 22) (k := 1) (x := (fv Po a1_ 1)) hT dX5_copyFrom_5 rfl ha0 (by decide) rfl (by decide) rfl (ti_full (fv Po a1_ 1)) rfl rfl (fun P4 hT5 f6 f7 => mpp 8 rfl ?_)
  have k8 : KW [65, 66, 67, 192, 193, 194, 256, 320] Po P4 := KW.step KW.refl ha0 rfl f7
  have e9 : (fv P4 a0_ 1).toInt = (fv Po a1_ 1).toInt := congrArg Int32.toInt f6
  refine mp_a (a_aload_n dX5_copyFrom_8 rfl) (mpp 9 rfl ?_)
  refine mp_a (a_aload_n dX5_copyFrom_9 rfl) (mpp 10 rfl ?_)
  have g10 := ti_full (fv P4 a1_ 2)
  refine mt_getI (i := 17) (k := 2) hT5 dX5_copyFrom_10 rfl ha1 (by decide) rfl (by decide) rfl (fun g11 g12 => mpp 13 rfl ?_)
  refine mt_putI (i := 17) (k := 2) (x := (fv P4 a1_ 2)) hT5 dX5_copyFrom_13 rfl ha0 (by decide) rfl (by decide) rfl (ti_full (fv P4 a1_ 2)) rfl rfl (fun P13 hT14 f15 f16 => mpp 16 rfl ?_)
  have k17 : KW [65, 66, 67, 192, 193, 194, 256, 320] Po P13 := KW.step k8 ha0 rfl f16
  have e18 : (fv P13 a0_ 2).toInt = (fv P4 a1_ 2).toInt := congrArg Int32.toInt f15
  refine mp_a (a_aload_n dX5_copyFrom_16 rfl) (mpp 17 rfl ?_)
  refine mp_a (a_aload_n dX5_copyFrom_17 rfl) (mpp 18 rfl ?_)
  have g19 := ti_full (fv P13 a1_ 3)
  refine mt_getI (i := 25) (k := 3) hT14 dX5_copyFrom_18 rfl ha1 (by decide) rfl (by decide) rfl (fun g20 g21 => mpp 21 rfl ?_)
  refine mt_putI (i := 25) (k := 3) (x := (fv P13 a1_ 3)) hT14 dX5_copyFrom_21 rfl ha0 (by decide) rfl (by decide) rfl (ti_full (fv P13 a1_ 3)) rfl rfl (fun P22 hT23 f24 f25 => mpp 24 rfl ?_)
  have k26 : KW [65, 66, 67, 192, 193, 194, 256, 320] Po P22 := KW.step k17 ha0 rfl f25
  have e27 : (fv P22 a0_ 3).toInt = (fv P13 a1_ 3).toInt := congrArg Int32.toInt f24
  refine mp_a (a_iconst (v := 0) dX5_copyFrom_24 rfl) (mpp 25 rfl ?_)
  refine mp_a (a_istore_n (L' := [(2, .int 0), (0, .ref a0_), (1, .ref a1_)]) dX5_copyFrom_25 (by decide) rfl) (mpp 26 rfl ?_)
  refine MEvP.less (L := [(0, .ref a0_), (1, .ref a1_), (2, .int 0)]) rfl rfl ⟨rfl, rfl, rfl, trivial⟩ ?_
  have i28 : 0 ≤ (0 : Int) := by omega
  exact c_CS_copyFrom_State_State_l26  ha0 ha1 _ _ P22 hT23 k26 i28 rfl

set_option maxHeartbeats 4000000 in
theorem c_CH_push_History_State {Po : mP} {a1_ : Nat} (hT : Typ Po)  (ha1 : rl a1_ = 1) : EvP 4 15 [.ref 79, .ref a1_] Po (fun r P' => (r = none ∧ (True)) ∧ Typ P' ∧ KW [65, 66, 67, 192, 193, 194, 256, 320, 385, 386] Po P' ∧ True) := by
  refine EvP.of qm_15 (Nat.le_of_ble_eq_true rfl) rfl ?_
  show MEvP _ none q_15 0 [(0, .ref 79), (1, .ref a1_)] [] _ 0 0 _
  refine mp_a (a_aload_n dX0_push_0 rfl) (mpp 1 rfl ?_)
  refine mp_a (a_aload_n dX0_push_1 rfl) (mpp 2 rfl ?_)
  have g1 := ti_full (fv Po 79 1)
  refine mt_getI (i := 18) (k := 1) hT dX0_push_2 rfl rl_79 (by decide) rfl (by decide) rfl (fun g2 g3 => mpp 5 rfl ?_)
  refine mt_callv (i := 22) (q' := q_16) (As := [.int (fv Po 79 1)]) (rest := []) hT dX0_push_5 rfl qm_16 (by decide) rfl rl_79 (by decide) rfl (Nat.le_of_ble_eq_true rfl) rfl ⟨rfl, rfl⟩ ⟨Nat.le_of_ble_eq_true rfl, Nat.le_of_ble_eq_true rfl⟩ (EvP.mono (by decide) (c_CH_stateAt_History hT )) (fun r4 P5 g6 => mpp 8 rfl ?_)
  obtain ⟨g6, e7⟩ := g6
  have e7 := e7.symm
  subst e7
  rcases g6 with rfl | ⟨b8, rfl, q9⟩
  · show MEvP _ none q_15 8 [(0, .ref 79), (1, .ref a1_)] [.null] _ _ _ _
    refine mp_a (a_astore_nN (L' := [(2, .null), (0, .ref 79), (1, .ref a1_)]) dX0_push_8 (by decide) rfl) (mpp 9 rfl ?_)
    refine mp_a (a_aload_nN dX0_push_9 rfl) (mpp 10 rfl ?_)
    refine mp_t (s_ifnullN (t := 63) dX0_push_10 (by decide)) ?_
    exact mp_ret ⟨⟨rfl, trivial⟩, hT, KW.refl, trivial⟩ dX0_push_63 rfl
  · show MEvP _ none q_15 8 [(0, .ref 79), (1, .ref a1_)] [.ref b8] _ _ _ _
    refine mp_a (a_astore_n (L' := [(2, .ref b8), (0, .ref 79), (1, .ref a1_)]) dX0_push_8 (by decide) rfl) (mpp 9 rfl ?_)
    refine mp_a (a_aload_n dX0_push_9 rfl) (mpp 10 rfl ?_)
    refine mp_t (s_ifnullR dX0_push_10) (mpp 13 rfl ?_)
    refine mp_a (a_aload_n dX0_push_13 rfl) (mpp 14 rfl ?_)
    have g10 : (0 : Int) ≤ (fv Po 79 3).toInt ∧ (fv Po 79 3).toInt ≤ 1 := Typ.rng hT rl_79 (by decide) (by decide) rfl
    refine mt_getI (i := 26) (k := 3) hT dX0_push_14 rfl rl_79 (by decide) rfl (by decide) rfl (fun g11 g12 => mpp 17 rfl ?_)
    refine mp_Tb (t := 63) (j_if_ne dX0_push_17) (by decide) (fun c13 => ?_) (fun c13 => mpp 20 rfl ?_)
    · have c13 : (fv Po 79 3).toInt ≠ 0 := ti_ne c13
      exact mp_ret ⟨⟨rfl, trivial⟩, hT, KW.refl, trivial⟩ dX0_push_63 rfl
    · have c13 : (fv Po 79 3).toInt = 0 := ti_ne_n c13
      refine mp_a (a_aload_n dX0_push_20 rfl) (mpp 21 rfl ?_)
      refine mp_a (a_aload_n dX0_push_21 rfl) (mpp 22 rfl ?_)
      refine mt_callv (i := 30) (q' := q_17) (As := [.ref a1_]) (rest := []) hT dX0_push_22 rfl qm_17 (by decide) rfl q9 (by decide) rfl (Nat.le_of_ble_eq_true rfl) rfl ⟨rfl, rfl⟩ ⟨Nat.le_of_ble_eq_true rfl, Nat.le_of_ble_eq_true rfl⟩ (EvP.mono (by decide) (c_CS_copyFrom_State_State hT q9 ha1)) (fun r14 P15 g16 => mpp 25 rfl ?_)
      obtain ⟨⟨rfl, g18⟩, hT19, k20, R21⟩ := g16
      have k22 : KW [65, 66, 67, 192, 193, 194, 256, 320, 385, 386] Po P15 := KW.trans KW.refl k20 rfl
      show MEvP _ none q_15 25 [(2, .ref b8), (0, .ref 79), (1, .ref a1_)] [] _ _ _ _
      refine mp_a (a_aload_n dX0_push_25 rfl) (mpp 26 rfl ?_)
      refine mp_a (a_aload_n dX0_push_26 rfl) (mpp 27 rfl ?_)
      have e23 : (fv P15 79 1).toInt = (fv Po 79 1).toInt := congrArg Int32.toInt (KW.at k20 1 rl_79 rfl)
      refine mt_getI (i := 18) (k := 1) hT19 dX0_push_27 rfl rl_79 (by decide) rfl (by decide) rfl (fun g24 g25 => mpp 30 rfl ?_)
      refine mp_a (a_bipush (v := 7) dX0_push_30 rfl) (mpp 32 rfl ?_)
      refine mp_Tb (t := 44) (j_icmp_ge dX0_push_32) (by decide) (fun c26 => ?_) (fun c26 => mpp 35 rfl ?_)
      · have c26 : (fv P15 79 1).toInt ≥ 7 := ti_ge c26
        refine mp_a (a_iconst (v := 0) dX0_push_44 rfl) (mpp 45 rfl ?_)
        refine mt_putI (i := 18) (k := 1) (x := 0) hT19 dX0_push_45 rfl rl_79 (by decide) rfl (by decide) rfl (by decide) rfl rfl (fun P27 hT28 f29 f30 => mpp 48 rfl ?_)
        have k31 : KW [65, 66, 67, 192, 193, 194, 256, 320, 385, 386] Po P27 := KW.step k22 rl_79 rfl f30
        have e32 : (fv P27 79 1).toInt = 0 := congrArg Int32.toInt f29
        refine mp_a (a_aload_n dX0_push_48 rfl) (mpp 49 rfl ?_)
        refine mp_a (a_aload_n dX0_push_49 rfl) (mpp 50 rfl ?_)
        have g33 := ti_full (fv P27 79 2)
        refine mt_getI (i := 34) (k := 2) hT28 dX0_push_50 rfl rl_79 (by decide) rfl (by decide) rfl (fun g34 g35 => mpp 53 rfl ?_)
        refine mp_a (a_iconst (v := 1) dX0_push_53 rfl) (mpp 54 rfl ?_)
        obtain ⟨z36, h37⟩ := ti_ex ((fv P27 79 2) + 1 : Int32)
        have wz36 := ti_full z36
        refine mp_t (s_iadd (v := z36) dX0_push_54 h37) (mpp 55 rfl ?_)
        try have e38 : z36.toInt = (fv P27 79 2).toInt + 1 := ti_addz h37 rfl rfl (by omega) (by omega)
        refine mp_a (a_bipush (v := 8) dX0_push_55 rfl) (mpp 57 rfl ?_)
        obtain ⟨z39, h40⟩ := ti_ex (if (8 : Nat) = 7 then (if z36 < 8 then 8 else z36) else (if 8 < z36 then 8 else z36) : Int32)
        have e41 : z39.toInt = min z36.toInt 8 := ti_mm8 h40
        refine mp_math (i := 37) (k := 0) (v := z39) dX0_push_57 rfl (by decide) (Nat.le_of_ble_eq_true rfl) h40 ⟨Nat.le_of_ble_eq_true rfl, Nat.le_of_ble_eq_true rfl⟩ (mpp 60 rfl ?_)
        refine mt_putI (i := 34) (k := 2) (x := z39) hT28 dX0_push_60 rfl rl_79 (by decide) rfl (by decide) rfl (ti_full z39) rfl rfl (fun P42 hT43 f44 f45 => mpp 63 rfl ?_)
        have k46 : KW [65, 66, 67, 192, 193, 194, 256, 320, 385, 386] Po P42 := KW.step k31 rl_79 rfl f45
        have e47 : (fv P42 79 2).toInt = z39.toInt := congrArg Int32.toInt f44
        exact mp_ret ⟨⟨rfl, trivial⟩, hT43, k46, trivial⟩ dX0_push_63 rfl
      · have c26 : (fv P15 79 1).toInt < 7 := ti_ge_n c26
        refine mp_a (a_aload_n dX0_push_35 rfl) (mpp 36 rfl ?_)
        refine mt_getI (i := 18) (k := 1) hT19 dX0_push_36 rfl rl_79 (by decide) rfl (by decide) rfl (fun g48 g49 => mpp 39 rfl ?_)
        refine mp_a (a_iconst (v := 1) dX0_push_39 rfl) (mpp 40 rfl ?_)
        obtain ⟨z50, h51⟩ := ti_ex ((fv P15 79 1) + 1 : Int32)
        have wz50 := ti_full z50
        refine mp_t (s_iadd (v := z50) dX0_push_40 h51) (mpp 41 rfl ?_)
        try have e52 : z50.toInt = (fv P15 79 1).toInt + 1 := ti_addz h51 rfl rfl (by omega) (by omega)
        refine mp_a (a_goto (t := 45) dX0_push_41 (by decide)) ?_
        refine mt_putI (i := 18) (k := 1) (x := z50) hT19 dX0_push_45 rfl rl_79 (by decide) rfl (by decide) rfl (ti_full z50) rfl rfl (fun P53 hT54 f55 f56 => mpp 48 rfl ?_)
        have k57 : KW [65, 66, 67, 192, 193, 194, 256, 320, 385, 386] Po P53 := KW.step k22 rl_79 rfl f56
        have e58 : (fv P53 79 1).toInt = z50.toInt := congrArg Int32.toInt f55
        refine mp_a (a_aload_n dX0_push_48 rfl) (mpp 49 rfl ?_)
        refine mp_a (a_aload_n dX0_push_49 rfl) (mpp 50 rfl ?_)
        have g59 := ti_full (fv P53 79 2)
        refine mt_getI (i := 34) (k := 2) hT54 dX0_push_50 rfl rl_79 (by decide) rfl (by decide) rfl (fun g60 g61 => mpp 53 rfl ?_)
        refine mp_a (a_iconst (v := 1) dX0_push_53 rfl) (mpp 54 rfl ?_)
        obtain ⟨z62, h63⟩ := ti_ex ((fv P53 79 2) + 1 : Int32)
        have wz62 := ti_full z62
        refine mp_t (s_iadd (v := z62) dX0_push_54 h63) (mpp 55 rfl ?_)
        try have e64 : z62.toInt = (fv P53 79 2).toInt + 1 := ti_addz h63 rfl rfl (by omega) (by omega)
        refine mp_a (a_bipush (v := 8) dX0_push_55 rfl) (mpp 57 rfl ?_)
        obtain ⟨z65, h66⟩ := ti_ex (if (8 : Nat) = 7 then (if z62 < 8 then 8 else z62) else (if 8 < z62 then 8 else z62) : Int32)
        have e67 : z65.toInt = min z62.toInt 8 := ti_mm8 h66
        refine mp_math (i := 37) (k := 0) (v := z65) dX0_push_57 rfl (by decide) (Nat.le_of_ble_eq_true rfl) h66 ⟨Nat.le_of_ble_eq_true rfl, Nat.le_of_ble_eq_true rfl⟩ (mpp 60 rfl ?_)
        refine mt_putI (i := 34) (k := 2) (x := z65) hT54 dX0_push_60 rfl rl_79 (by decide) rfl (by decide) rfl (ti_full z65) rfl rfl (fun P68 hT69 f70 f71 => mpp 63 rfl ?_)
        have k72 : KW [65, 66, 67, 192, 193, 194, 256, 320, 385, 386] Po P68 := KW.step k57 rl_79 rfl f71
        have e73 : (fv P68 79 2).toInt = z65.toInt := congrArg Int32.toInt f70
        exact mp_ret ⟨⟨rfl, trivial⟩, hT69, k72, trivial⟩ dX0_push_63 rfl

set_option maxHeartbeats 4000000 in
theorem c_CS_copyFrom_NState_State_l26 {Po : mP} {a1_ : Nat} (ha1 : rl a1_ = 1) : ∀ (n : Nat) (v2 : Int32), ∀ (P : mP), Typ P → KW [256, 320, 1985, 1986, 1987, 2112, 2113, 2114] Po P → (0 ≤ v2.toInt) → (2147483647 - v2.toInt).toNat = n → MEvP 2 none q_17 26 [(0, .ref 1), (1, .ref a1_), (2, .int v2)] [] P 0 0 (fun r P' => (r = none ∧ (True)) ∧ Typ P' ∧ KW [256, 320, 1985, 1986, 1987, 2112, 2113, 2114] Po P' ∧ True) := by
  intro n
  induction n using Nat.strongRecOn with | _ n ih => ?_
  intro v2 P hT hK i_0 hm
  have w_v2 := ti_full v2
  refine mp_a (a_iload_n dX5_copyFrom_26 rfl) (mpp 27 rfl ?_)
  refine mp_a (a_aload_n dX5_copyFrom_27 rfl) (mpp 28 rfl ?_)
  have g1 := ti_full (fv P 1 1)
  refine mt_getI (i := 22) (k := 1) hT dX5_copyFrom_28 rfl rl_1 (by decide) rfl (by decide) rfl (fun g2 g3 => mpp 31 rfl ?_)
  refine mp_Tb (t := 68) (j_icmp_ge dX5_copyFrom_31) (by decide) (fun c4 => ?_) (fun c4 => mpp 34 rfl ?_)
  · have c4 : v2.toInt ≥ (fv P 1 1).toInt := ti_ge c4
    exact mp_ret ⟨⟨rfl, trivial⟩, hT, hK, trivial⟩ dX5_copyFrom_68 rfl
  · have c4 : v2.toInt < (fv P 1 1).toInt := ti_ge_n c4
    refine mp_a (a_aload_n dX5_copyFrom_34 rfl) (mpp 35 rfl ?_)
    refine mp_a (a_iload_n dX5_copyFrom_35 rfl) (mpp 36 rfl ?_)
    refine mt_callv (i := 28) (q' := q_9) (As := [.int v2]) (rest := []) hT dX5_copyFrom_36 rfl qm_9 (by decide) rfl rl_1 (by decide) rfl (Nat.le_of_ble_eq_true rfl) rfl ⟨rfl, rfl⟩ ⟨Nat.le_of_ble_eq_true rfl, Nat.le_of_ble_eq_true rfl⟩ (EvP.mono (by decide) (c_CS_pieceAt_NState hT )) (fun r5 P6 g7 => mpp 39 rfl ?_)
    obtain ⟨g7, e8⟩ := g7
    have e8 := e8.symm
    subst e8
    rcases g7 with rfl | ⟨b9, rfl, q10, q10r⟩
    · show MEvP _ none q_17 39 [(0, .ref 1), (1, .ref a1_), (2, .int v2)] [.null] _ _ _ _
      refine mp_a (a_astore_nN (L' := [(3, .null), (0, .ref 1), (1, .ref a1_), (2, .int v2)]) dX5_copyFrom_39 (by decide) rfl) (mpp 40 rfl ?_)
      refine mp_a (a_aload_n dX5_copyFrom_40 rfl) (mpp 41 rfl ?_)
      refine mp_a (a_iload_n dX5_copyFrom_41 rfl) (mpp 42 rfl ?_)
      refine mt_callv (i := 28) (q' := q_9) (As := [.int v2]) (rest := []) hT dX5_copyFrom_42 rfl qm_9 (by decide) rfl ha1 (by decide) rfl (Nat.le_of_ble_eq_true rfl) rfl ⟨rfl, rfl⟩ ⟨Nat.le_of_ble_eq_true rfl, Nat.le_of_ble_eq_true rfl⟩ (EvP.mono (by decide) (c_CS_pieceAt_State hT ha1)) (fun r11 P12 g13 => mpp 45 rfl ?_)
      obtain ⟨g13, e14⟩ := g13
      have e14 := e14.symm
      subst e14
      rcases g13 with rfl | ⟨b15, rfl, q16, q16r⟩
      · show MEvP _ none q_17 45 [(3, .null), (0, .ref 1), (1, .ref a1_), (2, .int v2)] [.null] _ _ _ _
        refine mp_a (a_astoreN (L' := [(4, .null), (3, .null), (0, .ref 1), (1, .ref a1_), (2, .int v2)]) dX5_copyFrom_45 (by decide) rfl) (mpp 47 rfl ?_)
        refine mp_a (a_aload_nN dX5_copyFrom_47 rfl) (mpp 48 rfl ?_)
        refine mp_t (s_ifnullN (t := 62) dX5_copyFrom_48 (by decide)) ?_
        obtain ⟨z17, h18⟩ := ti_ex (v2 + 1 : Int32)
        have wz17 := ti_full z17
        refine mp_a (a_iinc (v := z17) (L' := [(2, .int z17), (4, .null), (3, .null), (0, .ref 1), (1, .ref a1_)]) dX5_copyFrom_62 (by decide) rfl h18 rfl) (mpp 65 rfl ?_)
        try have e19 : z17.toInt = v2.toInt + 1 := ti_addz h18 rfl rfl (by omega) (by omega)
        refine mp_a (a_goto (t := 26) dX5_copyFrom_65 (by decide)) ?_
        refine MEvP.less (L := [(0, .ref 1), (1, .ref a1_), (2, .int z17)]) rfl rfl ⟨rfl, rfl, rfl, trivial⟩ ?_
        have i20 : 0 ≤ z17.toInt := by omega
        exact ih _ (by omega) _ P hT hK i20 rfl
      · show MEvP _ none q_17 45 [(3, .null), (0, .ref 1), (1, .ref a1_), (2, .int v2)] [.ref b15] _ _ _ _
        refine mp_a (a_astore (L' := [(4, .ref b15), (3, .null), (0, .ref 1), (1, .ref a1_), (2, .int v2)]) dX5_copyFrom_45 (by decide) rfl) (mpp 47 rfl ?_)
        refine mp_a (a_aload_nN dX5_copyFrom_47 rfl) (mpp 48 rfl ?_)
        refine mp_t (s_ifnullN (t := 62) dX5_copyFrom_48 (by decide)) ?_
        obtain ⟨z21, h22⟩ := ti_ex (v2 + 1 : Int32)
        have wz21 := ti_full z21
        refine mp_a (a_iinc (v := z21) (L' := [(2, .int z21), (4, .ref b15), (3, .null), (0, .ref 1), (1, .ref a1_)]) dX5_copyFrom_62 (by decide) rfl h22 rfl) (mpp 65 rfl ?_)
        try have e23 : z21.toInt = v2.toInt + 1 := ti_addz h22 rfl rfl (by omega) (by omega)
        refine mp_a (a_goto (t := 26) dX5_copyFrom_65 (by decide)) ?_
        refine MEvP.less (L := [(0, .ref 1), (1, .ref a1_), (2, .int z21)]) rfl rfl ⟨rfl, rfl, rfl, trivial⟩ ?_
        have i24 : 0 ≤ z21.toInt := by omega
        exact ih _ (by omega) _ P hT hK i24 rfl
    · show MEvP _ none q_17 39 [(0, .ref 1), (1, .ref a1_), (2, .int v2)] [.ref b9] _ _ _ _
      refine mp_a (a_astore_n (L' := [(3, .ref b9), (0, .ref 1), (1, .ref a1_), (2, .int v2)]) dX5_copyFrom_39 (by decide) rfl) (mpp 40 rfl ?_)
      refine mp_a (a_aload_n dX5_copyFrom_40 rfl) (mpp 41 rfl ?_)
      refine mp_a (a_iload_n dX5_copyFrom_41 rfl) (mpp 42 rfl ?_)
      refine mt_callv (i := 28) (q' := q_9) (As := [.int v2]) (rest := []) hT dX5_copyFrom_42 rfl qm_9 (by decide) rfl ha1 (by decide) rfl (Nat.le_of_ble_eq_true rfl) rfl ⟨rfl, rfl⟩ ⟨Nat.le_of_ble_eq_true rfl, Nat.le_of_ble_eq_true rfl⟩ (EvP.mono (by decide) (c_CS_pieceAt_State hT ha1)) (fun r25 P26 g27 => mpp 45 rfl ?_)
      obtain ⟨g27, e28⟩ := g27
      have e28 := e28.symm
      subst e28
      rcases g27 with rfl | ⟨b29, rfl, q30, q30r⟩
      · show MEvP _ none q_17 45 [(3, .ref b9), (0, .ref 1), (1, .ref a1_), (2, .int v2)] [.null] _ _ _ _
        refine mp_a (a_astoreN (L' := [(4, .null), (3, .ref b9), (0, .ref 1), (1, .ref a1_), (2, .int v2)]) dX5_copyFrom_45 (by decide) rfl) (mpp 47 rfl ?_)
        refine mp_a (a_aload_n dX5_copyFrom_47 rfl) (mpp 48 rfl ?_)
        refine mp_t (s_ifnullR dX5_copyFrom_48) (mpp 51 rfl ?_)
        refine mp_a (a_aloadN dX5_copyFrom_51 rfl) (mpp 53 rfl ?_)
        refine mp_t (s_ifnullN (t := 62) dX5_copyFrom_53 (by decide)) ?_
        obtain ⟨z31, h32⟩ := ti_ex (v2 + 1 : Int32)
        have wz31 := ti_full z31
        refine mp_a (a_iinc (v := z31) (L' := [(2, .int z31), (4, .null), (3, .ref b9), (0, .ref 1), (1, .ref a1_)]) dX5_copyFrom_62 (by decide) rfl h32 rfl) (mpp 65 rfl ?_)
        try have e33 : z31.toInt = v2.toInt + 1 := ti_addz h32 rfl rfl (by omega) (by omega)
        refine mp_a (a_goto (t := 26) dX5_copyFrom_65 (by decide)) ?_
        refine MEvP.less (L := [(0, .ref 1), (1, .ref a1_), (2, .int z31)]) rfl rfl ⟨rfl, rfl, rfl, trivial⟩ ?_
        have i34 : 0 ≤ z31.toInt := by omega
        exact ih _ (by omega) _ P hT hK i34 rfl
      · show MEvP _ none q_17 45 [(3, .ref b9), (0, .ref 1), (1, .ref a1_), (2, .int v2)] [.ref b29] _ _ _ _
        refine mp_a (a_astore (L' := [(4, .ref b29), (3, .ref b9), (0, .ref 1), (1, .ref a1_), (2, .int v2)]) dX5_copyFrom_45 (by decide) rfl) (mpp 47 rfl ?_)
        refine mp_a (a_aload_n dX5_copyFrom_47 rfl) (mpp 48 rfl ?_)
        refine mp_t (s_ifnullR dX5_copyFrom_48) (mpp 51 rfl ?_)
        refine mp_a (a_aload dX5_copyFrom_51 rfl) (mpp 53 rfl ?_)
        refine mp_t (s_ifnullR dX5_copyFrom_53) (mpp 56 rfl ?_)
        refine mp_a (a_aload_n dX5_copyFrom_56 rfl) (mpp 57 rfl ?_)
        refine mp_a (a_aload dX5_copyFrom_57 rfl) (mpp 59 rfl ?_)
        refine mt_callv (i := 32) (q' := q_18) (As := [.ref b29]) (rest := []) hT dX5_copyFrom_59 rfl qm_18 (by decide) rfl q10 (by decide) rfl (Nat.le_of_ble_eq_true rfl) rfl ⟨rfl, rfl⟩ ⟨Nat.le_of_ble_eq_true rfl, Nat.le_of_ble_eq_true rfl⟩ (EvP.mono (by decide) (c_CP_copyFrom_NPiece_Piece hT q10 q30)) (fun r35 P36 g37 => mpp 62 rfl ?_)
        obtain ⟨⟨rfl, g39⟩, hT40, k41, R42⟩ := g37
        have k43 : KW [256, 320, 1985, 1986, 1987, 2112, 2113, 2114] Po P36 := KW.trans hK k41 rfl
        show MEvP _ none q_17 62 [(4, .ref b29), (3, .ref b9), (0, .ref 1), (1, .ref a1_), (2, .int v2)] [] _ _ _ _
        obtain ⟨z44, h45⟩ := ti_ex (v2 + 1 : Int32)
        have wz44 := ti_full z44
        refine mp_a (a_iinc (v := z44) (L' := [(2, .int z44), (4, .ref b29), (3, .ref b9), (0, .ref 1), (1, .ref a1_)]) dX5_copyFrom_62 (by decide) rfl h45 rfl) (mpp 65 rfl ?_)
        try have e46 : z44.toInt = v2.toInt + 1 := ti_addz h45 rfl rfl (by omega) (by omega)
        refine mp_a (a_goto (t := 26) dX5_copyFrom_65 (by decide)) ?_
        refine MEvP.less (L := [(0, .ref 1), (1, .ref a1_), (2, .int z44)]) rfl rfl ⟨rfl, rfl, rfl, trivial⟩ ?_
        have i47 : 0 ≤ z44.toInt := by omega
        exact ih _ (by omega) _ P36 hT40 k43 i47 rfl

set_option maxHeartbeats 4000000 in
theorem c_CS_copyFrom_NState_State {Po : mP} {a1_ : Nat} (hT : Typ Po)  (ha1 : rl a1_ = 1) : EvP 3 17 [.ref 1, .ref a1_] Po (fun r P' => (r = none ∧ (True)) ∧ Typ P' ∧ KW [256, 320, 1985, 1986, 1987, 2112, 2113, 2114] Po P' ∧ True) := by
  refine EvP.of qm_17 (Nat.le_of_ble_eq_true rfl) rfl ?_
  show MEvP _ none q_17 0 [(0, .ref 1), (1, .ref a1_)] [] _ 0 0 _
  refine mp_a (a_aload_n dX5_copyFrom_0 rfl) (mpp 1 rfl ?_)
  refine mp_a (a_aload_n dX5_copyFrom_1 rfl) (mpp 2 rfl ?_)
  have g1 := ti_full (fv Po a1_ 1)
  refine mt_getI (i := 22) (k := 1) hT dX5_copyFrom_2 rfl ha1 (by decide) rfl (by decide) rfl (fun g2 g3 => mpp 5 rfl ?_)
  refine mt_putI (i := 22) (k := 1) (x := (fv Po a1_ 1)) hT dX5_copyFrom_5 rfl rl_1 (by decide) rfl (by decide) rfl (ti_full (fv Po a1_ 1)) rfl rfl (fun P4 hT5 f6 f7 => mpp 8 rfl ?_)
  have k8 : KW [256, 320, 1985, 1986, 1987, 2112, 2113, 2114] Po P4 := KW.step KW.refl rl_1 rfl f7
  have e9 : (fv P4 1 1).toInt = (fv Po a1_ 1).toInt := congrArg Int32.toInt f6
  refine mp_a (a_aload_n dX5_copyFrom_8 rfl) (mpp 9 rfl ?_)
  refine mp_a (a_aload_n dX5_copyFrom_9 rfl) (mpp 10 rfl ?_)
  have g10 := ti_full (fv P4 a1_ 2)
  refine mt_getI (i := 17) (k := 2) hT5 dX5_copyFrom_10 rfl ha1 (by decide) rfl (by decide) rfl (fun g11 g12 => mpp 13 rfl ?_)
  refine mt_putI (i := 17) (k := 2) (x := (fv P4 a1_ 2)) hT5 dX5_copyFrom_13 rfl rl_1 (by decide) rfl (by decide) rfl (ti_full (fv P4 a1_ 2)) rfl rfl (fun P13 hT14 f15 f16 => mpp 16 rfl ?_)
  have k17 : KW [256, 320, 1985, 1986, 1987, 2112, 2113, 2114] Po P13 := KW.step k8 rl_1 rfl f16
  have e18 : (fv P13 1 2).toInt = (fv P4 a1_ 2).toInt := congrArg Int32.toInt f15
  refine mp_a (a_aload_n dX5_copyFrom_16 rfl) (mpp 17 rfl ?_)
  refine mp_a (a_aload_n dX5_copyFrom_17 rfl) (mpp 18 rfl ?_)
  have g19 := ti_full (fv P13 a1_ 3)
  refine mt_getI (i := 25) (k := 3) hT14 dX5_copyFrom_18 rfl ha1 (by decide) rfl (by decide) rfl (fun g20 g21 => mpp 21 rfl ?_)
  refine mt_putI (i := 25) (k := 3) (x := (fv P13 a1_ 3)) hT14 dX5_copyFrom_21 rfl rl_1 (by decide) rfl (by decide) rfl (ti_full (fv P13 a1_ 3)) rfl rfl (fun P22 hT23 f24 f25 => mpp 24 rfl ?_)
  have k26 : KW [256, 320, 1985, 1986, 1987, 2112, 2113, 2114] Po P22 := KW.step k17 rl_1 rfl f25
  have e27 : (fv P22 1 3).toInt = (fv P13 a1_ 3).toInt := congrArg Int32.toInt f24
  refine mp_a (a_iconst (v := 0) dX5_copyFrom_24 rfl) (mpp 25 rfl ?_)
  refine mp_a (a_istore_n (L' := [(2, .int 0), (0, .ref 1), (1, .ref a1_)]) dX5_copyFrom_25 (by decide) rfl) (mpp 26 rfl ?_)
  refine MEvP.less (L := [(0, .ref 1), (1, .ref a1_), (2, .int 0)]) rfl rfl ⟨rfl, rfl, rfl, trivial⟩ ?_
  have i28 : 0 ≤ (0 : Int) := by omega
  exact c_CS_copyFrom_NState_State_l26  ha1 _ _ P22 hT23 k26 i28 rfl

set_option maxHeartbeats 4000000 in
theorem c_F_withCreasesAsTold {Po : mP} {t1 : Int32} (hT : Typ Po)   : EvP 2 108 [.ref 0, .int t1] Po (fun r P' => (∃ x : Int32, r = some (.int x) ∧ (True)) ∧ P' = Po) := by
  refine EvP.of qm_108 (Nat.le_of_ble_eq_true rfl) rfl ?_
  show MEvP _ none q_108 0 [(0, .ref 0), (1, .int t1)] [] _ 0 0 _
  refine mp_a (a_aload_n dX6_withCreasesAsTold_0 rfl) (mpp 1 rfl ?_)
  refine mt_getU (i := 10) (k := 0) (A := 1) hT dX6_withCreasesAsTold_1 rfl rl_0 (by decide) rfl (by decide) rfl un_31 (mpp 4 rfl ?_)
  refine mp_a (a_iload_n dX6_withCreasesAsTold_4 rfl) (mpp 5 rfl ?_)
  refine mt_callv (i := 94) (q' := q_9) (As := [.int t1]) (rest := []) hT dX6_withCreasesAsTold_5 rfl qm_9 (by decide) rfl rl_1 (by decide) rfl (Nat.le_of_ble_eq_true rfl) rfl ⟨rfl, rfl⟩ ⟨Nat.le_of_ble_eq_true rfl, Nat.le_of_ble_eq_true rfl⟩ (EvP.mono (by decide) (c_CS_pieceAt_NState hT )) (fun r1 P2 g3 => mpp 8 rfl ?_)
  obtain ⟨g3, e4⟩ := g3
  have e4 := e4.symm
  subst e4
  rcases g3 with rfl | ⟨b5, rfl, q6, q6r⟩
  · show MEvP _ none q_108 8 [(0, .ref 0), (1, .int t1)] [.null] _ _ _ _
    refine mp_a (a_astore_nN (L' := [(2, .null), (0, .ref 0), (1, .int t1)]) dX6_withCreasesAsTold_8 (by decide) rfl) (mpp 9 rfl ?_)
    refine mp_a (a_aload_nN dX6_withCreasesAsTold_9 rfl) (mpp 10 rfl ?_)
    refine mp_t (s_ifnonnullN dX6_withCreasesAsTold_10) (mpp 13 rfl ?_)
    refine mp_a (a_iload_n dX6_withCreasesAsTold_13 rfl) (mpp 14 rfl ?_)
    exact mp_iret ⟨⟨_, rfl, trivial⟩, rfl⟩ dX6_withCreasesAsTold_14 (Or.inl rfl)
  · show MEvP _ none q_108 8 [(0, .ref 0), (1, .int t1)] [.ref b5] _ _ _ _
    refine mp_a (a_astore_n (L' := [(2, .ref b5), (0, .ref 0), (1, .int t1)]) dX6_withCreasesAsTold_8 (by decide) rfl) (mpp 9 rfl ?_)
    refine mp_a (a_aload_n dX6_withCreasesAsTold_9 rfl) (mpp 10 rfl ?_)
    refine mp_t (s_ifnonnullR (t := 15) dX6_withCreasesAsTold_10 (by decide)) ?_
    refine mp_a (a_aload_n dX6_withCreasesAsTold_15 rfl) (mpp 16 rfl ?_)
    refine mt_callv (i := 123) (q' := q_25) (As := []) (rest := []) hT dX6_withCreasesAsTold_16 rfl qm_25 (by decide) rfl q6 (by decide) rfl (Nat.le_of_ble_eq_true rfl) rfl ⟨rfl, rfl⟩ ⟨Nat.le_of_ble_eq_true rfl, Nat.le_of_ble_eq_true rfl⟩ (EvP.mono (by decide) (c_CP_creaseCount_NPiece hT q6)) (fun r7 P8 g9 => mpp 19 rfl ?_)
    obtain ⟨⟨x10, rfl, g11⟩, e12⟩ := g9
    have e12 := e12.symm
    subst e12
    have wx10 := ti_full x10
    have g11 : -1 ≤ x10.toInt ∧ x10.toInt ≤ (fv Po b5 1).toInt := g11
    have g13 : (0 : Int) ≤ (fv Po b5 1).toInt ∧ (fv Po b5 1).toInt ≤ 8 := Typ.rng hT q6 (by decide) (by decide) rfl
    show MEvP _ none q_108 19 [(2, .ref b5), (0, .ref 0), (1, .int t1)] [.int x10] _ _ _ _
    refine mp_a (a_aload_n dX6_withCreasesAsTold_19 rfl) (mpp 20 rfl ?_)
    refine mt_getU (i := 32) (k := 4) (A := 289) hT dX6_withCreasesAsTold_20 rfl rl_0 (by decide) rfl (by decide) rfl un_8 (mpp 23 rfl ?_)
    have g14 := ti_full (fv Po 289 6)
    refine mt_getI (i := 309) (k := 6) hT dX6_withCreasesAsTold_23 rfl rl_289 (by decide) rfl (by decide) rfl (fun g15 g16 => mpp 26 rfl ?_)
    refine mp_Tb (t := 33) (j_icmp_ne dX6_withCreasesAsTold_26) (by decide) (fun c17 => ?_) (fun c17 => mpp 29 rfl ?_)
    · have c17 : x10.toInt ≠ (fv Po 289 6).toInt := ti_ne c17
      refine mp_a (a_sipush (v := -1002) dX6_withCreasesAsTold_33 rfl) (mpp 36 rfl ?_)
      exact mp_iret ⟨⟨_, rfl, trivial⟩, rfl⟩ dX6_withCreasesAsTold_36 (Or.inl rfl)
    · have c17 : x10.toInt = (fv Po 289 6).toInt := ti_ne_n c17
      refine mp_a (a_iload_n dX6_withCreasesAsTold_29 rfl) (mpp 30 rfl ?_)
      refine mp_a (a_goto (t := 36) dX6_withCreasesAsTold_30 (by decide)) ?_
      exact mp_iret ⟨⟨_, rfl, trivial⟩, rfl⟩ dX6_withCreasesAsTold_36 (Or.inl rfl)

set_option maxHeartbeats 4000000 in
theorem c_F_perform {Po : mP}  (hT : Typ Po)   : EvP 6 107 [.ref 0] Po (fun r P' => (∃ x : Int32, r = some (.int x) ∧ (True)) ∧ Typ P' ∧ KW [10, 11, 12, 65, 66, 67, 192, 193, 194, 256, 320, 385, 386, 640, 641, 704, 768, 1985, 1987, 2112, 2113, 2114] Po P' ∧ True) := by
  refine EvP.of qm_107 (Nat.le_of_ble_eq_true rfl) rfl ?_
  show MEvP _ none q_107 0 [(0, .ref 0)] [] _ 0 0 _
  refine mp_a (a_aload_n dX6_perform_0 rfl) (mpp 1 rfl ?_)
  refine mt_getU (i := 32) (k := 4) (A := 289) hT dX6_perform_1 rfl rl_0 (by decide) rfl (by decide) rfl un_8 (mpp 4 rfl ?_)
  have g1 := ti_full (fv Po 289 3)
  refine mt_getI (i := 276) (k := 3) hT dX6_perform_4 rfl rl_289 (by decide) rfl (by decide) rfl (fun g2 g3 => mpp 7 rfl ?_)
  have c4 : ((fv Po 289 3).toInt < 99 ∨ 120 < (fv Po 289 3).toInt) ∨ (fv Po 289 3).toInt = 99 ∨ (fv Po 289 3).toInt = 100 ∨ (fv Po 289 3).toInt = 101 ∨ (fv Po 289 3).toInt = 102 ∨ (fv Po 289 3).toInt = 103 ∨ (fv Po 289 3).toInt = 104 ∨ (fv Po 289 3).toInt = 105 ∨ (fv Po 289 3).toInt = 106 ∨ (fv Po 289 3).toInt = 107 ∨ (fv Po 289 3).toInt = 108 ∨ (fv Po 289 3).toInt = 109 ∨ (fv Po 289 3).toInt = 110 ∨ (fv Po 289 3).toInt = 111 ∨ (fv Po 289 3).toInt = 112 ∨ (fv Po 289 3).toInt = 113 ∨ (fv Po 289 3).toInt = 114 ∨ (fv Po 289 3).toInt = 115 ∨ (fv Po 289 3).toInt = 116 ∨ (fv Po 289 3).toInt = 117 ∨ (fv Po 289 3).toInt = 118 ∨ (fv Po 289 3).toInt = 119 ∨ (fv Po 289 3).toInt = 120 := by omega
  rcases c4 with c4 | c4 | c4 | c4 | c4 | c4 | c4 | c4 | c4 | c4 | c4 | c4 | c4 | c4 | c4 | c4 | c4 | c4 | c4 | c4 | c4 | c4 | c4
  · refine mp_t (s_tabOut (t := 230) dX6_perform_7 c4 (by decide)) ?_
    refine mp_a (a_sipush (v := -1002) dX6_perform_230 rfl) (mpp 233 rfl ?_)
    exact mp_iret ⟨⟨_, rfl, trivial⟩, hT, KW.refl, trivial⟩ dX6_perform_233 (Or.inl rfl)
  · refine mp_t (s_tabIn (t := 132) (off := 125) dX6_perform_7 (by omega) (by rw [c4]; rfl) (by decide)) ?_
    refine mp_a (a_aload_n dX6_perform_132 rfl) (mpp 133 rfl ?_)
    refine mp_a (a_aload_n dX6_perform_133 rfl) (mpp 134 rfl ?_)
    refine mp_a (a_iconst (v := 1) dX6_perform_134 rfl) (mpp 135 rfl ?_)
    refine mp_a (a_aload_n dX6_perform_135 rfl) (mpp 136 rfl ?_)
    refine mt_getU (i := 32) (k := 4) (A := 289) hT dX6_perform_136 rfl rl_0 (by decide) rfl (by decide) rfl un_8 (mpp 139 rfl ?_)
    have g5 := ti_full (fv Po 289 4)
    refine mt_getI (i := 279) (k := 4) hT dX6_perform_139 rfl rl_289 (by decide) rfl (by decide) rfl (fun g6 g7 => mpp 142 rfl ?_)
    refine mp_a (a_aload_n dX6_perform_142 rfl) (mpp 143 rfl ?_)
    refine mt_getU (i := 32) (k := 4) (A := 289) hT dX6_perform_143 rfl rl_0 (by decide) rfl (by decide) rfl un_8 (mpp 146 rfl ?_)
    have g8 := ti_full (fv Po 289 5)
    refine mt_getI (i := 282) (k := 5) hT dX6_perform_146 rfl rl_289 (by decide) rfl (by decide) rfl (fun g9 g10 => mpp 149 rfl ?_)
    refine mt_callv (i := 284) (q' := q_20) (As := [.int 1, .int (fv Po 289 4), .int (fv Po 289 5)]) (rest := [.ref 0]) hT dX6_perform_149 rfl qm_20 (by decide) rfl rl_0 (by decide) rfl (Nat.le_of_ble_eq_true rfl) rfl ⟨rfl, rfl⟩ ⟨Nat.le_of_ble_eq_true rfl, Nat.le_of_ble_eq_true rfl⟩ (EvP.mono (by decide) (c_F_add hT )) (fun r11 P12 g13 => mpp 152 rfl ?_)
    obtain ⟨⟨x14, rfl, g15⟩, hT16, k17, R18⟩ := g13
    have k19 : KW [10, 11, 12, 65, 66, 67, 192, 193, 194, 256, 320, 385, 386, 640, 641, 704, 768, 1985, 1987, 2112, 2113, 2114] Po P12 := KW.trans KW.refl k17 rfl
    have wx14 := ti_full x14
    show MEvP _ none q_107 152 [(0, .ref 0)] [.int x14, .ref 0] _ _ _ _
    refine mt_callv (i := 288) (q' := q_108) (As := [.int x14]) (rest := []) hT16 dX6_perform_152 rfl qm_108 (by decide) rfl rl_0 (by decide) rfl (Nat.le_of_ble_eq_true rfl) rfl ⟨rfl, rfl⟩ ⟨Nat.le_of_ble_eq_true rfl, Nat.le_of_ble_eq_true rfl⟩ (EvP.mono (by decide) (c_F_withCreasesAsTold hT16 )) (fun r20 P21 g22 => mpp 155 rfl ?_)
    obtain ⟨⟨x23, rfl, g24⟩, e25⟩ := g22
    have e25 := e25.symm
    subst e25
    have wx23 := ti_full x23
    show MEvP _ none q_107 155 [(0, .ref 0)] [.int x23] _ _ _ _
    exact mp_iret ⟨⟨_, rfl, trivial⟩, hT16, k19, trivial⟩ dX6_perform_155 (Or.inl rfl)
  · refine mp_t (s_tabIn (t := 230) (off := 223) dX6_perform_7 (by omega) (by rw [c4]; rfl) (by decide)) ?_
    refine mp_a (a_sipush (v := -1002) dX6_perform_230 rfl) (mpp 233 rfl ?_)
    exact mp_iret ⟨⟨_, rfl, trivial⟩, hT, KW.refl, trivial⟩ dX6_perform_233 (Or.inl rfl)
  · refine mp_t (s_tabIn (t := 230) (off := 223) dX6_perform_7 (by omega) (by rw [c4]; rfl) (by decide)) ?_
    refine mp_a (a_sipush (v := -1002) dX6_perform_230 rfl) (mpp 233 rfl ?_)
    exact mp_iret ⟨⟨_, rfl, trivial⟩, hT, KW.refl, trivial⟩ dX6_perform_233 (Or.inl rfl)
  · refine mp_t (s_tabIn (t := 194) (off := 187) dX6_perform_7 (by omega) (by rw [c4]; rfl) (by decide)) ?_
    refine mp_a (a_aload_n dX6_perform_194 rfl) (mpp 195 rfl ?_)
    refine mp_a (a_aload_n dX6_perform_195 rfl) (mpp 196 rfl ?_)
    refine mt_getU (i := 32) (k := 4) (A := 289) hT dX6_perform_196 rfl rl_0 (by decide) rfl (by decide) rfl un_8 (mpp 199 rfl ?_)
    have g26 := ti_full (fv Po 289 4)
    refine mt_getI (i := 279) (k := 4) hT dX6_perform_199 rfl rl_289 (by decide) rfl (by decide) rfl (fun g27 g28 => mpp 202 rfl ?_)
    refine mt_callv (i := 300) (q' := q_41) (As := [.int (fv Po 289 4)]) (rest := []) hT dX6_perform_202 rfl qm_41 (by decide) rfl rl_0 (by decide) rfl (Nat.le_of_ble_eq_true rfl) rfl ⟨rfl, rfl⟩ ⟨Nat.le_of_ble_eq_true rfl, Nat.le_of_ble_eq_true rfl⟩ (EvP.mono (by decide) (c_F_fold hT )) (fun r29 P30 g31 => mpp 205 rfl ?_)
    obtain ⟨⟨x32, rfl, g33⟩, hT34, k35, R36⟩ := g31
    have k37 : KW [10, 11, 12, 65, 66, 67, 192, 193, 194, 256, 320, 385, 386, 640, 641, 704, 768, 1985, 1987, 2112, 2113, 2114] Po P30 := KW.trans KW.refl k35 rfl
    have wx32 := ti_full x32
    show MEvP _ none q_107 205 [(0, .ref 0)] [.int x32] _ _ _ _
    exact mp_iret ⟨⟨_, rfl, trivial⟩, hT34, k37, trivial⟩ dX6_perform_205 (Or.inl rfl)
  · refine mp_t (s_tabIn (t := 230) (off := 223) dX6_perform_7 (by omega) (by rw [c4]; rfl) (by decide)) ?_
    refine mp_a (a_sipush (v := -1002) dX6_perform_230 rfl) (mpp 233 rfl ?_)
    exact mp_iret ⟨⟨_, rfl, trivial⟩, hT, KW.refl, trivial⟩ dX6_perform_233 (Or.inl rfl)
  · refine mp_t (s_tabIn (t := 230) (off := 223) dX6_perform_7 (by omega) (by rw [c4]; rfl) (by decide)) ?_
    refine mp_a (a_sipush (v := -1002) dX6_perform_230 rfl) (mpp 233 rfl ?_)
    exact mp_iret ⟨⟨_, rfl, trivial⟩, hT, KW.refl, trivial⟩ dX6_perform_233 (Or.inl rfl)
  · refine mp_t (s_tabIn (t := 230) (off := 223) dX6_perform_7 (by omega) (by rw [c4]; rfl) (by decide)) ?_
    refine mp_a (a_sipush (v := -1002) dX6_perform_230 rfl) (mpp 233 rfl ?_)
    exact mp_iret ⟨⟨_, rfl, trivial⟩, hT, KW.refl, trivial⟩ dX6_perform_233 (Or.inl rfl)
  · refine mp_t (s_tabIn (t := 230) (off := 223) dX6_perform_7 (by omega) (by rw [c4]; rfl) (by decide)) ?_
    refine mp_a (a_sipush (v := -1002) dX6_perform_230 rfl) (mpp 233 rfl ?_)
    exact mp_iret ⟨⟨_, rfl, trivial⟩, hT, KW.refl, trivial⟩ dX6_perform_233 (Or.inl rfl)
  · refine mp_t (s_tabIn (t := 230) (off := 223) dX6_perform_7 (by omega) (by rw [c4]; rfl) (by decide)) ?_
    refine mp_a (a_sipush (v := -1002) dX6_perform_230 rfl) (mpp 233 rfl ?_)
    exact mp_iret ⟨⟨_, rfl, trivial⟩, hT, KW.refl, trivial⟩ dX6_perform_233 (Or.inl rfl)
  · refine mp_t (s_tabIn (t := 230) (off := 223) dX6_perform_7 (by omega) (by rw [c4]; rfl) (by decide)) ?_
    refine mp_a (a_sipush (v := -1002) dX6_perform_230 rfl) (mpp 233 rfl ?_)
    exact mp_iret ⟨⟨_, rfl, trivial⟩, hT, KW.refl, trivial⟩ dX6_perform_233 (Or.inl rfl)
  · refine mp_t (s_tabIn (t := 156) (off := 149) dX6_perform_7 (by omega) (by rw [c4]; rfl) (by decide)) ?_
    refine mp_a (a_aload_n dX6_perform_156 rfl) (mpp 157 rfl ?_)
    refine mp_a (a_aload_n dX6_perform_157 rfl) (mpp 158 rfl ?_)
    refine mt_getU (i := 32) (k := 4) (A := 289) hT dX6_perform_158 rfl rl_0 (by decide) rfl (by decide) rfl un_8 (mpp 161 rfl ?_)
    have g38 := ti_full (fv Po 289 4)
    refine mt_getI (i := 279) (k := 4) hT dX6_perform_161 rfl rl_289 (by decide) rfl (by decide) rfl (fun g39 g40 => mpp 164 rfl ?_)
    refine mp_a (a_aload_n dX6_perform_164 rfl) (mpp 165 rfl ?_)
    refine mt_getU (i := 32) (k := 4) (A := 289) hT dX6_perform_165 rfl rl_0 (by decide) rfl (by decide) rfl un_8 (mpp 168 rfl ?_)
    have g41 := ti_full (fv Po 289 5)
    refine mt_getI (i := 282) (k := 5) hT dX6_perform_168 rfl rl_289 (by decide) rfl (by decide) rfl (fun g42 g43 => mpp 171 rfl ?_)
    refine mp_a (a_aload_n dX6_perform_171 rfl) (mpp 172 rfl ?_)
    refine mt_getU (i := 32) (k := 4) (A := 289) hT dX6_perform_172 rfl rl_0 (by decide) rfl (by decide) rfl un_8 (mpp 175 rfl ?_)
    have g44 := ti_full (fv Po 289 7)
    refine mt_getI (i := 291) (k := 7) hT dX6_perform_175 rfl rl_289 (by decide) rfl (by decide) rfl (fun g45 g46 => mpp 178 rfl ?_)
    refine mt_callv (i := 294) (q' := q_28) (As := [.int (fv Po 289 4), .int (fv Po 289 5), .int (fv Po 289 7)]) (rest := []) hT dX6_perform_178 rfl qm_28 (by decide) rfl rl_0 (by decide) rfl (Nat.le_of_ble_eq_true rfl) rfl ⟨rfl, rfl⟩ ⟨Nat.le_of_ble_eq_true rfl, Nat.le_of_ble_eq_true rfl⟩ (EvP.mono (by decide) (c_F_mark hT )) (fun r47 P48 g49 => mpp 181 rfl ?_)
    obtain ⟨⟨x50, rfl, g51⟩, hT52, k53, R54⟩ := g49
    have k55 : KW [10, 11, 12, 65, 66, 67, 192, 193, 194, 256, 320, 385, 386, 640, 641, 704, 768, 1985, 1987, 2112, 2113, 2114] Po P48 := KW.trans KW.refl k53 rfl
    have wx50 := ti_full x50
    show MEvP _ none q_107 181 [(0, .ref 0)] [.int x50] _ _ _ _
    exact mp_iret ⟨⟨_, rfl, trivial⟩, hT52, k55, trivial⟩ dX6_perform_181 (Or.inl rfl)
  · refine mp_t (s_tabIn (t := 230) (off := 223) dX6_perform_7 (by omega) (by rw [c4]; rfl) (by decide)) ?_
    refine mp_a (a_sipush (v := -1002) dX6_perform_230 rfl) (mpp 233 rfl ?_)
    exact mp_iret ⟨⟨_, rfl, trivial⟩, hT, KW.refl, trivial⟩ dX6_perform_233 (Or.inl rfl)
  · refine mp_t (s_tabIn (t := 230) (off := 223) dX6_perform_7 (by omega) (by rw [c4]; rfl) (by decide)) ?_
    refine mp_a (a_sipush (v := -1002) dX6_perform_230 rfl) (mpp 233 rfl ?_)
    exact mp_iret ⟨⟨_, rfl, trivial⟩, hT, KW.refl, trivial⟩ dX6_perform_233 (Or.inl rfl)
  · refine mp_t (s_tabIn (t := 230) (off := 223) dX6_perform_7 (by omega) (by rw [c4]; rfl) (by decide)) ?_
    refine mp_a (a_sipush (v := -1002) dX6_perform_230 rfl) (mpp 233 rfl ?_)
    exact mp_iret ⟨⟨_, rfl, trivial⟩, hT, KW.refl, trivial⟩ dX6_perform_233 (Or.inl rfl)
  · refine mp_t (s_tabIn (t := 230) (off := 223) dX6_perform_7 (by omega) (by rw [c4]; rfl) (by decide)) ?_
    refine mp_a (a_sipush (v := -1002) dX6_perform_230 rfl) (mpp 233 rfl ?_)
    exact mp_iret ⟨⟨_, rfl, trivial⟩, hT, KW.refl, trivial⟩ dX6_perform_233 (Or.inl rfl)
  · refine mp_t (s_tabIn (t := 230) (off := 223) dX6_perform_7 (by omega) (by rw [c4]; rfl) (by decide)) ?_
    refine mp_a (a_sipush (v := -1002) dX6_perform_230 rfl) (mpp 233 rfl ?_)
    exact mp_iret ⟨⟨_, rfl, trivial⟩, hT, KW.refl, trivial⟩ dX6_perform_233 (Or.inl rfl)
  · refine mp_t (s_tabIn (t := 108) (off := 101) dX6_perform_7 (by omega) (by rw [c4]; rfl) (by decide)) ?_
    refine mp_a (a_aload_n dX6_perform_108 rfl) (mpp 109 rfl ?_)
    refine mp_a (a_aload_n dX6_perform_109 rfl) (mpp 110 rfl ?_)
    refine mp_a (a_iconst (v := 0) dX6_perform_110 rfl) (mpp 111 rfl ?_)
    refine mp_a (a_aload_n dX6_perform_111 rfl) (mpp 112 rfl ?_)
    refine mt_getU (i := 32) (k := 4) (A := 289) hT dX6_perform_112 rfl rl_0 (by decide) rfl (by decide) rfl un_8 (mpp 115 rfl ?_)
    have g56 := ti_full (fv Po 289 4)
    refine mt_getI (i := 279) (k := 4) hT dX6_perform_115 rfl rl_289 (by decide) rfl (by decide) rfl (fun g57 g58 => mpp 118 rfl ?_)
    refine mp_a (a_aload_n dX6_perform_118 rfl) (mpp 119 rfl ?_)
    refine mt_getU (i := 32) (k := 4) (A := 289) hT dX6_perform_119 rfl rl_0 (by decide) rfl (by decide) rfl un_8 (mpp 122 rfl ?_)
    have g59 := ti_full (fv Po 289 5)
    refine mt_getI (i := 282) (k := 5) hT dX6_perform_122 rfl rl_289 (by decide) rfl (by decide) rfl (fun g60 g61 => mpp 125 rfl ?_)
    refine mt_callv (i := 284) (q' := q_20) (As := [.int 0, .int (fv Po 289 4), .int (fv Po 289 5)]) (rest := [.ref 0]) hT dX6_perform_125 rfl qm_20 (by decide) rfl rl_0 (by decide) rfl (Nat.le_of_ble_eq_true rfl) rfl ⟨rfl, rfl⟩ ⟨Nat.le_of_ble_eq_true rfl, Nat.le_of_ble_eq_true rfl⟩ (EvP.mono (by decide) (c_F_add hT )) (fun r62 P63 g64 => mpp 128 rfl ?_)
    obtain ⟨⟨x65, rfl, g66⟩, hT67, k68, R69⟩ := g64
    have k70 : KW [10, 11, 12, 65, 66, 67, 192, 193, 194, 256, 320, 385, 386, 640, 641, 704, 768, 1985, 1987, 2112, 2113, 2114] Po P63 := KW.trans KW.refl k68 rfl
    have wx65 := ti_full x65
    show MEvP _ none q_107 128 [(0, .ref 0)] [.int x65, .ref 0] _ _ _ _
    refine mt_callv (i := 288) (q' := q_108) (As := [.int x65]) (rest := []) hT67 dX6_perform_128 rfl qm_108 (by decide) rfl rl_0 (by decide) rfl (Nat.le_of_ble_eq_true rfl) rfl ⟨rfl, rfl⟩ ⟨Nat.le_of_ble_eq_true rfl, Nat.le_of_ble_eq_true rfl⟩ (EvP.mono (by decide) (c_F_withCreasesAsTold hT67 )) (fun r71 P72 g73 => mpp 131 rfl ?_)
    obtain ⟨⟨x74, rfl, g75⟩, e76⟩ := g73
    have e76 := e76.symm
    subst e76
    have wx74 := ti_full x74
    show MEvP _ none q_107 131 [(0, .ref 0)] [.int x74] _ _ _ _
    exact mp_iret ⟨⟨_, rfl, trivial⟩, hT67, k70, trivial⟩ dX6_perform_131 (Or.inl rfl)
  · refine mp_t (s_tabIn (t := 182) (off := 175) dX6_perform_7 (by omega) (by rw [c4]; rfl) (by decide)) ?_
    refine mp_a (a_aload_n dX6_perform_182 rfl) (mpp 183 rfl ?_)
    refine mp_a (a_aload_n dX6_perform_183 rfl) (mpp 184 rfl ?_)
    refine mt_getU (i := 32) (k := 4) (A := 289) hT dX6_perform_184 rfl rl_0 (by decide) rfl (by decide) rfl un_8 (mpp 187 rfl ?_)
    have g77 := ti_full (fv Po 289 4)
    refine mt_getI (i := 279) (k := 4) hT dX6_perform_187 rfl rl_289 (by decide) rfl (by decide) rfl (fun g78 g79 => mpp 190 rfl ?_)
    refine mt_callv (i := 297) (q' := q_30) (As := [.int (fv Po 289 4)]) (rest := []) hT dX6_perform_190 rfl qm_30 (by decide) rfl rl_0 (by decide) rfl (Nat.le_of_ble_eq_true rfl) rfl ⟨rfl, rfl⟩ ⟨Nat.le_of_ble_eq_true rfl, Nat.le_of_ble_eq_true rfl⟩ (EvP.mono (by decide) (c_F_turn hT )) (fun r80 P81 g82 => mpp 193 rfl ?_)
    obtain ⟨⟨x83, rfl, g84⟩, hT85, k86, R87⟩ := g82
    have k88 : KW [10, 11, 12, 65, 66, 67, 192, 193, 194, 256, 320, 385, 386, 640, 641, 704, 768, 1985, 1987, 2112, 2113, 2114] Po P81 := KW.trans KW.refl k86 rfl
    have wx83 := ti_full x83
    show MEvP _ none q_107 193 [(0, .ref 0)] [.int x83] _ _ _ _
    exact mp_iret ⟨⟨_, rfl, trivial⟩, hT85, k88, trivial⟩ dX6_perform_193 (Or.inl rfl)
  · refine mp_t (s_tabIn (t := 206) (off := 199) dX6_perform_7 (by omega) (by rw [c4]; rfl) (by decide)) ?_
    refine mp_a (a_aload_n dX6_perform_206 rfl) (mpp 207 rfl ?_)
    refine mp_a (a_aload_n dX6_perform_207 rfl) (mpp 208 rfl ?_)
    refine mt_getU (i := 32) (k := 4) (A := 289) hT dX6_perform_208 rfl rl_0 (by decide) rfl (by decide) rfl un_8 (mpp 211 rfl ?_)
    have g89 := ti_full (fv Po 289 4)
    refine mt_getI (i := 279) (k := 4) hT dX6_perform_211 rfl rl_289 (by decide) rfl (by decide) rfl (fun g90 g91 => mpp 214 rfl ?_)
    refine mt_callv (i := 303) (q' := q_56) (As := [.int (fv Po 289 4)]) (rest := []) hT dX6_perform_214 rfl qm_56 (by decide) rfl rl_0 (by decide) rfl (Nat.le_of_ble_eq_true rfl) rfl ⟨rfl, rfl⟩ ⟨Nat.le_of_ble_eq_true rfl, Nat.le_of_ble_eq_true rfl⟩ (EvP.mono (by decide) (c_F_unfold hT )) (fun r92 P93 g94 => mpp 217 rfl ?_)
    obtain ⟨⟨x95, rfl, g96⟩, hT97, k98, R99⟩ := g94
    have k100 : KW [10, 11, 12, 65, 66, 67, 192, 193, 194, 256, 320, 385, 386, 640, 641, 704, 768, 1985, 1987, 2112, 2113, 2114] Po P93 := KW.trans KW.refl k98 rfl
    have wx95 := ti_full x95
    show MEvP _ none q_107 217 [(0, .ref 0)] [.int x95] _ _ _ _
    exact mp_iret ⟨⟨_, rfl, trivial⟩, hT97, k100, trivial⟩ dX6_perform_217 (Or.inl rfl)
  · refine mp_t (s_tabIn (t := 230) (off := 223) dX6_perform_7 (by omega) (by rw [c4]; rfl) (by decide)) ?_
    refine mp_a (a_sipush (v := -1002) dX6_perform_230 rfl) (mpp 233 rfl ?_)
    exact mp_iret ⟨⟨_, rfl, trivial⟩, hT, KW.refl, trivial⟩ dX6_perform_233 (Or.inl rfl)
  · refine mp_t (s_tabIn (t := 230) (off := 223) dX6_perform_7 (by omega) (by rw [c4]; rfl) (by decide)) ?_
    refine mp_a (a_sipush (v := -1002) dX6_perform_230 rfl) (mpp 233 rfl ?_)
    exact mp_iret ⟨⟨_, rfl, trivial⟩, hT, KW.refl, trivial⟩ dX6_perform_233 (Or.inl rfl)
  · refine mp_t (s_tabIn (t := 218) (off := 211) dX6_perform_7 (by omega) (by rw [c4]; rfl) (by decide)) ?_
    refine mp_a (a_aload_n dX6_perform_218 rfl) (mpp 219 rfl ?_)
    refine mp_a (a_aload_n dX6_perform_219 rfl) (mpp 220 rfl ?_)
    refine mt_getU (i := 32) (k := 4) (A := 289) hT dX6_perform_220 rfl rl_0 (by decide) rfl (by decide) rfl un_8 (mpp 223 rfl ?_)
    have g101 := ti_full (fv Po 289 4)
    refine mt_getI (i := 279) (k := 4) hT dX6_perform_223 rfl rl_289 (by decide) rfl (by decide) rfl (fun g102 g103 => mpp 226 rfl ?_)
    refine mt_callv (i := 306) (q' := q_57) (As := [.int (fv Po 289 4)]) (rest := []) hT dX6_perform_226 rfl qm_57 (by decide) rfl rl_0 (by decide) rfl (Nat.le_of_ble_eq_true rfl) rfl ⟨rfl, rfl⟩ ⟨Nat.le_of_ble_eq_true rfl, Nat.le_of_ble_eq_true rfl⟩ (EvP.mono (by decide) (c_F_drop hT )) (fun r104 P105 g106 => mpp 229 rfl ?_)
    obtain ⟨⟨x107, rfl, g108⟩, hT109, k110, R111⟩ := g106
    have k112 : KW [10, 11, 12, 65, 66, 67, 192, 193, 194, 256, 320, 385, 386, 640, 641, 704, 768, 1985, 1987, 2112, 2113, 2114] Po P105 := KW.trans KW.refl k110 rfl
    have wx107 := ti_full x107
    show MEvP _ none q_107 229 [(0, .ref 0)] [.int x107] _ _ _ _
    exact mp_iret ⟨⟨_, rfl, trivial⟩, hT109, k112, trivial⟩ dX6_perform_229 (Or.inl rfl)

