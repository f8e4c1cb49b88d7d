/-! methods on typed pools, 1 (written by a program) -/
set_option maxHeartbeats 4000000 in
theorem c_CS_copyFrom_State_NState {Po : mP} {a0_ : Nat} (hT : Typ Po)  (ha0 : rl a0_ = 1) : EvP 3 17 [.ref a0_, .ref 1] Po (fun r P' => (r = none ∧ (True)) ∧ Typ P' ∧ KW [65, 66, 67, 192, 193, 194, 256, 320] Po P' ∧ True) := by
  refine EvP.of qm_17 (Nat.le_of_ble_eq_true rfl) rfl ?_
  show MEvP _ none q_17 0 [(0, .ref a0_), (1, .ref 1)] [] _ 0 0 _
  refine mp_a (a_aload_n dX5_copyFrom_0 rfl) (mpp 1 rfl ?_)
  refine mp_a (a_aload_n dX5_copyFrom_1 rfl) (mpp 2 rfl ?_)
  have g1 := ti_full (fv Po 1 1)
  refine mt_getI (i := 22) (k := 1) hT dX5_copyFrom_2 rfl rl_1 (by decide) rfl (by decide) rfl (fun g2 g3 => mpp 5 rfl ?_)
  refine mt_putI (i := 22) (k := 1) (x := (fv Po 1 1)) hT dX5_copyFrom_5 rfl ha0 (by decide) rfl (by decide) rfl (ti_full (fv Po 1 1)) rfl rfl (fun P4 hT5 f6 f7 => mpp 8 rfl ?_)
  have k8 : KW [65, 66, 67, 192, 193, 194, 256, 320] Po P4 := KW.step KW.refl ha0 rfl f7
  have e9 : (fv P4 a0_ 1).toInt = (fv Po 1 1).toInt := congrArg Int32.toInt f6
  refine mp_a (a_aload_n dX5_copyFrom_8 rfl) (mpp 9 rfl ?_)
  refine mp_a (a_aload_n dX5_copyFrom_9 rfl) (mpp 10 rfl ?_)
  have g10 := ti_full (fv P4 1 2)
  refine mt_getI (i := 17) (k := 2) hT5 dX5_copyFrom_10 rfl rl_1 (by decide) rfl (by decide) rfl (fun g11 g12 => mpp 13 rfl ?_)
  refine mt_putI (i := 17) (k := 2) (x := (fv P4 1 2)) hT5 dX5_copyFrom_13 rfl ha0 (by decide) rfl (by decide) rfl (ti_full (fv P4 1 2)) rfl rfl (fun P13 hT14 f15 f16 => mpp 16 rfl ?_)
  have k17 : KW [65, 66, 67, 192, 193, 194, 256, 320] Po P13 := KW.step k8 ha0 rfl f16
  have e18 : (fv P13 a0_ 2).toInt = (fv P4 1 2).toInt := congrArg Int32.toInt f15
  refine mp_a (a_aload_n dX5_copyFrom_16 rfl) (mpp 17 rfl ?_)
  refine mp_a (a_aload_n dX5_copyFrom_17 rfl) (mpp 18 rfl ?_)
  have g19 := ti_full (fv P13 1 3)
  refine mt_getI (i := 25) (k := 3) hT14 dX5_copyFrom_18 rfl rl_1 (by decide) rfl (by decide) rfl (fun g20 g21 => mpp 21 rfl ?_)
  refine mt_putI (i := 25) (k := 3) (x := (fv P13 1 3)) hT14 dX5_copyFrom_21 rfl ha0 (by decide) rfl (by decide) rfl (ti_full (fv P13 1 3)) rfl rfl (fun P22 hT23 f24 f25 => mpp 24 rfl ?_)
  have k26 : KW [65, 66, 67, 192, 193, 194, 256, 320] Po P22 := KW.step k17 ha0 rfl f25
  have e27 : (fv P22 a0_ 3).toInt = (fv P13 1 3).toInt := congrArg Int32.toInt f24
  refine mp_a (a_iconst (v := 0) dX5_copyFrom_24 rfl) (mpp 25 rfl ?_)
  refine mp_a (a_istore_n (L' := [(2, .int 0), (0, .ref a0_), (1, .ref 1)]) dX5_copyFrom_25 (by decide) rfl) (mpp 26 rfl ?_)
  refine MEvP.less (L := [(0, .ref a0_), (1, .ref 1), (2, .int 0)]) rfl rfl ⟨rfl, rfl, rfl, trivial⟩ ?_
  have i28 : 0 ≤ (0 : Int) := by omega
  exact c_CS_copyFrom_State_NState_l26  ha0 _ _ P22 hT23 k26 i28 rfl

set_option maxHeartbeats 4000000 in
theorem c_CH_push_History_NState {Po : mP}  (hT : Typ Po)   : EvP 4 15 [.ref 79, .ref 1] Po (fun r P' => (r = none ∧ (True)) ∧ Typ P' ∧ KW [65, 66, 67, 192, 193, 194, 256, 320, 385, 386] Po P' ∧ True) := by
  refine EvP.of qm_15 (Nat.le_of_ble_eq_true rfl) rfl ?_
  show MEvP _ none q_15 0 [(0, .ref 79), (1, .ref 1)] [] _ 0 0 _
  refine mp_a (a_aload_n dX0_push_0 rfl) (mpp 1 rfl ?_)
  refine mp_a (a_aload_n dX0_push_1 rfl) (mpp 2 rfl ?_)
  have g1 := ti_full (fv Po 79 1)
  refine mt_getI (i := 18) (k := 1) hT dX0_push_2 rfl rl_79 (by decide) rfl (by decide) rfl (fun g2 g3 => mpp 5 rfl ?_)
  refine mt_callv (i := 22) (q' := q_16) (As := [.int (fv Po 79 1)]) (rest := []) hT dX0_push_5 rfl qm_16 (by decide) rfl rl_79 (by decide) rfl (Nat.le_of_ble_eq_true rfl) rfl ⟨rfl, rfl⟩ ⟨Nat.le_of_ble_eq_true rfl, Nat.le_of_ble_eq_true rfl⟩ (EvP.mono (by decide) (c_CH_stateAt_History hT )) (fun r4 P5 g6 => mpp 8 rfl ?_)
  obtain ⟨g6, e7⟩ := g6
  have e7 := e7.symm
  subst e7
  rcases g6 with rfl | ⟨b8, rfl, q9⟩
  · show MEvP _ none q_15 8 [(0, .ref 79), (1, .ref 1)] [.null] _ _ _ _
    refine mp_a (a_astore_nN (L' := [(2, .null), (0, .ref 79), (1, .ref 1)]) dX0_push_8 (by decide) rfl) (mpp 9 rfl ?_)
    refine mp_a (a_aload_nN dX0_push_9 rfl) (mpp 10 rfl ?_)
    refine mp_t (s_ifnullN (t := 63) dX0_push_10 (by decide)) ?_
    exact mp_ret ⟨⟨rfl, trivial⟩, hT, KW.refl, trivial⟩ dX0_push_63 rfl
  · show MEvP _ none q_15 8 [(0, .ref 79), (1, .ref 1)] [.ref b8] _ _ _ _
    refine mp_a (a_astore_n (L' := [(2, .ref b8), (0, .ref 79), (1, .ref 1)]) dX0_push_8 (by decide) rfl) (mpp 9 rfl ?_)
    refine mp_a (a_aload_n dX0_push_9 rfl) (mpp 10 rfl ?_)
    refine mp_t (s_ifnullR dX0_push_10) (mpp 13 rfl ?_)
    refine mp_a (a_aload_n dX0_push_13 rfl) (mpp 14 rfl ?_)
    have g10 : (0 : Int) ≤ (fv Po 79 3).toInt ∧ (fv Po 79 3).toInt ≤ 1 := Typ.rng hT rl_79 (by decide) (by decide) rfl
    refine mt_getI (i := 26) (k := 3) hT dX0_push_14 rfl rl_79 (by decide) rfl (by decide) rfl (fun g11 g12 => mpp 17 rfl ?_)
    refine mp_Tb (t := 63) (j_if_ne dX0_push_17) (by decide) (fun c13 => ?_) (fun c13 => mpp 20 rfl ?_)
    · have c13 : (fv Po 79 3).toInt ≠ 0 := ti_ne c13
      exact mp_ret ⟨⟨rfl, trivial⟩, hT, KW.refl, trivial⟩ dX0_push_63 rfl
    · have c13 : (fv Po 79 3).toInt = 0 := ti_ne_n c13
      refine mp_a (a_aload_n dX0_push_20 rfl) (mpp 21 rfl ?_)
      refine mp_a (a_aload_n dX0_push_21 rfl) (mpp 22 rfl ?_)
      refine mt_callv (i := 30) (q' := q_17) (As := [.ref 1]) (rest := []) hT dX0_push_22 rfl qm_17 (by decide) rfl q9 (by decide) rfl (Nat.le_of_ble_eq_true rfl) rfl ⟨rfl, rfl⟩ ⟨Nat.le_of_ble_eq_true rfl, Nat.le_of_ble_eq_true rfl⟩ (EvP.mono (by decide) (c_CS_copyFrom_State_NState hT q9)) (fun r14 P15 g16 => mpp 25 rfl ?_)
      obtain ⟨⟨rfl, g18⟩, hT19, k20, R21⟩ := g16
      have k22 : KW [65, 66, 67, 192, 193, 194, 256, 320, 385, 386] Po P15 := KW.trans KW.refl k20 rfl
      show MEvP _ none q_15 25 [(2, .ref b8), (0, .ref 79), (1, .ref 1)] [] _ _ _ _
      refine mp_a (a_aload_n dX0_push_25 rfl) (mpp 26 rfl ?_)
      refine mp_a (a_aload_n dX0_push_26 rfl) (mpp 27 rfl ?_)
      have e23 : (fv P15 79 1).toInt = (fv Po 79 1).toInt := congrArg Int32.toInt (KW.at k20 1 rl_79 rfl)
      refine mt_getI (i := 18) (k := 1) hT19 dX0_push_27 rfl rl_79 (by decide) rfl (by decide) rfl (fun g24 g25 => mpp 30 rfl ?_)
      refine mp_a (a_bipush (v := 7) dX0_push_30 rfl) (mpp 32 rfl ?_)
      refine mp_Tb (t := 44) (j_icmp_ge dX0_push_32) (by decide) (fun c26 => ?_) (fun c26 => mpp 35 rfl ?_)
      · have c26 : (fv P15 79 1).toInt ≥ 7 := ti_ge c26
        refine mp_a (a_iconst (v := 0) dX0_push_44 rfl) (mpp 45 rfl ?_)
        refine mt_putI (i := 18) (k := 1) (x := 0) hT19 dX0_push_45 rfl rl_79 (by decide) rfl (by decide) rfl (by decide) rfl rfl (fun P27 hT28 f29 f30 => mpp 48 rfl ?_)
        have k31 : KW [65, 66, 67, 192, 193, 194, 256, 320, 385, 386] Po P27 := KW.step k22 rl_79 rfl f30
        have e32 : (fv P27 79 1).toInt = 0 := congrArg Int32.toInt f29
        refine mp_a (a_aload_n dX0_push_48 rfl) (mpp 49 rfl ?_)
        refine mp_a (a_aload_n dX0_push_49 rfl) (mpp 50 rfl ?_)
        have g33 := ti_full (fv P27 79 2)
        refine mt_getI (i := 34) (k := 2) hT28 dX0_push_50 rfl rl_79 (by decide) rfl (by decide) rfl (fun g34 g35 => mpp 53 rfl ?_)
        refine mp_a (a_iconst (v := 1) dX0_push_53 rfl) (mpp 54 rfl ?_)
        obtain ⟨z36, h37⟩ := ti_ex ((fv P27 79 2) + 1 : Int32)
        have wz36 := ti_full z36
        refine mp_t (s_iadd (v := z36) dX0_push_54 h37) (mpp 55 rfl ?_)
        try have e38 : z36.toInt = (fv P27 79 2).toInt + 1 := ti_addz h37 rfl rfl (by omega) (by omega)
        refine mp_a (a_bipush (v := 8) dX0_push_55 rfl) (mpp 57 rfl ?_)
        obtain ⟨z39, h40⟩ := ti_ex (if (8 : Nat) = 7 then (if z36 < 8 then 8 else z36) else (if 8 < z36 then 8 else z36) : Int32)
        have e41 : z39.toInt = min z36.toInt 8 := ti_mm8 h40
        refine mp_math (i := 37) (k := 0) (v := z39) dX0_push_57 rfl (by decide) (Nat.le_of_ble_eq_true rfl) h40 ⟨Nat.le_of_ble_eq_true rfl, Nat.le_of_ble_eq_true rfl⟩ (mpp 60 rfl ?_)
        refine mt_putI (i := 34) (k := 2) (x := z39) hT28 dX0_push_60 rfl rl_79 (by decide) rfl (by decide) rfl (ti_full z39) rfl rfl (fun P42 hT43 f44 f45 => mpp 63 rfl ?_)
        have k46 : KW [65, 66, 67, 192, 193, 194, 256, 320, 385, 386] Po P42 := KW.step k31 rl_79 rfl f45
        have e47 : (fv P42 79 2).toInt = z39.toInt := congrArg Int32.toInt f44
        exact mp_ret ⟨⟨rfl, trivial⟩, hT43, k46, trivial⟩ dX0_push_63 rfl
      · have c26 : (fv P15 79 1).toInt < 7 := ti_ge_n c26
        refine mp_a (a_aload_n dX0_push_35 rfl) (mpp 36 rfl ?_)
        refine mt_getI (i := 18) (k := 1) hT19 dX0_push_36 rfl rl_79 (by decide) rfl (by decide) rfl (fun g48 g49 => mpp 39 rfl ?_)
        refine mp_a (a_iconst (v := 1) dX0_push_39 rfl) (mpp 40 rfl ?_)
        obtain ⟨z50, h51⟩ := ti_ex ((fv P15 79 1) + 1 : Int32)
        have wz50 := ti_full z50
        refine mp_t (s_iadd (v := z50) dX0_push_40 h51) (mpp 41 rfl ?_)
        try have e52 : z50.toInt = (fv P15 79 1).toInt + 1 := ti_addz h51 rfl rfl (by omega) (by omega)
        refine mp_a (a_goto (t := 45) dX0_push_41 (by decide)) ?_
        refine mt_putI (i := 18) (k := 1) (x := z50) hT19 dX0_push_45 rfl rl_79 (by decide) rfl (by decide) rfl (ti_full z50) rfl rfl (fun P53 hT54 f55 f56 => mpp 48 rfl ?_)
        have k57 : KW [65, 66, 67, 192, 193, 194, 256, 320, 385, 386] Po P53 := KW.step k22 rl_79 rfl f56
        have e58 : (fv P53 79 1).toInt = z50.toInt := congrArg Int32.toInt f55
        refine mp_a (a_aload_n dX0_push_48 rfl) (mpp 49 rfl ?_)
        refine mp_a (a_aload_n dX0_push_49 rfl) (mpp 50 rfl ?_)
        have g59 := ti_full (fv P53 79 2)
        refine mt_getI (i := 34) (k := 2) hT54 dX0_push_50 rfl rl_79 (by decide) rfl (by decide) rfl (fun g60 g61 => mpp 53 rfl ?_)
        refine mp_a (a_iconst (v := 1) dX0_push_53 rfl) (mpp 54 rfl ?_)
        obtain ⟨z62, h63⟩ := ti_ex ((fv P53 79 2) + 1 : Int32)
        have wz62 := ti_full z62
        refine mp_t (s_iadd (v := z62) dX0_push_54 h63) (mpp 55 rfl ?_)
        try have e64 : z62.toInt = (fv P53 79 2).toInt + 1 := ti_addz h63 rfl rfl (by omega) (by omega)
        refine mp_a (a_bipush (v := 8) dX0_push_55 rfl) (mpp 57 rfl ?_)
        obtain ⟨z65, h66⟩ := ti_ex (if (8 : Nat) = 7 then (if z62 < 8 then 8 else z62) else (if 8 < z62 then 8 else z62) : Int32)
        have e67 : z65.toInt = min z62.toInt 8 := ti_mm8 h66
        refine mp_math (i := 37) (k := 0) (v := z65) dX0_push_57 rfl (by decide) (Nat.le_of_ble_eq_true rfl) h66 ⟨Nat.le_of_ble_eq_true rfl, Nat.le_of_ble_eq_true rfl⟩ (mpp 60 rfl ?_)
        refine mt_putI (i := 34) (k := 2) (x := z65) hT54 dX0_push_60 rfl rl_79 (by decide) rfl (by decide) rfl (ti_full z65) rfl rfl (fun P68 hT69 f70 f71 => mpp 63 rfl ?_)
        have k72 : KW [65, 66, 67, 192, 193, 194, 256, 320, 385, 386] Po P68 := KW.step k57 rl_79 rfl f71
        have e73 : (fv P68 79 2).toInt = z65.toInt := congrArg Int32.toInt f70
        exact mp_ret ⟨⟨rfl, trivial⟩, hT69, k72, trivial⟩ dX0_push_63 rfl

set_option maxHeartbeats 4000000 in
theorem c_F_refuse {Po : mP} {t1 : Int32} {t2 : Int32} (hT : Typ Po)   : EvP 1 14 [.ref 0, .int t1, .int t2] Po (fun r P' => (∃ x : Int32, r = some (.int x) ∧ (True)) ∧ Typ P' ∧ KW [10, 11, 12] Po P' ∧ True) := by
  refine EvP.of qm_14 (Nat.le_of_ble_eq_true rfl) rfl ?_
  show MEvP _ none q_14 0 [(0, .ref 0), (1, .int t1), (2, .int t2)] [] _ 0 0 _
  refine mp_a (a_aload_n dX6_refuse_0 rfl) (mpp 1 rfl ?_)
  refine mp_a (a_iload_n dX6_refuse_1 rfl) (mpp 2 rfl ?_)
  refine mt_putI (i := 246) (k := 10) (x := t1) hT dX6_refuse_2 rfl rl_0 (by decide) rfl (by decide) rfl (ti_full t1) rfl rfl (fun P1 hT2 f3 f4 => mpp 5 rfl ?_)
  have k5 : KW [10, 11, 12] Po P1 := KW.step KW.refl rl_0 rfl f4
  have e6 : (fv P1 0 10).toInt = t1.toInt := congrArg Int32.toInt f3
  refine mp_a (a_aload_n dX6_refuse_5 rfl) (mpp 6 rfl ?_)
  refine mp_a (a_iload_n dX6_refuse_6 rfl) (mpp 7 rfl ?_)
  refine mt_putI (i := 249) (k := 11) (x := t2) hT2 dX6_refuse_7 rfl rl_0 (by decide) rfl (by decide) rfl (ti_full t2) rfl rfl (fun P7 hT8 f9 f10 => mpp 10 rfl ?_)
  have k11 : KW [10, 11, 12] Po P7 := KW.step k5 rl_0 rfl f10
  have e12 : (fv P7 0 11).toInt = t2.toInt := congrArg Int32.toInt f9
  refine mp_a (a_aload_n dX6_refuse_10 rfl) (mpp 11 rfl ?_)
  refine mp_a (a_aload_n dX6_refuse_11 rfl) (mpp 12 rfl ?_)
  have g13 := ti_full (fv P7 0 9)
  refine mt_getI (i := 57) (k := 9) hT8 dX6_refuse_12 rfl rl_0 (by decide) rfl (by decide) rfl (fun g14 g15 => mpp 15 rfl ?_)
  refine mt_putI (i := 61) (k := 12) (x := (fv P7 0 9)) hT8 dX6_refuse_15 rfl rl_0 (by decide) rfl (by decide) rfl (ti_full (fv P7 0 9)) rfl rfl (fun P16 hT17 f18 f19 => mpp 18 rfl ?_)
  have k20 : KW [10, 11, 12] Po P16 := KW.step k11 rl_0 rfl f19
  have e21 : (fv P16 0 12).toInt = (fv P7 0 9).toInt := congrArg Int32.toInt f18
  refine mp_a (a_sipush (v := -1003) dX6_refuse_18 rfl) (mpp 21 rfl ?_)
  exact mp_iret ⟨⟨_, rfl, trivial⟩, hT17, k20, trivial⟩ dX6_refuse_21 (Or.inl rfl)

set_option maxHeartbeats 4000000 in
theorem c_F_stage {Po : mP} {t1 : Int32} (hT : Typ Po)   : EvP 5 7 [.ref 0, .int t1] Po (fun r P' => (∃ x : Int32, r = some (.int x) ∧ (True)) ∧ Typ P' ∧ KW [10, 11, 12, 65, 66, 67, 192, 193, 194, 256, 320, 385, 386, 1986] Po P' ∧ True) := by
  refine EvP.of qm_7 (Nat.le_of_ble_eq_true rfl) rfl ?_
  show MEvP _ none q_7 0 [(0, .ref 0), (1, .int t1)] [] _ 0 0 _
  refine mp_a (a_iload_n dX6_stage_0 rfl) (mpp 1 rfl ?_)
  refine mp_a (a_iconst (v := 1) dX6_stage_1 rfl) (mpp 2 rfl ?_)
  refine mp_Tb (t := 11) (j_icmp_lt dX6_stage_2) (by decide) (fun c1 => ?_) (fun c1 => mpp 5 rfl ?_)
  · have c1 : t1.toInt < 1 := ti_lt c1
    refine mp_a (a_sipush (v := -1002) dX6_stage_11 rfl) (mpp 14 rfl ?_)
    exact mp_iret ⟨⟨_, rfl, trivial⟩, hT, KW.refl, trivial⟩ dX6_stage_14 (Or.inl rfl)
  · have c1 : t1.toInt ≥ 1 := ti_lt_n c1
    refine mp_a (a_iload_n dX6_stage_5 rfl) (mpp 6 rfl ?_)
    refine mp_a (a_bipush (v := 99) dX6_stage_6 rfl) (mpp 8 rfl ?_)
    refine mp_Tb (t := 15) (j_icmp_le dX6_stage_8) (by decide) (fun c2 => ?_) (fun c2 => mpp 11 rfl ?_)
    · have c2 : t1.toInt ≤ 99 := ti_le c2
      refine mp_a (a_aload_n dX6_stage_15 rfl) (mpp 16 rfl ?_)
      refine mt_getU (i := 10) (k := 0) (A := 1) hT dX6_stage_16 rfl rl_0 (by decide) rfl (by decide) rfl un_31 (mpp 19 rfl ?_)
      refine mt_callv (i := 64) (q' := q_8) (As := []) (rest := []) hT dX6_stage_19 rfl qm_8 (by decide) rfl rl_1 (by decide) rfl (Nat.le_of_ble_eq_true rfl) rfl ⟨rfl, rfl⟩ ⟨Nat.le_of_ble_eq_true rfl, Nat.le_of_ble_eq_true rfl⟩ (EvP.mono (by decide) (c_CS_occupied_NState hT )) (fun r3 P4 g5 => mpp 22 rfl ?_)
      obtain ⟨⟨x6, rfl, g7⟩, e8⟩ := g5
      have e8 := e8.symm
      subst e8
      have wx6 := ti_full x6
      show MEvP _ none q_7 22 [(0, .ref 0), (1, .int t1)] [.int x6] _ _ _ _
      refine mp_a (a_iload_n dX6_stage_22 rfl) (mpp 23 rfl ?_)
      obtain ⟨z9, h10⟩ := ti_ex (x6 - t1 : Int32)
      have wz9 := ti_full z9
      refine mp_t (s_isub (v := z9) dX6_stage_23 h10) (mpp 24 rfl ?_)
      try have e11 : z9.toInt = x6.toInt - t1.toInt := ti_subz h10 rfl rfl (by omega) (by omega)
      refine mp_a (a_istore_n (L' := [(2, .int z9), (0, .ref 0), (1, .int t1)]) dX6_stage_24 (by decide) rfl) (mpp 25 rfl ?_)
      refine mp_a (a_iload_n dX6_stage_25 rfl) (mpp 26 rfl ?_)
      refine mp_Tb (t := 37) (j_if_le dX6_stage_26) (by decide) (fun c12 => ?_) (fun c12 => mpp 29 rfl ?_)
      · have c12 : z9.toInt ≤ 0 := ti_le c12
        refine mp_a (a_aload_n dX6_stage_37 rfl) (mpp 38 rfl ?_)
        refine mt_getU (i := 25) (k := 3) (A := 79) hT dX6_stage_38 rfl rl_0 (by decide) rfl (by decide) rfl un_6 (mpp 41 rfl ?_)
        refine mp_a (a_aload_n dX6_stage_41 rfl) (mpp 42 rfl ?_)
        refine mt_getU (i := 10) (k := 0) (A := 1) hT dX6_stage_42 rfl rl_0 (by decide) rfl (by decide) rfl un_31 (mpp 45 rfl ?_)
        refine mt_callv (i := 72) (q' := q_15) (As := [.ref 1]) (rest := []) hT dX6_stage_45 rfl qm_15 (by decide) rfl rl_79 (by decide) rfl (Nat.le_of_ble_eq_true rfl) rfl ⟨rfl, rfl⟩ ⟨Nat.le_of_ble_eq_true rfl, Nat.le_of_ble_eq_true rfl⟩ (EvP.mono (by decide) (c_CH_push_History_NState hT )) (fun r13 P14 g15 => mpp 48 rfl ?_)
        obtain ⟨⟨rfl, g17⟩, hT18, k19, R20⟩ := g15
        have k21 : KW [10, 11, 12, 65, 66, 67, 192, 193, 194, 256, 320, 385, 386, 1986] Po P14 := KW.trans KW.refl k19 rfl
        show MEvP _ none q_7 48 [(2, .int z9), (0, .ref 0), (1, .int t1)] [] _ _ _ _
        refine mp_a (a_aload_n dX6_stage_48 rfl) (mpp 49 rfl ?_)
        refine mt_getU (i := 10) (k := 0) (A := 1) hT18 dX6_stage_49 rfl rl_0 (by decide) rfl (by decide) rfl un_31 (mpp 52 rfl ?_)
        have g22 := ti_full (fv P14 1 2)
        refine mt_getI (i := 76) (k := 2) hT18 dX6_stage_52 rfl rl_1 (by decide) rfl (by decide) rfl (fun g23 g24 => mpp 55 rfl ?_)
        refine mp_a (a_istore_n (L' := [(3, .int (fv P14 1 2)), (2, .int z9), (0, .ref 0), (1, .int t1)]) dX6_stage_55 (by decide) rfl) (mpp 56 rfl ?_)
        refine mp_a (a_aload_n dX6_stage_56 rfl) (mpp 57 rfl ?_)
        refine mt_getU (i := 10) (k := 0) (A := 1) hT18 dX6_stage_57 rfl rl_0 (by decide) rfl (by decide) rfl un_31 (mpp 60 rfl ?_)
        refine mp_a (a_iload_n dX6_stage_60 rfl) (mpp 61 rfl ?_)
        refine mt_putI (i := 76) (k := 2) (x := t1) hT18 dX6_stage_61 rfl rl_1 (by decide) rfl (by decide) rfl (ti_full t1) rfl rfl (fun P25 hT26 f27 f28 => mpp 64 rfl ?_)
        have k29 : KW [10, 11, 12, 65, 66, 67, 192, 193, 194, 256, 320, 385, 386, 1986] Po P25 := KW.step k21 rl_1 rfl f28
        have e30 : (fv P25 1 2).toInt = t1.toInt := congrArg Int32.toInt f27
        refine mp_a (a_iload_n dX6_stage_64 rfl) (mpp 65 rfl ?_)
        exact mp_iret ⟨⟨_, rfl, trivial⟩, hT26, k29, trivial⟩ dX6_stage_65 (Or.inl rfl)
      · have c12 : z9.toInt > 0 := ti_le_n c12
        refine mp_a (a_aload_n dX6_stage_29 rfl) (mpp 30 rfl ?_)
        refine mp_a (a_bipush (v := 7) dX6_stage_30 rfl) (mpp 32 rfl ?_)
        refine mp_a (a_iload_n dX6_stage_32 rfl) (mpp 33 rfl ?_)
        refine mt_callv (i := 68) (q' := q_14) (As := [.int 7, .int z9]) (rest := []) hT dX6_stage_33 rfl qm_14 (by decide) rfl rl_0 (by decide) rfl (Nat.le_of_ble_eq_true rfl) rfl ⟨rfl, rfl⟩ ⟨Nat.le_of_ble_eq_true rfl, Nat.le_of_ble_eq_true rfl⟩ (EvP.mono (by decide) (c_F_refuse hT )) (fun r31 P32 g33 => mpp 36 rfl ?_)
        obtain ⟨⟨x34, rfl, g35⟩, hT36, k37, R38⟩ := g33
        have k39 : KW [10, 11, 12, 65, 66, 67, 192, 193, 194, 256, 320, 385, 386, 1986] Po P32 := KW.trans KW.refl k37 rfl
        have wx34 := ti_full x34
        show MEvP _ none q_7 36 [(2, .int z9), (0, .ref 0), (1, .int t1)] [.int x34] _ _ _ _
        exact mp_iret ⟨⟨_, rfl, trivial⟩, hT36, k39, trivial⟩ dX6_stage_36 (Or.inl rfl)
    · have c2 : t1.toInt > 99 := ti_le_n c2
      refine mp_a (a_sipush (v := -1002) dX6_stage_11 rfl) (mpp 14 rfl ?_)
      exact mp_iret ⟨⟨_, rfl, trivial⟩, hT, KW.refl, trivial⟩ dX6_stage_14 (Or.inl rfl)

set_option maxHeartbeats 4000000 in
theorem c_CP_sum_Piece_l4 {Po : mP} {a0_ : Nat} (hT : Typ Po)  (ha0 : rl a0_ = 3) : ∀ (n : Nat) (v1 : Int32) (v2 : Int32), (0 ≤ v2.toInt) → (2147483647 - v2.toInt).toNat = n → MEvP 1 none q_23 4 [(0, .ref a0_), (1, .int v1), (2, .int v2)] [] Po 0 0 (fun r P' => (∃ x : Int32, r = some (.int x) ∧ (True)) ∧ P' = Po) := by
  intro n
  induction n using Nat.strongRecOn with | _ n ih => ?_
  intro v1 v2 i_0 hm
  have w_v1 := ti_full v1
  have w_v2 := ti_full v2
  refine mp_a (a_iload_n dX2_sum_4 rfl) (mpp 5 rfl ?_)
  refine mp_a (a_aload_n dX2_sum_5 rfl) (mpp 6 rfl ?_)
  have g1 : (0 : Int) ≤ (fv Po a0_ 1).toInt ∧ (fv Po a0_ 1).toInt ≤ 8 := Typ.rng hT ha0 (by decide) (by decide) rfl
  refine mt_getI (i := 26) (k := 1) hT dX2_sum_6 rfl ha0 (by decide) rfl (by decide) rfl (fun g2 g3 => mpp 9 rfl ?_)
  refine mp_Tb (t := 29) (j_icmp_ge dX2_sum_9) (by decide) (fun c4 => ?_) (fun c4 => mpp 12 rfl ?_)
  · have c4 : v2.toInt ≥ (fv Po a0_ 1).toInt := ti_ge c4
    refine mp_a (a_iload_n dX2_sum_29 rfl) (mpp 30 rfl ?_)
    exact mp_iret ⟨⟨_, rfl, trivial⟩, rfl⟩ dX2_sum_30 (Or.inl rfl)
  · have c4 : v2.toInt < (fv Po a0_ 1).toInt := ti_ge_n c4
    refine mp_a (a_iload_n dX2_sum_12 rfl) (mpp 13 rfl ?_)
    refine mp_a (a_aload_n dX2_sum_13 rfl) (mpp 14 rfl ?_)
    refine mt_getR (i := 9) (k := 3) hT dX2_sum_14 rfl ha0 (by decide) rfl (by decide) rfl (fun q5 => mpp 17 rfl ?_)
    generalize rv Po a0_ 3 = b6 at q5 ⊢
    refine mp_a (a_iload_n dX2_sum_17 rfl) (mpp 18 rfl ?_)
    refine mp_calls (i := 48) (q' := q_12) (As := [.ref b6, .int v2]) (rest := [.int v1]) dX2_sum_18 rfl qm_12 (by decide) rfl (Nat.le_of_ble_eq_true rfl) rfl ⟨rfl, rfl⟩ ⟨Nat.le_of_ble_eq_true rfl, Nat.le_of_ble_eq_true rfl⟩ (EvP.mono (by decide) (c_F_at_sizes hT q5)) (fun r7 P8 g9 => mpp 21 rfl ?_)
    obtain ⟨⟨x10, rfl, g11⟩, e12⟩ := g9
    have e12 := e12.symm
    subst e12
    have wx10 := ti_full x10
    show MEvP _ none q_23 21 [(0, .ref a0_), (1, .int v1), (2, .int v2)] [.int x10, .int v1] _ _ _ _
    obtain ⟨z13, h14⟩ := ti_ex (v1 + x10 : Int32)
    have wz13 := ti_full z13
    refine mp_t (s_iadd (v := z13) dX2_sum_21 h14) (mpp 22 rfl ?_)
    try have e15 : z13.toInt = v1.toInt + x10.toInt := ti_addz h14 rfl rfl (by omega) (by omega)
    refine mp_a (a_istore_n (L' := [(1, .int z13), (0, .ref a0_), (2, .int v2)]) dX2_sum_22 (by decide) rfl) (mpp 23 rfl ?_)
    obtain ⟨z16, h17⟩ := ti_ex (v2 + 1 : Int32)
    have wz16 := ti_full z16
    refine mp_a (a_iinc (v := z16) (L' := [(2, .int z16), (1, .int z13), (0, .ref a0_)]) dX2_sum_23 (by decide) rfl h17 rfl) (mpp 26 rfl ?_)
    try have e18 : z16.toInt = v2.toInt + 1 := ti_addz h17 rfl rfl (by omega) (by omega)
    refine mp_a (a_goto (t := 4) dX2_sum_26 (by decide)) ?_
    refine MEvP.less (L := [(0, .ref a0_), (1, .int z13), (2, .int z16)]) rfl rfl ⟨rfl, rfl, rfl, trivial⟩ ?_
    have i19 : 0 ≤ z16.toInt := by omega
    exact ih _ (by omega) _ _ i19 rfl

set_option maxHeartbeats 4000000 in
theorem c_CP_sum_Piece {Po : mP} {a0_ : Nat} (hT : Typ Po)  (ha0 : rl a0_ = 3) : EvP 2 23 [.ref a0_] Po (fun r P' => (∃ x : Int32, r = some (.int x) ∧ (True)) ∧ P' = Po) := by
  refine EvP.of qm_23 (Nat.le_of_ble_eq_true rfl) rfl ?_
  show MEvP _ none q_23 0 [(0, .ref a0_)] [] _ 0 0 _
  refine mp_a (a_iconst (v := 0) dX2_sum_0 rfl) (mpp 1 rfl ?_)
  refine mp_a (a_istore_n (L' := [(1, .int 0), (0, .ref a0_)]) dX2_sum_1 (by decide) rfl) (mpp 2 rfl ?_)
  refine mp_a (a_iconst (v := 0) dX2_sum_2 rfl) (mpp 3 rfl ?_)
  refine mp_a (a_istore_n (L' := [(2, .int 0), (1, .int 0), (0, .ref a0_)]) dX2_sum_3 (by decide) rfl) (mpp 4 rfl ?_)
  refine MEvP.less (L := [(0, .ref a0_), (1, .int 0), (2, .int 0)]) rfl rfl ⟨rfl, rfl, rfl, trivial⟩ ?_
  have i1 : 0 ≤ (0 : Int) := by omega
  exact c_CP_sum_Piece_l4 hT  ha0 _ _ _ i1 rfl

set_option maxHeartbeats 4000000 in
theorem c_F_put_sizes {Po : mP} {a0_ : Nat} {t1 : Int32} {t2 : Int32} (hT : Typ Po)  (ha0 : rl a0_ = 4) : EvP 1 22 [.ref a0_, .int t1, .int t2] Po (fun r P' => (r = none ∧ (True)) ∧ Typ P' ∧ KW [256] Po P' ∧ True) := by
  refine EvP.of qm_22 (Nat.le_of_ble_eq_true rfl) rfl ?_
  show MEvP _ none q_22 0 [(0, .ref a0_), (1, .int t1), (2, .int t2)] [] _ 0 0 _
  refine mp_a (a_iload_n dX6_put_0 rfl) (mpp 1 rfl ?_)
  refine mp_Tb (t := 14) (j_if_lt dX6_put_1) (by decide) (fun c1 => ?_) (fun c1 => mpp 4 rfl ?_)
  · have c1 : t1.toInt < 0 := ti_lt c1
    exact mp_ret ⟨⟨rfl, trivial⟩, hT, KW.refl, trivial⟩ dX6_put_14 rfl
  · have c1 : t1.toInt ≥ 0 := ti_lt_n c1
    refine mp_a (a_iload_n dX6_put_4 rfl) (mpp 5 rfl ?_)
    refine mp_a (a_aload_n dX6_put_5 rfl) (mpp 6 rfl ?_)
    refine mt_len (n := 8) hT dX6_put_6 ha0 (by decide) (by decide) rfl (mpp 7 rfl ?_)
    refine mp_Tb (t := 14) (j_icmp_ge dX6_put_7) (by decide) (fun c2 => ?_) (fun c2 => mpp 10 rfl ?_)
    · have c2 : t1.toInt ≥ 8 := ti_ge c2
      exact mp_ret ⟨⟨rfl, trivial⟩, hT, KW.refl, trivial⟩ dX6_put_14 rfl
    · have c2 : t1.toInt < 8 := ti_ge_n c2
      refine mp_a (a_aload_n dX6_put_10 rfl) (mpp 11 rfl ?_)
      refine mp_a (a_iload_n dX6_put_11 rfl) (mpp 12 rfl ?_)
      refine mp_a (a_iload_n dX6_put_12 rfl) (mpp 13 rfl ?_)
      refine mt_ias (n := 8) hT dX6_put_13 ha0 (by decide) rfl rfl (by omega) (by omega) rfl (ti_full t2) (fun P3 hT4 f5 f6 => mpp 14 rfl ?_)
      have k7 : KW [256] Po P3 := KW.step KW.refl ha0 rfl f6
      exact mp_ret ⟨⟨rfl, trivial⟩, hT4, k7, trivial⟩ dX6_put_14 rfl

set_option maxHeartbeats 4000000 in
theorem c_CP_takeSizes_Piece_l68 {Po : mP} {a0_ : Nat} {t1 : Int32} {t2 : Int32} (ha0 : rl a0_ = 3) : ∀ (n : Nat) (v3 : Int32) (v4 : Int32), ∀ (P : mP), Typ P → KW [192, 193, 194, 256] Po P → (v4.toInt + 1).toNat = n → MEvP 2 none q_21 68 [(0, .ref a0_), (1, .int t1), (2, .int t2), (3, .int v3), (4, .int v4)] [] P 0 0 (fun r P' => (∃ x : Int32, r = some (.int x) ∧ (0 ≤ x.toInt ∧ x.toInt ≤ 1)) ∧ Typ P' ∧ KW [192, 193, 194, 256] Po P' ∧ True) := by
  intro n
  induction n using Nat.strongRecOn with | _ n ih => ?_
  intro v3 v4 P hT hK  hm
  have w_t1 := ti_full t1
  have w_t2 := ti_full t2
  have w_v3 := ti_full v3
  have w_v4 := ti_full v4
  refine mp_a (a_iload dX2_takeSizes_68 rfl) (mpp 70 rfl ?_)
  refine mp_Tb (t := 106) (j_if_lt dX2_takeSizes_70) (by decide) (fun c1 => ?_) (fun c1 => mpp 73 rfl ?_)
  · have c1 : v4.toInt < 0 := ti_lt c1
    refine mp_a (a_aload_n dX2_takeSizes_106 rfl) (mpp 107 rfl ?_)
    have g2 := ti_full (fv P a0_ 0)
    refine mt_getI (i := 18) (k := 0) hT dX2_takeSizes_107 rfl ha0 (by decide) rfl (by decide) rfl (fun g3 g4 => mpp 110 rfl ?_)
    refine mp_Tb (t := 136) (j_if_ne dX2_takeSizes_110) (by decide) (fun c5 => ?_) (fun c5 => mpp 113 rfl ?_)
    · have c5 : (fv P a0_ 0).toInt ≠ 0 := ti_ne c5
      refine mp_a (a_aload_n dX2_takeSizes_136 rfl) (mpp 137 rfl ?_)
      have g6 : (0 : Int) ≤ (fv P a0_ 1).toInt ∧ (fv P a0_ 1).toInt ≤ 8 := Typ.rng hT ha0 (by decide) (by decide) rfl
      refine mt_getI (i := 26) (k := 1) hT dX2_takeSizes_137 rfl ha0 (by decide) rfl (by decide) rfl (fun g7 g8 => mpp 140 rfl ?_)
      refine mp_a (a_iconst (v := 4) dX2_takeSizes_140 rfl) (mpp 141 rfl ?_)
      refine mp_Tb (t := 162) (j_icmp_eq dX2_takeSizes_141) (by decide) (fun c9 => ?_) (fun c9 => mpp 144 rfl ?_)
      · have c9 : (fv P a0_ 1).toInt = 4 := ti_eq c9
        refine mp_a (a_aload_n dX2_takeSizes_162 rfl) (mpp 163 rfl ?_)
        refine mt_callv (i := 33) (q' := q_23) (As := []) (rest := []) hT dX2_takeSizes_163 rfl qm_23 (by decide) rfl ha0 (by decide) rfl (Nat.le_of_ble_eq_true rfl) rfl ⟨rfl, rfl⟩ ⟨Nat.le_of_ble_eq_true rfl, Nat.le_of_ble_eq_true rfl⟩ (EvP.mono (by decide) (c_CP_sum_Piece hT ha0)) (fun r10 P11 g12 => mpp 166 rfl ?_)
        obtain ⟨⟨x13, rfl, g14⟩, e15⟩ := g12
        have e15 := e15.symm
        subst e15
        have wx13 := ti_full x13
        show MEvP _ none q_21 166 [(0, .ref a0_), (1, .int t1), (2, .int t2), (3, .int v3), (4, .int v4)] [.int x13] _ _ _ _
        refine mp_a (a_bipush (v := 24) dX2_takeSizes_166 rfl) (mpp 168 rfl ?_)
        refine mp_Tb (t := 175) (j_icmp_ne dX2_takeSizes_168) (by decide) (fun c16 => ?_) (fun c16 => mpp 171 rfl ?_)
        · have c16 : x13.toInt ≠ 24 := ti_ne c16
          refine mp_a (a_iconst (v := 0) dX2_takeSizes_175 rfl) (mpp 176 rfl ?_)
          have u17 : 0 ≤ (0 : Int) ∧ (0 : Int) ≤ 1 := by omega
          exact mp_iret ⟨⟨_, rfl, u17⟩, hT, hK, trivial⟩ dX2_takeSizes_176 (Or.inr ⟨rfl, by decide⟩)
        · have c16 : x13.toInt = 24 := ti_ne_n c16
          refine mp_a (a_iconst (v := 1) dX2_takeSizes_171 rfl) (mpp 172 rfl ?_)
          refine mp_a (a_goto (t := 176) dX2_takeSizes_172 (by decide)) ?_
          have u18 : 0 ≤ (1 : Int) ∧ (1 : Int) ≤ 1 := by omega
          exact mp_iret ⟨⟨_, rfl, u18⟩, hT, hK, trivial⟩ dX2_takeSizes_176 (Or.inr ⟨rfl, by decide⟩)
      · have c9 : (fv P a0_ 1).toInt ≠ 4 := ti_eq_n c9
        refine mp_a (a_aload_n dX2_takeSizes_144 rfl) (mpp 145 rfl ?_)
        refine mt_getI (i := 26) (k := 1) hT dX2_takeSizes_145 rfl ha0 (by decide) rfl (by decide) rfl (fun g19 g20 => mpp 148 rfl ?_)
        refine mp_a (a_bipush (v := 6) dX2_takeSizes_148 rfl) (mpp 150 rfl ?_)
        refine mp_Tb (t := 162) (j_icmp_eq dX2_takeSizes_150) (by decide) (fun c21 => ?_) (fun c21 => mpp 153 rfl ?_)
        · have c21 : (fv P a0_ 1).toInt = 6 := ti_eq c21
          refine mp_a (a_aload_n dX2_takeSizes_162 rfl) (mpp 163 rfl ?_)
          refine mt_callv (i := 33) (q' := q_23) (As := []) (rest := []) hT dX2_takeSizes_163 rfl qm_23 (by decide) rfl ha0 (by decide) rfl (Nat.le_of_ble_eq_true rfl) rfl ⟨rfl, rfl⟩ ⟨Nat.le_of_ble_eq_true rfl, Nat.le_of_ble_eq_true rfl⟩ (EvP.mono (by decide) (c_CP_sum_Piece hT ha0)) (fun r22 P23 g24 => mpp 166 rfl ?_)
          obtain ⟨⟨x25, rfl, g26⟩, e27⟩ := g24
          have e27 := e27.symm
          subst e27
          have wx25 := ti_full x25
          show MEvP _ none q_21 166 [(0, .ref a0_), (1, .int t1), (2, .int t2), (3, .int v3), (4, .int v4)] [.int x25] _ _ _ _
          refine mp_a (a_bipush (v := 24) dX2_takeSizes_166 rfl) (mpp 168 rfl ?_)
          refine mp_Tb (t := 175) (j_icmp_ne dX2_takeSizes_168) (by decide) (fun c28 => ?_) (fun c28 => mpp 171 rfl ?_)
          · have c28 : x25.toInt ≠ 24 := ti_ne c28
            refine mp_a (a_iconst (v := 0) dX2_takeSizes_175 rfl) (mpp 176 rfl ?_)
            have u29 : 0 ≤ (0 : Int) ∧ (0 : Int) ≤ 1 := by omega
            exact mp_iret ⟨⟨_, rfl, u29⟩, hT, hK, trivial⟩ dX2_takeSizes_176 (Or.inr ⟨rfl, by decide⟩)
          · have c28 : x25.toInt = 24 := ti_ne_n c28
            refine mp_a (a_iconst (v := 1) dX2_takeSizes_171 rfl) (mpp 172 rfl ?_)
            refine mp_a (a_goto (t := 176) dX2_takeSizes_172 (by decide)) ?_
            have u30 : 0 ≤ (1 : Int) ∧ (1 : Int) ≤ 1 := by omega
            exact mp_iret ⟨⟨_, rfl, u30⟩, hT, hK, trivial⟩ dX2_takeSizes_176 (Or.inr ⟨rfl, by decide⟩)
        · have c21 : (fv P a0_ 1).toInt ≠ 6 := ti_eq_n c21
          refine mp_a (a_aload_n dX2_takeSizes_153 rfl) (mpp 154 rfl ?_)
          refine mt_getI (i := 26) (k := 1) hT dX2_takeSizes_154 rfl ha0 (by decide) rfl (by decide) rfl (fun g31 g32 => mpp 157 rfl ?_)
          refine mp_a (a_bipush (v := 8) dX2_takeSizes_157 rfl) (mpp 159 rfl ?_)
          refine mp_Tb (t := 175) (j_icmp_ne dX2_takeSizes_159) (by decide) (fun c33 => ?_) (fun c33 => mpp 162 rfl ?_)
          · have c33 : (fv P a0_ 1).toInt ≠ 8 := ti_ne c33
            refine mp_a (a_iconst (v := 0) dX2_takeSizes_175 rfl) (mpp 176 rfl ?_)
            have u34 : 0 ≤ (0 : Int) ∧ (0 : Int) ≤ 1 := by omega
            exact mp_iret ⟨⟨_, rfl, u34⟩, hT, hK, trivial⟩ dX2_takeSizes_176 (Or.inr ⟨rfl, by decide⟩)
          · have c33 : (fv P a0_ 1).toInt = 8 := ti_ne_n c33
            refine mp_a (a_aload_n dX2_takeSizes_162 rfl) (mpp 163 rfl ?_)
            refine mt_callv (i := 33) (q' := q_23) (As := []) (rest := []) hT dX2_takeSizes_163 rfl qm_23 (by decide) rfl ha0 (by decide) rfl (Nat.le_of_ble_eq_true rfl) rfl ⟨rfl, rfl⟩ ⟨Nat.le_of_ble_eq_true rfl, Nat.le_of_ble_eq_true rfl⟩ (EvP.mono (by decide) (c_CP_sum_Piece hT ha0)) (fun r35 P36 g37 => mpp 166 rfl ?_)
            obtain ⟨⟨x38, rfl, g39⟩, e40⟩ := g37
            have e40 := e40.symm
            subst e40
            have wx38 := ti_full x38
            show MEvP _ none q_21 166 [(0, .ref a0_), (1, .int t1), (2, .int t2), (3, .int v3), (4, .int v4)] [.int x38] _ _ _ _
            refine mp_a (a_bipush (v := 24) dX2_takeSizes_166 rfl) (mpp 168 rfl ?_)
            refine mp_Tb (t := 175) (j_icmp_ne dX2_takeSizes_168) (by decide) (fun c41 => ?_) (fun c41 => mpp 171 rfl ?_)
            · have c41 : x38.toInt ≠ 24 := ti_ne c41
              refine mp_a (a_iconst (v := 0) dX2_takeSizes_175 rfl) (mpp 176 rfl ?_)
              have u42 : 0 ≤ (0 : Int) ∧ (0 : Int) ≤ 1 := by omega
              exact mp_iret ⟨⟨_, rfl, u42⟩, hT, hK, trivial⟩ dX2_takeSizes_176 (Or.inr ⟨rfl, by decide⟩)
            · have c41 : x38.toInt = 24 := ti_ne_n c41
              refine mp_a (a_iconst (v := 1) dX2_takeSizes_171 rfl) (mpp 172 rfl ?_)
              refine mp_a (a_goto (t := 176) dX2_takeSizes_172 (by decide)) ?_
              have u43 : 0 ≤ (1 : Int) ∧ (1 : Int) ≤ 1 := by omega
              exact mp_iret ⟨⟨_, rfl, u43⟩, hT, hK, trivial⟩ dX2_takeSizes_176 (Or.inr ⟨rfl, by decide⟩)
    · have c5 : (fv P a0_ 0).toInt = 0 := ti_ne_n c5
      refine mp_a (a_aload_n dX2_takeSizes_113 rfl) (mpp 114 rfl ?_)
      have g44 : (0 : Int) ≤ (fv P a0_ 1).toInt ∧ (fv P a0_ 1).toInt ≤ 8 := Typ.rng hT ha0 (by decide) (by decide) rfl
      refine mt_getI (i := 26) (k := 1) hT dX2_takeSizes_114 rfl ha0 (by decide) rfl (by decide) rfl (fun g45 g46 => mpp 117 rfl ?_)
      refine mp_a (a_iconst (v := 2) dX2_takeSizes_117 rfl) (mpp 118 rfl ?_)
      refine mp_Tb (t := 134) (j_icmp_lt dX2_takeSizes_118) (by decide) (fun c47 => ?_) (fun c47 => mpp 121 rfl ?_)
      · have c47 : (fv P a0_ 1).toInt < 2 := ti_lt c47
        refine mp_a (a_iconst (v := 0) dX2_takeSizes_134 rfl) (mpp 135 rfl ?_)
        have u48 : 0 ≤ (0 : Int) ∧ (0 : Int) ≤ 1 := by omega
        exact mp_iret ⟨⟨_, rfl, u48⟩, hT, hK, trivial⟩ dX2_takeSizes_135 (Or.inr ⟨rfl, by decide⟩)
      · have c47 : (fv P a0_ 1).toInt ≥ 2 := ti_lt_n c47
        refine mp_a (a_aload_n dX2_takeSizes_121 rfl) (mpp 122 rfl ?_)
        refine mt_getI (i := 26) (k := 1) hT dX2_takeSizes_122 rfl ha0 (by decide) rfl (by decide) rfl (fun g49 g50 => mpp 125 rfl ?_)
        refine mp_a (a_bipush (v := 7) dX2_takeSizes_125 rfl) (mpp 127 rfl ?_)
        refine mp_Tb (t := 134) (j_icmp_gt dX2_takeSizes_127) (by decide) (fun c51 => ?_) (fun c51 => mpp 130 rfl ?_)
        · have c51 : (fv P a0_ 1).toInt > 7 := ti_gt c51
          refine mp_a (a_iconst (v := 0) dX2_takeSizes_134 rfl) (mpp 135 rfl ?_)
          have u52 : 0 ≤ (0 : Int) ∧ (0 : Int) ≤ 1 := by omega
          exact mp_iret ⟨⟨_, rfl, u52⟩, hT, hK, trivial⟩ dX2_takeSizes_135 (Or.inr ⟨rfl, by decide⟩)
        · have c51 : (fv P a0_ 1).toInt ≤ 7 := ti_gt_n c51
          refine mp_a (a_iconst (v := 1) dX2_takeSizes_130 rfl) (mpp 131 rfl ?_)
          refine mp_a (a_goto (t := 135) dX2_takeSizes_131 (by decide)) ?_
          have u53 : 0 ≤ (1 : Int) ∧ (1 : Int) ≤ 1 := by omega
          exact mp_iret ⟨⟨_, rfl, u53⟩, hT, hK, trivial⟩ dX2_takeSizes_135 (Or.inr ⟨rfl, by decide⟩)
  · have c1 : v4.toInt ≥ 0 := ti_lt_n c1
    refine mp_a (a_iload_n dX2_takeSizes_73 rfl) (mpp 74 rfl ?_)
    refine mp_a (a_bipush (v := 10) dX2_takeSizes_74 rfl) (mpp 76 rfl ?_)
    obtain ⟨z54, h55⟩ := ti_ex (v3 - v3 / 10 * 10 : Int32)
    have wz54 := ti_full z54
    try have e56 : 0 ≤ z54.toInt ∧ z54.toInt < 10 := ti_rem h55 (show (0 : Int) ≤ v3.toInt by omega) (show (0 : Int) < 10 by omega)
    refine mp_t (s_irem (v := z54) dX2_takeSizes_76 (by decide) h55) (mpp 77 rfl ?_)
    refine mp_Tb (t := 82) (j_if_ne dX2_takeSizes_77) (by decide) (fun c57 => ?_) (fun c57 => mpp 80 rfl ?_)
    · have c57 : z54.toInt ≠ 0 := ti_ne c57
      refine mp_a (a_aload_n dX2_takeSizes_82 rfl) (mpp 83 rfl ?_)
      refine mt_getR (i := 9) (k := 3) hT dX2_takeSizes_83 rfl ha0 (by decide) rfl (by decide) rfl (fun q58 => mpp 86 rfl ?_)
      generalize rv P a0_ 3 = b59 at q58 ⊢
      refine mp_a (a_iload dX2_takeSizes_86 rfl) (mpp 88 rfl ?_)
      refine mp_a (a_iload_n dX2_takeSizes_88 rfl) (mpp 89 rfl ?_)
      refine mp_a (a_bipush (v := 10) dX2_takeSizes_89 rfl) (mpp 91 rfl ?_)
      obtain ⟨z60, h61⟩ := ti_ex (v3 - v3 / 10 * 10 : Int32)
      have wz60 := ti_full z60
      try have e62 : 0 ≤ z60.toInt ∧ z60.toInt < 10 := ti_rem h61 (show (0 : Int) ≤ v3.toInt by omega) (show (0 : Int) < 10 by omega)
      refine mp_t (s_irem (v := z60) dX2_takeSizes_91 (by decide) h61) (mpp 92 rfl ?_)
      refine mp_calls (i := 29) (q' := q_22) (As := [.ref b59, .int v4, .int z60]) (rest := []) dX2_takeSizes_92 rfl qm_22 (by decide) rfl (Nat.le_of_ble_eq_true rfl) rfl ⟨rfl, rfl⟩ ⟨Nat.le_of_ble_eq_true rfl, Nat.le_of_ble_eq_true rfl⟩ (EvP.mono (by decide) (c_F_put_sizes hT q58)) (fun r63 P64 g65 => mpp 95 rfl ?_)
      obtain ⟨⟨rfl, g67⟩, hT68, k69, R70⟩ := g65
      have k71 : KW [192, 193, 194, 256] Po P64 := KW.trans hK k69 rfl
      show MEvP _ none q_21 95 [(0, .ref a0_), (1, .int t1), (2, .int t2), (3, .int v3), (4, .int v4)] [] _ _ _ _
      refine mp_a (a_iload_n dX2_takeSizes_95 rfl) (mpp 96 rfl ?_)
      refine mp_a (a_bipush (v := 10) dX2_takeSizes_96 rfl) (mpp 98 rfl ?_)
      obtain ⟨z72, h73⟩ := ti_ex (v3 / 10 : Int32)
      have wz72 := ti_full z72
      try have e74 : z72.toInt = v3.toInt / 10 := ti_div h73 (show (0 : Int) ≤ v3.toInt by omega) (show (0 : Int) < 10 by omega)
      refine mp_t (s_idiv (v := z72) dX2_takeSizes_98 (by decide) h73) (mpp 99 rfl ?_)
      refine mp_a (a_istore_n (L' := [(3, .int z72), (0, .ref a0_), (1, .int t1), (2, .int t2), (4, .int v4)]) dX2_takeSizes_99 (by decide) rfl) (mpp 100 rfl ?_)
      obtain ⟨z75, h76⟩ := ti_ex (v4 + (-1) : Int32)
      have wz75 := ti_full z75
      refine mp_a (a_iinc (v := z75) (L' := [(4, .int z75), (3, .int z72), (0, .ref a0_), (1, .int t1), (2, .int t2)]) dX2_takeSizes_100 (by decide) rfl h76 rfl) (mpp 103 rfl ?_)
      try have e77 : z75.toInt = v4.toInt + (-1) := ti_addz h76 rfl rfl (by omega) (by omega)
      refine mp_a (a_goto (t := 68) dX2_takeSizes_103 (by decide)) ?_
      refine MEvP.less (L := [(0, .ref a0_), (1, .int t1), (2, .int t2), (3, .int z72), (4, .int z75)]) rfl rfl ⟨rfl, rfl, rfl, rfl, rfl, trivial⟩ ?_
      exact ih _ (by omega) _ _ P64 hT68 k71 rfl
    · have c57 : z54.toInt = 0 := ti_ne_n c57
      refine mp_a (a_iconst (v := 0) dX2_takeSizes_80 rfl) (mpp 81 rfl ?_)
      have u78 : 0 ≤ (0 : Int) ∧ (0 : Int) ≤ 1 := by omega
      exact mp_iret ⟨⟨_, rfl, u78⟩, hT, hK, trivial⟩ dX2_takeSizes_81 (Or.inr ⟨rfl, by decide⟩)

set_option maxHeartbeats 4000000 in
theorem c_CP_takeSizes_Piece_l20 {Po : mP} {a0_ : Nat} {t1 : Int32} {t2 : Int32} (ha0 : rl a0_ = 3) : ∀ (n : Nat) (v3 : Int32) (v4 : Int32), ∀ (P : mP), Typ P → KW [192, 193, 194, 256] Po P → ((fv P a0_ 1).toInt = v4.toInt) → (v4.toInt ≤ 8) → (0 ≤ v4.toInt) → (2147483647 - v4.toInt).toNat = n → MEvP 2 none q_21 20 [(0, .ref a0_), (1, .int t1), (2, .int t2), (3, .int v3), (4, .int v4)] [] P 0 0 (fun r P' => (∃ x : Int32, r = some (.int x) ∧ (0 ≤ x.toInt ∧ x.toInt ≤ 1)) ∧ Typ P' ∧ KW [192, 193, 194, 256] Po P' ∧ True) := by
  intro n
  induction n using Nat.strongRecOn with | _ n ih => ?_
  intro v3 v4 P hT hK i_0 i_1 i_2 hm
  have w_t1 := ti_full t1
  have w_t2 := ti_full t2
  have w_v3 := ti_full v3
  have w_v4 := ti_full v4
  have g1 : (0 : Int) ≤ (fv P a0_ 1).toInt ∧ (fv P a0_ 1).toInt ≤ 8 := Typ.rng hT ha0 (by decide) (by decide) rfl
  have g2 : (0 : Int) ≤ (fv P a0_ 1).toInt ∧ (fv P a0_ 1).toInt ≤ 8 := Typ.rng hT ha0 (by decide) (by decide) rfl
  refine mp_a (a_iload dX2_takeSizes_20 rfl) (mpp 22 rfl ?_)
  refine mp_a (a_bipush (v := 8) dX2_takeSizes_22 rfl) (mpp 24 rfl ?_)
  refine mp_Tb (t := 52) (j_icmp_ge dX2_takeSizes_24) (by decide) (fun c3 => ?_) (fun c3 => mpp 27 rfl ?_)
  · have c3 : v4.toInt ≥ 8 := ti_ge c3
    refine mp_a (a_iload_n dX2_takeSizes_52 rfl) (mpp 53 rfl ?_)
    refine mp_Tb (t := 58) (j_if_eq dX2_takeSizes_53) (by decide) (fun c4 => ?_) (fun c4 => mpp 56 rfl ?_)
    · have c4 : v3.toInt = 0 := ti_eq c4
      refine mp_a (a_iload_n dX2_takeSizes_58 rfl) (mpp 59 rfl ?_)
      refine mp_a (a_istore_n (L' := [(3, .int t2), (0, .ref a0_), (1, .int t1), (2, .int t2), (4, .int v4)]) dX2_takeSizes_59 (by decide) rfl) (mpp 60 rfl ?_)
      refine mp_a (a_aload_n dX2_takeSizes_60 rfl) (mpp 61 rfl ?_)
      refine mt_getI (i := 26) (k := 1) hT dX2_takeSizes_61 rfl ha0 (by decide) rfl (by decide) rfl (fun g5 g6 => mpp 64 rfl ?_)
      refine mp_a (a_iconst (v := 1) dX2_takeSizes_64 rfl) (mpp 65 rfl ?_)
      obtain ⟨z7, h8⟩ := ti_ex ((fv P a0_ 1) - 1 : Int32)
      have wz7 := ti_full z7
      refine mp_t (s_isub (v := z7) dX2_takeSizes_65 h8) (mpp 66 rfl ?_)
      try have e9 : z7.toInt = (fv P a0_ 1).toInt - 1 := ti_subz h8 rfl rfl (by omega) (by omega)
      refine mp_a (a_istore (L' := [(4, .int z7), (3, .int t2), (0, .ref a0_), (1, .int t1), (2, .int t2)]) dX2_takeSizes_66 (by decide) rfl) (mpp 68 rfl ?_)
      refine MEvP.less (L := [(0, .ref a0_), (1, .int t1), (2, .int t2), (3, .int t2), (4, .int z7)]) rfl rfl ⟨rfl, rfl, rfl, rfl, rfl, trivial⟩ ?_
      exact c_CP_takeSizes_Piece_l68  ha0 _ _ _ P hT hK rfl
    · have c4 : v3.toInt ≠ 0 := ti_eq_n c4
      refine mp_a (a_iconst (v := 0) dX2_takeSizes_56 rfl) (mpp 57 rfl ?_)
      have u10 : 0 ≤ (0 : Int) ∧ (0 : Int) ≤ 1 := by omega
      exact mp_iret ⟨⟨_, rfl, u10⟩, hT, hK, trivial⟩ dX2_takeSizes_57 (Or.inr ⟨rfl, by decide⟩)
  · have c3 : v4.toInt < 8 := ti_ge_n c3
    refine mp_a (a_iload_n dX2_takeSizes_27 rfl) (mpp 28 rfl ?_)
    refine mp_Tb (t := 52) (j_if_le dX2_takeSizes_28) (by decide) (fun c11 => ?_) (fun c11 => mpp 31 rfl ?_)
    · have c11 : v3.toInt ≤ 0 := ti_le c11
      refine mp_a (a_iload_n dX2_takeSizes_52 rfl) (mpp 53 rfl ?_)
      refine mp_Tb (t := 58) (j_if_eq dX2_takeSizes_53) (by decide) (fun c12 => ?_) (fun c12 => mpp 56 rfl ?_)
      · have c12 : v3.toInt = 0 := ti_eq c12
        refine mp_a (a_iload_n dX2_takeSizes_58 rfl) (mpp 59 rfl ?_)
        refine mp_a (a_istore_n (L' := [(3, .int t2), (0, .ref a0_), (1, .int t1), (2, .int t2), (4, .int v4)]) dX2_takeSizes_59 (by decide) rfl) (mpp 60 rfl ?_)
        refine mp_a (a_aload_n dX2_takeSizes_60 rfl) (mpp 61 rfl ?_)
        refine mt_getI (i := 26) (k := 1) hT dX2_takeSizes_61 rfl ha0 (by decide) rfl (by decide) rfl (fun g13 g14 => mpp 64 rfl ?_)
        refine mp_a (a_iconst (v := 1) dX2_takeSizes_64 rfl) (mpp 65 rfl ?_)
        obtain ⟨z15, h16⟩ := ti_ex ((fv P a0_ 1) - 1 : Int32)
        have wz15 := ti_full z15
        refine mp_t (s_isub (v := z15) dX2_takeSizes_65 h16) (mpp 66 rfl ?_)
        try have e17 : z15.toInt = (fv P a0_ 1).toInt - 1 := ti_subz h16 rfl rfl (by omega) (by omega)
        refine mp_a (a_istore (L' := [(4, .int z15), (3, .int t2), (0, .ref a0_), (1, .int t1), (2, .int t2)]) dX2_takeSizes_66 (by decide) rfl) (mpp 68 rfl ?_)
        refine MEvP.less (L := [(0, .ref a0_), (1, .int t1), (2, .int t2), (3, .int t2), (4, .int z15)]) rfl rfl ⟨rfl, rfl, rfl, rfl, rfl, trivial⟩ ?_
        exact c_CP_takeSizes_Piece_l68  ha0 _ _ _ P hT hK rfl
      · have c12 : v3.toInt ≠ 0 := ti_eq_n c12
        refine mp_a (a_iconst (v := 0) dX2_takeSizes_56 rfl) (mpp 57 rfl ?_)
        have u18 : 0 ≤ (0 : Int) ∧ (0 : Int) ≤ 1 := by omega
        exact mp_iret ⟨⟨_, rfl, u18⟩, hT, hK, trivial⟩ dX2_takeSizes_57 (Or.inr ⟨rfl, by decide⟩)
    · have c11 : v3.toInt > 0 := ti_le_n c11
      refine mp_a (a_iload_n dX2_takeSizes_31 rfl) (mpp 32 rfl ?_)
      refine mp_a (a_bipush (v := 10) dX2_takeSizes_32 rfl) (mpp 34 rfl ?_)
      obtain ⟨z19, h20⟩ := ti_ex (v3 / 10 : Int32)
      have wz19 := ti_full z19
      try have e21 : z19.toInt = v3.toInt / 10 := ti_div h20 (show (0 : Int) ≤ v3.toInt by omega) (show (0 : Int) < 10 by omega)
      refine mp_t (s_idiv (v := z19) dX2_takeSizes_34 (by decide) h20) (mpp 35 rfl ?_)
      refine mp_a (a_istore_n (L' := [(3, .int z19), (0, .ref a0_), (1, .int t1), (2, .int t2), (4, .int v4)]) dX2_takeSizes_35 (by decide) rfl) (mpp 36 rfl ?_)
      refine mp_a (a_aload_n dX2_takeSizes_36 rfl) (mpp 37 rfl ?_)
      refine mp_t (s_dup dX2_takeSizes_37 rfl) (mpp 38 rfl ?_)
      refine mt_getI (i := 26) (k := 1) hT dX2_takeSizes_38 rfl ha0 (by decide) rfl (by decide) rfl (fun g22 g23 => mpp 41 rfl ?_)
      refine mp_a (a_iconst (v := 1) dX2_takeSizes_41 rfl) (mpp 42 rfl ?_)
      obtain ⟨z24, h25⟩ := ti_ex ((fv P a0_ 1) + 1 : Int32)
      have wz24 := ti_full z24
      refine mp_t (s_iadd (v := z24) dX2_takeSizes_42 h25) (mpp 43 rfl ?_)
      try have e26 : z24.toInt = (fv P a0_ 1).toInt + 1 := ti_addz h25 rfl rfl (by omega) (by omega)
      refine mt_putI (i := 26) (k := 1) (x := z24) hT dX2_takeSizes_43 rfl ha0 (by decide) rfl (by decide) rfl ⟨by omega, by omega⟩ rfl rfl (fun P27 hT28 f29 f30 => mpp 46 rfl ?_)
      have k31 : KW [192, 193, 194, 256] Po P27 := KW.step hK ha0 rfl f30
      have e32 : (fv P27 a0_ 1).toInt = z24.toInt := congrArg Int32.toInt f29
      obtain ⟨z33, h34⟩ := ti_ex (v4 + 1 : Int32)
      have wz33 := ti_full z33
      refine mp_a (a_iinc (v := z33) (L' := [(4, .int z33), (3, .int z19), (0, .ref a0_), (1, .int t1), (2, .int t2)]) dX2_takeSizes_46 (by decide) rfl h34 rfl) (mpp 49 rfl ?_)
      try have e35 : z33.toInt = v4.toInt + 1 := ti_addz h34 rfl rfl (by omega) (by omega)
      refine mp_a (a_goto (t := 20) dX2_takeSizes_49 (by decide)) ?_
      refine MEvP.less (L := [(0, .ref a0_), (1, .int t1), (2, .int t2), (3, .int z19), (4, .int z33)]) rfl rfl ⟨rfl, rfl, rfl, rfl, rfl, trivial⟩ ?_
      have i36 : (fv P27 a0_ 1).toInt = z33.toInt := by omega
      have i37 : z33.toInt ≤ 8 := by omega
      have i38 : 0 ≤ z33.toInt := by omega
      exact ih _ (by omega) _ _ P27 hT28 k31 i36 i37 i38 rfl

set_option maxHeartbeats 4000000 in
theorem c_CP_takeSizes_Piece {Po : mP} {a0_ : Nat} {t1 : Int32} {t2 : Int32} (hT : Typ Po)  (ha0 : rl a0_ = 3) : EvP 3 21 [.ref a0_, .int t1, .int t2] Po (fun r P' => (∃ x : Int32, r = some (.int x) ∧ (0 ≤ x.toInt ∧ x.toInt ≤ 1)) ∧ Typ P' ∧ KW [192, 193, 194, 256] Po P' ∧ True) := by
  refine EvP.of qm_21 (Nat.le_of_ble_eq_true rfl) rfl ?_
  show MEvP _ none q_21 0 [(0, .ref a0_), (1, .int t1), (2, .int t2)] [] _ 0 0 _
  refine mp_a (a_aload_n dX2_takeSizes_0 rfl) (mpp 1 rfl ?_)
  refine mp_a (a_iload_n dX2_takeSizes_1 rfl) (mpp 2 rfl ?_)
  refine mt_putI (i := 18) (k := 0) (x := t1) hT dX2_takeSizes_2 rfl ha0 (by decide) rfl (by decide) rfl (ti_full t1) rfl rfl (fun P1 hT2 f3 f4 => mpp 5 rfl ?_)
  have k5 : KW [192, 193, 194, 256] Po P1 := KW.step KW.refl ha0 rfl f4
  have e6 : (fv P1 a0_ 0).toInt = t1.toInt := congrArg Int32.toInt f3
  refine mp_a (a_aload_n dX2_takeSizes_5 rfl) (mpp 6 rfl ?_)
  refine mp_a (a_iconst (v := 0) dX2_takeSizes_6 rfl) (mpp 7 rfl ?_)
  refine mt_putI (i := 22) (k := 2) (x := 0) hT2 dX2_takeSizes_7 rfl ha0 (by decide) rfl (by decide) rfl (by decide) rfl rfl (fun P7 hT8 f9 f10 => mpp 10 rfl ?_)
  have k11 : KW [192, 193, 194, 256] Po P7 := KW.step k5 ha0 rfl f10
  have e12 : (fv P7 a0_ 2).toInt = 0 := congrArg Int32.toInt f9
  refine mp_a (a_aload_n dX2_takeSizes_10 rfl) (mpp 11 rfl ?_)
  refine mp_a (a_iconst (v := 0) dX2_takeSizes_11 rfl) (mpp 12 rfl ?_)
  refine mt_putI (i := 26) (k := 1) (x := 0) hT8 dX2_takeSizes_12 rfl ha0 (by decide) rfl (by decide) rfl (by decide) rfl rfl (fun P13 hT14 f15 f16 => mpp 15 rfl ?_)
  have k17 : KW [192, 193, 194, 256] Po P13 := KW.step k11 ha0 rfl f16
  have e18 : (fv P13 a0_ 1).toInt = 0 := congrArg Int32.toInt f15
  refine mp_a (a_iload_n dX2_takeSizes_15 rfl) (mpp 16 rfl ?_)
  refine mp_a (a_istore_n (L' := [(3, .int t2), (0, .ref a0_), (1, .int t1), (2, .int t2)]) dX2_takeSizes_16 (by decide) rfl) (mpp 17 rfl ?_)
  refine mp_a (a_iconst (v := 0) dX2_takeSizes_17 rfl) (mpp 18 rfl ?_)
  refine mp_a (a_istore (L' := [(4, .int 0), (3, .int t2), (0, .ref a0_), (1, .int t1), (2, .int t2)]) dX2_takeSizes_18 (by decide) rfl) (mpp 20 rfl ?_)
  refine MEvP.less (L := [(0, .ref a0_), (1, .int t1), (2, .int t2), (3, .int t2), (4, .int 0)]) rfl rfl ⟨rfl, rfl, rfl, rfl, rfl, trivial⟩ ?_
  have i19 : (fv P13 a0_ 1).toInt = (0 : Int) := by omega
  have i20 : (0 : Int) ≤ 8 := by omega
  have i21 : 0 ≤ (0 : Int) := by omega
  exact c_CP_takeSizes_Piece_l20  ha0 _ _ _ P13 hT14 k17 i19 i20 i21 rfl

set_option maxHeartbeats 4000000 in
theorem c_CP_creaseCount_Piece {Po : mP} {a0_ : Nat} (hT : Typ Po)  (ha0 : rl a0_ = 3) : EvP 1 25 [.ref a0_] Po (fun r P' => (∃ x : Int32, r = some (.int x) ∧ (-1 ≤ x.toInt ∧ x.toInt ≤ (fv Po a0_ 1).toInt)) ∧ P' = Po) := by
  refine EvP.of qm_25 (Nat.le_of_ble_eq_true rfl) rfl ?_
  show MEvP _ none q_25 0 [(0, .ref a0_)] [] _ 0 0 _
  have g1 : (0 : Int) ≤ (fv Po a0_ 1).toInt ∧ (fv Po a0_ 1).toInt ≤ 8 := Typ.rng hT ha0 (by decide) (by decide) rfl
  refine mp_a (a_aload_n dX2_creaseCount_0 rfl) (mpp 1 rfl ?_)
  have g2 := ti_full (fv Po a0_ 0)
  refine mt_getI (i := 18) (k := 0) hT dX2_creaseCount_1 rfl ha0 (by decide) rfl (by decide) rfl (fun g3 g4 => mpp 4 rfl ?_)
  refine mp_Tb (t := 16) (j_if_ne dX2_creaseCount_4) (by decide) (fun c5 => ?_) (fun c5 => mpp 7 rfl ?_)
  · have c5 : (fv Po a0_ 0).toInt ≠ 0 := ti_ne c5
    refine mp_a (a_aload_n dX2_creaseCount_16 rfl) (mpp 17 rfl ?_)
    refine mt_getI (i := 26) (k := 1) hT dX2_creaseCount_17 rfl ha0 (by decide) rfl (by decide) rfl (fun g6 g7 => mpp 20 rfl ?_)
    have u8 : -1 ≤ (fv Po a0_ 1).toInt ∧ (fv Po a0_ 1).toInt ≤ (fv Po a0_ 1).toInt := by omega
    exact mp_iret ⟨⟨_, rfl, u8⟩, rfl⟩ dX2_creaseCount_20 (Or.inl rfl)
  · have c5 : (fv Po a0_ 0).toInt = 0 := ti_ne_n c5
    refine mp_a (a_aload_n dX2_creaseCount_7 rfl) (mpp 8 rfl ?_)
    refine mt_getI (i := 26) (k := 1) hT dX2_creaseCount_8 rfl ha0 (by decide) rfl (by decide) rfl (fun g9 g10 => mpp 11 rfl ?_)
    refine mp_a (a_iconst (v := 1) dX2_creaseCount_11 rfl) (mpp 12 rfl ?_)
    obtain ⟨z11, h12⟩ := ti_ex ((fv Po a0_ 1) - 1 : Int32)
    have wz11 := ti_full z11
    refine mp_t (s_isub (v := z11) dX2_creaseCount_12 h12) (mpp 13 rfl ?_)
    try have e13 : z11.toInt = (fv Po a0_ 1).toInt - 1 := ti_subz h12 rfl rfl (by omega) (by omega)
    refine mp_a (a_goto (t := 20) dX2_creaseCount_13 (by decide)) ?_
    have u14 : -1 ≤ z11.toInt ∧ z11.toInt ≤ (fv Po a0_ 1).toInt := by omega
    exact mp_iret ⟨⟨_, rfl, u14⟩, rfl⟩ dX2_creaseCount_20 (Or.inl rfl)

set_option maxHeartbeats 4000000 in
theorem c_F_put_creases {Po : mP} {a0_ : Nat} {t1 : Int32} {t2 : Int32} (hT : Typ Po)  (ha0 : rl a0_ = 5) : EvP 1 22 [.ref a0_, .int t1, .int t2] Po (fun r P' => (r = none ∧ (True)) ∧ Typ P' ∧ KW [320] Po P' ∧ True) := by
  refine EvP.of qm_22 (Nat.le_of_ble_eq_true rfl) rfl ?_
  show MEvP _ none q_22 0 [(0, .ref a0_), (1, .int t1), (2, .int t2)] [] _ 0 0 _
  refine mp_a (a_iload_n dX6_put_0 rfl) (mpp 1 rfl ?_)
  refine mp_Tb (t := 14) (j_if_lt dX6_put_1) (by decide) (fun c1 => ?_) (fun c1 => mpp 4 rfl ?_)
  · have c1 : t1.toInt < 0 := ti_lt c1
    exact mp_ret ⟨⟨rfl, trivial⟩, hT, KW.refl, trivial⟩ dX6_put_14 rfl
  · have c1 : t1.toInt ≥ 0 := ti_lt_n c1
    refine mp_a (a_iload_n dX6_put_4 rfl) (mpp 5 rfl ?_)
    refine mp_a (a_aload_n dX6_put_5 rfl) (mpp 6 rfl ?_)
    refine mt_len (n := 8) hT dX6_put_6 ha0 (by decide) (by decide) rfl (mpp 7 rfl ?_)
    refine mp_Tb (t := 14) (j_icmp_ge dX6_put_7) (by decide) (fun c2 => ?_) (fun c2 => mpp 10 rfl ?_)
    · have c2 : t1.toInt ≥ 8 := ti_ge c2
      exact mp_ret ⟨⟨rfl, trivial⟩, hT, KW.refl, trivial⟩ dX6_put_14 rfl
    · have c2 : t1.toInt < 8 := ti_ge_n c2
      refine mp_a (a_aload_n dX6_put_10 rfl) (mpp 11 rfl ?_)
      refine mp_a (a_iload_n dX6_put_11 rfl) (mpp 12 rfl ?_)
      refine mp_a (a_iload_n dX6_put_12 rfl) (mpp 13 rfl ?_)
      refine mt_ias (n := 8) hT dX6_put_13 ha0 (by decide) rfl rfl (by omega) (by omega) rfl (ti_full t2) (fun P3 hT4 f5 f6 => mpp 14 rfl ?_)
      have k7 : KW [320] Po P3 := KW.step KW.refl ha0 rfl f6
      exact mp_ret ⟨⟨rfl, trivial⟩, hT4, k7, trivial⟩ dX6_put_14 rfl

set_option maxHeartbeats 4000000 in
theorem c_F_isCreaseKind {Po : mP} {t0 : Int32} (hT : Typ Po)   : EvP 1 26 [.int t0] Po (fun r P' => (∃ x : Int32, r = some (.int x) ∧ (0 ≤ x.toInt ∧ x.toInt ≤ 1)) ∧ P' = Po) := by
  refine EvP.of qm_26 (Nat.le_of_ble_eq_true rfl) rfl ?_
  show MEvP _ none q_26 0 [(0, .int t0)] [] _ 0 0 _
  refine mp_a (a_iload_n dX6_isCreaseKind_0 rfl) (mpp 1 rfl ?_)
  refine mp_Tb (t := 14) (j_if_eq dX6_isCreaseKind_1) (by decide) (fun c1 => ?_) (fun c1 => mpp 4 rfl ?_)
  · have c1 : t0.toInt = 0 := ti_eq c1
    refine mp_a (a_iconst (v := 1) dX6_isCreaseKind_14 rfl) (mpp 15 rfl ?_)
    refine mp_a (a_goto (t := 19) dX6_isCreaseKind_15 (by decide)) ?_
    have u2 : 0 ≤ (1 : Int) ∧ (1 : Int) ≤ 1 := by omega
    exact mp_iret ⟨⟨_, rfl, u2⟩, rfl⟩ dX6_isCreaseKind_19 (Or.inr ⟨rfl, by decide⟩)
  · have c1 : t0.toInt ≠ 0 := ti_eq_n c1
    refine mp_a (a_iload_n dX6_isCreaseKind_4 rfl) (mpp 5 rfl ?_)
    refine mp_a (a_iconst (v := 1) dX6_isCreaseKind_5 rfl) (mpp 6 rfl ?_)
    refine mp_Tb (t := 14) (j_icmp_eq dX6_isCreaseKind_6) (by decide) (fun c3 => ?_) (fun c3 => mpp 9 rfl ?_)
    · have c3 : t0.toInt = 1 := ti_eq c3
      refine mp_a (a_iconst (v := 1) dX6_isCreaseKind_14 rfl) (mpp 15 rfl ?_)
      refine mp_a (a_goto (t := 19) dX6_isCreaseKind_15 (by decide)) ?_
      have u4 : 0 ≤ (1 : Int) ∧ (1 : Int) ≤ 1 := by omega
      exact mp_iret ⟨⟨_, rfl, u4⟩, rfl⟩ dX6_isCreaseKind_19 (Or.inr ⟨rfl, by decide⟩)
    · have c3 : t0.toInt ≠ 1 := ti_eq_n c3
      refine mp_a (a_iload_n dX6_isCreaseKind_9 rfl) (mpp 10 rfl ?_)
      refine mp_a (a_iconst (v := 2) dX6_isCreaseKind_10 rfl) (mpp 11 rfl ?_)
      refine mp_Tb (t := 18) (j_icmp_ne dX6_isCreaseKind_11) (by decide) (fun c5 => ?_) (fun c5 => mpp 14 rfl ?_)
      · have c5 : t0.toInt ≠ 2 := ti_ne c5
        refine mp_a (a_iconst (v := 0) dX6_isCreaseKind_18 rfl) (mpp 19 rfl ?_)
        have u6 : 0 ≤ (0 : Int) ∧ (0 : Int) ≤ 1 := by omega
        exact mp_iret ⟨⟨_, rfl, u6⟩, rfl⟩ dX6_isCreaseKind_19 (Or.inr ⟨rfl, by decide⟩)
      · have c5 : t0.toInt = 2 := ti_ne_n c5
        refine mp_a (a_iconst (v := 1) dX6_isCreaseKind_14 rfl) (mpp 15 rfl ?_)
        refine mp_a (a_goto (t := 19) dX6_isCreaseKind_15 (by decide)) ?_
        have u7 : 0 ≤ (1 : Int) ∧ (1 : Int) ≤ 1 := by omega
        exact mp_iret ⟨⟨_, rfl, u7⟩, rfl⟩ dX6_isCreaseKind_19 (Or.inr ⟨rfl, by decide⟩)

