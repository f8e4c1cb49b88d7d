/-! methods on typed pools, 22 (written by a program) -/
set_option maxHeartbeats 4000000 in
theorem c_M_rotates_l53 {Po : mP} {t1 : Int32} {t2 : Int32}  : ∀ (n : Nat) (v3 : Int32) (v4 : Int32), ∀ (P : mP), Typ P → KW [1093, 1094, 1152, 1408, 1472] Po P → Rel P → (0 ≤ t1.toInt) → (t1.toInt ≤ 7) → (0 ≤ t2.toInt) → (t2.toInt ≤ 7) → (v3.toInt ≤ 8) → (0 ≤ v4.toInt) → (2147483647 - v4.toInt).toNat = n → MEvP 5 none q_151 53 [(0, .ref 301), (1, .int t1), (2, .int t2), (3, .int v3), (4, .int v4)] [] P 0 0 (fun r P' => (∃ x : Int32, r = some (.int x) ∧ (True)) ∧ Typ P' ∧ KW [1093, 1094, 1152, 1408, 1472] Po P' ∧ Rel P') := by
  intro n
  induction n using Nat.strongRecOn with | _ n ih => ?_
  intro v3 v4 P hT hK hR i_0 i_1 i_2 i_3 i_4 i_5 hm
  have w_t1 := ti_full t1
  have w_t2 := ti_full t2
  have w_v3 := ti_full v3
  have w_v4 := ti_full v4
  refine mp_a (a_iload dX7_rotates_53 rfl) (mpp 55 rfl ?_)
  refine mp_a (a_iload_n dX7_rotates_55 rfl) (mpp 56 rfl ?_)
  refine mp_Tb (t := 101) (j_icmp_ge dX7_rotates_56) (by decide) (fun c1 => ?_) (fun c1 => mpp 59 rfl ?_)
  · have c1 : v4.toInt ≥ v3.toInt := ti_ge c1
    refine mp_a (a_iconst (v := 0) dX7_rotates_101 rfl) (mpp 102 rfl ?_)
    refine mp_a (a_istore (L' := [(4, .int 0), (0, .ref 301), (1, .int t1), (2, .int t2), (3, .int v3)]) dX7_rotates_102 (by decide) rfl) (mpp 104 rfl ?_)
    refine mp_a (a_iconst (v := 0) dX7_rotates_104 rfl) (mpp 105 rfl ?_)
    refine mp_a (a_istore (L' := [(5, .int 0), (4, .int 0), (0, .ref 301), (1, .int t1), (2, .int t2), (3, .int v3)]) dX7_rotates_105 (by decide) rfl) (mpp 107 rfl ?_)
    refine MEvP.less (L := [(0, .ref 301), (1, .int t1), (2, .int t2), (3, .int v3), (4, .int 0), (5, .int 0)]) rfl rfl ⟨rfl, rfl, rfl, rfl, rfl, rfl, trivial⟩ ?_
    have i2 : 0 ≤ t1.toInt := by omega
    have i3 : t1.toInt ≤ 7 := by omega
    have i4 : v3.toInt ≤ 8 := by omega
    have i5 : 0 ≤ (0 : Int) := by omega
    exact c_M_rotates_l107    _ _ _ _ P hT hK hR i2 i3 i4 i5 rfl
  · have c1 : v4.toInt < v3.toInt := ti_ge_n c1
    refine mp_a (a_aload_n dX7_rotates_59 rfl) (mpp 60 rfl ?_)
    refine mt_getU (i := 22) (k := 9) (A := 306) hT dX7_rotates_60 rfl rl_301 (by decide) rfl (by decide) rfl un_22 (mpp 63 rfl ?_)
    refine mp_a (a_iload dX7_rotates_63 rfl) (mpp 65 rfl ?_)
    refine mp_a (a_aload_n dX7_rotates_65 rfl) (mpp 66 rfl ?_)
    refine mp_a (a_iload_n dX7_rotates_66 rfl) (mpp 67 rfl ?_)
    refine mp_a (a_iload_n dX7_rotates_67 rfl) (mpp 68 rfl ?_)
    refine mp_a (a_iload dX7_rotates_68 rfl) (mpp 70 rfl ?_)
    obtain ⟨z6, h7⟩ := ti_ex (t2 + v4 : Int32)
    have wz6 := ti_full z6
    refine mp_t (s_iadd (v := z6) dX7_rotates_70 h7) (mpp 71 rfl ?_)
    try have e8 : z6.toInt = t2.toInt + v4.toInt := ti_addz h7 rfl rfl (by omega) (by omega)
    refine mp_a (a_iload_n dX7_rotates_71 rfl) (mpp 72 rfl ?_)
    obtain ⟨z9, h10⟩ := ti_ex (z6 - z6 / v3 * v3 : Int32)
    have wz9 := ti_full z9
    have n11 : ¬ v3 = 0 := ti_n0 (by omega)
    try have e12 : 0 ≤ z9.toInt ∧ z9.toInt < v3.toInt := ti_rem h10 (show (0 : Int) ≤ z6.toInt by omega) (show (0 : Int) < v3.toInt by omega)
    refine mp_t (s_irem (v := z9) dX7_rotates_72 n11 h10) (mpp 73 rfl ?_)
    have p13 : 0 ≤ t1.toInt := by omega
    have p14 : t1.toInt ≤ 7 := by omega
    have p15 : 0 ≤ z9.toInt := by omega
    have p16 : z9.toInt ≤ 7 := by omega
    refine mt_callv (i := 142) (q' := q_152) (As := [.int t1, .int z9]) (rest := [.int v4, .ref 306]) hT dX7_rotates_73 rfl qm_152 (by decide) rfl rl_301 (by decide) rfl (Nat.le_of_ble_eq_true rfl) rfl ⟨rfl, rfl⟩ ⟨Nat.le_of_ble_eq_true rfl, Nat.le_of_ble_eq_true rfl⟩ (EvP.mono (by decide) (c_M_sizeOf hT p13 p14 p15 p16 )) (fun r17 P18 g19 => mpp 76 rfl ?_)
    obtain ⟨⟨x20, rfl, g21⟩, e22⟩ := g19
    have e22 := e22.symm
    subst e22
    have wx20 := ti_full x20
    show MEvP _ none q_151 76 [(0, .ref 301), (1, .int t1), (2, .int t2), (3, .int v3), (4, .int v4)] [.int x20, .int v4, .ref 306] _ _ _ _
    refine mt_ias (n := 8) hT dX7_rotates_76 rl_306 (by decide) rfl rfl (by omega) (by omega) rfl (ti_full x20) (fun P23 hT24 f25 f26 f27 => mpp 77 rfl ?_)
    have k28 : KW [1093, 1094, 1152, 1408, 1472] Po P23 := KW.step hK rl_306 rfl f26 f27
    have R29 := Rel.ne hR rl_306 rfl f26
    refine mp_a (a_aload_n dX7_rotates_77 rfl) (mpp 78 rfl ?_)
    refine mt_getU (i := 25) (k := 10) (A := 307) hT24 dX7_rotates_78 rfl rl_301 (by decide) rfl (by decide) rfl un_23 (mpp 81 rfl ?_)
    refine mp_a (a_iload dX7_rotates_81 rfl) (mpp 83 rfl ?_)
    refine mp_a (a_aload_n dX7_rotates_83 rfl) (mpp 84 rfl ?_)
    refine mp_a (a_iload_n dX7_rotates_84 rfl) (mpp 85 rfl ?_)
    refine mp_a (a_iload_n dX7_rotates_85 rfl) (mpp 86 rfl ?_)
    refine mp_a (a_iload dX7_rotates_86 rfl) (mpp 88 rfl ?_)
    obtain ⟨z30, h31⟩ := ti_ex (t2 + v4 : Int32)
    have wz30 := ti_full z30
    refine mp_t (s_iadd (v := z30) dX7_rotates_88 h31) (mpp 89 rfl ?_)
    try have e32 : z30.toInt = t2.toInt + v4.toInt := ti_addz h31 rfl rfl (by omega) (by omega)
    refine mp_a (a_iload_n dX7_rotates_89 rfl) (mpp 90 rfl ?_)
    obtain ⟨z33, h34⟩ := ti_ex (z30 - z30 / v3 * v3 : Int32)
    have wz33 := ti_full z33
    have n35 : ¬ v3 = 0 := ti_n0 (by omega)
    try have e36 : 0 ≤ z33.toInt ∧ z33.toInt < v3.toInt := ti_rem h34 (show (0 : Int) ≤ z30.toInt by omega) (show (0 : Int) < v3.toInt by omega)
    refine mp_t (s_irem (v := z33) dX7_rotates_90 n35 h34) (mpp 91 rfl ?_)
    have p37 : 0 ≤ t1.toInt := by omega
    have p38 : t1.toInt ≤ 7 := by omega
    have p39 : 0 ≤ z33.toInt := by omega
    have p40 : z33.toInt ≤ 7 := by omega
    refine mt_callv (i := 92) (q' := q_146) (As := [.int t1, .int z33]) (rest := [.int v4, .ref 307]) hT24 dX7_rotates_91 rfl qm_146 (by decide) rfl rl_301 (by decide) rfl (Nat.le_of_ble_eq_true rfl) rfl ⟨rfl, rfl⟩ ⟨Nat.le_of_ble_eq_true rfl, Nat.le_of_ble_eq_true rfl⟩ (EvP.mono (by decide) (c_M_creaseOf hT24 p37 p38 p39 p40 )) (fun r41 P42 g43 => mpp 94 rfl ?_)
    obtain ⟨⟨x44, rfl, g45⟩, e46⟩ := g43
    have e46 := e46.symm
    subst e46
    have wx44 := ti_full x44
    have g45 : x44.toInt = (fv P23 302 (14 + 19 * t1.toInt.toNat + z33.toInt.toNat)).toInt := g45
    show MEvP _ none q_151 94 [(0, .ref 301), (1, .int t1), (2, .int t2), (3, .int v3), (4, .int v4)] [.int x44, .int v4, .ref 307] _ _ _ _
    refine mt_ias (n := 8) hT24 dX7_rotates_94 rl_307 (by decide) rfl rfl (by omega) (by omega) rfl (ti_full x44) (fun P47 hT48 f49 f50 f51 => mpp 95 rfl ?_)
    have k52 : KW [1093, 1094, 1152, 1408, 1472] Po P47 := KW.step k28 rl_307 rfl f50 f51
    have R53 := Rel.ne R29 rl_307 rfl f50
    obtain ⟨z54, h55⟩ := ti_ex (v4 + 1 : Int32)
    have wz54 := ti_full z54
    refine mp_a (a_iinc (v := z54) (L' := [(4, .int z54), (0, .ref 301), (1, .int t1), (2, .int t2), (3, .int v3)]) dX7_rotates_95 (by decide) rfl h55 rfl) (mpp 98 rfl ?_)
    try have e56 : z54.toInt = v4.toInt + 1 := ti_addz h55 rfl rfl (by omega) (by omega)
    refine mp_a (a_goto (t := 53) dX7_rotates_98 (by decide)) ?_
    refine MEvP.less (L := [(0, .ref 301), (1, .int t1), (2, .int t2), (3, .int v3), (4, .int z54)]) rfl rfl ⟨rfl, rfl, rfl, rfl, rfl, trivial⟩ ?_
    have i57 : 0 ≤ t1.toInt := by omega
    have i58 : t1.toInt ≤ 7 := by omega
    have i59 : 0 ≤ t2.toInt := by omega
    have i60 : t2.toInt ≤ 7 := by omega
    have i61 : v3.toInt ≤ 8 := by omega
    have i62 : 0 ≤ z54.toInt := by omega
    exact ih _ (by omega) _ _ P47 hT48 k52 R53 i57 i58 i59 i60 i61 i62 rfl

set_option maxHeartbeats 4000000 in
theorem c_M_rotates {Po : mP} {t1 : Int32} {t2 : Int32} (hT : Typ Po) (hR : Rel Po)  : EvP 6 151 [.ref 301, .int t1, .int t2] Po (fun r P' => (∃ x : Int32, r = some (.int x) ∧ (True)) ∧ Typ P' ∧ KW [1093, 1094, 1152, 1408, 1472] Po P' ∧ Rel P') := by
  refine EvP.of qm_151 (Nat.le_of_ble_eq_true rfl) rfl ?_
  show MEvP _ none q_151 0 [(0, .ref 301), (1, .int t1), (2, .int t2)] [] _ 0 0 _
  refine mp_a (a_aload_n dX7_rotates_0 rfl) (mpp 1 rfl ?_)
  refine mp_a (a_iload_n dX7_rotates_1 rfl) (mpp 2 rfl ?_)
  refine mp_a (a_iload_n dX7_rotates_2 rfl) (mpp 3 rfl ?_)
  refine mt_callv (i := 127) (q' := q_143) (As := [.int t1, .int t2]) (rest := []) hT dX7_rotates_3 rfl qm_143 (by decide) rfl rl_301 (by decide) rfl (Nat.le_of_ble_eq_true rfl) rfl ⟨rfl, rfl⟩ ⟨Nat.le_of_ble_eq_true rfl, Nat.le_of_ble_eq_true rfl⟩ (EvP.mono (by decide) (c_M_isCrease hT )) (fun r1 P2 g3 => mpp 6 rfl ?_)
  obtain ⟨⟨x4, rfl, g5⟩, e6⟩ := g3
  have e6 := e6.symm
  subst e6
  have wx4 := ti_full x4
  have g5 : 0 ≤ x4.toInt ∧ x4.toInt ≤ 1 ∧ ((x4.toInt = 0 ∧ (t1.toInt < 0 ∨ (fv Po 302 0).toInt ≤ t1.toInt ∨ t2.toInt < 0 ∨ ((fv Po 302 (3 + 19 * t1.toInt.toNat)).toInt = 1 ∧ (fv Po 302 (4 + 19 * t1.toInt.toNat)).toInt ≤ t2.toInt) ∨ ((fv Po 302 (3 + 19 * t1.toInt.toNat)).toInt = 0 ∧ (fv Po 302 (4 + 19 * t1.toInt.toNat)).toInt - 1 ≤ t2.toInt))) ∨ (x4.toInt = 1 ∧ 0 ≤ t1.toInt ∧ t1.toInt + 1 ≤ (fv Po 302 0).toInt ∧ t1.toInt ≤ 7 ∧ 0 ≤ t2.toInt ∧ t2.toInt ≤ 7 ∧ t2.toInt + 1 ≤ (fv Po 302 (4 + 19 * t1.toInt.toNat)).toInt ∧ (((fv Po 302 (3 + 19 * t1.toInt.toNat)).toInt = 1 ∧ t2.toInt < (fv Po 302 (4 + 19 * t1.toInt.toNat)).toInt) ∨ ((fv Po 302 (3 + 19 * t1.toInt.toNat)).toInt = 0 ∧ t2.toInt < (fv Po 302 (4 + 19 * t1.toInt.toNat)).toInt - 1)))) := g5
  have g7 : (0 : Int) ≤ (fv Po 302 0).toInt ∧ (fv Po 302 0).toInt ≤ 8 := Typ.rng hT rl_302 (by decide) (by decide) rfl
  have g8 := ti_full (fv Po 302 (3 + 19 * t1.toInt.toNat))
  have g9 := ti_full (fv Po 302 (4 + 19 * t1.toInt.toNat))
  show MEvP _ none q_151 6 [(0, .ref 301), (1, .int t1), (2, .int t2)] [.int x4] _ _ _ _
  refine mp_Tb (t := 13) (j_if_ne dX7_rotates_6) (by decide) (fun c10 => ?_) (fun c10 => mpp 9 rfl ?_)
  · have c10 : x4.toInt ≠ 0 := ti_ne c10
    refine mp_a (a_aload_n dX7_rotates_13 rfl) (mpp 14 rfl ?_)
    refine mp_a (a_iload_n dX7_rotates_14 rfl) (mpp 15 rfl ?_)
    have p11 : 0 ≤ t1.toInt := by omega
    have p12 : t1.toInt ≤ 7 := by omega
    refine mt_callv (i := 130) (q' := q_145) (As := [.int t1]) (rest := []) hT dX7_rotates_15 rfl qm_145 (by decide) rfl rl_301 (by decide) rfl (Nat.le_of_ble_eq_true rfl) rfl ⟨rfl, rfl⟩ ⟨Nat.le_of_ble_eq_true rfl, Nat.le_of_ble_eq_true rfl⟩ (EvP.mono (by decide) (c_M_isFolded hT p11 p12 )) (fun r13 P14 g15 => mpp 18 rfl ?_)
    obtain ⟨⟨x16, rfl, g17⟩, e18⟩ := g15
    have e18 := e18.symm
    subst e18
    have wx16 := ti_full x16
    have g17 : 0 ≤ x16.toInt ∧ x16.toInt ≤ 1 ∧ ((x16.toInt = 1 ∧ (fv Po 302 (5 + 19 * t1.toInt.toNat)).toInt = 1) ∨ (x16.toInt = 0 ∧ (fv Po 302 (5 + 19 * t1.toInt.toNat)).toInt ≠ 1)) := g17
    have g19 := ti_full (fv Po 302 (5 + 19 * t1.toInt.toNat))
    show MEvP _ none q_151 18 [(0, .ref 301), (1, .int t1), (2, .int t2)] [.int x16] _ _ _ _
    refine mp_Tb (t := 28) (j_if_eq dX7_rotates_18) (by decide) (fun c20 => ?_) (fun c20 => mpp 21 rfl ?_)
    · have c20 : x16.toInt = 0 := ti_eq c20
      refine mp_a (a_aload_n dX7_rotates_28 rfl) (mpp 29 rfl ?_)
      refine mp_a (a_iload_n dX7_rotates_29 rfl) (mpp 30 rfl ?_)
      have p21 : 0 ≤ t1.toInt := by omega
      have p22 : t1.toInt ≤ 7 := by omega
      refine mt_callv (i := 81) (q' := q_138) (As := [.int t1]) (rest := []) hT dX7_rotates_30 rfl qm_138 (by decide) rfl rl_301 (by decide) rfl (Nat.le_of_ble_eq_true rfl) rfl ⟨rfl, rfl⟩ ⟨Nat.le_of_ble_eq_true rfl, Nat.le_of_ble_eq_true rfl⟩ (EvP.mono (by decide) (c_M_isCorner hT p21 p22 )) (fun r23 P24 g25 => mpp 33 rfl ?_)
      obtain ⟨⟨x26, rfl, g27⟩, e28⟩ := g25
      have e28 := e28.symm
      subst e28
      have wx26 := ti_full x26
      have g27 : 0 ≤ x26.toInt ∧ x26.toInt ≤ 1 ∧ ((x26.toInt = 1 ∧ (fv Po 302 (3 + 19 * t1.toInt.toNat)).toInt = 1) ∨ (x26.toInt = 0 ∧ (fv Po 302 (3 + 19 * t1.toInt.toNat)).toInt = 0)) := g27
      show MEvP _ none q_151 33 [(0, .ref 301), (1, .int t1), (2, .int t2)] [.int x26] _ _ _ _
      refine mp_Tb (t := 43) (j_if_ne dX7_rotates_33) (by decide) (fun c29 => ?_) (fun c29 => mpp 36 rfl ?_)
      · have c29 : x26.toInt ≠ 0 := ti_ne c29
        refine mp_a (a_aload_n dX7_rotates_43 rfl) (mpp 44 rfl ?_)
        refine mp_a (a_iload_n dX7_rotates_44 rfl) (mpp 45 rfl ?_)
        refine mp_a (a_iconst (v := 1) dX7_rotates_45 rfl) (mpp 46 rfl ?_)
        have p30 : 0 ≤ t1.toInt := by omega
        have p31 : t1.toInt ≤ 7 := by omega
        have p32 : 0 ≤ (1 : Int) := by omega
        have p33 : (1 : Int) ≤ 18 := by omega
        refine mt_callv (i := 78) (q' := q_137) (As := [.int t1, .int 1]) (rest := []) hT dX7_rotates_46 rfl qm_137 (by decide) rfl rl_301 (by decide) rfl (Nat.le_of_ble_eq_true rfl) rfl ⟨rfl, rfl⟩ ⟨Nat.le_of_ble_eq_true rfl, Nat.le_of_ble_eq_true rfl⟩ (EvP.mono (by decide) (c_M_of_c1 hT p30 p31 p32 p33 )) (fun r34 P35 g36 => mpp 49 rfl ?_)
        obtain ⟨⟨x37, rfl, g38⟩, e39⟩ := g36
        have e39 := e39.symm
        subst e39
        have wx37 := ti_full x37
        have g38 : x37.toInt = (fv Po 302 (4 + 19 * t1.toInt.toNat)).toInt ∧ 0 ≤ x37.toInt ∧ x37.toInt ≤ 8 := g38
        show MEvP _ none q_151 49 [(0, .ref 301), (1, .int t1), (2, .int t2)] [.int x37] _ _ _ _
        refine mp_a (a_istore_n (L' := [(3, .int x37), (0, .ref 301), (1, .int t1), (2, .int t2)]) dX7_rotates_49 (by decide) rfl) (mpp 50 rfl ?_)
        refine mp_a (a_iconst (v := 0) dX7_rotates_50 rfl) (mpp 51 rfl ?_)
        refine mp_a (a_istore (L' := [(4, .int 0), (3, .int x37), (0, .ref 301), (1, .int t1), (2, .int t2)]) dX7_rotates_51 (by decide) rfl) (mpp 53 rfl ?_)
        refine MEvP.less (L := [(0, .ref 301), (1, .int t1), (2, .int t2), (3, .int x37), (4, .int 0)]) rfl rfl ⟨rfl, rfl, rfl, rfl, rfl, trivial⟩ ?_
        have i40 : 0 ≤ t1.toInt := by omega
        have i41 : t1.toInt ≤ 7 := by omega
        have i42 : 0 ≤ t2.toInt := by omega
        have i43 : t2.toInt ≤ 7 := by omega
        have i44 : x37.toInt ≤ 8 := by omega
        have i45 : 0 ≤ (0 : Int) := by omega
        exact c_M_rotates_l53    _ _ _ Po hT KW.refl hR i40 i41 i42 i43 i44 i45 rfl
      · have c29 : x26.toInt = 0 := ti_ne_n c29
        refine mp_a (a_aload_n dX7_rotates_36 rfl) (mpp 37 rfl ?_)
        refine mp_a (a_iconst (v := 3) dX7_rotates_37 rfl) (mpp 38 rfl ?_)
        refine mp_a (a_iload_n dX7_rotates_38 rfl) (mpp 39 rfl ?_)
        refine mt_callv (i := 101) (q' := q_134) (As := [.int 3, .int t1]) (rest := []) hT dX7_rotates_39 rfl qm_134 (by decide) rfl rl_301 (by decide) rfl (Nat.le_of_ble_eq_true rfl) rfl ⟨rfl, rfl⟩ ⟨Nat.le_of_ble_eq_true rfl, Nat.le_of_ble_eq_true rfl⟩ (EvP.mono (by decide) (c_M_refuses hT )) (fun r46 P47 g48 => mpp 42 rfl ?_)
        obtain ⟨⟨x49, rfl, g50⟩, hT51, k52, R53⟩ := g48
        have k54 : KW [1093, 1094, 1152, 1408, 1472] Po P47 := KW.trans KW.refl k52 rfl
        have R56 := Rel.kw hR k52 rfl
        have wx49 := ti_full x49
        have g50 : x49.toInt = -1003 := g50
        show MEvP _ none q_151 42 [(0, .ref 301), (1, .int t1), (2, .int t2)] [.int x49] _ _ _ _
        exact mp_iret ⟨⟨_, rfl, trivial⟩, hT51, k54, R56⟩ dX7_rotates_42 (Or.inl rfl)
    · have c20 : x16.toInt ≠ 0 := ti_eq_n c20
      refine mp_a (a_aload_n dX7_rotates_21 rfl) (mpp 22 rfl ?_)
      refine mp_a (a_iconst (v := 2) dX7_rotates_22 rfl) (mpp 23 rfl ?_)
      refine mp_a (a_iload_n dX7_rotates_23 rfl) (mpp 24 rfl ?_)
      refine mt_callv (i := 101) (q' := q_134) (As := [.int 2, .int t1]) (rest := []) hT dX7_rotates_24 rfl qm_134 (by decide) rfl rl_301 (by decide) rfl (Nat.le_of_ble_eq_true rfl) rfl ⟨rfl, rfl⟩ ⟨Nat.le_of_ble_eq_true rfl, Nat.le_of_ble_eq_true rfl⟩ (EvP.mono (by decide) (c_M_refuses hT )) (fun r57 P58 g59 => mpp 27 rfl ?_)
      obtain ⟨⟨x60, rfl, g61⟩, hT62, k63, R64⟩ := g59
      have k65 : KW [1093, 1094, 1152, 1408, 1472] Po P58 := KW.trans KW.refl k63 rfl
      have R67 := Rel.kw hR k63 rfl
      have wx60 := ti_full x60
      have g61 : x60.toInt = -1003 := g61
      show MEvP _ none q_151 27 [(0, .ref 301), (1, .int t1), (2, .int t2)] [.int x60] _ _ _ _
      exact mp_iret ⟨⟨_, rfl, trivial⟩, hT62, k65, R67⟩ dX7_rotates_27 (Or.inl rfl)
  · have c10 : x4.toInt = 0 := ti_ne_n c10
    refine mp_a (a_sipush (v := -1001) dX7_rotates_9 rfl) (mpp 12 rfl ?_)
    exact mp_iret ⟨⟨_, rfl, trivial⟩, hT, KW.refl, hR⟩ dX7_rotates_12 (Or.inl rfl)

set_option maxHeartbeats 4000000 in
theorem c_M_rotate {Po : mP} {t1 : Int32} {t2 : Int32} (hT : Typ Po) (hR : Rel Po)  : EvP 7 150 [.ref 301, .int t1, .int t2] Po (fun r P' => (∃ x : Int32, r = some (.int x) ∧ (True)) ∧ Typ P' ∧ KW [1092, 1093, 1094, 1095, 1152, 1216, 1344, 1408, 1472] Po P' ∧ Rel P') := by
  refine EvP.of qm_150 (Nat.le_of_ble_eq_true rfl) rfl ?_
  show MEvP _ none q_150 0 [(0, .ref 301), (1, .int t1), (2, .int t2)] [] _ 0 0 _
  refine mp_a (a_aload_n dX7_rotate_0 rfl) (mpp 1 rfl ?_)
  refine mt_callv (i := 117) (q' := q_124) (As := []) (rest := []) hT dX7_rotate_1 rfl qm_124 (by decide) rfl rl_301 (by decide) rfl (Nat.le_of_ble_eq_true rfl) rfl ⟨rfl, rfl⟩ ⟨Nat.le_of_ble_eq_true rfl, Nat.le_of_ble_eq_true rfl⟩ (EvP.mono (by decide) (c_M_keeps hT hR )) (fun r1 P2 g3 => mpp 4 rfl ?_)
  obtain ⟨⟨rfl, g5⟩, hT6, k7, R8r, R8⟩ := g3
  have k9 : KW [1092, 1093, 1094, 1095, 1152, 1216, 1344, 1408, 1472] Po P2 := KW.trans KW.refl k7 rfl
  show MEvP _ none q_150 4 [(0, .ref 301), (1, .int t1), (2, .int t2)] [] _ _ _ _
  refine mp_a (a_aload_n dX7_rotate_4 rfl) (mpp 5 rfl ?_)
  refine mp_a (a_aload_n dX7_rotate_5 rfl) (mpp 6 rfl ?_)
  refine mp_a (a_iload_n dX7_rotate_6 rfl) (mpp 7 rfl ?_)
  refine mp_a (a_iload_n dX7_rotate_7 rfl) (mpp 8 rfl ?_)
  refine mt_callv (i := 145) (q' := q_151) (As := [.int t1, .int t2]) (rest := [.ref 301]) hT6 dX7_rotate_8 rfl qm_151 (by decide) rfl rl_301 (by decide) rfl (Nat.le_of_ble_eq_true rfl) rfl ⟨rfl, rfl⟩ ⟨Nat.le_of_ble_eq_true rfl, Nat.le_of_ble_eq_true rfl⟩ (EvP.mono (by decide) (c_M_rotates hT6 R8r )) (fun r11 P12 g13 => mpp 11 rfl ?_)
  obtain ⟨⟨x14, rfl, g15⟩, hT16, k17, R18⟩ := g13
  have k19 : KW [1092, 1093, 1094, 1095, 1152, 1216, 1344, 1408, 1472] Po P12 := KW.trans k9 k17 rfl
  have wx14 := ti_full x14
  show MEvP _ none q_150 11 [(0, .ref 301), (1, .int t1), (2, .int t2)] [.int x14, .ref 301] _ _ _ _
  refine mt_callv (i := 124) (q' := q_139) (As := [.int x14]) (rest := []) hT16 dX7_rotate_11 rfl qm_139 (by decide) rfl rl_301 (by decide) rfl (Nat.le_of_ble_eq_true rfl) rfl ⟨rfl, rfl⟩ ⟨Nat.le_of_ble_eq_true rfl, Nat.le_of_ble_eq_true rfl⟩ (EvP.mono (by decide) (c_M_ends hT16 R18 )) (fun r21 P22 g23 => mpp 14 rfl ?_)
  obtain ⟨⟨x24, rfl, g25⟩, hT26, k27, R28r, R28⟩ := g23
  have k29 : KW [1092, 1093, 1094, 1095, 1152, 1216, 1344, 1408, 1472] Po P22 := KW.trans k19 k27 rfl
  have wx24 := ti_full x24
  have g25 : x24.toInt = x14.toInt := g25
  show MEvP _ none q_150 14 [(0, .ref 301), (1, .int t1), (2, .int t2)] [.int x24] _ _ _ _
  exact mp_iret ⟨⟨_, rfl, trivial⟩, hT26, k29, R28r⟩ dX7_rotate_14 (Or.inl rfl)

set_option maxHeartbeats 4000000 in
theorem c_M_goes_l6 {Po : mP} {t1 : Int32} (hR : Rel Po) (hp0 : 0 ≤ t1.toInt) (hp1 : t1.toInt + 1 ≤ (fv Po 302 0).toInt)  : ∀ (n : Nat) (v2 : Int32), ∀ (P : mP), Typ P → KW [1152] Po P → (Mv Po P (3 + 19 * t1.toInt.toNat) v2.toInt.toNat) → (3 + 19 * t1.toInt ≤ v2.toInt) → (v2.toInt ≤ 19 * (fv Po 302 0).toInt - 16) → ((fv P 302 0).toInt = (fv Po 302 0).toInt) → ((fv Po 302 0).toInt ≤ 8) → (KI 302 303 Po P) → (2147483647 - v2.toInt).toNat = n → MEvP 1 none q_155 6 [(0, .ref 301), (1, .int t1), (2, .int v2)] [] P 0 0 (fun r P' => (r = none ∧ (True)) ∧ Typ P' ∧ KW [1152] Po P' ∧ Rel P' ∧ (∀ j : Nat, 1 ≤ j → fv P' 302 j = if 3 + 19 * t1.toInt.toNat ≤ j ∧ j < 3 + 19 * ((fv Po 302 0).toInt - 1).toNat then fv Po 302 (j + 19) else fv Po 302 j) ∧ ((fv P' 302 0).toInt = (fv Po 302 0).toInt - 1) ∧ KI 302 303 Po P') := by
  intro n
  induction n using Nat.strongRecOn with | _ n ih => ?_
  intro v2 P hT hK i_0 i_1 i_2 i_3 i_4 i_5 hm
  have w_t1 := ti_full t1
  have w_v2 := ti_full v2
  have g1 : (0 : Int) ≤ (fv P 302 0).toInt ∧ (fv P 302 0).toInt ≤ 8 := Typ.rng hT rl_302 (by decide) (by decide) rfl
  have g2 : (0 : Int) ≤ (fv P 302 0).toInt ∧ (fv P 302 0).toInt ≤ 8 := Typ.rng hT rl_302 (by decide) (by decide) rfl
  refine mp_a (a_iload_n dX7_goes_6 rfl) (mpp 7 rfl ?_)
  refine mp_a (a_aload_n dX7_goes_7 rfl) (mpp 8 rfl ?_)
  refine mt_getU (i := 9) (k := 0) (A := 302) hT dX7_goes_8 rfl rl_301 (by decide) rfl (by decide) rfl un_18 (mpp 11 rfl ?_)
  refine mp_a (a_iconst (v := 0) dX7_goes_11 rfl) (mpp 12 rfl ?_)
  refine mt_ialX (n := 155) hT dX7_goes_12 rl_302 (by decide) rfl rfl (by decide) (by decide) ssp_0 (fun g3 => mpp 13 rfl ?_)
  have we5 := ti_full (fv P 302 0)
  refine mp_a (a_iconst (v := 1) dX7_goes_13 rfl) (mpp 14 rfl ?_)
  obtain ⟨z6, h7⟩ := ti_ex ((fv P 302 0) - 1 : Int32)
  have wz6 := ti_full z6
  refine mp_t (s_isub (v := z6) dX7_goes_14 h7) (mpp 15 rfl ?_)
  try have e8 : z6.toInt = (fv P 302 0).toInt - 1 := ti_subz h7 rfl rfl (by omega) (by omega)
  refine mp_a (a_iconst (v := 0) dX7_goes_15 rfl) (mpp 16 rfl ?_)
  have p9 : 0 ≤ z6.toInt := by omega
  have p10 : z6.toInt ≤ 8 := by omega
  have p11 : 0 ≤ (0 : Int) := by omega
  have p12 : (0 : Int) ≤ 20 := by omega
  refine mp_calls (i := 74) (q' := q_135) (As := [.int z6, .int 0]) (rest := [.int v2]) dX7_goes_16 rfl qm_135 (by decide) rfl (Nat.le_of_ble_eq_true rfl) rfl ⟨rfl, rfl⟩ ⟨Nat.le_of_ble_eq_true rfl, Nat.le_of_ble_eq_true rfl⟩ (EvP.mono (by decide) (c_M_at hT p9 p10 p11 p12 )) (fun r13 P14 g15 => mpp 19 rfl ?_)
  obtain ⟨⟨x16, rfl, g17⟩, e18⟩ := g15
  have e18 := e18.symm
  subst e18
  have wx16 := ti_full x16
  have g17 : x16.toInt = 3 + 19 * z6.toInt + (0 : Int) := g17
  show MEvP _ none q_155 19 [(0, .ref 301), (1, .int t1), (2, .int v2)] [.int x16, .int v2] _ _ _ _
  refine mp_Tb (t := 43) (j_icmp_ge dX7_goes_19) (by decide) (fun c19 => ?_) (fun c19 => mpp 22 rfl ?_)
  · have c19 : v2.toInt ≥ x16.toInt := ti_ge c19
    have hRe : Rel P := Mv.rel hR i_0 (p := t1.toInt.toNat) (m := ((fv Po 302 0).toInt - 1).toNat) (by omega) (by omega) (by omega) (by omega) (hK.at · rl_303 rfl) (hK.at · rl_304 rfl) (hK.at · rl_305 rfl)
    refine mp_a (a_aload_n dX7_goes_43 rfl) (mpp 44 rfl ?_)
    refine mt_getU (i := 9) (k := 0) (A := 302) hT dX7_goes_44 rfl rl_301 (by decide) rfl (by decide) rfl un_18 (mpp 47 rfl ?_)
    refine mp_a (a_iconst (v := 0) dX7_goes_47 rfl) (mpp 48 rfl ?_)
    refine mp_t (s_dup2 dX7_goes_48 ⟨rfl, rfl⟩) (mpp 49 rfl ?_)
    refine mt_ialX (n := 155) hT dX7_goes_49 rl_302 (by decide) rfl rfl (by decide) (by decide) ssp_0 (fun g20 => mpp 50 rfl ?_)
    have we22 := ti_full (fv P 302 0)
    refine mp_a (a_iconst (v := 1) dX7_goes_50 rfl) (mpp 51 rfl ?_)
    obtain ⟨z23, h24⟩ := ti_ex ((fv P 302 0) - 1 : Int32)
    have wz23 := ti_full z23
    refine mp_t (s_isub (v := z23) dX7_goes_51 h24) (mpp 52 rfl ?_)
    try have e25 : z23.toInt = (fv P 302 0).toInt - 1 := ti_subz h24 rfl rfl (by omega) (by omega)
    refine mt_iasX (n := 155) hT dX7_goes_52 rl_302 (by decide) rfl rfl (by decide) (by decide) ssp_0 (okS_c0 ⟨by omega, by omega⟩) (fun P26 hT27 f28 f29 f30 => mpp 53 rfl ?_)
    have f28 : fv P26 302 0 = _ := f28
    have f29 : ∀ b j : Nat, ¬ (b = 302 ∧ j = 0) → fv P26 b j = fv P b j := f29
    have k31 : KW [1152] Po P26 := KW.step hK rl_302 rfl f29 f30
    have R32 := Rel.many hRe f29 f28 (by omega)
    have e33 : (fv P26 302 0).toInt = z23.toInt := congrArg Int32.toInt f28
    have u34 : (∀ j : Nat, 1 ≤ j → fv P26 302 j = if 3 + 19 * t1.toInt.toNat ≤ j ∧ j < 3 + 19 * ((fv Po 302 0).toInt - 1).toNat then fv Po 302 (j + 19) else fv Po 302 j) := fun j hj => by rw [f29 302 j (by omega)]; exact Mv.get i_0 (by omega) j
    have u35 : ((fv P26 302 0).toInt = (fv Po 302 0).toInt - 1) := by omega
    have u36 : KI 302 303 Po P26 := fun x j hx => by rw [f29 x j (by omega), i_5 x j (by omega)]
    exact mp_ret ⟨⟨rfl, trivial⟩, hT27, k31, R32, ⟨u34, u35, u36⟩⟩ dX7_goes_53 rfl
  · have c19 : v2.toInt < x16.toInt := ti_ge_n c19
    refine mp_a (a_aload_n dX7_goes_22 rfl) (mpp 23 rfl ?_)
    refine mt_getU (i := 9) (k := 0) (A := 302) hT dX7_goes_23 rfl rl_301 (by decide) rfl (by decide) rfl un_18 (mpp 26 rfl ?_)
    refine mp_a (a_iload_n dX7_goes_26 rfl) (mpp 27 rfl ?_)
    refine mp_a (a_aload_n dX7_goes_27 rfl) (mpp 28 rfl ?_)
    refine mt_getU (i := 9) (k := 0) (A := 302) hT dX7_goes_28 rfl rl_301 (by decide) rfl (by decide) rfl un_18 (mpp 31 rfl ?_)
    refine mp_a (a_iload_n dX7_goes_31 rfl) (mpp 32 rfl ?_)
    refine mp_a (a_bipush (v := 19) dX7_goes_32 rfl) (mpp 34 rfl ?_)
    obtain ⟨z37, h38⟩ := ti_ex (v2 + 19 : Int32)
    have wz37 := ti_full z37
    refine mp_t (s_iadd (v := z37) dX7_goes_34 h38) (mpp 35 rfl ?_)
    try have e39 : z37.toInt = v2.toInt + 19 := ti_addz h38 rfl rfl (by omega) (by omega)
    refine mt_ialX (n := 155) hT dX7_goes_35 rl_302 (by decide) rfl rfl (by omega) (by omega) ssp_0 (fun g40 => mpp 36 rfl ?_)
    have we42 := ti_full (fv P 302 z37.toInt.toNat)
    refine mt_iasX (n := 155) hT dX7_goes_36 rl_302 (by decide) rfl rfl (by omega) (by omega) ssp_0 (okS_19 g40 (by omega) (by omega)) (fun P43 hT44 f45 f46 f47 => mpp 37 rfl ?_)
    have k48 : KW [1152] Po P43 := KW.step hK rl_302 rfl f46 f47
    obtain ⟨z50, h51⟩ := ti_ex (v2 + 1 : Int32)
    have wz50 := ti_full z50
    refine mp_a (a_iinc (v := z50) (L' := [(2, .int z50), (0, .ref 301), (1, .int t1)]) dX7_goes_37 (by decide) rfl h51 rfl) (mpp 40 rfl ?_)
    try have e52 : z50.toInt = v2.toInt + 1 := ti_addz h51 rfl rfl (by omega) (by omega)
    refine mp_a (a_goto (t := 6) dX7_goes_40 (by decide)) ?_
    refine MEvP.less (L := [(0, .ref 301), (1, .int t1), (2, .int z50)]) rfl rfl ⟨rfl, rfl, rfl, trivial⟩ ?_
    have i53 : Mv Po P43 (3 + 19 * t1.toInt.toNat) z50.toInt.toNat := Mv.step i_0 f45 f46 (by omega) (by omega) (by omega)
    have i54 : 3 + 19 * t1.toInt ≤ z50.toInt := by omega
    have i55 : z50.toInt ≤ 19 * (fv Po 302 0).toInt - 16 := by omega
    have e56 : (fv P43 302 0).toInt = (fv P 302 0).toInt := congrArg Int32.toInt (f46 302 0 (ne_i (by omega)))
    have i57 : (fv P43 302 0).toInt = (fv Po 302 0).toInt := by omega
    have i58 : (fv Po 302 0).toInt ≤ 8 := by omega
    have i59 : KI 302 303 Po P43 := fun x j hx => by rw [f46 x j (by omega), i_5 x j hx]
    exact ih _ (by omega) _ P43 hT44 k48 i53 i54 i55 i57 i58 i59 rfl

set_option maxHeartbeats 4000000 in
theorem c_M_goes {Po : mP} {t1 : Int32} (hT : Typ Po) (hR : Rel Po) (hp0 : 0 ≤ t1.toInt) (hp1 : t1.toInt + 1 ≤ (fv Po 302 0).toInt)  : EvP 2 155 [.ref 301, .int t1] Po (fun r P' => (r = none ∧ (True)) ∧ Typ P' ∧ KW [1152] Po P' ∧ Rel P' ∧ (∀ j : Nat, 1 ≤ j → fv P' 302 j = if 3 + 19 * t1.toInt.toNat ≤ j ∧ j < 3 + 19 * ((fv Po 302 0).toInt - 1).toNat then fv Po 302 (j + 19) else fv Po 302 j) ∧ ((fv P' 302 0).toInt = (fv Po 302 0).toInt - 1) ∧ KI 302 303 Po P') := by
  refine EvP.of qm_155 (Nat.le_of_ble_eq_true rfl) rfl ?_
  show MEvP _ none q_155 0 [(0, .ref 301), (1, .int t1)] [] _ 0 0 _
  have g1 : (0 : Int) ≤ (fv Po 302 0).toInt ∧ (fv Po 302 0).toInt ≤ 8 := Typ.rng hT rl_302 (by decide) (by decide) rfl
  refine mp_a (a_iload_n dX7_goes_0 rfl) (mpp 1 rfl ?_)
  refine mp_a (a_iconst (v := 0) dX7_goes_1 rfl) (mpp 2 rfl ?_)
  have p2 : 0 ≤ t1.toInt := by omega
  have p3 : t1.toInt ≤ 8 := by omega
  have p4 : 0 ≤ (0 : Int) := by omega
  have p5 : (0 : Int) ≤ 20 := by omega
  refine mp_calls (i := 74) (q' := q_135) (As := [.int t1, .int 0]) (rest := []) dX7_goes_2 rfl qm_135 (by decide) rfl (Nat.le_of_ble_eq_true rfl) rfl ⟨rfl, rfl⟩ ⟨Nat.le_of_ble_eq_true rfl, Nat.le_of_ble_eq_true rfl⟩ (EvP.mono (by decide) (c_M_at hT p2 p3 p4 p5 )) (fun r6 P7 g8 => mpp 5 rfl ?_)
  obtain ⟨⟨x9, rfl, g10⟩, e11⟩ := g8
  have e11 := e11.symm
  subst e11
  have wx9 := ti_full x9
  have g10 : x9.toInt = 3 + 19 * t1.toInt + (0 : Int) := g10
  show MEvP _ none q_155 5 [(0, .ref 301), (1, .int t1)] [.int x9] _ _ _ _
  refine mp_a (a_istore_n (L' := [(2, .int x9), (0, .ref 301), (1, .int t1)]) dX7_goes_5 (by decide) rfl) (mpp 6 rfl ?_)
  refine MEvP.less (L := [(0, .ref 301), (1, .int t1), (2, .int x9)]) rfl rfl ⟨rfl, rfl, rfl, trivial⟩ ?_
  have i12 : Mv Po Po (3 + 19 * t1.toInt.toNat) x9.toInt.toNat := Mv.start (by omega)
  have i13 : 3 + 19 * t1.toInt ≤ x9.toInt := by omega
  have i14 : x9.toInt ≤ 19 * (fv Po 302 0).toInt - 16 := by omega
  have i15 : (fv Po 302 0).toInt = (fv Po 302 0).toInt := by omega
  have i16 : (fv Po 302 0).toInt ≤ 8 := by omega
  have i17 : KI 302 303 Po Po := KI.refl
  exact c_M_goes_l6  hR hp0 hp1 _ _ Po hT KW.refl i12 i13 i14 i15 i16 i17 rfl

set_option maxHeartbeats 4000000 in
theorem c_M_joins_l166 {Po : mP} {t1 : Int32} {t2 : Int32} {t3 : Int32}  : ∀ (n : Nat) (v4 : Int32) (v5 : Int32) (v6 : Int32), ∀ (P : mP), Typ P → KW [1093, 1094, 1152] Po P → Rel P → (0 ≤ t1.toInt) → (t1.toInt ≤ 7) → (0 ≤ t2.toInt) → (t2.toInt ≤ 7) → (0 ≤ v4.toInt) → (0 ≤ v5.toInt) → (v4.toInt + v5.toInt ≤ 7) → (2 ≤ v4.toInt) → ((fv P 302 0).toInt = (fv Po 302 0).toInt) → (t2.toInt + 1 ≤ (fv Po 302 0).toInt) → (0 ≤ v6.toInt) → (2147483647 - v6.toInt).toNat = n → MEvP 3 none q_154 166 [(0, .ref 301), (1, .int t1), (2, .int t2), (3, .int t3), (4, .int v4), (5, .int v5), (6, .int v6)] [] P 0 0 (fun r P' => (∃ x : Int32, r = some (.int x) ∧ (True)) ∧ Typ P' ∧ KW [1093, 1094, 1152] Po P' ∧ Rel P') := by
  intro n
  induction n using Nat.strongRecOn with | _ n ih => ?_
  intro v4 v5 v6 P hT hK hR i_0 i_1 i_2 i_3 i_4 i_5 i_6 i_7 i_8 i_9 i_10 hm
  have w_t1 := ti_full t1
  have w_t2 := ti_full t2
  have w_t3 := ti_full t3
  have w_v4 := ti_full v4
  have w_v5 := ti_full v5
  have w_v6 := ti_full v6
  have g1 : (0 : Int) ≤ (fv P 302 0).toInt ∧ (fv P 302 0).toInt ≤ 8 := Typ.rng hT rl_302 (by decide) (by decide) rfl
  have g2 : (0 : Int) ≤ (fv P 302 0).toInt ∧ (fv P 302 0).toInt ≤ 8 := Typ.rng hT rl_302 (by decide) (by decide) rfl
  refine mp_a (a_iload dX7_joins_166 rfl) (mpp 168 rfl ?_)
  refine mp_a (a_iload dX7_joins_168 rfl) (mpp 170 rfl ?_)
  refine mp_Tb (t := 235) (j_icmp_ge dX7_joins_170) (by decide) (fun c3 => ?_) (fun c3 => mpp 173 rfl ?_)
  · have c3 : v6.toInt ≥ v5.toInt := ti_ge c3
    refine mp_a (a_aload_n dX7_joins_235 rfl) (mpp 236 rfl ?_)
    refine mt_getU (i := 9) (k := 0) (A := 302) hT dX7_joins_236 rfl rl_301 (by decide) rfl (by decide) rfl un_18 (mpp 239 rfl ?_)
    refine mp_a (a_iload_n dX7_joins_239 rfl) (mpp 240 rfl ?_)
    refine mp_a (a_iconst (v := 1) dX7_joins_240 rfl) (mpp 241 rfl ?_)
    have p4 : 0 ≤ t1.toInt := by omega
    have p5 : t1.toInt ≤ 8 := by omega
    have p6 : 0 ≤ (1 : Int) := by omega
    have p7 : (1 : Int) ≤ 20 := by omega
    refine mp_calls (i := 74) (q' := q_135) (As := [.int t1, .int 1]) (rest := [.ref 302]) dX7_joins_241 rfl qm_135 (by decide) rfl (Nat.le_of_ble_eq_true rfl) rfl ⟨rfl, rfl⟩ ⟨Nat.le_of_ble_eq_true rfl, Nat.le_of_ble_eq_true rfl⟩ (EvP.mono (by decide) (c_M_at hT p4 p5 p6 p7 )) (fun r8 P9 g10 => mpp 244 rfl ?_)
    obtain ⟨⟨x11, rfl, g12⟩, e13⟩ := g10
    have e13 := e13.symm
    subst e13
    have wx11 := ti_full x11
    have g12 : x11.toInt = 3 + 19 * t1.toInt + (1 : Int) := g12
    show MEvP _ none q_154 244 [(0, .ref 301), (1, .int t1), (2, .int t2), (3, .int t3), (4, .int v4), (5, .int v5), (6, .int v6)] [.int x11, .ref 302] _ _ _ _
    refine mp_a (a_iload dX7_joins_244 rfl) (mpp 246 rfl ?_)
    refine mp_a (a_iload dX7_joins_246 rfl) (mpp 248 rfl ?_)
    obtain ⟨z14, h15⟩ := ti_ex (v4 + v5 : Int32)
    have wz14 := ti_full z14
    refine mp_t (s_iadd (v := z14) dX7_joins_248 h15) (mpp 249 rfl ?_)
    try have e16 : z14.toInt = v4.toInt + v5.toInt := ti_addz h15 rfl rfl (by omega) (by omega)
    refine mt_iasX (n := 155) hT dX7_joins_249 rl_302 (by decide) rfl rfl (by omega) (by omega) ssp_0 (okS_mk (by omega) (fun _ => ⟨by omega, by omega⟩) (fun _ => ⟨by omega, by omega⟩)) (fun P17 hT18 f19 f20 f21 => mpp 250 rfl ?_)
    have k22 : KW [1093, 1094, 1152] Po P17 := KW.step hK rl_302 rfl f20 f21
    have R23 := Rel.siz hR (p := t1.toInt.toNat) f20 f19 (by omega) (by omega) ⟨by omega, by omega⟩
    refine mp_a (a_aload_n dX7_joins_250 rfl) (mpp 251 rfl ?_)
    refine mp_a (a_iload_n dX7_joins_251 rfl) (mpp 252 rfl ?_)
    have e24 : (fv P17 302 0).toInt = (fv P 302 0).toInt := congrArg Int32.toInt (f20 302 0 (ne_i (by omega)))
    have p25 : 0 ≤ t2.toInt := by omega
    have p26 : t2.toInt + 1 ≤ (fv P17 302 0).toInt := by omega
    refine mt_callv (i := 148) (q' := q_155) (As := [.int t2]) (rest := []) hT18 dX7_joins_252 rfl qm_155 (by decide) rfl rl_301 (by decide) rfl (Nat.le_of_ble_eq_true rfl) rfl ⟨rfl, rfl⟩ ⟨Nat.le_of_ble_eq_true rfl, Nat.le_of_ble_eq_true rfl⟩ (EvP.mono (by decide) (c_M_goes hT18 R23 p25 p26 )) (fun r27 P28 g29 => mpp 255 rfl ?_)
    obtain ⟨⟨rfl, g31⟩, hT32, k33, R34r, R34⟩ := g29
    have k35 : KW [1093, 1094, 1152] Po P28 := KW.trans k22 k33 rfl
    show MEvP _ none q_154 255 [(0, .ref 301), (1, .int t1), (2, .int t2), (3, .int t3), (4, .int v4), (5, .int v5), (6, .int v6)] [] _ _ _ _
    refine mp_a (a_iload dX7_joins_255 rfl) (mpp 257 rfl ?_)
    refine mp_a (a_iload dX7_joins_257 rfl) (mpp 259 rfl ?_)
    obtain ⟨z37, h38⟩ := ti_ex (v4 + v5 : Int32)
    have wz37 := ti_full z37
    refine mp_t (s_iadd (v := z37) dX7_joins_259 h38) (mpp 260 rfl ?_)
    try have e39 : z37.toInt = v4.toInt + v5.toInt := ti_addz h38 rfl rfl (by omega) (by omega)
    exact mp_iret ⟨⟨_, rfl, trivial⟩, hT32, k35, R34r⟩ dX7_joins_260 (Or.inl rfl)
  · have c3 : v6.toInt < v5.toInt := ti_ge_n c3
    refine mp_a (a_aload_n dX7_joins_173 rfl) (mpp 174 rfl ?_)
    refine mt_getU (i := 9) (k := 0) (A := 302) hT dX7_joins_174 rfl rl_301 (by decide) rfl (by decide) rfl un_18 (mpp 177 rfl ?_)
    refine mp_a (a_iload_n dX7_joins_177 rfl) (mpp 178 rfl ?_)
    refine mp_a (a_iconst (v := 3) dX7_joins_178 rfl) (mpp 179 rfl ?_)
    refine mp_a (a_iload dX7_joins_179 rfl) (mpp 181 rfl ?_)
    obtain ⟨z40, h41⟩ := ti_ex (3 + v4 : Int32)
    have wz40 := ti_full z40
    refine mp_t (s_iadd (v := z40) dX7_joins_181 h41) (mpp 182 rfl ?_)
    try have e42 : z40.toInt = 3 + v4.toInt := ti_addz h41 rfl rfl (by omega) (by omega)
    refine mp_a (a_iload dX7_joins_182 rfl) (mpp 184 rfl ?_)
    obtain ⟨z43, h44⟩ := ti_ex (z40 + v6 : Int32)
    have wz43 := ti_full z43
    refine mp_t (s_iadd (v := z43) dX7_joins_184 h44) (mpp 185 rfl ?_)
    try have e45 : z43.toInt = z40.toInt + v6.toInt := ti_addz h44 rfl rfl (by omega) (by omega)
    have p46 : 0 ≤ t1.toInt := by omega
    have p47 : t1.toInt ≤ 8 := by omega
    have p48 : 0 ≤ z43.toInt := by omega
    have p49 : z43.toInt ≤ 20 := by omega
    refine mp_calls (i := 74) (q' := q_135) (As := [.int t1, .int z43]) (rest := [.ref 302]) dX7_joins_185 rfl qm_135 (by decide) rfl (Nat.le_of_ble_eq_true rfl) rfl ⟨rfl, rfl⟩ ⟨Nat.le_of_ble_eq_true rfl, Nat.le_of_ble_eq_true rfl⟩ (EvP.mono (by decide) (c_M_at hT p46 p47 p48 p49 )) (fun r50 P51 g52 => mpp 188 rfl ?_)
    obtain ⟨⟨x53, rfl, g54⟩, e55⟩ := g52
    have e55 := e55.symm
    subst e55
    have wx53 := ti_full x53
    have g54 : x53.toInt = 3 + 19 * t1.toInt + z43.toInt := g54
    show MEvP _ none q_154 188 [(0, .ref 301), (1, .int t1), (2, .int t2), (3, .int t3), (4, .int v4), (5, .int v5), (6, .int v6)] [.int x53, .ref 302] _ _ _ _
    refine mp_a (a_aload_n dX7_joins_188 rfl) (mpp 189 rfl ?_)
    refine mp_a (a_iload_n dX7_joins_189 rfl) (mpp 190 rfl ?_)
    refine mp_a (a_iload dX7_joins_190 rfl) (mpp 192 rfl ?_)
    have p56 : 0 ≤ t2.toInt := by omega
    have p57 : t2.toInt ≤ 7 := by omega
    have p58 : 0 ≤ v6.toInt := by omega
    have p59 : v6.toInt ≤ 7 := by omega
    refine mt_callv (i := 142) (q' := q_152) (As := [.int t2, .int v6]) (rest := [.int x53, .ref 302]) hT dX7_joins_192 rfl qm_152 (by decide) rfl rl_301 (by decide) rfl (Nat.le_of_ble_eq_true rfl) rfl ⟨rfl, rfl⟩ ⟨Nat.le_of_ble_eq_true rfl, Nat.le_of_ble_eq_true rfl⟩ (EvP.mono (by decide) (c_M_sizeOf hT p56 p57 p58 p59 )) (fun r60 P61 g62 => mpp 195 rfl ?_)
    obtain ⟨⟨x63, rfl, g64⟩, e65⟩ := g62
    have e65 := e65.symm
    subst e65
    have wx63 := ti_full x63
    show MEvP _ none q_154 195 [(0, .ref 301), (1, .int t1), (2, .int t2), (3, .int t3), (4, .int v4), (5, .int v5), (6, .int v6)] [.int x63, .int x53, .ref 302] _ _ _ _
    refine mt_iasX (n := 155) hT dX7_joins_195 rl_302 (by decide) rfl rfl (by omega) (by omega) ssp_0 (okS_mk (by omega) (fun _ => ⟨by omega, by omega⟩) (fun _ => ⟨by omega, by omega⟩)) (fun P66 hT67 f68 f69 f70 => mpp 196 rfl ?_)
    have k71 : KW [1093, 1094, 1152] Po P66 := KW.step hK rl_302 rfl f69 f70
    have R72 := Rel.oth hR f69 (by omega)
    refine mp_a (a_iload dX7_joins_196 rfl) (mpp 198 rfl ?_)
    refine mp_a (a_iload dX7_joins_198 rfl) (mpp 200 rfl ?_)
    refine mp_a (a_iconst (v := 1) dX7_joins_200 rfl) (mpp 201 rfl ?_)
    obtain ⟨z73, h74⟩ := ti_ex (v5 - 1 : Int32)
    have wz73 := ti_full z73
    refine mp_t (s_isub (v := z73) dX7_joins_201 h74) (mpp 202 rfl ?_)
    try have e75 : z73.toInt = v5.toInt - 1 := ti_subz h74 rfl rfl (by omega) (by omega)
    refine mp_Tb (t := 229) (j_icmp_ge dX7_joins_202) (by decide) (fun c76 => ?_) (fun c76 => mpp 205 rfl ?_)
    · have c76 : v6.toInt ≥ z73.toInt := ti_ge c76
      obtain ⟨z77, h78⟩ := ti_ex (v6 + 1 : Int32)
      have wz77 := ti_full z77
      refine mp_a (a_iinc (v := z77) (L' := [(6, .int z77), (0, .ref 301), (1, .int t1), (2, .int t2), (3, .int t3), (4, .int v4), (5, .int v5)]) dX7_joins_229 (by decide) rfl h78 rfl) (mpp 232 rfl ?_)
      try have e79 : z77.toInt = v6.toInt + 1 := ti_addz h78 rfl rfl (by omega) (by omega)
      refine mp_a (a_goto (t := 166) dX7_joins_232 (by decide)) ?_
      refine MEvP.less (L := [(0, .ref 301), (1, .int t1), (2, .int t2), (3, .int t3), (4, .int v4), (5, .int v5), (6, .int z77)]) rfl rfl ⟨rfl, rfl, rfl, rfl, rfl, rfl, rfl, trivial⟩ ?_
      have i80 : 0 ≤ t1.toInt := by omega
      have i81 : t1.toInt ≤ 7 := by omega
      have i82 : 0 ≤ t2.toInt := by omega
      have i83 : t2.toInt ≤ 7 := by omega
      have i84 : 0 ≤ v4.toInt := by omega
      have i85 : 0 ≤ v5.toInt := by omega
      have i86 : v4.toInt + v5.toInt ≤ 7 := by omega
      have i87 : 2 ≤ v4.toInt := by omega
      have e88 : (fv P66 302 0).toInt = (fv P 302 0).toInt := congrArg Int32.toInt (f69 302 0 (ne_i (by omega)))
      have i89 : (fv P66 302 0).toInt = (fv Po 302 0).toInt := by omega
      have i90 : t2.toInt + 1 ≤ (fv Po 302 0).toInt := by omega
      have i91 : 0 ≤ z77.toInt := by omega
      exact ih _ (by omega) _ _ _ P66 hT67 k71 R72 i80 i81 i82 i83 i84 i85 i86 i87 i89 i90 i91 rfl
    · have c76 : v6.toInt < z73.toInt := ti_ge_n c76
      refine mp_a (a_aload_n dX7_joins_205 rfl) (mpp 206 rfl ?_)
      refine mt_getU (i := 9) (k := 0) (A := 302) hT67 dX7_joins_206 rfl rl_301 (by decide) rfl (by decide) rfl un_18 (mpp 209 rfl ?_)
      refine mp_a (a_iload_n dX7_joins_209 rfl) (mpp 210 rfl ?_)
      refine mp_a (a_bipush (v := 11) dX7_joins_210 rfl) (mpp 212 rfl ?_)
      refine mp_a (a_iload dX7_joins_212 rfl) (mpp 214 rfl ?_)
      obtain ⟨z92, h93⟩ := ti_ex (11 + v4 : Int32)
      have wz92 := ti_full z92
      refine mp_t (s_iadd (v := z92) dX7_joins_214 h93) (mpp 215 rfl ?_)
      try have e94 : z92.toInt = 11 + v4.toInt := ti_addz h93 rfl rfl (by omega) (by omega)
      refine mp_a (a_iload dX7_joins_215 rfl) (mpp 217 rfl ?_)
      obtain ⟨z95, h96⟩ := ti_ex (z92 + v6 : Int32)
      have wz95 := ti_full z95
      refine mp_t (s_iadd (v := z95) dX7_joins_217 h96) (mpp 218 rfl ?_)
      try have e97 : z95.toInt = z92.toInt + v6.toInt := ti_addz h96 rfl rfl (by omega) (by omega)
      have p98 : 0 ≤ t1.toInt := by omega
      have p99 : t1.toInt ≤ 8 := by omega
      have p100 : 0 ≤ z95.toInt := by omega
      have p101 : z95.toInt ≤ 20 := by omega
      refine mp_calls (i := 74) (q' := q_135) (As := [.int t1, .int z95]) (rest := [.ref 302]) dX7_joins_218 rfl qm_135 (by decide) rfl (Nat.le_of_ble_eq_true rfl) rfl ⟨rfl, rfl⟩ ⟨Nat.le_of_ble_eq_true rfl, Nat.le_of_ble_eq_true rfl⟩ (EvP.mono (by decide) (c_M_at hT67 p98 p99 p100 p101 )) (fun r102 P103 g104 => mpp 221 rfl ?_)
      obtain ⟨⟨x105, rfl, g106⟩, e107⟩ := g104
      have e107 := e107.symm
      subst e107
      have wx105 := ti_full x105
      have g106 : x105.toInt = 3 + 19 * t1.toInt + z95.toInt := g106
      show MEvP _ none q_154 221 [(0, .ref 301), (1, .int t1), (2, .int t2), (3, .int t3), (4, .int v4), (5, .int v5), (6, .int v6)] [.int x105, .ref 302] _ _ _ _
      refine mp_a (a_aload_n dX7_joins_221 rfl) (mpp 222 rfl ?_)
      refine mp_a (a_iload_n dX7_joins_222 rfl) (mpp 223 rfl ?_)
      refine mp_a (a_iload dX7_joins_223 rfl) (mpp 225 rfl ?_)
      have p108 : 0 ≤ t2.toInt := by omega
      have p109 : t2.toInt ≤ 7 := by omega
      have p110 : 0 ≤ v6.toInt := by omega
      have p111 : v6.toInt ≤ 7 := by omega
      refine mt_callv (i := 92) (q' := q_146) (As := [.int t2, .int v6]) (rest := [.int x105, .ref 302]) hT67 dX7_joins_225 rfl qm_146 (by decide) rfl rl_301 (by decide) rfl (Nat.le_of_ble_eq_true rfl) rfl ⟨rfl, rfl⟩ ⟨Nat.le_of_ble_eq_true rfl, Nat.le_of_ble_eq_true rfl⟩ (EvP.mono (by decide) (c_M_creaseOf hT67 p108 p109 p110 p111 )) (fun r112 P113 g114 => mpp 228 rfl ?_)
      obtain ⟨⟨x115, rfl, g116⟩, e117⟩ := g114
      have e117 := e117.symm
      subst e117
      have wx115 := ti_full x115
      have g116 : x115.toInt = (fv P66 302 (14 + 19 * t2.toInt.toNat + v6.toInt.toNat)).toInt := g116
      show MEvP _ none q_154 228 [(0, .ref 301), (1, .int t1), (2, .int t2), (3, .int t3), (4, .int v4), (5, .int v5), (6, .int v6)] [.int x115, .int x105, .ref 302] _ _ _ _
      refine mt_iasX (n := 155) hT67 dX7_joins_228 rl_302 (by decide) rfl rfl (by omega) (by omega) ssp_0 (okS_mk (by omega) (fun _ => ⟨by omega, by omega⟩) (fun _ => ⟨by omega, by omega⟩)) (fun P118 hT119 f120 f121 f122 => mpp 229 rfl ?_)
      have k123 : KW [1093, 1094, 1152] Po P118 := KW.step k71 rl_302 rfl f121 f122
      have R124 := Rel.oth R72 f121 (by omega)
      obtain ⟨z125, h126⟩ := ti_ex (v6 + 1 : Int32)
      have wz125 := ti_full z125
      refine mp_a (a_iinc (v := z125) (L' := [(6, .int z125), (0, .ref 301), (1, .int t1), (2, .int t2), (3, .int t3), (4, .int v4), (5, .int v5)]) dX7_joins_229 (by decide) rfl h126 rfl) (mpp 232 rfl ?_)
      try have e127 : z125.toInt = v6.toInt + 1 := ti_addz h126 rfl rfl (by omega) (by omega)
      refine mp_a (a_goto (t := 166) dX7_joins_232 (by decide)) ?_
      refine MEvP.less (L := [(0, .ref 301), (1, .int t1), (2, .int t2), (3, .int t3), (4, .int v4), (5, .int v5), (6, .int z125)]) rfl rfl ⟨rfl, rfl, rfl, rfl, rfl, rfl, rfl, trivial⟩ ?_
      have i128 : 0 ≤ t1.toInt := by omega
      have i129 : t1.toInt ≤ 7 := by omega
      have i130 : 0 ≤ t2.toInt := by omega
      have i131 : t2.toInt ≤ 7 := by omega
      have i132 : 0 ≤ v4.toInt := by omega
      have i133 : 0 ≤ v5.toInt := by omega
      have i134 : v4.toInt + v5.toInt ≤ 7 := by omega
      have i135 : 2 ≤ v4.toInt := by omega
      have e136 : (fv P118 302 0).toInt = (fv P 302 0).toInt := congrArg Int32.toInt ((f121 302 0 (ne_i (by omega))).trans (f69 302 0 (ne_i (by omega))))
      have i137 : (fv P118 302 0).toInt = (fv Po 302 0).toInt := by omega
      have i138 : t2.toInt + 1 ≤ (fv Po 302 0).toInt := by omega
      have i139 : 0 ≤ z125.toInt := by omega
      exact ih _ (by omega) _ _ _ P118 hT119 k123 R124 i128 i129 i130 i131 i132 i133 i134 i135 i137 i138 i139 rfl

