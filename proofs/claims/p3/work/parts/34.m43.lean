/-! methods on typed pools, 43 (written by a program) -/
set_option maxHeartbeats 4000000 in
theorem c_M_thickest_l28 {Po : mP} {t1 : Int32} (hT : Typ Po)   : ∀ (n : Nat) (v2 : Int32) (v3 : Int32), (0 ≤ t1.toInt) → (t1.toInt ≤ 7) → (0 ≤ v3.toInt) → (2147483647 - v3.toInt).toNat = n → MEvP 5 none q_211 28 [(0, .ref 301), (1, .int t1), (2, .int v2), (3, .int v3)] [] Po 0 0 (fun r P' => (∃ x : Int32, r = some (.int x) ∧ (True)) ∧ P' = Po) := by
  intro n
  induction n using Nat.strongRecOn with | _ n ih => ?_
  intro v2 v3 i_0 i_1 i_2 hm
  have w_t1 := ti_full t1
  have w_v2 := ti_full v2
  have w_v3 := ti_full v3
  refine mp_a (a_iload_n dX7_thickest_28 rfl) (mpp 29 rfl ?_)
  refine mp_a (a_aload_n dX7_thickest_29 rfl) (mpp 30 rfl ?_)
  refine mp_a (a_iload_n dX7_thickest_30 rfl) (mpp 31 rfl ?_)
  refine mp_a (a_iconst (v := 1) dX7_thickest_31 rfl) (mpp 32 rfl ?_)
  have p1 : 0 ≤ t1.toInt := by omega
  have p2 : t1.toInt ≤ 7 := by omega
  have p3 : 0 ≤ (1 : Int) := by omega
  have p4 : (1 : Int) ≤ 18 := by omega
  refine mt_callv (i := 78) (q' := q_137) (As := [.int t1, .int 1]) (rest := [.int v3]) hT dX7_thickest_32 rfl qm_137 (by decide) rfl rl_301 (by decide) rfl (Nat.le_of_ble_eq_true rfl) rfl ⟨rfl, rfl⟩ ⟨Nat.le_of_ble_eq_true rfl, Nat.le_of_ble_eq_true rfl⟩ (EvP.mono (by decide) (c_M_of_c1 hT p1 p2 p3 p4 )) (fun r5 P6 g7 => mpp 35 rfl ?_)
  obtain ⟨⟨x8, rfl, g9⟩, e10⟩ := g7
  have e10 := e10.symm
  subst e10
  have wx8 := ti_full x8
  replace g9 : x8.toInt = (fv Po 302 (4 + 19 * t1.toInt.toNat)).toInt ∧ 0 ≤ x8.toInt ∧ x8.toInt ≤ 8 := g9
  try have g11 : (0 : Int) ≤ (fv Po 302 (4 + 19 * t1.toInt.toNat)).toInt ∧ (fv Po 302 (4 + 19 * t1.toInt.toNat)).toInt ≤ 8 := s4_rng hT (by omega)
  show MEvP _ none q_211 35 [(0, .ref 301), (1, .int t1), (2, .int v2), (3, .int v3)] [.int x8, .int v3] _ _ _ _
  refine mp_Tb (t := 101) (j_icmp_ge dX7_thickest_35) (by decide) (fun c12 => ?_) (fun c12 => mpp 38 rfl ?_)
  · have c12 : v3.toInt ≥ x8.toInt := ti_ge c12
    refine mp_a (a_iload_n dX7_thickest_101 rfl) (mpp 102 rfl ?_)
    exact mp_iret ⟨⟨_, rfl, trivial⟩, rfl⟩ dX7_thickest_102 (Or.inl rfl)
  · have c12 : v3.toInt < x8.toInt := ti_ge_n c12
    refine mp_a (a_aload_n dX7_thickest_38 rfl) (mpp 39 rfl ?_)
    refine mp_a (a_iload_n dX7_thickest_39 rfl) (mpp 40 rfl ?_)
    refine mp_a (a_iload_n dX7_thickest_40 rfl) (mpp 41 rfl ?_)
    have p13 : 0 ≤ t1.toInt := by omega
    have p14 : t1.toInt ≤ 7 := by omega
    have p15 : v3.toInt ≤ 8 := by omega
    refine mt_callv (i := 225) (q' := q_186) (As := [.int t1, .int v3]) (rest := []) hT dX7_thickest_41 rfl qm_186 (by decide) rfl rl_301 (by decide) rfl (Nat.le_of_ble_eq_true rfl) rfl ⟨rfl, rfl⟩ ⟨Nat.le_of_ble_eq_true rfl, Nat.le_of_ble_eq_true rfl⟩ (EvP.mono (by decide) (c_M_placeOf hT p13 p14 p15 )) (fun r16 P17 g18 => mpp 44 rfl ?_)
    obtain ⟨⟨x19, rfl, g20⟩, e21⟩ := g18
    have e21 := e21.symm
    subst e21
    have wx19 := ti_full x19
    replace g20 : x19.toInt = (plF (fun j : Nat => fv Po 302 (6 + 19 * t1.toInt.toNat + j)) v3.toInt.toNat).toInt := g20
    show MEvP _ none q_211 44 [(0, .ref 301), (1, .int t1), (2, .int v2), (3, .int v3)] [.int x19] _ _ _ _
    refine mp_a (a_istore (L' := [(4, .int x19), (0, .ref 301), (1, .int t1), (2, .int v2), (3, .int v3)]) dX7_thickest_44 (by decide) rfl) (mpp 46 rfl ?_)
    refine mp_a (a_aload_n dX7_thickest_46 rfl) (mpp 47 rfl ?_)
    refine mp_a (a_iload_n dX7_thickest_47 rfl) (mpp 48 rfl ?_)
    refine mp_a (a_iload_n dX7_thickest_48 rfl) (mpp 49 rfl ?_)
    refine mp_a (a_iconst (v := 1) dX7_thickest_49 rfl) (mpp 50 rfl ?_)
    obtain ⟨z22, h23⟩ := ti_ex (v3 + 1 : Int32)
    have wz22 := ti_full z22
    refine mp_t (s_iadd (v := z22) dX7_thickest_50 h23) (mpp 51 rfl ?_)
    try have e24 : z22.toInt = v3.toInt + 1 := ti_addz h23 rfl rfl (by omega) (by omega)
    have p25 : 0 ≤ t1.toInt := by omega
    have p26 : t1.toInt ≤ 7 := by omega
    have p27 : z22.toInt ≤ 8 := by omega
    refine mt_callv (i := 225) (q' := q_186) (As := [.int t1, .int z22]) (rest := []) hT dX7_thickest_51 rfl qm_186 (by decide) rfl rl_301 (by decide) rfl (Nat.le_of_ble_eq_true rfl) rfl ⟨rfl, rfl⟩ ⟨Nat.le_of_ble_eq_true rfl, Nat.le_of_ble_eq_true rfl⟩ (EvP.mono (by decide) (c_M_placeOf hT p25 p26 p27 )) (fun r28 P29 g30 => mpp 54 rfl ?_)
    obtain ⟨⟨x31, rfl, g32⟩, e33⟩ := g30
    have e33 := e33.symm
    subst e33
    have wx31 := ti_full x31
    replace g32 : x31.toInt = (plF (fun j : Nat => fv Po 302 (6 + 19 * t1.toInt.toNat + j)) z22.toInt.toNat).toInt := g32
    show MEvP _ none q_211 54 [(4, .int x19), (0, .ref 301), (1, .int t1), (2, .int v2), (3, .int v3)] [.int x31] _ _ _ _
    refine mp_a (a_istore (L' := [(5, .int x31), (4, .int x19), (0, .ref 301), (1, .int t1), (2, .int v2), (3, .int v3)]) dX7_thickest_54 (by decide) rfl) (mpp 56 rfl ?_)
    refine mp_a (a_iload dX7_thickest_56 rfl) (mpp 58 rfl ?_)
    refine mp_a (a_iload dX7_thickest_58 rfl) (mpp 60 rfl ?_)
    refine mp_calls (i := 155) (q' := q_158) (As := [.int x19, .int x31]) (rest := []) dX7_thickest_60 rfl qm_158 (by decide) rfl (Nat.le_of_ble_eq_true rfl) rfl ⟨rfl, rfl⟩ ⟨Nat.le_of_ble_eq_true rfl, Nat.le_of_ble_eq_true rfl⟩ (EvP.mono (by decide) (c_M_lesser hT )) (fun r34 P35 g36 => mpp 63 rfl ?_)
    obtain ⟨⟨x37, rfl, g38⟩, e39⟩ := g36
    have e39 := e39.symm
    subst e39
    have wx37 := ti_full x37
    replace g38 : (x37.toInt = x19.toInt ∧ x19.toInt ≤ x31.toInt) ∨ (x37.toInt = x31.toInt ∧ x31.toInt ≤ x19.toInt) := g38
    show MEvP _ none q_211 63 [(5, .int x31), (4, .int x19), (0, .ref 301), (1, .int t1), (2, .int v2), (3, .int v3)] [.int x37] _ _ _ _
    refine mp_a (a_istore (L' := [(6, .int x37), (5, .int x31), (4, .int x19), (0, .ref 301), (1, .int t1), (2, .int v2), (3, .int v3)]) dX7_thickest_63 (by decide) rfl) (mpp 65 rfl ?_)
    refine MEvP.less (L := [(0, .ref 301), (1, .int t1), (2, .int v2), (3, .int v3), (4, .int x19), (5, .int x31), (6, .int x37)]) rfl rfl ⟨rfl, rfl, rfl, rfl, rfl, rfl, rfl, trivial⟩ ?_
    have i40 : 0 ≤ t1.toInt := by omega
    have i41 : t1.toInt ≤ 7 := by omega
    have i42 : 0 ≤ v3.toInt := by omega
    have i43 : v3.toInt ≤ 7 := by omega
    exact c_M_thickest_l65 hT   ih _ _ _ _ _ _ i40 i41 i42 i43 hm rfl

set_option maxHeartbeats 4000000 in
theorem c_M_thickest {Po : mP} {t1 : Int32} (hT : Typ Po)   : EvP 6 211 [.ref 301, .int t1] Po (fun r P' => (∃ x : Int32, r = some (.int x) ∧ (True)) ∧ P' = Po) := by
  refine EvP.of qm_211 (Nat.le_of_ble_eq_true rfl) rfl ?_
  show MEvP _ none q_211 0 [(0, .ref 301), (1, .int t1)] [] _ 0 0 _
  have w_t1 := ti_full t1
  refine mp_a (a_aload_n dX7_thickest_0 rfl) (mpp 1 rfl ?_)
  refine mp_a (a_iload_n dX7_thickest_1 rfl) (mpp 2 rfl ?_)
  refine mt_callv (i := 85) (q' := q_144) (As := [.int t1]) (rest := []) hT dX7_thickest_2 rfl qm_144 (by decide) rfl rl_301 (by decide) rfl (Nat.le_of_ble_eq_true rfl) rfl ⟨rfl, rfl⟩ ⟨Nat.le_of_ble_eq_true rfl, Nat.le_of_ble_eq_true rfl⟩ (EvP.mono (by decide) (c_M_isPiece hT )) (fun r1 P2 g3 => mpp 5 rfl ?_)
  obtain ⟨⟨x4, rfl, g5⟩, e6⟩ := g3
  have e6 := e6.symm
  subst e6
  have wx4 := ti_full x4
  replace g5 : 0 ≤ x4.toInt ∧ x4.toInt ≤ 1 ∧ ((x4.toInt = 1 ∧ 0 ≤ t1.toInt ∧ t1.toInt + 1 ≤ (fv Po 302 0).toInt ∧ t1.toInt ≤ 7) ∨ (x4.toInt = 0 ∧ (t1.toInt < 0 ∨ (fv Po 302 0).toInt ≤ t1.toInt))) := g5
  have g7 : (0 : Int) ≤ (fv Po 302 0).toInt ∧ (fv Po 302 0).toInt ≤ 8 := Typ.rng hT rl_302 (by decide) (by decide) rfl
  show MEvP _ none q_211 5 [(0, .ref 301), (1, .int t1)] [.int x4] _ _ _ _
  refine mp_Tb (t := 12) (j_if_ne dX7_thickest_5) (by decide) (fun c8 => ?_) (fun c8 => mpp 8 rfl ?_)
  · have c8 : x4.toInt ≠ 0 := ti_ne c8
    refine mp_a (a_aload_n dX7_thickest_12 rfl) (mpp 13 rfl ?_)
    refine mp_a (a_iload_n dX7_thickest_13 rfl) (mpp 14 rfl ?_)
    have p9 : 0 ≤ t1.toInt := by omega
    have p10 : t1.toInt ≤ 7 := by omega
    refine mt_callv (i := 81) (q' := q_138) (As := [.int t1]) (rest := []) hT dX7_thickest_14 rfl qm_138 (by decide) rfl rl_301 (by decide) rfl (Nat.le_of_ble_eq_true rfl) rfl ⟨rfl, rfl⟩ ⟨Nat.le_of_ble_eq_true rfl, Nat.le_of_ble_eq_true rfl⟩ (EvP.mono (by decide) (c_M_isCorner hT p9 p10 )) (fun r11 P12 g13 => mpp 17 rfl ?_)
    obtain ⟨⟨x14, rfl, g15⟩, e16⟩ := g13
    have e16 := e16.symm
    subst e16
    have wx14 := ti_full x14
    replace g15 : 0 ≤ x14.toInt ∧ x14.toInt ≤ 1 ∧ ((x14.toInt = 1 ∧ (fv Po 302 (3 + 19 * t1.toInt.toNat)).toInt = 1) ∨ (x14.toInt = 0 ∧ (fv Po 302 (3 + 19 * t1.toInt.toNat)).toInt = 0)) := g15
    try have g17 : (0 : Int) ≤ (fv Po 302 (3 + 19 * t1.toInt.toNat)).toInt ∧ (fv Po 302 (3 + 19 * t1.toInt.toNat)).toInt ≤ 1 := s3_rng hT (by omega)
    show MEvP _ none q_211 17 [(0, .ref 301), (1, .int t1)] [.int x14] _ _ _ _
    refine mp_Tb (t := 24) (j_if_eq dX7_thickest_17) (by decide) (fun c18 => ?_) (fun c18 => mpp 20 rfl ?_)
    · have c18 : x14.toInt = 0 := ti_eq c18
      refine mp_a (a_iconst (v := 0) dX7_thickest_24 rfl) (mpp 25 rfl ?_)
      refine mp_a (a_istore_n (L' := [(2, .int 0), (0, .ref 301), (1, .int t1)]) dX7_thickest_25 (by decide) rfl) (mpp 26 rfl ?_)
      refine mp_a (a_iconst (v := 0) dX7_thickest_26 rfl) (mpp 27 rfl ?_)
      refine mp_a (a_istore_n (L' := [(3, .int 0), (2, .int 0), (0, .ref 301), (1, .int t1)]) dX7_thickest_27 (by decide) rfl) (mpp 28 rfl ?_)
      refine MEvP.less (L := [(0, .ref 301), (1, .int t1), (2, .int 0), (3, .int 0)]) rfl rfl ⟨rfl, rfl, rfl, rfl, trivial⟩ ?_
      have i19 : 0 ≤ t1.toInt := by omega
      have i20 : t1.toInt ≤ 7 := by omega
      have i21 : 0 ≤ (0 : Int) := by omega
      exact c_M_thickest_l28 hT   _ _ _ i19 i20 i21 rfl
    · have c18 : x14.toInt ≠ 0 := ti_eq_n c18
      refine mp_a (a_sipush (v := -1002) dX7_thickest_20 rfl) (mpp 23 rfl ?_)
      exact mp_iret ⟨⟨_, rfl, trivial⟩, rfl⟩ dX7_thickest_23 (Or.inl rfl)
  · have c8 : x4.toInt = 0 := ti_ne_n c8
    refine mp_a (a_sipush (v := -1001) dX7_thickest_8 rfl) (mpp 11 rfl ?_)
    exact mp_iret ⟨⟨_, rfl, trivial⟩, rfl⟩ dX7_thickest_11 (Or.inl rfl)

set_option maxHeartbeats 4000000 in
theorem c_M_reflected_l31 {Po : mP} {t1 : Int32} (hT : Typ Po)   : ∀ (n : Nat) (v2 : Int32) (v3 : Int32) (v4 : Int32), (0 ≤ t1.toInt) → (t1.toInt ≤ 7) → (0 ≤ v4.toInt) → (2147483647 - v4.toInt).toNat = n → MEvP 3 none q_213 31 [(0, .ref 301), (1, .int t1), (2, .int v2), (3, .int v3), (4, .int v4)] [] Po 0 0 (fun r P' => (∃ x : Int32, r = some (.int x) ∧ (True)) ∧ P' = Po) := by
  intro n
  induction n using Nat.strongRecOn with | _ n ih => ?_
  intro v2 v3 v4 i_0 i_1 i_2 hm
  have w_t1 := ti_full t1
  have w_v2 := ti_full v2
  have w_v3 := ti_full v3
  have w_v4 := ti_full v4
  refine mp_a (a_iload dX7_reflected_31 rfl) (mpp 33 rfl ?_)
  refine mp_a (a_aload_n dX7_reflected_33 rfl) (mpp 34 rfl ?_)
  refine mp_a (a_iload_n dX7_reflected_34 rfl) (mpp 35 rfl ?_)
  refine mp_a (a_iconst (v := 1) dX7_reflected_35 rfl) (mpp 36 rfl ?_)
  have p1 : 0 ≤ t1.toInt := by omega
  have p2 : t1.toInt ≤ 7 := by omega
  have p3 : 0 ≤ (1 : Int) := by omega
  have p4 : (1 : Int) ≤ 18 := by omega
  refine mt_callv (i := 78) (q' := q_137) (As := [.int t1, .int 1]) (rest := [.int v4]) hT dX7_reflected_36 rfl qm_137 (by decide) rfl rl_301 (by decide) rfl (Nat.le_of_ble_eq_true rfl) rfl ⟨rfl, rfl⟩ ⟨Nat.le_of_ble_eq_true rfl, Nat.le_of_ble_eq_true rfl⟩ (EvP.mono (by decide) (c_M_of_c1 hT p1 p2 p3 p4 )) (fun r5 P6 g7 => mpp 39 rfl ?_)
  obtain ⟨⟨x8, rfl, g9⟩, e10⟩ := g7
  have e10 := e10.symm
  subst e10
  have wx8 := ti_full x8
  replace g9 : x8.toInt = (fv Po 302 (4 + 19 * t1.toInt.toNat)).toInt ∧ 0 ≤ x8.toInt ∧ x8.toInt ≤ 8 := g9
  try have g11 : (0 : Int) ≤ (fv Po 302 (4 + 19 * t1.toInt.toNat)).toInt ∧ (fv Po 302 (4 + 19 * t1.toInt.toNat)).toInt ≤ 8 := s4_rng hT (by omega)
  show MEvP _ none q_213 39 [(0, .ref 301), (1, .int t1), (2, .int v2), (3, .int v3), (4, .int v4)] [.int x8, .int v4] _ _ _ _
  refine mp_Tb (t := 73) (j_icmp_ge dX7_reflected_39) (by decide) (fun c12 => ?_) (fun c12 => mpp 42 rfl ?_)
  · have c12 : v4.toInt ≥ x8.toInt := ti_ge c12
    refine mp_a (a_iload_n dX7_reflected_73 rfl) (mpp 74 rfl ?_)
    exact mp_iret ⟨⟨_, rfl, trivial⟩, rfl⟩ dX7_reflected_74 (Or.inl rfl)
  · have c12 : v4.toInt < x8.toInt := ti_ge_n c12
    refine mp_a (a_iconst (v := 2) dX7_reflected_42 rfl) (mpp 43 rfl ?_)
    refine mp_a (a_iload_n dX7_reflected_43 rfl) (mpp 44 rfl ?_)
    obtain ⟨z13, h14⟩ := ti_ex (2 * v3 : Int32)
    have wz13 := ti_full z13
    refine mp_t (s_imul (v := z13) dX7_reflected_44 h14) (mpp 45 rfl ?_)
    try have e15 : z13.toInt = 2 * v3.toInt := ti_mulz h14 rfl rfl (by omega) (by omega)
    refine mp_a (a_iload_n dX7_reflected_45 rfl) (mpp 46 rfl ?_)
    obtain ⟨z16, h17⟩ := ti_ex (z13 - v2 : Int32)
    have wz16 := ti_full z16
    refine mp_t (s_isub (v := z16) dX7_reflected_46 h17) (mpp 47 rfl ?_)
    try have e18 : z16.toInt = z13.toInt - v2.toInt := ti_subz h17 rfl rfl (by omega) (by omega)
    refine mp_a (a_bipush (v := 24) dX7_reflected_47 rfl) (mpp 49 rfl ?_)
    obtain ⟨z19, h20⟩ := ti_ex (z16 - z16 / 24 * 24 : Int32)
    have wz19 := ti_full z19
    try have e22 : z19.toInt = z16.toInt % 24 := ti_remx h20 (show (0 : Int) ≤ z16.toInt by omega) (show (0 : Int) < 24 by omega)
    try have e21 : 0 ≤ z19.toInt ∧ z19.toInt < 24 := ti_rem h20 (show (0 : Int) ≤ z16.toInt by omega) (show (0 : Int) < 24 by omega)
    refine mp_t (s_irem (v := z19) dX7_reflected_49 (by decide) h20) (mpp 50 rfl ?_)
    refine mp_a (a_bipush (v := 24) dX7_reflected_50 rfl) (mpp 52 rfl ?_)
    obtain ⟨z23, h24⟩ := ti_ex (z19 + 24 : Int32)
    have wz23 := ti_full z23
    refine mp_t (s_iadd (v := z23) dX7_reflected_52 h24) (mpp 53 rfl ?_)
    try have e25 : z23.toInt = z19.toInt + 24 := ti_addz h24 rfl rfl (by omega) (by omega)
    refine mp_a (a_bipush (v := 24) dX7_reflected_53 rfl) (mpp 55 rfl ?_)
    obtain ⟨z26, h27⟩ := ti_ex (z23 - z23 / 24 * 24 : Int32)
    have wz26 := ti_full z26
    try have e29 : z26.toInt = z23.toInt % 24 := ti_remx h27 (show (0 : Int) ≤ z23.toInt by omega) (show (0 : Int) < 24 by omega)
    try have e28 : 0 ≤ z26.toInt ∧ z26.toInt < 24 := ti_rem h27 (show (0 : Int) ≤ z23.toInt by omega) (show (0 : Int) < 24 by omega)
    refine mp_t (s_irem (v := z26) dX7_reflected_55 (by decide) h27) (mpp 56 rfl ?_)
    refine mp_a (a_istore_n (L' := [(2, .int z26), (0, .ref 301), (1, .int t1), (3, .int v3), (4, .int v4)]) dX7_reflected_56 (by decide) rfl) (mpp 57 rfl ?_)
    refine mp_a (a_iload_n dX7_reflected_57 rfl) (mpp 58 rfl ?_)
    refine mp_a (a_aload_n dX7_reflected_58 rfl) (mpp 59 rfl ?_)
    refine mp_a (a_iload_n dX7_reflected_59 rfl) (mpp 60 rfl ?_)
    refine mp_a (a_iload dX7_reflected_60 rfl) (mpp 62 rfl ?_)
    have p30 : 0 ≤ t1.toInt := by omega
    have p31 : t1.toInt ≤ 7 := by omega
    have p32 : 0 ≤ v4.toInt := by omega
    have p33 : v4.toInt ≤ 7 := by omega
    refine mt_callv (i := 142) (q' := q_152) (As := [.int t1, .int v4]) (rest := [.int v3]) hT dX7_reflected_62 rfl qm_152 (by decide) rfl rl_301 (by decide) rfl (Nat.le_of_ble_eq_true rfl) rfl ⟨rfl, rfl⟩ ⟨Nat.le_of_ble_eq_true rfl, Nat.le_of_ble_eq_true rfl⟩ (EvP.mono (by decide) (c_M_sizeOf hT p30 p31 p32 p33 )) (fun r34 P35 g36 => mpp 65 rfl ?_)
    obtain ⟨⟨x37, rfl, g38⟩, e39⟩ := g36
    have e39 := e39.symm
    subst e39
    have wx37 := ti_full x37
    replace g38 : x37.toInt = (fv Po 302 (6 + 19 * t1.toInt.toNat + v4.toInt.toNat)).toInt := g38
    show MEvP _ none q_213 65 [(2, .int z26), (0, .ref 301), (1, .int t1), (3, .int v3), (4, .int v4)] [.int x37, .int v3] _ _ _ _
    obtain ⟨z40, h41⟩ := ti_ex (v3 + x37 : Int32)
    have wz40 := ti_full z40
    refine mp_t (s_iadd (v := z40) dX7_reflected_65 h41) (mpp 66 rfl ?_)
    try have e42 : z40.toInt = v3.toInt + x37.toInt := ti_addz h41 rfl rfl (by omega) (by omega)
    refine mp_a (a_istore_n (L' := [(3, .int z40), (2, .int z26), (0, .ref 301), (1, .int t1), (4, .int v4)]) dX7_reflected_66 (by decide) rfl) (mpp 67 rfl ?_)
    obtain ⟨z43, h44⟩ := ti_ex (v4 + 1 : Int32)
    have wz43 := ti_full z43
    refine mp_a (a_iinc (v := z43) (L' := [(4, .int z43), (3, .int z40), (2, .int z26), (0, .ref 301), (1, .int t1)]) dX7_reflected_67 (by decide) rfl h44 rfl) (mpp 70 rfl ?_)
    try have e45 : z43.toInt = v4.toInt + 1 := ti_addz h44 rfl rfl (by omega) (by omega)
    refine mp_a (a_goto (t := 31) dX7_reflected_70 (by decide)) ?_
    refine MEvP.less (L := [(0, .ref 301), (1, .int t1), (2, .int z26), (3, .int z40), (4, .int z43)]) rfl rfl ⟨rfl, rfl, rfl, rfl, rfl, trivial⟩ ?_
    have i46 : 0 ≤ t1.toInt := by omega
    have i47 : t1.toInt ≤ 7 := by omega
    have i48 : 0 ≤ z43.toInt := by omega
    exact ih _ (by omega) _ _ _ i46 i47 i48 rfl

set_option maxHeartbeats 4000000 in
theorem c_M_reflected {Po : mP} {t1 : Int32} (hT : Typ Po)   : EvP 4 213 [.ref 301, .int t1] Po (fun r P' => (∃ x : Int32, r = some (.int x) ∧ (True)) ∧ P' = Po) := by
  refine EvP.of qm_213 (Nat.le_of_ble_eq_true rfl) rfl ?_
  show MEvP _ none q_213 0 [(0, .ref 301), (1, .int t1)] [] _ 0 0 _
  have w_t1 := ti_full t1
  refine mp_a (a_aload_n dX7_reflected_0 rfl) (mpp 1 rfl ?_)
  refine mp_a (a_iload_n dX7_reflected_1 rfl) (mpp 2 rfl ?_)
  refine mt_callv (i := 85) (q' := q_144) (As := [.int t1]) (rest := []) hT dX7_reflected_2 rfl qm_144 (by decide) rfl rl_301 (by decide) rfl (Nat.le_of_ble_eq_true rfl) rfl ⟨rfl, rfl⟩ ⟨Nat.le_of_ble_eq_true rfl, Nat.le_of_ble_eq_true rfl⟩ (EvP.mono (by decide) (c_M_isPiece hT )) (fun r1 P2 g3 => mpp 5 rfl ?_)
  obtain ⟨⟨x4, rfl, g5⟩, e6⟩ := g3
  have e6 := e6.symm
  subst e6
  have wx4 := ti_full x4
  replace g5 : 0 ≤ x4.toInt ∧ x4.toInt ≤ 1 ∧ ((x4.toInt = 1 ∧ 0 ≤ t1.toInt ∧ t1.toInt + 1 ≤ (fv Po 302 0).toInt ∧ t1.toInt ≤ 7) ∨ (x4.toInt = 0 ∧ (t1.toInt < 0 ∨ (fv Po 302 0).toInt ≤ t1.toInt))) := g5
  have g7 : (0 : Int) ≤ (fv Po 302 0).toInt ∧ (fv Po 302 0).toInt ≤ 8 := Typ.rng hT rl_302 (by decide) (by decide) rfl
  show MEvP _ none q_213 5 [(0, .ref 301), (1, .int t1)] [.int x4] _ _ _ _
  refine mp_Tb (t := 12) (j_if_ne dX7_reflected_5) (by decide) (fun c8 => ?_) (fun c8 => mpp 8 rfl ?_)
  · have c8 : x4.toInt ≠ 0 := ti_ne c8
    refine mp_a (a_aload_n dX7_reflected_12 rfl) (mpp 13 rfl ?_)
    refine mp_a (a_iload_n dX7_reflected_13 rfl) (mpp 14 rfl ?_)
    have p9 : 0 ≤ t1.toInt := by omega
    have p10 : t1.toInt ≤ 7 := by omega
    refine mt_callv (i := 81) (q' := q_138) (As := [.int t1]) (rest := []) hT dX7_reflected_14 rfl qm_138 (by decide) rfl rl_301 (by decide) rfl (Nat.le_of_ble_eq_true rfl) rfl ⟨rfl, rfl⟩ ⟨Nat.le_of_ble_eq_true rfl, Nat.le_of_ble_eq_true rfl⟩ (EvP.mono (by decide) (c_M_isCorner hT p9 p10 )) (fun r11 P12 g13 => mpp 17 rfl ?_)
    obtain ⟨⟨x14, rfl, g15⟩, e16⟩ := g13
    have e16 := e16.symm
    subst e16
    have wx14 := ti_full x14
    replace g15 : 0 ≤ x14.toInt ∧ x14.toInt ≤ 1 ∧ ((x14.toInt = 1 ∧ (fv Po 302 (3 + 19 * t1.toInt.toNat)).toInt = 1) ∨ (x14.toInt = 0 ∧ (fv Po 302 (3 + 19 * t1.toInt.toNat)).toInt = 0)) := g15
    try have g17 : (0 : Int) ≤ (fv Po 302 (3 + 19 * t1.toInt.toNat)).toInt ∧ (fv Po 302 (3 + 19 * t1.toInt.toNat)).toInt ≤ 1 := s3_rng hT (by omega)
    show MEvP _ none q_213 17 [(0, .ref 301), (1, .int t1)] [.int x14] _ _ _ _
    refine mp_Tb (t := 24) (j_if_ne dX7_reflected_17) (by decide) (fun c18 => ?_) (fun c18 => mpp 20 rfl ?_)
    · have c18 : x14.toInt ≠ 0 := ti_ne c18
      refine mp_a (a_iconst (v := 0) dX7_reflected_24 rfl) (mpp 25 rfl ?_)
      refine mp_a (a_istore_n (L' := [(2, .int 0), (0, .ref 301), (1, .int t1)]) dX7_reflected_25 (by decide) rfl) (mpp 26 rfl ?_)
      refine mp_a (a_iconst (v := 0) dX7_reflected_26 rfl) (mpp 27 rfl ?_)
      refine mp_a (a_istore_n (L' := [(3, .int 0), (2, .int 0), (0, .ref 301), (1, .int t1)]) dX7_reflected_27 (by decide) rfl) (mpp 28 rfl ?_)
      refine mp_a (a_iconst (v := 0) dX7_reflected_28 rfl) (mpp 29 rfl ?_)
      refine mp_a (a_istore (L' := [(4, .int 0), (3, .int 0), (2, .int 0), (0, .ref 301), (1, .int t1)]) dX7_reflected_29 (by decide) rfl) (mpp 31 rfl ?_)
      refine MEvP.less (L := [(0, .ref 301), (1, .int t1), (2, .int 0), (3, .int 0), (4, .int 0)]) rfl rfl ⟨rfl, rfl, rfl, rfl, rfl, trivial⟩ ?_
      have i19 : 0 ≤ t1.toInt := by omega
      have i20 : t1.toInt ≤ 7 := by omega
      have i21 : 0 ≤ (0 : Int) := by omega
      exact c_M_reflected_l31 hT   _ _ _ _ i19 i20 i21 rfl
    · have c18 : x14.toInt = 0 := ti_ne_n c18
      refine mp_a (a_sipush (v := -1002) dX7_reflected_20 rfl) (mpp 23 rfl ?_)
      exact mp_iret ⟨⟨_, rfl, trivial⟩, rfl⟩ dX7_reflected_23 (Or.inl rfl)
  · have c8 : x4.toInt = 0 := ti_ne_n c8
    refine mp_a (a_sipush (v := -1001) dX7_reflected_8 rfl) (mpp 11 rfl ?_)
    exact mp_iret ⟨⟨_, rfl, trivial⟩, rfl⟩ dX7_reflected_11 (Or.inl rfl)

set_option maxHeartbeats 4000000 in
theorem c_M_append {Po : mP} {t1 : Int32} (hT : Typ Po)   : EvP 2 214 [.ref 301, .int t1] Po (fun r P' => (∃ x : Int32, r = some (.int x) ∧ ((x.toInt = -1002 ∧ (t1.toInt < 32 ∨ 126 < t1.toInt ∨ 80 ≤ (fv Po 301 23).toInt) ∧ (fv P' 301 23).toInt = (fv Po 301 23).toInt ∧ ∀ j : Nat, fv P' 314 j = fv Po 314 j) ∨ (x.toInt = (fv Po 301 23).toInt + 1 ∧ 32 ≤ t1.toInt ∧ t1.toInt ≤ 126 ∧ (fv Po 301 23).toInt < 80 ∧ (fv P' 301 23).toInt = (fv Po 301 23).toInt + 1 ∧ (fv P' 314 (fv Po 301 23).toInt.toNat).toInt = t1.toInt ∧ ∀ j : Nat, ¬ j = (fv Po 301 23).toInt.toNat → fv P' 314 j = fv Po 314 j))) ∧ Typ P' ∧ KW [1111, 1920] Po P' ∧ True) := by
  refine EvP.of qm_214 (Nat.le_of_ble_eq_true rfl) rfl ?_
  show MEvP _ none q_214 0 [(0, .ref 301), (1, .int t1)] [] _ 0 0 _
  have w_t1 := ti_full t1
  have g1 : (0 : Int) ≤ (fv Po 301 23).toInt ∧ (fv Po 301 23).toInt ≤ 80 := Typ.rng hT rl_301 (by decide) (by decide) rfl
  refine mp_a (a_iload_n dX7_append_0 rfl) (mpp 1 rfl ?_)
  refine mp_a (a_bipush (v := 32) dX7_append_1 rfl) (mpp 3 rfl ?_)
  refine mp_a (a_bipush (v := 126) dX7_append_3 rfl) (mpp 5 rfl ?_)
  refine mp_calls (i := 61) (q' := q_127) (As := [.int t1, .int 32, .int 126]) (rest := []) dX7_append_5 rfl qm_127 (by decide) rfl (Nat.le_of_ble_eq_true rfl) rfl ⟨rfl, rfl⟩ ⟨Nat.le_of_ble_eq_true rfl, Nat.le_of_ble_eq_true rfl⟩ (EvP.mono (by decide) (c_M_isIn hT )) (fun r2 P3 g4 => mpp 8 rfl ?_)
  obtain ⟨⟨x5, rfl, g6⟩, e7⟩ := g4
  have e7 := e7.symm
  subst e7
  have wx5 := ti_full x5
  replace g6 : 0 ≤ x5.toInt ∧ x5.toInt ≤ 1 ∧ ((x5.toInt = 1 ∧ (32 : Int) ≤ t1.toInt ∧ t1.toInt ≤ (126 : Int)) ∨ (x5.toInt = 0 ∧ (t1.toInt < (32 : Int) ∨ (126 : Int) < t1.toInt))) := g6
  show MEvP _ none q_214 8 [(0, .ref 301), (1, .int t1)] [.int x5] _ _ _ _
  refine mp_Tb (t := 20) (j_if_eq dX7_append_8) (by decide) (fun c8 => ?_) (fun c8 => mpp 11 rfl ?_)
  · have c8 : x5.toInt = 0 := ti_eq c8
    refine mp_a (a_sipush (v := -1002) dX7_append_20 rfl) (mpp 23 rfl ?_)
    have u9 : ((-1002 : Int) = -1002 ∧ (t1.toInt < 32 ∨ 126 < t1.toInt ∨ 80 ≤ (fv Po 301 23).toInt) ∧ (fv Po 301 23).toInt = (fv Po 301 23).toInt ∧ ∀ j : Nat, fv Po 314 j = fv Po 314 j) ∨ ((-1002 : Int) = (fv Po 301 23).toInt + 1 ∧ 32 ≤ t1.toInt ∧ t1.toInt ≤ 126 ∧ (fv Po 301 23).toInt < 80 ∧ (fv Po 301 23).toInt = (fv Po 301 23).toInt + 1 ∧ (fv Po 314 (fv Po 301 23).toInt.toNat).toInt = t1.toInt ∧ ∀ j : Nat, ¬ j = (fv Po 301 23).toInt.toNat → fv Po 314 j = fv Po 314 j) := Or.inl ⟨rfl, by omega, by omega, fun _ => rfl⟩
    exact mp_iret ⟨⟨_, rfl, u9⟩, hT, KW.refl, trivial⟩ dX7_append_23 (Or.inl rfl)
  · have c8 : x5.toInt ≠ 0 := ti_eq_n c8
    refine mp_a (a_aload_n dX7_append_11 rfl) (mpp 12 rfl ?_)
    refine mt_getI (i := 291) (k := 23) hT dX7_append_12 rfl rl_301 (by decide) rfl (by decide) rfl (fun g10 g11 => mpp 15 rfl ?_)
    refine mp_a (a_bipush (v := 80) dX7_append_15 rfl) (mpp 17 rfl ?_)
    refine mp_Tb (t := 24) (j_icmp_ne dX7_append_17) (by decide) (fun c12 => ?_) (fun c12 => mpp 20 rfl ?_)
    · have c12 : (fv Po 301 23).toInt ≠ 80 := ti_ne c12
      refine mp_a (a_aload_n dX7_append_24 rfl) (mpp 25 rfl ?_)
      refine mt_getU (i := 47) (k := 22) (A := 314) hT dX7_append_25 rfl rl_301 (by decide) rfl (by decide) rfl un_30 (mpp 28 rfl ?_)
      refine mp_a (a_aload_n dX7_append_28 rfl) (mpp 29 rfl ?_)
      refine mt_getI (i := 291) (k := 23) hT dX7_append_29 rfl rl_301 (by decide) rfl (by decide) rfl (fun g13 g14 => mpp 32 rfl ?_)
      refine mp_a (a_iload_n dX7_append_32 rfl) (mpp 33 rfl ?_)
      refine mt_ias (n := 80) hT dX7_append_33 rl_314 (by decide) rfl rfl (by omega) (by omega) rfl (ti_full t1) (fun P15 hT16 f17 f18 f19 => mpp 34 rfl ?_)
      have k20 : KW [1111, 1920] Po P15 := KW.step KW.refl rl_314 rfl f18 f19
      refine mp_a (a_aload_n dX7_append_34 rfl) (mpp 35 rfl ?_)
      refine mp_t (s_dup dX7_append_35 rfl) (mpp 36 rfl ?_)
      have e21 : (fv P15 301 23).toInt = (fv Po 301 23).toInt := congrArg Int32.toInt (f18 301 23 (ne_r rl_301 rl_314 rfl))
      refine mt_getI (i := 291) (k := 23) hT16 dX7_append_36 rfl rl_301 (by decide) rfl (by decide) rfl (fun g22 g23 => mpp 39 rfl ?_)
      refine mp_a (a_iconst (v := 1) dX7_append_39 rfl) (mpp 40 rfl ?_)
      obtain ⟨z24, h25⟩ := ti_ex ((fv P15 301 23) + 1 : Int32)
      have wz24 := ti_full z24
      refine mp_t (s_iadd (v := z24) dX7_append_40 h25) (mpp 41 rfl ?_)
      try have e26 : z24.toInt = (fv P15 301 23).toInt + 1 := ti_addz h25 rfl rfl (by omega) (by omega)
      refine mt_putI (i := 291) (k := 23) (x := z24) hT16 dX7_append_41 rfl rl_301 (by decide) rfl (by decide) rfl ⟨by omega, by omega⟩ rfl rfl (fun P27 hT28 f29 f30 f31 => mpp 44 rfl ?_)
      have k32 : KW [1111, 1920] Po P27 := KW.step k20 rl_301 rfl f30 f31
      have e33 : (fv P27 301 23).toInt = z24.toInt := congrArg Int32.toInt f29
      refine mp_a (a_aload_n dX7_append_44 rfl) (mpp 45 rfl ?_)
      refine mt_getI (i := 291) (k := 23) hT28 dX7_append_45 rfl rl_301 (by decide) rfl (by decide) rfl (fun g34 g35 => mpp 48 rfl ?_)
      have u36 : ((fv P27 301 23).toInt = -1002 ∧ (t1.toInt < 32 ∨ 126 < t1.toInt ∨ 80 ≤ (fv Po 301 23).toInt) ∧ (fv P27 301 23).toInt = (fv Po 301 23).toInt ∧ ∀ j : Nat, fv P27 314 j = fv Po 314 j) ∨ ((fv P27 301 23).toInt = (fv Po 301 23).toInt + 1 ∧ 32 ≤ t1.toInt ∧ t1.toInt ≤ 126 ∧ (fv Po 301 23).toInt < 80 ∧ (fv P27 301 23).toInt = (fv Po 301 23).toInt + 1 ∧ (fv P27 314 (fv Po 301 23).toInt.toNat).toInt = t1.toInt ∧ ∀ j : Nat, ¬ j = (fv Po 301 23).toInt.toNat → fv P27 314 j = fv Po 314 j) := Or.inr ⟨by omega, by omega, by omega, by omega, by omega, by rw [f30 314 _ (by omega)]; exact congrArg Int32.toInt f17, fun j hj => (f30 314 j (by omega)).trans (f18 314 j (fun e => hj e.2))⟩
      exact mp_iret ⟨⟨_, rfl, u36⟩, hT28, k32, trivial⟩ dX7_append_48 (Or.inl rfl)
    · have c12 : (fv Po 301 23).toInt = 80 := ti_ne_n c12
      refine mp_a (a_sipush (v := -1002) dX7_append_20 rfl) (mpp 23 rfl ?_)
      have u37 : ((-1002 : Int) = -1002 ∧ (t1.toInt < 32 ∨ 126 < t1.toInt ∨ 80 ≤ (fv Po 301 23).toInt) ∧ (fv Po 301 23).toInt = (fv Po 301 23).toInt ∧ ∀ j : Nat, fv Po 314 j = fv Po 314 j) ∨ ((-1002 : Int) = (fv Po 301 23).toInt + 1 ∧ 32 ≤ t1.toInt ∧ t1.toInt ≤ 126 ∧ (fv Po 301 23).toInt < 80 ∧ (fv Po 301 23).toInt = (fv Po 301 23).toInt + 1 ∧ (fv Po 314 (fv Po 301 23).toInt.toNat).toInt = t1.toInt ∧ ∀ j : Nat, ¬ j = (fv Po 301 23).toInt.toNat → fv Po 314 j = fv Po 314 j) := Or.inl ⟨rfl, by omega, by omega, fun _ => rfl⟩
      exact mp_iret ⟨⟨_, rfl, u37⟩, hT, KW.refl, trivial⟩ dX7_append_23 (Or.inl rfl)

set_option maxHeartbeats 4000000 in
theorem c_M_sign {Po : mP}  (hT : Typ Po)   : EvP 1 218 [.ref 301] Po (fun r P' => (∃ x : Int32, r = some (.int x) ∧ ((x.toInt = -1 ∨ (fv Po 301 24).toInt + 1 ≤ (fv Po 301 23).toInt) ∧ x.toInt = (chM Po (fv Po 301 24).toInt).toInt)) ∧ P' = Po) := by
  refine EvP.of qm_218 (Nat.le_of_ble_eq_true rfl) rfl ?_
  show MEvP _ none q_218 0 [(0, .ref 301)] [] _ 0 0 _
  have g1 : (0 : Int) ≤ (fv Po 301 24).toInt ∧ (fv Po 301 24).toInt ≤ 81 := Typ.rng hT rl_301 (by decide) (by decide) rfl
  have g2 : (0 : Int) ≤ (fv Po 301 23).toInt ∧ (fv Po 301 23).toInt ≤ 80 := Typ.rng hT rl_301 (by decide) (by decide) rfl
  refine mp_a (a_aload_n dX7_sign_0 rfl) (mpp 1 rfl ?_)
  refine mt_getI (i := 294) (k := 24) hT dX7_sign_1 rfl rl_301 (by decide) rfl (by decide) rfl (fun g3 g4 => mpp 4 rfl ?_)
  refine mp_a (a_aload_n dX7_sign_4 rfl) (mpp 5 rfl ?_)
  refine mt_getI (i := 291) (k := 23) hT dX7_sign_5 rfl rl_301 (by decide) rfl (by decide) rfl (fun g5 g6 => mpp 8 rfl ?_)
  refine mp_Tb (t := 23) (j_icmp_ge dX7_sign_8) (by decide) (fun c7 => ?_) (fun c7 => mpp 11 rfl ?_)
  · have c7 : (fv Po 301 24).toInt ≥ (fv Po 301 23).toInt := ti_ge c7
    refine mp_a (a_iconst (v := -1) dX7_sign_23 rfl) (mpp 24 rfl ?_)
    have u8 : ((-1 : Int) = -1 ∨ (fv Po 301 24).toInt + 1 ≤ (fv Po 301 23).toInt) ∧ (-1 : Int) = (chM Po (fv Po 301 24).toInt).toInt := ⟨by omega, by rw [show chM Po (fv Po 301 24).toInt = -1 from ch_out (by omega)]; rfl⟩
    exact mp_iret ⟨⟨_, rfl, u8⟩, rfl⟩ dX7_sign_24 (Or.inl rfl)
  · have c7 : (fv Po 301 24).toInt < (fv Po 301 23).toInt := ti_ge_n c7
    refine mp_a (a_aload_n dX7_sign_11 rfl) (mpp 12 rfl ?_)
    refine mt_getU (i := 47) (k := 22) (A := 314) hT dX7_sign_12 rfl rl_301 (by decide) rfl (by decide) rfl un_30 (mpp 15 rfl ?_)
    refine mp_a (a_aload_n dX7_sign_15 rfl) (mpp 16 rfl ?_)
    refine mt_getI (i := 294) (k := 24) hT dX7_sign_16 rfl rl_301 (by decide) rfl (by decide) rfl (fun g9 g10 => mpp 19 rfl ?_)
    refine mt_ial (n := 80) hT dX7_sign_19 rl_314 (by decide) rfl rfl (by omega) (by omega) rfl (fun g11 g12 => mpp 20 rfl ?_)
    refine mp_a (a_goto (t := 24) dX7_sign_20 (by decide)) ?_
    have u13 : ((fv Po 314 (fv Po 301 24).toInt.toNat).toInt = -1 ∨ (fv Po 301 24).toInt + 1 ≤ (fv Po 301 23).toInt) ∧ (fv Po 314 (fv Po 301 24).toInt.toNat).toInt = (chM Po (fv Po 301 24).toInt).toInt := ⟨by omega, by rw [show chM Po (fv Po 301 24).toInt = fv Po 314 (fv Po 301 24).toInt.toNat from ch_in ⟨by omega, by omega⟩]⟩
    exact mp_iret ⟨⟨_, rfl, u13⟩, rfl⟩ dX7_sign_24 (Or.inl rfl)

set_option maxHeartbeats 4000000 in
theorem c_M_readsSizes_l7 {Po : mP}  (hp0 : (fv Po 301 24).toInt ≤ (fv Po 301 23).toInt)  : ∀ (n : Nat) (v1 : Int32), ∀ (P : mP), Typ P → KW [1112, 1114] Po P → ((fv Po 301 24).toInt ≤ (fv P 301 24).toInt) → ((fv P 301 24).toInt ≤ (fv P 301 23).toInt) → (∀ j : Nat, j < v1.toInt.toNat → D1 (chM Po ((fv Po 301 24).toInt + (j : Int))).toInt) → ((fv P 301 24).toInt = (fv Po 301 24).toInt + v1.toInt) → (fv P 301 26 = szI (chM Po) (fv Po 301 24).toInt v1.toInt.toNat) → ((∀ j : Nat, fv P 314 j = fv Po 314 j) ∧ fv P 301 23 = fv Po 301 23) → (v1.toInt ≤ 8) → (0 ≤ v1.toInt) → (2147483647 - v1.toInt).toNat = n → MEvP 1 none q_219 7 [(0, .ref 301), (1, .int v1)] [] P 0 0 (fun r P' => (∃ x : Int32, r = some (.int x) ∧ (0 ≤ x.toInt ∧ x.toInt ≤ 1 ∧ (((fv Po 301 24).toInt ≤ (fv P' 301 24).toInt ∧ (fv P' 301 24).toInt ≤ (fv Po 301 23).toInt) ∧ ∃ k : Nat, RUN D1 (chM Po) (fv Po 301 24).toInt k ∧ (fv P' 301 24).toInt = (fv Po 301 24).toInt + (k : Int) ∧ fv P' 301 26 = szI (chM Po) (fv Po 301 24).toInt k ∧ ((x.toInt = 1 ∧ 1 ≤ k) ∨ (x.toInt = 0 ∧ k = 0))))) ∧ Typ P' ∧ KW [1112, 1114] Po P' ∧ True) := by
  intro n
  induction n using Nat.strongRecOn with | _ n ih => ?_
  intro v1 P hT hK i_0 i_1 i_2 i_3 i_4 i_5 i_6 i_7 hm
  have w_v1 := ti_full v1
  have g1 : (0 : Int) ≤ (fv P 301 24).toInt ∧ (fv P 301 24).toInt ≤ 81 := Typ.rng hT rl_301 (by decide) (by decide) rfl
  have g2 : (0 : Int) ≤ (fv P 301 24).toInt ∧ (fv P 301 24).toInt ≤ 81 := Typ.rng hT rl_301 (by decide) (by decide) rfl
  have e3 : (fv P 301 23).toInt = (fv Po 301 23).toInt := congrArg Int32.toInt (KW.at hK 23 rl_301 rfl)
  have g4 : (0 : Int) ≤ (fv P 301 23).toInt ∧ (fv P 301 23).toInt ≤ 80 := Typ.rng hT rl_301 (by decide) (by decide) rfl
  refine mp_a (a_iload_n dX7_readsSizes_7 rfl) (mpp 8 rfl ?_)
  refine mp_a (a_bipush (v := 8) dX7_readsSizes_8 rfl) (mpp 10 rfl ?_)
  refine mp_Tb (t := 62) (j_icmp_ge dX7_readsSizes_10) (by decide) (fun c5 => ?_) (fun c5 => mpp 13 rfl ?_)
  · have c5 : v1.toInt ≥ 8 := ti_ge c5
    refine mp_a (a_iload_n dX7_readsSizes_62 rfl) (mpp 63 rfl ?_)
    refine mp_Tb (t := 70) (j_if_le dX7_readsSizes_63) (by decide) (fun c6 => ?_) (fun c6 => mpp 66 rfl ?_)
    · have c6 : v1.toInt ≤ 0 := ti_le c6
      refine mp_a (a_iconst (v := 0) dX7_readsSizes_70 rfl) (mpp 71 rfl ?_)
      have t9_ : chM P = chM Po := chM_eq i_5.1 i_5.2
      have t9_p : (fv P 301 24).toInt = (fv Po 301 24).toInt + ((v1.toInt.toNat : Nat) : Int) := by omega
      have w8_ : RUN D1 (chM Po) (fv Po 301 24).toInt v1.toInt.toNat := ⟨by omega, i_2, fun h8 => show ¬ (49 ≤ (chM Po ((fv Po 301 24).toInt + ((v1.toInt.toNat : Nat) : Int))).toInt ∧ (chM Po ((fv Po 301 24).toInt + ((v1.toInt.toNat : Nat) : Int))).toInt ≤ 57) from by omega⟩
      have w8_l : (fv P 301 23).toInt = (fv Po 301 23).toInt := congrArg Int32.toInt i_5.2
      have u7 : 0 ≤ (0 : Int) ∧ (0 : Int) ≤ 1 ∧ (((fv Po 301 24).toInt ≤ (fv P 301 24).toInt ∧ (fv P 301 24).toInt ≤ (fv Po 301 23).toInt) ∧ ∃ k : Nat, RUN D1 (chM Po) (fv Po 301 24).toInt k ∧ (fv P 301 24).toInt = (fv Po 301 24).toInt + (k : Int) ∧ fv P 301 26 = szI (chM Po) (fv Po 301 24).toInt k ∧ (((0 : Int) = 1 ∧ 1 ≤ k) ∨ ((0 : Int) = 0 ∧ k = 0))) := ⟨by omega, by omega, ⟨by omega, by omega⟩, _, w8_, by omega, i_4, Or.inr ⟨rfl, by omega⟩⟩
      exact mp_iret ⟨⟨_, rfl, u7⟩, hT, hK, trivial⟩ dX7_readsSizes_71 (Or.inr ⟨rfl, by decide⟩)
    · have c6 : v1.toInt > 0 := ti_le_n c6
      refine mp_a (a_iconst (v := 1) dX7_readsSizes_66 rfl) (mpp 67 rfl ?_)
      refine mp_a (a_goto (t := 71) dX7_readsSizes_67 (by decide)) ?_
      have t12_ : chM P = chM Po := chM_eq i_5.1 i_5.2
      have t12_p : (fv P 301 24).toInt = (fv Po 301 24).toInt + ((v1.toInt.toNat : Nat) : Int) := by omega
      have w11_ : RUN D1 (chM Po) (fv Po 301 24).toInt v1.toInt.toNat := ⟨by omega, i_2, fun h8 => show ¬ (49 ≤ (chM Po ((fv Po 301 24).toInt + ((v1.toInt.toNat : Nat) : Int))).toInt ∧ (chM Po ((fv Po 301 24).toInt + ((v1.toInt.toNat : Nat) : Int))).toInt ≤ 57) from by omega⟩
      have w11_l : (fv P 301 23).toInt = (fv Po 301 23).toInt := congrArg Int32.toInt i_5.2
      have u10 : 0 ≤ (1 : Int) ∧ (1 : Int) ≤ 1 ∧ (((fv Po 301 24).toInt ≤ (fv P 301 24).toInt ∧ (fv P 301 24).toInt ≤ (fv Po 301 23).toInt) ∧ ∃ k : Nat, RUN D1 (chM Po) (fv Po 301 24).toInt k ∧ (fv P 301 24).toInt = (fv Po 301 24).toInt + (k : Int) ∧ fv P 301 26 = szI (chM Po) (fv Po 301 24).toInt k ∧ (((1 : Int) = 1 ∧ 1 ≤ k) ∨ ((1 : Int) = 0 ∧ k = 0))) := ⟨by omega, by omega, ⟨by omega, by omega⟩, _, w11_, by omega, i_4, Or.inl ⟨rfl, by omega⟩⟩
      exact mp_iret ⟨⟨_, rfl, u10⟩, hT, hK, trivial⟩ dX7_readsSizes_71 (Or.inr ⟨rfl, by decide⟩)
  · have c5 : v1.toInt < 8 := ti_ge_n c5
    refine mp_a (a_aload_n dX7_readsSizes_13 rfl) (mpp 14 rfl ?_)
    refine mt_callv (i := 297) (q' := q_218) (As := []) (rest := []) hT dX7_readsSizes_14 rfl qm_218 (by decide) rfl rl_301 (by decide) rfl (Nat.le_of_ble_eq_true rfl) rfl ⟨rfl, rfl⟩ ⟨Nat.le_of_ble_eq_true rfl, Nat.le_of_ble_eq_true rfl⟩ (EvP.mono (by decide) (c_M_sign hT )) (fun r13 P14 g15 => mpp 17 rfl ?_)
    obtain ⟨⟨x16, rfl, g17⟩, e18⟩ := g15
    have e18 := e18.symm
    subst e18
    have wx16 := ti_full x16
    replace g17 : (x16.toInt = -1 ∨ (fv P 301 24).toInt + 1 ≤ (fv P 301 23).toInt) ∧ x16.toInt = (chM P (fv P 301 24).toInt).toInt := g17
    show MEvP _ none q_219 17 [(0, .ref 301), (1, .int v1)] [.int x16] _ _ _ _
    refine mp_a (a_bipush (v := 49) dX7_readsSizes_17 rfl) (mpp 19 rfl ?_)
    refine mp_a (a_bipush (v := 57) dX7_readsSizes_19 rfl) (mpp 21 rfl ?_)
    refine mp_calls (i := 61) (q' := q_127) (As := [.int x16, .int 49, .int 57]) (rest := []) dX7_readsSizes_21 rfl qm_127 (by decide) rfl (Nat.le_of_ble_eq_true rfl) rfl ⟨rfl, rfl⟩ ⟨Nat.le_of_ble_eq_true rfl, Nat.le_of_ble_eq_true rfl⟩ (EvP.mono (by decide) (c_M_isIn hT )) (fun r19 P20 g21 => mpp 24 rfl ?_)
    obtain ⟨⟨x22, rfl, g23⟩, e24⟩ := g21
    have e24 := e24.symm
    subst e24
    have wx22 := ti_full x22
    replace g23 : 0 ≤ x22.toInt ∧ x22.toInt ≤ 1 ∧ ((x22.toInt = 1 ∧ (49 : Int) ≤ x16.toInt ∧ x16.toInt ≤ (57 : Int)) ∨ (x22.toInt = 0 ∧ (x16.toInt < (49 : Int) ∨ (57 : Int) < x16.toInt))) := g23
    show MEvP _ none q_219 24 [(0, .ref 301), (1, .int v1)] [.int x22] _ _ _ _
    refine mp_Tb (t := 62) (j_if_eq dX7_readsSizes_24) (by decide) (fun c25 => ?_) (fun c25 => mpp 27 rfl ?_)
    · have c25 : x22.toInt = 0 := ti_eq c25
      refine mp_a (a_iload_n dX7_readsSizes_62 rfl) (mpp 63 rfl ?_)
      refine mp_Tb (t := 70) (j_if_le dX7_readsSizes_63) (by decide) (fun c26 => ?_) (fun c26 => mpp 66 rfl ?_)
      · have c26 : v1.toInt ≤ 0 := ti_le c26
        refine mp_a (a_iconst (v := 0) dX7_readsSizes_70 rfl) (mpp 71 rfl ?_)
        have t29_ : chM P = chM Po := chM_eq i_5.1 i_5.2
        have t29_p : (fv P 301 24).toInt = (fv Po 301 24).toInt + ((v1.toInt.toNat : Nat) : Int) := by omega
        have t29_x16 := g17.2
        rw [t29_, t29_p] at t29_x16
        have w28_ : RUN D1 (chM Po) (fv Po 301 24).toInt v1.toInt.toNat := ⟨by omega, i_2, fun h8 => show ¬ (49 ≤ (chM Po ((fv Po 301 24).toInt + ((v1.toInt.toNat : Nat) : Int))).toInt ∧ (chM Po ((fv Po 301 24).toInt + ((v1.toInt.toNat : Nat) : Int))).toInt ≤ 57) from by omega⟩
        have w28_l : (fv P 301 23).toInt = (fv Po 301 23).toInt := congrArg Int32.toInt i_5.2
        have u27 : 0 ≤ (0 : Int) ∧ (0 : Int) ≤ 1 ∧ (((fv Po 301 24).toInt ≤ (fv P 301 24).toInt ∧ (fv P 301 24).toInt ≤ (fv Po 301 23).toInt) ∧ ∃ k : Nat, RUN D1 (chM Po) (fv Po 301 24).toInt k ∧ (fv P 301 24).toInt = (fv Po 301 24).toInt + (k : Int) ∧ fv P 301 26 = szI (chM Po) (fv Po 301 24).toInt k ∧ (((0 : Int) = 1 ∧ 1 ≤ k) ∨ ((0 : Int) = 0 ∧ k = 0))) := ⟨by omega, by omega, ⟨by omega, by omega⟩, _, w28_, by omega, i_4, Or.inr ⟨rfl, by omega⟩⟩
        exact mp_iret ⟨⟨_, rfl, u27⟩, hT, hK, trivial⟩ dX7_readsSizes_71 (Or.inr ⟨rfl, by decide⟩)
      · have c26 : v1.toInt > 0 := ti_le_n c26
        refine mp_a (a_iconst (v := 1) dX7_readsSizes_66 rfl) (mpp 67 rfl ?_)
        refine mp_a (a_goto (t := 71) dX7_readsSizes_67 (by decide)) ?_
        have t32_ : chM P = chM Po := chM_eq i_5.1 i_5.2
        have t32_p : (fv P 301 24).toInt = (fv Po 301 24).toInt + ((v1.toInt.toNat : Nat) : Int) := by omega
        have t32_x16 := g17.2
        rw [t32_, t32_p] at t32_x16
        have w31_ : RUN D1 (chM Po) (fv Po 301 24).toInt v1.toInt.toNat := ⟨by omega, i_2, fun h8 => show ¬ (49 ≤ (chM Po ((fv Po 301 24).toInt + ((v1.toInt.toNat : Nat) : Int))).toInt ∧ (chM Po ((fv Po 301 24).toInt + ((v1.toInt.toNat : Nat) : Int))).toInt ≤ 57) from by omega⟩
        have w31_l : (fv P 301 23).toInt = (fv Po 301 23).toInt := congrArg Int32.toInt i_5.2
        have u30 : 0 ≤ (1 : Int) ∧ (1 : Int) ≤ 1 ∧ (((fv Po 301 24).toInt ≤ (fv P 301 24).toInt ∧ (fv P 301 24).toInt ≤ (fv Po 301 23).toInt) ∧ ∃ k : Nat, RUN D1 (chM Po) (fv Po 301 24).toInt k ∧ (fv P 301 24).toInt = (fv Po 301 24).toInt + (k : Int) ∧ fv P 301 26 = szI (chM Po) (fv Po 301 24).toInt k ∧ (((1 : Int) = 1 ∧ 1 ≤ k) ∨ ((1 : Int) = 0 ∧ k = 0))) := ⟨by omega, by omega, ⟨by omega, by omega⟩, _, w31_, by omega, i_4, Or.inl ⟨rfl, by omega⟩⟩
        exact mp_iret ⟨⟨_, rfl, u30⟩, hT, hK, trivial⟩ dX7_readsSizes_71 (Or.inr ⟨rfl, by decide⟩)
    · have c25 : x22.toInt ≠ 0 := ti_eq_n c25
      refine mp_a (a_aload_n dX7_readsSizes_27 rfl) (mpp 28 rfl ?_)
      refine mp_a (a_bipush (v := 10) dX7_readsSizes_28 rfl) (mpp 30 rfl ?_)
      refine mp_a (a_aload_n dX7_readsSizes_30 rfl) (mpp 31 rfl ?_)
      have g33 := ti_full (fv P 301 26)
      refine mt_getI (i := 300) (k := 26) hT dX7_readsSizes_31 rfl rl_301 (by decide) rfl (by decide) rfl (fun g34 g35 => mpp 34 rfl ?_)
      obtain ⟨z36, h37⟩ := ti_ex (10 * (fv P 301 26) : Int32)
      have wz36 := ti_full z36
      refine mp_t (s_imul (v := z36) dX7_readsSizes_34 h37) (mpp 35 rfl ?_)
      try have e38 : z36.toInt = 10 * (fv P 301 26).toInt := ti_mulz h37 rfl rfl (by omega) (by omega)
      refine mp_a (a_aload_n dX7_readsSizes_35 rfl) (mpp 36 rfl ?_)
      refine mt_callv (i := 297) (q' := q_218) (As := []) (rest := [.int z36, .ref 301]) hT dX7_readsSizes_36 rfl qm_218 (by decide) rfl rl_301 (by decide) rfl (Nat.le_of_ble_eq_true rfl) rfl ⟨rfl, rfl⟩ ⟨Nat.le_of_ble_eq_true rfl, Nat.le_of_ble_eq_true rfl⟩ (EvP.mono (by decide) (c_M_sign hT )) (fun r39 P40 g41 => mpp 39 rfl ?_)
      obtain ⟨⟨x42, rfl, g43⟩, e44⟩ := g41
      have e44 := e44.symm
      subst e44
      have wx42 := ti_full x42
      replace g43 : (x42.toInt = -1 ∨ (fv P 301 24).toInt + 1 ≤ (fv P 301 23).toInt) ∧ x42.toInt = (chM P (fv P 301 24).toInt).toInt := g43
      show MEvP _ none q_219 39 [(0, .ref 301), (1, .int v1)] [.int x42, .int z36, .ref 301] _ _ _ _
      obtain ⟨z45, h46⟩ := ti_ex (z36 + x42 : Int32)
      have wz45 := ti_full z45
      refine mp_t (s_iadd (v := z45) dX7_readsSizes_39 h46) (mpp 40 rfl ?_)
      try have e47 : z45.toInt = z36.toInt + x42.toInt := ti_addz h46 rfl rfl (by omega) (by omega)
      refine mp_a (a_bipush (v := 48) dX7_readsSizes_40 rfl) (mpp 42 rfl ?_)
      obtain ⟨z48, h49⟩ := ti_ex (z45 - 48 : Int32)
      have wz48 := ti_full z48
      refine mp_t (s_isub (v := z48) dX7_readsSizes_42 h49) (mpp 43 rfl ?_)
      try have e50 : z48.toInt = z45.toInt - 48 := ti_subz h49 rfl rfl (by omega) (by omega)
      refine mt_putI (i := 300) (k := 26) (x := z48) hT dX7_readsSizes_43 rfl rl_301 (by decide) rfl (by decide) rfl (ti_full z48) rfl rfl (fun P51 hT52 f53 f54 f55 => mpp 46 rfl ?_)
      have k56 : KW [1112, 1114] Po P51 := KW.step hK rl_301 rfl f54 f55
      have e57 : (fv P51 301 26).toInt = z48.toInt := congrArg Int32.toInt f53
      refine mp_a (a_aload_n dX7_readsSizes_46 rfl) (mpp 47 rfl ?_)
      refine mp_t (s_dup dX7_readsSizes_47 rfl) (mpp 48 rfl ?_)
      have e58 : (fv P51 301 24).toInt = (fv P 301 24).toInt := congrArg Int32.toInt (f54 301 24 (ne_k rfl))
      refine mt_getI (i := 294) (k := 24) hT52 dX7_readsSizes_48 rfl rl_301 (by decide) rfl (by decide) rfl (fun g59 g60 => mpp 51 rfl ?_)
      refine mp_a (a_iconst (v := 1) dX7_readsSizes_51 rfl) (mpp 52 rfl ?_)
      obtain ⟨z61, h62⟩ := ti_ex ((fv P51 301 24) + 1 : Int32)
      have wz61 := ti_full z61
      refine mp_t (s_iadd (v := z61) dX7_readsSizes_52 h62) (mpp 53 rfl ?_)
      try have e63 : z61.toInt = (fv P51 301 24).toInt + 1 := ti_addz h62 rfl rfl (by omega) (by omega)
      refine mt_putI (i := 294) (k := 24) (x := z61) hT52 dX7_readsSizes_53 rfl rl_301 (by decide) rfl (by decide) rfl ⟨by omega, by omega⟩ rfl rfl (fun P64 hT65 f66 f67 f68 => mpp 56 rfl ?_)
      have k69 : KW [1112, 1114] Po P64 := KW.step k56 rl_301 rfl f67 f68
      have e70 : (fv P64 301 24).toInt = z61.toInt := congrArg Int32.toInt f66
      obtain ⟨z71, h72⟩ := ti_ex (v1 + 1 : Int32)
      have wz71 := ti_full z71
      refine mp_a (a_iinc (v := z71) (L' := [(1, .int z71), (0, .ref 301)]) dX7_readsSizes_56 (by decide) rfl h72 rfl) (mpp 59 rfl ?_)
      try have e73 : z71.toInt = v1.toInt + 1 := ti_addz h72 rfl rfl (by omega) (by omega)
      refine mp_a (a_goto (t := 7) dX7_readsSizes_59 (by decide)) ?_
      refine MEvP.less (L := [(0, .ref 301), (1, .int z71)]) rfl rfl ⟨rfl, rfl, trivial⟩ ?_
      have i74 : (fv Po 301 24).toInt ≤ (fv P64 301 24).toInt := by omega
      have e75 : (fv P64 301 23).toInt = (fv P 301 23).toInt := congrArg Int32.toInt ((f67 301 23 (ne_k rfl)).trans (f54 301 23 (ne_k rfl)))
      have i76 : (fv P64 301 24).toInt ≤ (fv P64 301 23).toInt := by omega
      have t78_ : chM P = chM Po := chM_eq i_5.1 i_5.2
      have t78_p : (fv P 301 24).toInt = (fv Po 301 24).toInt + ((v1.toInt.toNat : Nat) : Int) := by omega
      have t78_x16 := g17.2
      rw [t78_, t78_p] at t78_x16
      have t78_x42 := g43.2
      rw [t78_, t78_p] at t78_x42
      have i77 : ∀ j : Nat, j < z71.toInt.toNat → D1 (chM Po ((fv Po 301 24).toInt + (j : Int))).toInt := RUN.grow i_2 rfl (show D1 (chM Po ((fv Po 301 24).toInt + ((v1.toInt.toNat : Nat) : Int))).toInt from ⟨by omega, by omega⟩) (by omega)
      have i79 : (fv P64 301 24).toInt = (fv Po 301 24).toInt + z71.toInt := by omega
      have i80 : fv P64 301 26 = szI (chM Po) (fv Po 301 24).toInt z71.toInt.toNat := by rw [f67 301 26 (by omega), f53]; exact szI.step i_4 (by omega) rfl (show x42.toInt = (chM Po ((fv Po 301 24).toInt + ((v1.toInt.toNat : Nat) : Int))).toInt from by omega) (by rw [Int32.mul_comm]; exact h37) h46 h49
      have i81 : (∀ j : Nat, fv P64 314 j = fv Po 314 j) ∧ fv P64 301 23 = fv Po 301 23 := ⟨fun j => by rw [f67 314 j (by omega), f54 314 j (by omega)]; exact i_5.1 j, by rw [f67 301 23 (by omega), f54 301 23 (by omega)]; exact i_5.2⟩
      have i82 : z71.toInt ≤ 8 := by omega
      have i83 : 0 ≤ z71.toInt := by omega
      exact ih _ (by omega) _ P64 hT65 k69 i74 i76 i77 i79 i80 i81 i82 i83 rfl

set_option maxHeartbeats 4000000 in
theorem c_M_readsSizes {Po : mP}  (hT : Typ Po)  (hp0 : (fv Po 301 24).toInt ≤ (fv Po 301 23).toInt)  : EvP 2 219 [.ref 301] Po (fun r P' => (∃ x : Int32, r = some (.int x) ∧ (0 ≤ x.toInt ∧ x.toInt ≤ 1 ∧ (((fv Po 301 24).toInt ≤ (fv P' 301 24).toInt ∧ (fv P' 301 24).toInt ≤ (fv Po 301 23).toInt) ∧ ∃ k : Nat, RUN D1 (chM Po) (fv Po 301 24).toInt k ∧ (fv P' 301 24).toInt = (fv Po 301 24).toInt + (k : Int) ∧ fv P' 301 26 = szI (chM Po) (fv Po 301 24).toInt k ∧ ((x.toInt = 1 ∧ 1 ≤ k) ∨ (x.toInt = 0 ∧ k = 0))))) ∧ Typ P' ∧ KW [1112, 1114] Po P' ∧ True) := by
  refine EvP.of qm_219 (Nat.le_of_ble_eq_true rfl) rfl ?_
  show MEvP _ none q_219 0 [(0, .ref 301)] [] _ 0 0 _
  have g1 : (0 : Int) ≤ (fv Po 301 24).toInt ∧ (fv Po 301 24).toInt ≤ 81 := Typ.rng hT rl_301 (by decide) (by decide) rfl
  have g2 : (0 : Int) ≤ (fv Po 301 23).toInt ∧ (fv Po 301 23).toInt ≤ 80 := Typ.rng hT rl_301 (by decide) (by decide) rfl
  refine mp_a (a_aload_n dX7_readsSizes_0 rfl) (mpp 1 rfl ?_)
  refine mp_a (a_iconst (v := 0) dX7_readsSizes_1 rfl) (mpp 2 rfl ?_)
  refine mt_putI (i := 300) (k := 26) (x := 0) hT dX7_readsSizes_2 rfl rl_301 (by decide) rfl (by decide) rfl (by decide) rfl rfl (fun P3 hT4 f5 f6 f7 => mpp 5 rfl ?_)
  have k8 : KW [1112, 1114] Po P3 := KW.step KW.refl rl_301 rfl f6 f7
  have e9 : (fv P3 301 26).toInt = 0 := congrArg Int32.toInt f5
  refine mp_a (a_iconst (v := 0) dX7_readsSizes_5 rfl) (mpp 6 rfl ?_)
  refine mp_a (a_istore_n (L' := [(1, .int 0), (0, .ref 301)]) dX7_readsSizes_6 (by decide) rfl) (mpp 7 rfl ?_)
  refine MEvP.less (L := [(0, .ref 301), (1, .int 0)]) rfl rfl ⟨rfl, rfl, trivial⟩ ?_
  have e10 : (fv P3 301 24).toInt = (fv Po 301 24).toInt := congrArg Int32.toInt (f6 301 24 (ne_k rfl))
  have i11 : (fv Po 301 24).toInt ≤ (fv P3 301 24).toInt := by omega
  have e12 : (fv P3 301 23).toInt = (fv Po 301 23).toInt := congrArg Int32.toInt (f6 301 23 (ne_k rfl))
  have i13 : (fv P3 301 24).toInt ≤ (fv P3 301 23).toInt := by omega
  have i14 : ∀ j : Nat, j < (0 : Int).toNat → D1 (chM Po ((fv Po 301 24).toInt + (j : Int))).toInt := fun j hj => absurd hj (Nat.not_lt_zero j)
  have i15 : (fv P3 301 24).toInt = (fv Po 301 24).toInt + (0 : Int) := by omega
  have i16 : fv P3 301 26 = szI (chM Po) (fv Po 301 24).toInt (0 : Int).toNat := f5
  have i17 : (∀ j : Nat, fv P3 314 j = fv Po 314 j) ∧ fv P3 301 23 = fv Po 301 23 := ⟨fun j => by rw [f6 314 j (by omega)], by rw [f6 301 23 (by omega)]⟩
  have i18 : (0 : Int) ≤ 8 := by omega
  have i19 : 0 ≤ (0 : Int) := by omega
  exact c_M_readsSizes_l7   hp0 _ _ P3 hT4 k8 i11 i13 i14 i15 i16 i17 i18 i19 rfl

set_option maxHeartbeats 4000000 in
theorem c_M_takes {Po : mP} {t1 : Int32} (hT : Typ Po)  (hp0 : 0 ≤ t1.toInt)  : EvP 2 220 [.ref 301, .int t1] Po (fun r P' => (∃ x : Int32, r = some (.int x) ∧ (0 ≤ x.toInt ∧ x.toInt ≤ 1 ∧ ((x.toInt = 1 ∧ (chM Po (fv Po 301 24).toInt).toInt = t1.toInt ∧ (fv P' 301 24).toInt = (fv Po 301 24).toInt + 1 ∧ (fv P' 301 24).toInt ≤ (fv Po 301 23).toInt) ∨ (x.toInt = 0 ∧ ¬ (chM Po (fv Po 301 24).toInt).toInt = t1.toInt ∧ (fv P' 301 24).toInt = (fv Po 301 24).toInt)))) ∧ Typ P' ∧ KW [1112] Po P' ∧ True) := by
  refine EvP.of qm_220 (Nat.le_of_ble_eq_true rfl) rfl ?_
  show MEvP _ none q_220 0 [(0, .ref 301), (1, .int t1)] [] _ 0 0 _
  have w_t1 := ti_full t1
  have g1 : (0 : Int) ≤ (fv Po 301 24).toInt ∧ (fv Po 301 24).toInt ≤ 81 := Typ.rng hT rl_301 (by decide) (by decide) rfl
  have g2 : (0 : Int) ≤ (fv Po 301 23).toInt ∧ (fv Po 301 23).toInt ≤ 80 := Typ.rng hT rl_301 (by decide) (by decide) rfl
  refine mp_a (a_aload_n dX7_takes_0 rfl) (mpp 1 rfl ?_)
  refine mt_callv (i := 297) (q' := q_218) (As := []) (rest := []) hT dX7_takes_1 rfl qm_218 (by decide) rfl rl_301 (by decide) rfl (Nat.le_of_ble_eq_true rfl) rfl ⟨rfl, rfl⟩ ⟨Nat.le_of_ble_eq_true rfl, Nat.le_of_ble_eq_true rfl⟩ (EvP.mono (by decide) (c_M_sign hT )) (fun r3 P4 g5 => mpp 4 rfl ?_)
  obtain ⟨⟨x6, rfl, g7⟩, e8⟩ := g5
  have e8 := e8.symm
  subst e8
  have wx6 := ti_full x6
  replace g7 : (x6.toInt = -1 ∨ (fv Po 301 24).toInt + 1 ≤ (fv Po 301 23).toInt) ∧ x6.toInt = (chM Po (fv Po 301 24).toInt).toInt := g7
  show MEvP _ none q_220 4 [(0, .ref 301), (1, .int t1)] [.int x6] _ _ _ _
  refine mp_a (a_iload_n dX7_takes_4 rfl) (mpp 5 rfl ?_)
  refine mp_Tb (t := 12) (j_icmp_ne dX7_takes_5) (by decide) (fun c9 => ?_) (fun c9 => mpp 8 rfl ?_)
  · have c9 : x6.toInt ≠ t1.toInt := ti_ne c9
    refine mp_a (a_iconst (v := 0) dX7_takes_12 rfl) (mpp 13 rfl ?_)
    refine mp_a (a_istore_n (L' := [(2, .int 0), (0, .ref 301), (1, .int t1)]) dX7_takes_13 (by decide) rfl) (mpp 14 rfl ?_)
    refine mp_a (a_aload_n dX7_takes_14 rfl) (mpp 15 rfl ?_)
    refine mp_t (s_dup dX7_takes_15 rfl) (mpp 16 rfl ?_)
    refine mt_getI (i := 294) (k := 24) hT dX7_takes_16 rfl rl_301 (by decide) rfl (by decide) rfl (fun g10 g11 => mpp 19 rfl ?_)
    refine mp_a (a_iload_n dX7_takes_19 rfl) (mpp 20 rfl ?_)
    refine mp_Tt (t := 27) (j_if_eq dX7_takes_20) (by decide) (by decide) ?_
    refine mp_a (a_iconst (v := 0) dX7_takes_27 rfl) (mpp 28 rfl ?_)
    obtain ⟨z12, h13⟩ := ti_ex ((fv Po 301 24) + 0 : Int32)
    have wz12 := ti_full z12
    refine mp_t (s_iadd (v := z12) dX7_takes_28 h13) (mpp 29 rfl ?_)
    try have e14 : z12.toInt = (fv Po 301 24).toInt + 0 := ti_addz h13 rfl rfl (by omega) (by omega)
    refine mt_putI (i := 294) (k := 24) (x := z12) hT dX7_takes_29 rfl rl_301 (by decide) rfl (by decide) rfl ⟨by omega, by omega⟩ rfl rfl (fun P15 hT16 f17 f18 f19 => mpp 32 rfl ?_)
    have k20 : KW [1112] Po P15 := KW.step KW.refl rl_301 rfl f18 f19
    have e21 : (fv P15 301 24).toInt = z12.toInt := congrArg Int32.toInt f17
    refine mp_a (a_iload_n dX7_takes_32 rfl) (mpp 33 rfl ?_)
    have u22 : 0 ≤ (0 : Int) ∧ (0 : Int) ≤ 1 ∧ (((0 : Int) = 1 ∧ (chM Po (fv Po 301 24).toInt).toInt = t1.toInt ∧ (fv P15 301 24).toInt = (fv Po 301 24).toInt + 1 ∧ (fv P15 301 24).toInt ≤ (fv Po 301 23).toInt) ∨ ((0 : Int) = 0 ∧ ¬ (chM Po (fv Po 301 24).toInt).toInt = t1.toInt ∧ (fv P15 301 24).toInt = (fv Po 301 24).toInt)) := by omega
    exact mp_iret ⟨⟨_, rfl, u22⟩, hT16, k20, trivial⟩ dX7_takes_33 (Or.inr ⟨rfl, by decide⟩)
  · have c9 : x6.toInt = t1.toInt := ti_ne_n c9
    refine mp_a (a_iconst (v := 1) dX7_takes_8 rfl) (mpp 9 rfl ?_)
    refine mp_a (a_goto (t := 13) dX7_takes_9 (by decide)) ?_
    refine mp_a (a_istore_n (L' := [(2, .int 1), (0, .ref 301), (1, .int t1)]) dX7_takes_13 (by decide) rfl) (mpp 14 rfl ?_)
    refine mp_a (a_aload_n dX7_takes_14 rfl) (mpp 15 rfl ?_)
    refine mp_t (s_dup dX7_takes_15 rfl) (mpp 16 rfl ?_)
    refine mt_getI (i := 294) (k := 24) hT dX7_takes_16 rfl rl_301 (by decide) rfl (by decide) rfl (fun g23 g24 => mpp 19 rfl ?_)
    refine mp_a (a_iload_n dX7_takes_19 rfl) (mpp 20 rfl ?_)
    refine mp_Tf (t := 27) (j_if_eq dX7_takes_20) (by decide) (by decide) (mpp 23 rfl ?_)
    refine mp_a (a_iconst (v := 1) dX7_takes_23 rfl) (mpp 24 rfl ?_)
    refine mp_a (a_goto (t := 28) dX7_takes_24 (by decide)) ?_
    obtain ⟨z25, h26⟩ := ti_ex ((fv Po 301 24) + 1 : Int32)
    have wz25 := ti_full z25
    refine mp_t (s_iadd (v := z25) dX7_takes_28 h26) (mpp 29 rfl ?_)
    try have e27 : z25.toInt = (fv Po 301 24).toInt + 1 := ti_addz h26 rfl rfl (by omega) (by omega)
    refine mt_putI (i := 294) (k := 24) (x := z25) hT dX7_takes_29 rfl rl_301 (by decide) rfl (by decide) rfl ⟨by omega, by omega⟩ rfl rfl (fun P28 hT29 f30 f31 f32 => mpp 32 rfl ?_)
    have k33 : KW [1112] Po P28 := KW.step KW.refl rl_301 rfl f31 f32
    have e34 : (fv P28 301 24).toInt = z25.toInt := congrArg Int32.toInt f30
    refine mp_a (a_iload_n dX7_takes_32 rfl) (mpp 33 rfl ?_)
    have u35 : 0 ≤ (1 : Int) ∧ (1 : Int) ≤ 1 ∧ (((1 : Int) = 1 ∧ (chM Po (fv Po 301 24).toInt).toInt = t1.toInt ∧ (fv P28 301 24).toInt = (fv Po 301 24).toInt + 1 ∧ (fv P28 301 24).toInt ≤ (fv Po 301 23).toInt) ∨ ((1 : Int) = 0 ∧ ¬ (chM Po (fv Po 301 24).toInt).toInt = t1.toInt ∧ (fv P28 301 24).toInt = (fv Po 301 24).toInt)) := by omega
    exact mp_iret ⟨⟨_, rfl, u35⟩, hT29, k33, trivial⟩ dX7_takes_33 (Or.inr ⟨rfl, by decide⟩)

set_option maxHeartbeats 4000000 in
theorem c_M_kindOf {Po : mP} {t0 : Int32} (hT : Typ Po)   : EvP 1 222 [.int t0] Po (fun r P' => (∃ x : Int32, r = some (.int x) ∧ (((t0.toInt = 111 ∨ t0.toInt = 109 ∨ t0.toInt = 118) ∧ 0 ≤ x.toInt ∧ x.toInt = (kn t0.toInt).toInt) ∨ (¬ (t0.toInt = 111 ∨ t0.toInt = 109 ∨ t0.toInt = 118) ∧ x.toInt = -1))) ∧ P' = Po) := by
  refine EvP.of qm_222 (Nat.le_of_ble_eq_true rfl) rfl ?_
  show MEvP _ none q_222 0 [(0, .int t0)] [] _ 0 0 _
  have w_t0 := ti_full t0
  refine mp_a (a_iload_n dX7_kindOf_0 rfl) (mpp 1 rfl ?_)
  refine mp_a (a_bipush (v := 111) dX7_kindOf_1 rfl) (mpp 3 rfl ?_)
  refine mp_Tb (t := 10) (j_icmp_ne dX7_kindOf_3) (by decide) (fun c1 => ?_) (fun c1 => mpp 6 rfl ?_)
  · have c1 : t0.toInt ≠ 111 := ti_ne c1
    refine mp_a (a_iload_n dX7_kindOf_10 rfl) (mpp 11 rfl ?_)
    refine mp_a (a_bipush (v := 109) dX7_kindOf_11 rfl) (mpp 13 rfl ?_)
    refine mp_Tb (t := 20) (j_icmp_ne dX7_kindOf_13) (by decide) (fun c2 => ?_) (fun c2 => mpp 16 rfl ?_)
    · have c2 : t0.toInt ≠ 109 := ti_ne c2
      refine mp_a (a_iload_n dX7_kindOf_20 rfl) (mpp 21 rfl ?_)
      refine mp_a (a_bipush (v := 118) dX7_kindOf_21 rfl) (mpp 23 rfl ?_)
      refine mp_Tb (t := 30) (j_icmp_ne dX7_kindOf_23) (by decide) (fun c3 => ?_) (fun c3 => mpp 26 rfl ?_)
      · have c3 : t0.toInt ≠ 118 := ti_ne c3
        refine mp_a (a_iconst (v := -1) dX7_kindOf_30 rfl) (mpp 31 rfl ?_)
        have u4 : ((t0.toInt = 111 ∨ t0.toInt = 109 ∨ t0.toInt = 118) ∧ 0 ≤ (-1 : Int) ∧ (-1 : Int) = (kn t0.toInt).toInt) ∨ (¬ (t0.toInt = 111 ∨ t0.toInt = 109 ∨ t0.toInt = 118) ∧ (-1 : Int) = -1) := Or.inr ⟨by omega, rfl⟩
        exact mp_iret ⟨⟨_, rfl, u4⟩, rfl⟩ dX7_kindOf_31 (Or.inl rfl)
      · have c3 : t0.toInt = 118 := ti_ne_n c3
        refine mp_a (a_iconst (v := 2) dX7_kindOf_26 rfl) (mpp 27 rfl ?_)
        refine mp_a (a_goto (t := 31) dX7_kindOf_27 (by decide)) ?_
        have u5 : ((t0.toInt = 111 ∨ t0.toInt = 109 ∨ t0.toInt = 118) ∧ 0 ≤ (2 : Int) ∧ (2 : Int) = (kn t0.toInt).toInt) ∨ (¬ (t0.toInt = 111 ∨ t0.toInt = 109 ∨ t0.toInt = 118) ∧ (2 : Int) = -1) := Or.inl ⟨by omega, by omega, kn_v (by omega) rfl⟩
        exact mp_iret ⟨⟨_, rfl, u5⟩, rfl⟩ dX7_kindOf_31 (Or.inl rfl)
    · have c2 : t0.toInt = 109 := ti_ne_n c2
      refine mp_a (a_iconst (v := 1) dX7_kindOf_16 rfl) (mpp 17 rfl ?_)
      refine mp_a (a_goto (t := 31) dX7_kindOf_17 (by decide)) ?_
      have u6 : ((t0.toInt = 111 ∨ t0.toInt = 109 ∨ t0.toInt = 118) ∧ 0 ≤ (1 : Int) ∧ (1 : Int) = (kn t0.toInt).toInt) ∨ (¬ (t0.toInt = 111 ∨ t0.toInt = 109 ∨ t0.toInt = 118) ∧ (1 : Int) = -1) := Or.inl ⟨by omega, by omega, kn_m (by omega) rfl⟩
      exact mp_iret ⟨⟨_, rfl, u6⟩, rfl⟩ dX7_kindOf_31 (Or.inl rfl)
  · have c1 : t0.toInt = 111 := ti_ne_n c1
    refine mp_a (a_iconst (v := 0) dX7_kindOf_6 rfl) (mpp 7 rfl ?_)
    refine mp_a (a_goto (t := 31) dX7_kindOf_7 (by decide)) ?_
    have u7 : ((t0.toInt = 111 ∨ t0.toInt = 109 ∨ t0.toInt = 118) ∧ 0 ≤ (0 : Int) ∧ (0 : Int) = (kn t0.toInt).toInt) ∨ (¬ (t0.toInt = 111 ∨ t0.toInt = 109 ∨ t0.toInt = 118) ∧ (0 : Int) = -1) := Or.inl ⟨by omega, by omega, kn_o (by omega) rfl⟩
    exact mp_iret ⟨⟨_, rfl, u7⟩, rfl⟩ dX7_kindOf_31 (Or.inl rfl)

