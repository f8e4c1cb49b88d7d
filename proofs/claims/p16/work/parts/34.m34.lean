/-! methods on typed pools, 34 (written by a program) -/
set_option maxHeartbeats 4000000 in
theorem c_M_crimpsCorner {Po : mP} {t1 : Int32} (hT : Typ Po)  (hp0 : 0 ≤ t1.toInt) (hp1 : t1.toInt + 1 ≤ (fv Po 301 13).toInt) (hp2 : 3 ≤ (fv Po 301 13).toInt) (hp3 : (fv Po 301 14).toInt ≠ 0)  : EvP 2 172 [.ref 301, .int t1] Po (fun r P' => (r = none ∧ ((fv P' 301 13).toInt = (fv Po 301 13).toInt - 2 ∧ rM P' = mkF (rM Po) (10 + t1.toInt))) ∧ Typ P' ∧ KW [1101, 1536, 1600] Po P' ∧ fv P' 301 14 = fv Po 301 14 ∧ KI 301 310 Po P') := by
  refine EvP.of qm_172 (Nat.le_of_ble_eq_true rfl) rfl ?_
  show MEvP _ none q_172 0 [(0, .ref 301), (1, .int t1)] [] _ 0 0 _
  have w_t1 := ti_full t1
  have g1 : (0 : Int) ≤ (fv Po 301 13).toInt ∧ (fv Po 301 13).toInt ≤ 8 := Typ.rng hT rl_301 (by decide) (by decide) rfl
  have g2 : (0 : Int) ≤ (fv Po 301 14).toInt ∧ (fv Po 301 14).toInt ≤ 1 := Typ.rng hT rl_301 (by decide) (by decide) rfl
  refine mp_a (a_iload_n dX7_crimpsCorner_0 rfl) (mpp 1 rfl ?_)
  refine mp_a (a_aload_n dX7_crimpsCorner_1 rfl) (mpp 2 rfl ?_)
  refine mt_getI (i := 165) (k := 13) hT dX7_crimpsCorner_2 rfl rl_301 (by decide) rfl (by decide) rfl (fun g3 g4 => mpp 5 rfl ?_)
  obtain ⟨z5, h6⟩ := ti_ex (t1 + (fv Po 301 13) : Int32)
  have wz5 := ti_full z5
  refine mp_t (s_iadd (v := z5) dX7_crimpsCorner_5 h6) (mpp 6 rfl ?_)
  try have e7 : z5.toInt = t1.toInt + (fv Po 301 13).toInt := ti_addz h6 rfl rfl (by omega) (by omega)
  refine mp_a (a_iconst (v := 1) dX7_crimpsCorner_6 rfl) (mpp 7 rfl ?_)
  obtain ⟨z8, h9⟩ := ti_ex (z5 - 1 : Int32)
  have wz8 := ti_full z8
  refine mp_t (s_isub (v := z8) dX7_crimpsCorner_7 h9) (mpp 8 rfl ?_)
  try have e10 : z8.toInt = z5.toInt - 1 := ti_subz h9 rfl rfl (by omega) (by omega)
  refine mp_a (a_aload_n dX7_crimpsCorner_8 rfl) (mpp 9 rfl ?_)
  refine mt_getI (i := 165) (k := 13) hT dX7_crimpsCorner_9 rfl rl_301 (by decide) rfl (by decide) rfl (fun g11 g12 => mpp 12 rfl ?_)
  obtain ⟨z13, h14⟩ := ti_ex (z8 - z8 / (fv Po 301 13) * (fv Po 301 13) : Int32)
  have wz13 := ti_full z13
  have n15 : ¬ (fv Po 301 13) = 0 := ti_n0 (by omega)
  try have e17 : z13.toInt = z8.toInt % (fv Po 301 13).toInt := ti_remx h14 (show (0 : Int) ≤ z8.toInt by omega) (show (0 : Int) < (fv Po 301 13).toInt by omega)
  try have e16 : 0 ≤ z13.toInt ∧ z13.toInt < (fv Po 301 13).toInt := ti_rem h14 (show (0 : Int) ≤ z8.toInt by omega) (show (0 : Int) < (fv Po 301 13).toInt by omega)
  refine mp_t (s_irem (v := z13) dX7_crimpsCorner_12 n15 h14) (mpp 13 rfl ?_)
  refine mp_a (a_istore_n (L' := [(2, .int z13), (0, .ref 301), (1, .int t1)]) dX7_crimpsCorner_13 (by decide) rfl) (mpp 14 rfl ?_)
  refine mp_a (a_iload_n dX7_crimpsCorner_14 rfl) (mpp 15 rfl ?_)
  refine mp_a (a_iconst (v := 1) dX7_crimpsCorner_15 rfl) (mpp 16 rfl ?_)
  obtain ⟨z18, h19⟩ := ti_ex (t1 + 1 : Int32)
  have wz18 := ti_full z18
  refine mp_t (s_iadd (v := z18) dX7_crimpsCorner_16 h19) (mpp 17 rfl ?_)
  try have e20 : z18.toInt = t1.toInt + 1 := ti_addz h19 rfl rfl (by omega) (by omega)
  refine mp_a (a_aload_n dX7_crimpsCorner_17 rfl) (mpp 18 rfl ?_)
  refine mt_getI (i := 165) (k := 13) hT dX7_crimpsCorner_18 rfl rl_301 (by decide) rfl (by decide) rfl (fun g21 g22 => mpp 21 rfl ?_)
  obtain ⟨z23, h24⟩ := ti_ex (z18 - z18 / (fv Po 301 13) * (fv Po 301 13) : Int32)
  have wz23 := ti_full z23
  have n25 : ¬ (fv Po 301 13) = 0 := ti_n0 (by omega)
  try have e27 : z23.toInt = z18.toInt % (fv Po 301 13).toInt := ti_remx h24 (show (0 : Int) ≤ z18.toInt by omega) (show (0 : Int) < (fv Po 301 13).toInt by omega)
  try have e26 : 0 ≤ z23.toInt ∧ z23.toInt < (fv Po 301 13).toInt := ti_rem h24 (show (0 : Int) ≤ z18.toInt by omega) (show (0 : Int) < (fv Po 301 13).toInt by omega)
  refine mp_t (s_irem (v := z23) dX7_crimpsCorner_21 n25 h24) (mpp 22 rfl ?_)
  refine mp_a (a_istore_n (L' := [(3, .int z23), (2, .int z13), (0, .ref 301), (1, .int t1)]) dX7_crimpsCorner_22 (by decide) rfl) (mpp 23 rfl ?_)
  refine mp_a (a_aload_n dX7_crimpsCorner_23 rfl) (mpp 24 rfl ?_)
  refine mt_getU (i := 28) (k := 11) (A := 308) hT dX7_crimpsCorner_24 rfl rl_301 (by decide) rfl (by decide) rfl un_24 (mpp 27 rfl ?_)
  refine mp_a (a_iload_n dX7_crimpsCorner_27 rfl) (mpp 28 rfl ?_)
  refine mp_a (a_aload_n dX7_crimpsCorner_28 rfl) (mpp 29 rfl ?_)
  refine mt_getU (i := 28) (k := 11) (A := 308) hT dX7_crimpsCorner_29 rfl rl_301 (by decide) rfl (by decide) rfl un_24 (mpp 32 rfl ?_)
  refine mp_a (a_iload_n dX7_crimpsCorner_32 rfl) (mpp 33 rfl ?_)
  refine mt_ial (n := 8) hT dX7_crimpsCorner_33 rl_308 (by decide) rfl rfl (by omega) (by omega) rfl (fun g28 g29 => mpp 34 rfl ?_)
  refine mp_a (a_aload_n dX7_crimpsCorner_34 rfl) (mpp 35 rfl ?_)
  refine mt_getU (i := 28) (k := 11) (A := 308) hT dX7_crimpsCorner_35 rfl rl_301 (by decide) rfl (by decide) rfl un_24 (mpp 38 rfl ?_)
  refine mp_a (a_iload_n dX7_crimpsCorner_38 rfl) (mpp 39 rfl ?_)
  refine mt_ial (n := 8) hT dX7_crimpsCorner_39 rl_308 (by decide) rfl rfl (by omega) (by omega) rfl (fun g30 g31 => mpp 40 rfl ?_)
  obtain ⟨z32, h33⟩ := ti_ex ((fv Po 308 z13.toInt.toNat) + (fv Po 308 z23.toInt.toNat) : Int32)
  have wz32 := ti_full z32
  refine mp_t (s_iadd (v := z32) dX7_crimpsCorner_40 h33) (mpp 41 rfl ?_)
  try have e34 : z32.toInt = (fv Po 308 z13.toInt.toNat).toInt + (fv Po 308 z23.toInt.toNat).toInt := ti_addz h33 rfl rfl (by omega) (by omega)
  refine mp_a (a_aload_n dX7_crimpsCorner_41 rfl) (mpp 42 rfl ?_)
  refine mt_getU (i := 28) (k := 11) (A := 308) hT dX7_crimpsCorner_42 rfl rl_301 (by decide) rfl (by decide) rfl un_24 (mpp 45 rfl ?_)
  refine mp_a (a_iload_n dX7_crimpsCorner_45 rfl) (mpp 46 rfl ?_)
  refine mt_ial (n := 8) hT dX7_crimpsCorner_46 rl_308 (by decide) rfl rfl (by omega) (by omega) rfl (fun g35 g36 => mpp 47 rfl ?_)
  obtain ⟨z37, h38⟩ := ti_ex (z32 - (fv Po 308 t1.toInt.toNat) : Int32)
  have wz37 := ti_full z37
  refine mp_t (s_isub (v := z37) dX7_crimpsCorner_47 h38) (mpp 48 rfl ?_)
  try have e39 : z37.toInt = z32.toInt - (fv Po 308 t1.toInt.toNat).toInt := ti_subz h38 rfl rfl (by omega) (by omega)
  refine mt_ias (n := 8) hT dX7_crimpsCorner_48 rl_308 (by decide) rfl rfl (by omega) (by omega) rfl (ti_full z37) (fun P40 hT41 f42 f43 f44 => mpp 49 rfl ?_)
  have k45 : KW [1101, 1536, 1600] Po P40 := KW.step KW.refl rl_308 rfl f43 f44
  refine mp_a (a_iload_n dX7_crimpsCorner_49 rfl) (mpp 50 rfl ?_)
  refine mp_a (a_iload_n dX7_crimpsCorner_50 rfl) (mpp 51 rfl ?_)
  refine mp_calls (i := 178) (q' := q_173) (As := [.int t1, .int z23]) (rest := []) dX7_crimpsCorner_51 rfl qm_173 (by decide) rfl (Nat.le_of_ble_eq_true rfl) rfl ⟨rfl, rfl⟩ ⟨Nat.le_of_ble_eq_true rfl, Nat.le_of_ble_eq_true rfl⟩ (EvP.mono (by decide) (c_M_greater hT41 )) (fun r46 P47 g48 => mpp 54 rfl ?_)
  obtain ⟨⟨x49, rfl, g50⟩, e51⟩ := g48
  have e51 := e51.symm
  subst e51
  have wx49 := ti_full x49
  replace g50 : (x49.toInt = t1.toInt ∧ z23.toInt ≤ t1.toInt) ∨ (x49.toInt = z23.toInt ∧ t1.toInt ≤ z23.toInt) := g50
  show MEvP _ none q_172 54 [(3, .int z23), (2, .int z13), (0, .ref 301), (1, .int t1)] [.int x49] _ _ _ _
  refine mp_a (a_istore (L' := [(4, .int x49), (3, .int z23), (2, .int z13), (0, .ref 301), (1, .int t1)]) dX7_crimpsCorner_54 (by decide) rfl) (mpp 56 rfl ?_)
  refine mp_a (a_iload_n dX7_crimpsCorner_56 rfl) (mpp 57 rfl ?_)
  refine mp_a (a_iload_n dX7_crimpsCorner_57 rfl) (mpp 58 rfl ?_)
  refine mp_calls (i := 155) (q' := q_158) (As := [.int t1, .int z23]) (rest := []) dX7_crimpsCorner_58 rfl qm_158 (by decide) rfl (Nat.le_of_ble_eq_true rfl) rfl ⟨rfl, rfl⟩ ⟨Nat.le_of_ble_eq_true rfl, Nat.le_of_ble_eq_true rfl⟩ (EvP.mono (by decide) (c_M_lesser hT41 )) (fun r52 P53 g54 => mpp 61 rfl ?_)
  obtain ⟨⟨x55, rfl, g56⟩, e57⟩ := g54
  have e57 := e57.symm
  subst e57
  have wx55 := ti_full x55
  replace g56 : (x55.toInt = t1.toInt ∧ t1.toInt ≤ z23.toInt) ∨ (x55.toInt = z23.toInt ∧ z23.toInt ≤ t1.toInt) := g56
  show MEvP _ none q_172 61 [(4, .int x49), (3, .int z23), (2, .int z13), (0, .ref 301), (1, .int t1)] [.int x55] _ _ _ _
  refine mp_a (a_istore (L' := [(5, .int x55), (4, .int x49), (3, .int z23), (2, .int z13), (0, .ref 301), (1, .int t1)]) dX7_crimpsCorner_61 (by decide) rfl) (mpp 63 rfl ?_)
  refine mp_a (a_aload_n dX7_crimpsCorner_63 rfl) (mpp 64 rfl ?_)
  refine mp_a (a_iload dX7_crimpsCorner_64 rfl) (mpp 66 rfl ?_)
  have p58 : 0 ≤ x49.toInt := by omega
  have p59 : x49.toInt ≤ 8 := by omega
  refine mt_callv (i := 175) (q' := q_171) (As := [.int x49]) (rest := []) hT41 dX7_crimpsCorner_66 rfl qm_171 (by decide) rfl rl_301 (by decide) rfl (Nat.le_of_ble_eq_true rfl) rfl ⟨rfl, rfl⟩ ⟨Nat.le_of_ble_eq_true rfl, Nat.le_of_ble_eq_true rfl⟩ (EvP.mono (by decide) (c_M_dropsCrease hT41 p58 p59 )) (fun r60 P61 g62 => mpp 69 rfl ?_)
  obtain ⟨⟨rfl, g64⟩, hT65, k66, R67⟩ := g62
  have k68 : KW [1101, 1536, 1600] Po P61 := KW.trans k45 k66 rfl
  replace g64 : (∀ j : Nat, j < 7 → fv P61 309 j = tk x49.toInt.toNat (fun j : Nat => fv P40 309 j) j) := g64
  show MEvP _ none q_172 69 [(5, .int x55), (4, .int x49), (3, .int z23), (2, .int z13), (0, .ref 301), (1, .int t1)] [] _ _ _ _
  refine mp_a (a_aload_n dX7_crimpsCorner_69 rfl) (mpp 70 rfl ?_)
  refine mp_a (a_iload dX7_crimpsCorner_70 rfl) (mpp 72 rfl ?_)
  have p70 : 0 ≤ x49.toInt := by omega
  have p71 : x49.toInt ≤ 8 := by omega
  refine mt_callv (i := 172) (q' := q_170) (As := [.int x49]) (rest := []) hT65 dX7_crimpsCorner_72 rfl qm_170 (by decide) rfl rl_301 (by decide) rfl (Nat.le_of_ble_eq_true rfl) rfl ⟨rfl, rfl⟩ ⟨Nat.le_of_ble_eq_true rfl, Nat.le_of_ble_eq_true rfl⟩ (EvP.mono (by decide) (c_M_dropsSize hT65 p70 p71 )) (fun r72 P73 g74 => mpp 75 rfl ?_)
  obtain ⟨⟨rfl, g76⟩, hT77, k78, R79⟩ := g74
  have k80 : KW [1101, 1536, 1600] Po P73 := KW.trans k68 k78 rfl
  replace g76 : (∀ j : Nat, (j : Int) + 1 < (fv P61 301 13).toInt → fv P73 308 j = tk x49.toInt.toNat (fun j : Nat => fv P61 308 j) j) := g76
  have e82 : (fv P61 301 13).toInt = (fv Po 301 13).toInt := congrArg Int32.toInt ((KW.at k66 13 rl_301 rfl).trans (f43 301 13 (ne_r rl_301 rl_308 rfl)))
  show MEvP _ none q_172 75 [(5, .int x55), (4, .int x49), (3, .int z23), (2, .int z13), (0, .ref 301), (1, .int t1)] [] _ _ _ _
  refine mp_a (a_aload_n dX7_crimpsCorner_75 rfl) (mpp 76 rfl ?_)
  refine mp_t (s_dup dX7_crimpsCorner_76 rfl) (mpp 77 rfl ?_)
  have e83 : (fv P73 301 13).toInt = (fv P61 301 13).toInt := congrArg Int32.toInt (KW.at k78 13 rl_301 rfl)
  refine mt_getI (i := 165) (k := 13) hT77 dX7_crimpsCorner_77 rfl rl_301 (by decide) rfl (by decide) rfl (fun g84 g85 => mpp 80 rfl ?_)
  refine mp_a (a_iconst (v := 1) dX7_crimpsCorner_80 rfl) (mpp 81 rfl ?_)
  obtain ⟨z86, h87⟩ := ti_ex ((fv P73 301 13) - 1 : Int32)
  have wz86 := ti_full z86
  refine mp_t (s_isub (v := z86) dX7_crimpsCorner_81 h87) (mpp 82 rfl ?_)
  try have e88 : z86.toInt = (fv P73 301 13).toInt - 1 := ti_subz h87 rfl rfl (by omega) (by omega)
  refine mt_putI (i := 165) (k := 13) (x := z86) hT77 dX7_crimpsCorner_82 rfl rl_301 (by decide) rfl (by decide) rfl ⟨by omega, by omega⟩ rfl rfl (fun P89 hT90 f91 f92 f93 => mpp 85 rfl ?_)
  have k94 : KW [1101, 1536, 1600] Po P89 := KW.step k80 rl_301 rfl f92 f93
  have e95 : (fv P89 301 13).toInt = z86.toInt := congrArg Int32.toInt f91
  refine mp_a (a_aload_n dX7_crimpsCorner_85 rfl) (mpp 86 rfl ?_)
  refine mp_a (a_iload dX7_crimpsCorner_86 rfl) (mpp 88 rfl ?_)
  have p96 : 0 ≤ x55.toInt := by omega
  have p97 : x55.toInt ≤ 8 := by omega
  refine mt_callv (i := 175) (q' := q_171) (As := [.int x55]) (rest := []) hT90 dX7_crimpsCorner_88 rfl qm_171 (by decide) rfl rl_301 (by decide) rfl (Nat.le_of_ble_eq_true rfl) rfl ⟨rfl, rfl⟩ ⟨Nat.le_of_ble_eq_true rfl, Nat.le_of_ble_eq_true rfl⟩ (EvP.mono (by decide) (c_M_dropsCrease hT90 p96 p97 )) (fun r98 P99 g100 => mpp 91 rfl ?_)
  obtain ⟨⟨rfl, g102⟩, hT103, k104, R105⟩ := g100
  have k106 : KW [1101, 1536, 1600] Po P99 := KW.trans k94 k104 rfl
  replace g102 : (∀ j : Nat, j < 7 → fv P99 309 j = tk x55.toInt.toNat (fun j : Nat => fv P89 309 j) j) := g102
  show MEvP _ none q_172 91 [(5, .int x55), (4, .int x49), (3, .int z23), (2, .int z13), (0, .ref 301), (1, .int t1)] [] _ _ _ _
  refine mp_a (a_aload_n dX7_crimpsCorner_91 rfl) (mpp 92 rfl ?_)
  refine mp_a (a_iload dX7_crimpsCorner_92 rfl) (mpp 94 rfl ?_)
  have p108 : 0 ≤ x55.toInt := by omega
  have p109 : x55.toInt ≤ 8 := by omega
  refine mt_callv (i := 172) (q' := q_170) (As := [.int x55]) (rest := []) hT103 dX7_crimpsCorner_94 rfl qm_170 (by decide) rfl rl_301 (by decide) rfl (Nat.le_of_ble_eq_true rfl) rfl ⟨rfl, rfl⟩ ⟨Nat.le_of_ble_eq_true rfl, Nat.le_of_ble_eq_true rfl⟩ (EvP.mono (by decide) (c_M_dropsSize hT103 p108 p109 )) (fun r110 P111 g112 => mpp 97 rfl ?_)
  obtain ⟨⟨rfl, g114⟩, hT115, k116, R117⟩ := g112
  have k118 : KW [1101, 1536, 1600] Po P111 := KW.trans k106 k116 rfl
  replace g114 : (∀ j : Nat, (j : Int) + 1 < (fv P99 301 13).toInt → fv P111 308 j = tk x55.toInt.toNat (fun j : Nat => fv P99 308 j) j) := g114
  have e120 : (fv P99 301 13).toInt = (fv P89 301 13).toInt := congrArg Int32.toInt (KW.at k104 13 rl_301 rfl)
  show MEvP _ none q_172 97 [(5, .int x55), (4, .int x49), (3, .int z23), (2, .int z13), (0, .ref 301), (1, .int t1)] [] _ _ _ _
  refine mp_a (a_aload_n dX7_crimpsCorner_97 rfl) (mpp 98 rfl ?_)
  refine mp_t (s_dup dX7_crimpsCorner_98 rfl) (mpp 99 rfl ?_)
  have e121 : (fv P111 301 13).toInt = (fv P99 301 13).toInt := congrArg Int32.toInt (KW.at k116 13 rl_301 rfl)
  refine mt_getI (i := 165) (k := 13) hT115 dX7_crimpsCorner_99 rfl rl_301 (by decide) rfl (by decide) rfl (fun g122 g123 => mpp 102 rfl ?_)
  refine mp_a (a_iconst (v := 1) dX7_crimpsCorner_102 rfl) (mpp 103 rfl ?_)
  obtain ⟨z124, h125⟩ := ti_ex ((fv P111 301 13) - 1 : Int32)
  have wz124 := ti_full z124
  refine mp_t (s_isub (v := z124) dX7_crimpsCorner_103 h125) (mpp 104 rfl ?_)
  try have e126 : z124.toInt = (fv P111 301 13).toInt - 1 := ti_subz h125 rfl rfl (by omega) (by omega)
  refine mt_putI (i := 165) (k := 13) (x := z124) hT115 dX7_crimpsCorner_104 rfl rl_301 (by decide) rfl (by decide) rfl ⟨by omega, by omega⟩ rfl rfl (fun P127 hT128 f129 f130 f131 => mpp 107 rfl ?_)
  have k132 : KW [1101, 1536, 1600] Po P127 := KW.step k118 rl_301 rfl f130 f131
  have e133 : (fv P127 301 13).toInt = z124.toInt := congrArg Int32.toInt f129
  have w135_l : z13.toInt.toNat = (prI (fv Po 301 13).toInt.toNat t1.toInt.toNat) := pr_mod (by omega) (by omega) (by omega) (ti_remx h14 (by omega) (by omega))
  have w135_r : z23.toInt.toNat = (nxI (fv Po 301 13).toInt.toNat t1.toInt.toNat) := nx_mod (by omega) (by omega) (by omega) (ti_remx h24 (by omega) (by omega))
  have w135_v : z37 = fv Po 308 (prI (fv Po 301 13).toInt.toNat t1.toInt.toNat) + fv Po 308 (nxI (fv Po 301 13).toInt.toNat t1.toInt.toNat) - fv Po 308 t1.toInt.toNat := by rw [← w135_r, ← h38, ← h33, show z13.toInt.toNat = (prI (fv Po 301 13).toInt.toNat t1.toInt.toNat) from (by first | exact w135_l | (rw [← w135_l]; omega))]
  have w135_u : ∀ j : Nat, fv P40 308 j = up (prI (fv Po 301 13).toInt.toNat t1.toInt.toNat) z37 (fun j : Nat => fv Po 308 j) j := by
    intro j
    unfold up
    split
    · rename_i e; rw [e, ← w135_l]; exact f42
    · rename_i e; exact f43 308 j (fun q => e (q.2.trans w135_l))
  have w135_z1 : (fv P61 301 13).toInt = (fv Po 301 13).toInt := congrArg Int32.toInt (by rw [R67 301 13 (by omega), f43 301 13 (by omega)])
  have w135_z2 : (fv P99 301 13).toInt = (fv Po 301 13).toInt - 1 := by omega
  have w135_s1 : ∀ j : Nat, j + 1 < (fv Po 301 13).toInt.toNat → fv P73 308 j = tk x49.toInt.toNat (fun j : Nat => fv P40 308 j) j := by
    intro j hj
    have q := g76 j (by omega)
    rwa [show (fun j : Nat => fv P61 308 j) = (fun j : Nat => fv P40 308 j) from funext (fun j => by rw [R67 308 j (by omega)])] at q
  have w135_s2 : ∀ j : Nat, j + 2 < (fv Po 301 13).toInt.toNat → fv P111 308 j = tk x55.toInt.toNat (fun j : Nat => fv P73 308 j) j := by
    intro j hj
    have q := g114 j (by omega)
    rwa [show (fun j : Nat => fv P99 308 j) = (fun j : Nat => fv P73 308 j) from funext (fun j => by rw [R105 308 j (by omega), f92 308 j (by omega)])] at q
  have w135_f := ds2 w135_u w135_s1 w135_s2
  have w135_c1 : ∀ j : Nat, j < 7 → fv P61 309 j = tk x49.toInt.toNat (fun j : Nat => fv Po 309 j) j := by
    intro j hj
    have q := g64 j hj
    rwa [show (fun j : Nat => fv P40 309 j) = (fun j : Nat => fv Po 309 j) from funext (fun j => by rw [f43 309 j (by omega)])] at q
  have w135_c2 : ∀ j : Nat, j < 7 → fv P99 309 j = tk x55.toInt.toNat (fun j : Nat => fv P61 309 j) j := by
    intro j hj
    have q := g102 j hj
    rwa [show (fun j : Nat => fv P89 309 j) = (fun j : Nat => fv P61 309 j) from funext (fun j => by rw [f92 309 j (by omega), R79 309 j (by omega)])] at q
  have w135_g := tk2 (F0 := fun j : Nat => fv Po 309 j) (F1 := fun j : Nat => fv Po 309 j) (fun _ => rfl) w135_c1 w135_c2
  have w135_R : (fv P127 301 14) = (fv Po 301 14) := by rw [f130 301 14 (by omega), R117 301 14 (by omega), R105 301 14 (by omega), f92 301 14 (by omega), R79 301 14 (by omega), R67 301 14 (by omega), f43 301 14 (by omega)]
  have w135_N : (fv P127 301 13).toInt = (fv Po 301 13).toInt - 2 := by omega
  have w135_a : x49.toInt.toNat = max t1.toInt.toNat (nxI (fv Po 301 13).toInt.toNat t1.toInt.toNat) := by rw [← w135_r]; omega
  have w135_b : x55.toInt.toNat = min t1.toInt.toNat (nxI (fv Po 301 13).toInt.toNat t1.toInt.toNat) := by rw [← w135_r]; omega
  rw [w135_a, w135_b] at w135_f w135_g
  have w135_ : rM P127 = mkF (rM Po) (10 + t1.toInt) := by
    rw [rM_eq, rM_eq, w135_R, decide_eq_false (show ¬ (fv Po 301 14).toInt = 0 from by omega)]
    refine mkF.crimp (i := t1.toInt.toNat) (by omega) (by omega) (show 0 ≤ t1.toInt.toNat from by omega) (show t1.toInt.toNat < (fv Po 301 13).toInt.toNat from by omega) rfl rfl rfl rfl w135_v (fun j hj => (show fv P127 308 j = fv P111 308 j from by rw [f130 308 j (by omega)]).trans (w135_f j (by omega))) (fun j hj _ => ?_)
    have e1 : GM P127 j = fv P99 309 j := by unfold GM; rw [w135_R, if_neg (by omega)]; rw [f130 309 j (by omega), R117 309 j (by omega)]
    have e2 : GM Po = (fun j : Nat => fv Po 309 j) := by funext j; unfold GM; rw [if_neg (by omega)]
    rw [e1, e2]
    exact w135_g j (by omega)
  have u134 : (fv P127 301 13).toInt = (fv Po 301 13).toInt - 2 ∧ rM P127 = mkF (rM Po) (10 + t1.toInt) := ⟨by omega, w135_⟩
  have u136 : fv P127 301 14 = fv Po 301 14 := by rw [f130 301 14 (by omega), R117 301 14 (by omega), R105 301 14 (by omega), f92 301 14 (by omega), R79 301 14 (by omega), R67 301 14 (by omega), f43 301 14 (by omega)]
  have u137 : KI 301 310 Po P127 := by
    intro x j hx
    rw [f130 x j (by omega), R117 x j (by omega), R105 x j (by omega), f92 x j (by omega), R79 x j (by omega), R67 x j (by omega), f43 x j (by omega)]
  exact mp_ret ⟨⟨rfl, u134⟩, hT128, k132, ⟨u136, u137⟩⟩ dX7_crimpsCorner_107 rfl

set_option maxHeartbeats 4000000 in
theorem c_M_makes {Po : mP} {t1 : Int32} (hT : Typ Po)  (hp0 : (t1.toInt = 1 ∧ (fv Po 301 14).toInt = 0 ∧ 2 ≤ (fv Po 301 13).toInt) ∨ (t1.toInt = 2 ∧ (fv Po 301 14).toInt = 0 ∧ 2 ≤ (fv Po 301 13).toInt) ∨ ((fv Po 301 14).toInt = 1 ∧ 3 ≤ (fv Po 301 13).toInt ∧ 10 ≤ t1.toInt ∧ t1.toInt + 1 ≤ (fv Po 301 13).toInt + 10) ∨ ((fv Po 301 14).toInt = 0 ∧ 11 ≤ t1.toInt ∧ t1.toInt + 2 ≤ (fv Po 301 13).toInt + 10)) (hp1 : FS cM (rM Po) t1.toInt)  : EvP 3 169 [.ref 301, .int t1] Po (fun r P' => (r = none ∧ ((fv P' 301 13).toInt + 1 ≤ (fv Po 301 13).toInt ∧ rM P' = mkF (rM Po) t1.toInt)) ∧ Typ P' ∧ KW [1101, 1536, 1600] Po P' ∧ fv P' 301 14 = fv Po 301 14 ∧ KI 301 310 Po P') := by
  refine EvP.of qm_169 (Nat.le_of_ble_eq_true rfl) rfl ?_
  show MEvP _ none q_169 0 [(0, .ref 301), (1, .int t1)] [] _ 0 0 _
  have w_t1 := ti_full t1
  have g1 : (0 : Int) ≤ (fv Po 301 14).toInt ∧ (fv Po 301 14).toInt ≤ 1 := Typ.rng hT rl_301 (by decide) (by decide) rfl
  have g2 : (0 : Int) ≤ (fv Po 301 13).toInt ∧ (fv Po 301 13).toInt ≤ 8 := Typ.rng hT rl_301 (by decide) (by decide) rfl
  refine mp_a (a_iload_n dX7_makes_0 rfl) (mpp 1 rfl ?_)
  refine mp_a (a_iconst (v := 1) dX7_makes_1 rfl) (mpp 2 rfl ?_)
  refine mp_Tb (t := 28) (j_icmp_ne dX7_makes_2) (by decide) (fun c3 => ?_) (fun c3 => mpp 5 rfl ?_)
  · have c3 : t1.toInt ≠ 1 := ti_ne c3
    refine mp_a (a_iload_n dX7_makes_28 rfl) (mpp 29 rfl ?_)
    refine mp_a (a_iconst (v := 2) dX7_makes_29 rfl) (mpp 30 rfl ?_)
    refine mp_Tb (t := 46) (j_icmp_ne dX7_makes_30) (by decide) (fun c4 => ?_) (fun c4 => mpp 33 rfl ?_)
    · have c4 : t1.toInt ≠ 2 := ti_ne c4
      refine mp_a (a_aload_n dX7_makes_46 rfl) (mpp 47 rfl ?_)
      refine mt_getI (i := 161) (k := 14) hT dX7_makes_47 rfl rl_301 (by decide) rfl (by decide) rfl (fun g5 g6 => mpp 50 rfl ?_)
      refine mp_Tb (t := 64) (j_if_eq dX7_makes_50) (by decide) (fun c7 => ?_) (fun c7 => mpp 53 rfl ?_)
      · have c7 : (fv Po 301 14).toInt = 0 := ti_eq c7
        refine mp_a (a_aload_n dX7_makes_64 rfl) (mpp 65 rfl ?_)
        refine mp_a (a_iload_n dX7_makes_65 rfl) (mpp 66 rfl ?_)
        refine mp_a (a_bipush (v := 10) dX7_makes_66 rfl) (mpp 68 rfl ?_)
        obtain ⟨z8, h9⟩ := ti_ex (t1 - 10 : Int32)
        have wz8 := ti_full z8
        refine mp_t (s_isub (v := z8) dX7_makes_68 h9) (mpp 69 rfl ?_)
        try have e10 : z8.toInt = t1.toInt - 10 := ti_subz h9 rfl rfl (by omega) (by omega)
        have p11 : 1 ≤ z8.toInt := by omega
        have p12 : z8.toInt + 2 ≤ (fv Po 301 13).toInt := by omega
        have p13 : (fv Po 301 14).toInt = 0 := by omega
        refine mt_callv (i := 184) (q' := q_174) (As := [.int z8]) (rest := []) hT dX7_makes_69 rfl qm_174 (by decide) rfl rl_301 (by decide) rfl (Nat.le_of_ble_eq_true rfl) rfl ⟨rfl, rfl⟩ ⟨Nat.le_of_ble_eq_true rfl, Nat.le_of_ble_eq_true rfl⟩ (EvP.mono (by decide) (c_M_crimpsStrip hT p11 p12 p13 )) (fun r14 P15 g16 => mpp 72 rfl ?_)
        obtain ⟨⟨rfl, g18⟩, hT19, k20, R21⟩ := g16
        have k22 : KW [1101, 1536, 1600] Po P15 := KW.trans KW.refl k20 rfl
        replace g18 : (fv P15 301 13).toInt = (fv Po 301 13).toInt - 2 ∧ rM P15 = mkF (rM Po) (10 + z8.toInt) := g18
        have g24 : (0 : Int) ≤ (fv P15 301 13).toInt ∧ (fv P15 301 13).toInt ≤ 8 := Typ.rng hT19 rl_301 (by decide) (by decide) rfl
        show MEvP _ none q_169 72 [(0, .ref 301), (1, .int t1)] [] _ _ _ _
        have u25 : (fv P15 301 13).toInt + 1 ≤ (fv Po 301 13).toInt ∧ rM P15 = mkF (rM Po) t1.toInt := ⟨by omega, by have q := g18.2; rw [show (10 : Int) + z8.toInt = t1.toInt from by omega] at q; exact q⟩
        have u27 : fv P15 301 14 = fv Po 301 14 := by rw [R21.1]
        have u28 : KI 301 310 Po P15 := by
          intro x j hx
          rw [R21.2 x j (by omega)]
        exact mp_ret ⟨⟨rfl, u25⟩, hT19, k22, ⟨u27, u28⟩⟩ dX7_makes_72 rfl
      · have c7 : (fv Po 301 14).toInt ≠ 0 := ti_eq_n c7
        refine mp_a (a_aload_n dX7_makes_53 rfl) (mpp 54 rfl ?_)
        refine mp_a (a_iload_n dX7_makes_54 rfl) (mpp 55 rfl ?_)
        refine mp_a (a_bipush (v := 10) dX7_makes_55 rfl) (mpp 57 rfl ?_)
        obtain ⟨z29, h30⟩ := ti_ex (t1 - 10 : Int32)
        have wz29 := ti_full z29
        refine mp_t (s_isub (v := z29) dX7_makes_57 h30) (mpp 58 rfl ?_)
        try have e31 : z29.toInt = t1.toInt - 10 := ti_subz h30 rfl rfl (by omega) (by omega)
        have p32 : 0 ≤ z29.toInt := by omega
        have p33 : z29.toInt + 1 ≤ (fv Po 301 13).toInt := by omega
        have p34 : 3 ≤ (fv Po 301 13).toInt := by omega
        have p35 : (fv Po 301 14).toInt ≠ 0 := by omega
        refine mt_callv (i := 181) (q' := q_172) (As := [.int z29]) (rest := []) hT dX7_makes_58 rfl qm_172 (by decide) rfl rl_301 (by decide) rfl (Nat.le_of_ble_eq_true rfl) rfl ⟨rfl, rfl⟩ ⟨Nat.le_of_ble_eq_true rfl, Nat.le_of_ble_eq_true rfl⟩ (EvP.mono (by decide) (c_M_crimpsCorner hT p32 p33 p34 p35 )) (fun r36 P37 g38 => mpp 61 rfl ?_)
        obtain ⟨⟨rfl, g40⟩, hT41, k42, R43⟩ := g38
        have k44 : KW [1101, 1536, 1600] Po P37 := KW.trans KW.refl k42 rfl
        replace g40 : (fv P37 301 13).toInt = (fv Po 301 13).toInt - 2 ∧ rM P37 = mkF (rM Po) (10 + z29.toInt) := g40
        have g46 : (0 : Int) ≤ (fv P37 301 13).toInt ∧ (fv P37 301 13).toInt ≤ 8 := Typ.rng hT41 rl_301 (by decide) (by decide) rfl
        show MEvP _ none q_169 61 [(0, .ref 301), (1, .int t1)] [] _ _ _ _
        refine mp_a (a_goto (t := 72) dX7_makes_61 (by decide)) ?_
        have u47 : (fv P37 301 13).toInt + 1 ≤ (fv Po 301 13).toInt ∧ rM P37 = mkF (rM Po) t1.toInt := ⟨by omega, by have q := g40.2; rw [show (10 : Int) + z29.toInt = t1.toInt from by omega] at q; exact q⟩
        have u49 : fv P37 301 14 = fv Po 301 14 := by rw [R43.1]
        have u50 : KI 301 310 Po P37 := by
          intro x j hx
          rw [R43.2 x j (by omega)]
        exact mp_ret ⟨⟨rfl, u47⟩, hT41, k44, ⟨u49, u50⟩⟩ dX7_makes_72 rfl
    · have c4 : t1.toInt = 2 := ti_ne_n c4
      refine mp_a (a_aload_n dX7_makes_33 rfl) (mpp 34 rfl ?_)
      refine mp_t (s_dup dX7_makes_34 rfl) (mpp 35 rfl ?_)
      refine mt_getI (i := 165) (k := 13) hT dX7_makes_35 rfl rl_301 (by decide) rfl (by decide) rfl (fun g51 g52 => mpp 38 rfl ?_)
      refine mp_a (a_iconst (v := 1) dX7_makes_38 rfl) (mpp 39 rfl ?_)
      obtain ⟨z53, h54⟩ := ti_ex ((fv Po 301 13) - 1 : Int32)
      have wz53 := ti_full z53
      refine mp_t (s_isub (v := z53) dX7_makes_39 h54) (mpp 40 rfl ?_)
      try have e55 : z53.toInt = (fv Po 301 13).toInt - 1 := ti_subz h54 rfl rfl (by omega) (by omega)
      refine mt_putI (i := 165) (k := 13) (x := z53) hT dX7_makes_40 rfl rl_301 (by decide) rfl (by decide) rfl ⟨by omega, by omega⟩ rfl rfl (fun P56 hT57 f58 f59 f60 => mpp 43 rfl ?_)
      have k61 : KW [1101, 1536, 1600] Po P56 := KW.step KW.refl rl_301 rfl f59 f60
      have e62 : (fv P56 301 13).toInt = z53.toInt := congrArg Int32.toInt f58
      refine mp_a (a_goto (t := 72) dX7_makes_43 (by decide)) ?_
      have w64_R : (fv P56 301 14) = (fv Po 301 14) := by rw [f59 301 14 (by omega)]
      have w64_N : (fv P56 301 13).toInt = (fv Po 301 13).toInt - 1 := by omega
      have w64_g : GM P56 = GM Po := by funext j; unfold GM; rw [w64_R, f59 309 j (by omega), f59 309 (j - 1) (by omega)]
      have u63 : (fv P56 301 13).toInt + 1 ≤ (fv Po 301 13).toInt ∧ rM P56 = mkF (rM Po) t1.toInt := ⟨by omega, by rw [rM_eq, rM_eq, w64_R, decide_eq_true (show (fv Po 301 14).toInt = 0 from by omega)]; exact mkF.two (by omega) (by omega) (fun j _ => by rw [f59 308 j (by omega)]) (fun j _ _ => congrFun w64_g j)⟩
      have u65 : fv P56 301 14 = fv Po 301 14 := by rw [f59 301 14 (by omega)]
      have u66 : KI 301 310 Po P56 := by
        intro x j hx
        rw [f59 x j (by omega)]
      exact mp_ret ⟨⟨rfl, u63⟩, hT57, k61, ⟨u65, u66⟩⟩ dX7_makes_72 rfl
  · have c3 : t1.toInt = 1 := ti_ne_n c3
    refine mp_a (a_aload_n dX7_makes_5 rfl) (mpp 6 rfl ?_)
    refine mp_a (a_iconst (v := 0) dX7_makes_6 rfl) (mpp 7 rfl ?_)
    have p67 : 0 ≤ (0 : Int) := by omega
    have p68 : (0 : Int) ≤ 8 := by omega
    refine mt_callv (i := 172) (q' := q_170) (As := [.int 0]) (rest := []) hT dX7_makes_7 rfl qm_170 (by decide) rfl rl_301 (by decide) rfl (Nat.le_of_ble_eq_true rfl) rfl ⟨rfl, rfl⟩ ⟨Nat.le_of_ble_eq_true rfl, Nat.le_of_ble_eq_true rfl⟩ (EvP.mono (by decide) (c_M_dropsSize hT p67 p68 )) (fun r69 P70 g71 => mpp 10 rfl ?_)
    obtain ⟨⟨rfl, g73⟩, hT74, k75, R76⟩ := g71
    have k77 : KW [1101, 1536, 1600] Po P70 := KW.trans KW.refl k75 rfl
    replace g73 : (∀ j : Nat, (j : Int) + 1 < (fv Po 301 13).toInt → fv P70 308 j = tk (0 : Int).toNat (fun j : Nat => fv Po 308 j) j) := g73
    show MEvP _ none q_169 10 [(0, .ref 301), (1, .int t1)] [] _ _ _ _
    refine mp_a (a_aload_n dX7_makes_10 rfl) (mpp 11 rfl ?_)
    refine mp_a (a_iconst (v := 0) dX7_makes_11 rfl) (mpp 12 rfl ?_)
    have p79 : 0 ≤ (0 : Int) := by omega
    have p80 : (0 : Int) ≤ 8 := by omega
    refine mt_callv (i := 175) (q' := q_171) (As := [.int 0]) (rest := []) hT74 dX7_makes_12 rfl qm_171 (by decide) rfl rl_301 (by decide) rfl (Nat.le_of_ble_eq_true rfl) rfl ⟨rfl, rfl⟩ ⟨Nat.le_of_ble_eq_true rfl, Nat.le_of_ble_eq_true rfl⟩ (EvP.mono (by decide) (c_M_dropsCrease hT74 p79 p80 )) (fun r81 P82 g83 => mpp 15 rfl ?_)
    obtain ⟨⟨rfl, g85⟩, hT86, k87, R88⟩ := g83
    have k89 : KW [1101, 1536, 1600] Po P82 := KW.trans k77 k87 rfl
    replace g85 : (∀ j : Nat, j < 7 → fv P82 309 j = tk (0 : Int).toNat (fun j : Nat => fv P70 309 j) j) := g85
    show MEvP _ none q_169 15 [(0, .ref 301), (1, .int t1)] [] _ _ _ _
    refine mp_a (a_aload_n dX7_makes_15 rfl) (mpp 16 rfl ?_)
    refine mp_t (s_dup dX7_makes_16 rfl) (mpp 17 rfl ?_)
    have e91 : (fv P82 301 13).toInt = (fv Po 301 13).toInt := congrArg Int32.toInt ((KW.at k87 13 rl_301 rfl).trans (KW.at k75 13 rl_301 rfl))
    refine mt_getI (i := 165) (k := 13) hT86 dX7_makes_17 rfl rl_301 (by decide) rfl (by decide) rfl (fun g92 g93 => mpp 20 rfl ?_)
    refine mp_a (a_iconst (v := 1) dX7_makes_20 rfl) (mpp 21 rfl ?_)
    obtain ⟨z94, h95⟩ := ti_ex ((fv P82 301 13) - 1 : Int32)
    have wz94 := ti_full z94
    refine mp_t (s_isub (v := z94) dX7_makes_21 h95) (mpp 22 rfl ?_)
    try have e96 : z94.toInt = (fv P82 301 13).toInt - 1 := ti_subz h95 rfl rfl (by omega) (by omega)
    refine mt_putI (i := 165) (k := 13) (x := z94) hT86 dX7_makes_22 rfl rl_301 (by decide) rfl (by decide) rfl ⟨by omega, by omega⟩ rfl rfl (fun P97 hT98 f99 f100 f101 => mpp 25 rfl ?_)
    have k102 : KW [1101, 1536, 1600] Po P97 := KW.step k89 rl_301 rfl f100 f101
    have e103 : (fv P97 301 13).toInt = z94.toInt := congrArg Int32.toInt f99
    refine mp_a (a_goto (t := 72) dX7_makes_25 (by decide)) ?_
    have w105_R : (fv P97 301 14) = (fv Po 301 14) := by rw [f100 301 14 (by omega), R88 301 14 (by omega), R76 301 14 (by omega)]
    have w105_N : (fv P97 301 13).toInt = (fv Po 301 13).toInt - 1 := by omega
    have w105_c : ∀ j : Nat, j < 7 → fv P97 309 j = tk 0 (fun j : Nat => fv Po 309 j) j := by
      intro j hj
      have q := g85 j hj
      rw [show (fun j : Nat => fv P70 309 j) = (fun j : Nat => fv Po 309 j) from funext (fun j => by rw [R76 309 j (by omega)])] at q
      exact (show fv P97 309 j = fv P82 309 j from by rw [f100 309 j (by omega)]).trans q
    have w105_s : ∀ j : Nat, j + 1 < (fv Po 301 13).toInt.toNat → fv P97 308 j = fv Po 308 (j + 1) := fun j hj => (show fv P97 308 j = fv P70 308 j from by rw [f100 308 j (by omega), R88 308 j (by omega)]).trans ((g73 j (by omega)).trans (if_neg (Nat.not_lt_zero _)))
    have w105_ : rM P97 = mkF (rM Po) t1.toInt := by
      rw [rM_eq, rM_eq, w105_R, decide_eq_true (show (fv Po 301 14).toInt = 0 from by omega)]; refine mkF.one (by omega) (by omega) (fun j hj => w105_s j (by omega)) (fun j hj h1 => ?_)
      have h1 := h1 rfl
      have e1 : GM P97 j = fv P97 309 (j - 1) := by unfold GM; rw [w105_R, if_pos (by omega)]
      have e2 : GM Po (j + 1) = fv Po 309 j := by unfold GM; rw [if_pos (by omega)]; rfl
      rw [e1, e2, w105_c (j - 1) (by omega)]
      unfold tk
      rw [if_neg (Nat.not_lt_zero _)]
      exact congrArg (fv Po 309) (by omega)
    have u104 : (fv P97 301 13).toInt + 1 ≤ (fv Po 301 13).toInt ∧ rM P97 = mkF (rM Po) t1.toInt := ⟨by omega, w105_⟩
    have u106 : fv P97 301 14 = fv Po 301 14 := by rw [f100 301 14 (by omega), R88 301 14 (by omega), R76 301 14 (by omega)]
    have u107 : KI 301 310 Po P97 := by
      intro x j hx
      rw [f100 x j (by omega), R88 x j (by omega), R76 x j (by omega)]
    exact mp_ret ⟨⟨rfl, u104⟩, hT98, k102, ⟨u106, u107⟩⟩ dX7_makes_72 rfl

set_option maxHeartbeats 4000000 in
theorem c_M_reduces_l7 {Po : mP}  (hp0 : (fv Po 301 13).toInt ≤ 8)  : ∀ (n : Nat) (v1 : Int32) (v2 : Int32), ∀ (P : mP), Typ P → KW [1101, 1536, 1600] Po P → (v2.toInt = 0 ∨ (v2.toInt = 1 ∧ (fv P 301 14).toInt = 0 ∧ 2 ≤ (fv P 301 13).toInt) ∨ (v2.toInt = 2 ∧ (fv P 301 14).toInt = 0 ∧ 2 ≤ (fv P 301 13).toInt) ∨ ((fv P 301 14).toInt = 1 ∧ 3 ≤ (fv P 301 13).toInt ∧ 10 ≤ v2.toInt ∧ v2.toInt + 1 ≤ (fv P 301 13).toInt + 10) ∨ ((fv P 301 14).toInt = 0 ∧ 11 ≤ v2.toInt ∧ v2.toInt + 2 ≤ (fv P 301 13).toInt + 10)) → (RP cM (rM Po) v1.toInt.toNat (rM P)) → (FS cM (rM P) v2.toInt) → (0 ≤ v1.toInt ∧ v1.toInt + (fv P 301 13).toInt ≤ (fv Po 301 13).toInt) → (KI 301 310 Po P ∧ fv P 301 14 = fv Po 301 14) → ((fv Po 301 13).toInt ≤ 8) → (fv P 301 13).toInt.toNat = n → MEvP 3 none q_166 7 [(0, .ref 301), (1, .int v1), (2, .int v2)] [] P 0 0 (fun r P' => (∃ x : Int32, r = some (.int x) ∧ (0 ≤ x.toInt ∧ RD cM (rM Po) x.toInt.toNat (rM P'))) ∧ Typ P' ∧ KW [1101, 1536, 1600] Po P' ∧ fv P' 301 14 = fv Po 301 14 ∧ KI 301 310 Po P') := by
  intro n
  induction n using Nat.strongRecOn with | _ n ih => ?_
  intro v1 v2 P hT hK i_0 i_1 i_2 i_3 i_4 i_5 hm
  have w_v1 := ti_full v1
  have w_v2 := ti_full v2
  have g1 : (0 : Int) ≤ (fv P 301 14).toInt ∧ (fv P 301 14).toInt ≤ 1 := Typ.rng hT rl_301 (by decide) (by decide) rfl
  have g2 : (0 : Int) ≤ (fv P 301 14).toInt ∧ (fv P 301 14).toInt ≤ 1 := Typ.rng hT rl_301 (by decide) (by decide) rfl
  have g3 : (0 : Int) ≤ (fv P 301 13).toInt ∧ (fv P 301 13).toInt ≤ 8 := Typ.rng hT rl_301 (by decide) (by decide) rfl
  have g4 : (0 : Int) ≤ (fv P 301 13).toInt ∧ (fv P 301 13).toInt ≤ 8 := Typ.rng hT rl_301 (by decide) (by decide) rfl
  have g5 : (0 : Int) ≤ (fv P 301 13).toInt ∧ (fv P 301 13).toInt ≤ 8 := Typ.rng hT rl_301 (by decide) (by decide) rfl
  refine mp_a (a_iload_n dX7_reduces_7 rfl) (mpp 8 rfl ?_)
  refine mp_Tb (t := 27) (j_if_le dX7_reduces_8) (by decide) (fun c6 => ?_) (fun c6 => mpp 11 rfl ?_)
  · have c6 : v2.toInt ≤ 0 := ti_le c6
    refine mp_a (a_iload_n dX7_reduces_27 rfl) (mpp 28 rfl ?_)
    have u7 : 0 ≤ v1.toInt ∧ RD cM (rM Po) v1.toInt.toNat (rM P) := ⟨by omega, i_1.fin i_2 (by omega)⟩
    have u8 : fv P 301 14 = fv Po 301 14 ∧ KI 301 310 Po P := ⟨i_4.2, i_4.1⟩
    exact mp_iret ⟨⟨_, rfl, u7⟩, hT, hK, u8⟩ dX7_reduces_28 (Or.inl rfl)
  · have c6 : v2.toInt > 0 := ti_le_n c6
    refine mp_a (a_aload_n dX7_reduces_11 rfl) (mpp 12 rfl ?_)
    refine mp_a (a_iload_n dX7_reduces_12 rfl) (mpp 13 rfl ?_)
    have p9 : (v2.toInt = 1 ∧ (fv P 301 14).toInt = 0 ∧ 2 ≤ (fv P 301 13).toInt) ∨ (v2.toInt = 2 ∧ (fv P 301 14).toInt = 0 ∧ 2 ≤ (fv P 301 13).toInt) ∨ ((fv P 301 14).toInt = 1 ∧ 3 ≤ (fv P 301 13).toInt ∧ 10 ≤ v2.toInt ∧ v2.toInt + 1 ≤ (fv P 301 13).toInt + 10) ∨ ((fv P 301 14).toInt = 0 ∧ 11 ≤ v2.toInt ∧ v2.toInt + 2 ≤ (fv P 301 13).toInt + 10) := by omega
    have p10 : FS cM (rM P) v2.toInt := i_2
    refine mt_callv (i := 190) (q' := q_169) (As := [.int v2]) (rest := []) hT dX7_reduces_13 rfl qm_169 (by decide) rfl rl_301 (by decide) rfl (Nat.le_of_ble_eq_true rfl) rfl ⟨rfl, rfl⟩ ⟨Nat.le_of_ble_eq_true rfl, Nat.le_of_ble_eq_true rfl⟩ (EvP.mono (by decide) (c_M_makes hT p9 p10 )) (fun r11 P12 g13 => mpp 16 rfl ?_)
    obtain ⟨⟨rfl, g15⟩, hT16, k17, R18⟩ := g13
    have k19 : KW [1101, 1536, 1600] Po P12 := KW.trans hK k17 rfl
    replace g15 : (fv P12 301 13).toInt + 1 ≤ (fv P 301 13).toInt ∧ rM P12 = mkF (rM P) v2.toInt := g15
    have g21 : (0 : Int) ≤ (fv P12 301 13).toInt ∧ (fv P12 301 13).toInt ≤ 8 := Typ.rng hT16 rl_301 (by decide) (by decide) rfl
    show MEvP _ none q_166 16 [(0, .ref 301), (1, .int v1), (2, .int v2)] [] _ _ _ _
    obtain ⟨z22, h23⟩ := ti_ex (v1 + 1 : Int32)
    have wz22 := ti_full z22
    refine mp_a (a_iinc (v := z22) (L' := [(1, .int z22), (0, .ref 301), (2, .int v2)]) dX7_reduces_16 (by decide) rfl h23 rfl) (mpp 19 rfl ?_)
    try have e24 : z22.toInt = v1.toInt + 1 := ti_addz h23 rfl rfl (by omega) (by omega)
    refine mp_a (a_aload_n dX7_reduces_19 rfl) (mpp 20 rfl ?_)
    refine mt_callv (i := 187) (q' := q_167) (As := []) (rest := []) hT16 dX7_reduces_20 rfl qm_167 (by decide) rfl rl_301 (by decide) rfl (Nat.le_of_ble_eq_true rfl) rfl ⟨rfl, rfl⟩ ⟨Nat.le_of_ble_eq_true rfl, Nat.le_of_ble_eq_true rfl⟩ (EvP.mono (by decide) (c_M_stepNow hT16 )) (fun r25 P26 g27 => mpp 23 rfl ?_)
    obtain ⟨⟨x28, rfl, g29⟩, e30⟩ := g27
    have e30 := e30.symm
    subst e30
    have wx28 := ti_full x28
    replace g29 : (x28.toInt = 0 ∨ (x28.toInt = 1 ∧ (fv P12 301 14).toInt = 0 ∧ 2 ≤ (fv P12 301 13).toInt) ∨ (x28.toInt = 2 ∧ (fv P12 301 14).toInt = 0 ∧ 2 ≤ (fv P12 301 13).toInt) ∨ ((fv P12 301 14).toInt = 1 ∧ 3 ≤ (fv P12 301 13).toInt ∧ 10 ≤ x28.toInt ∧ x28.toInt + 1 ≤ (fv P12 301 13).toInt + 10) ∨ ((fv P12 301 14).toInt = 0 ∧ 11 ≤ x28.toInt ∧ x28.toInt + 2 ≤ (fv P12 301 13).toInt + 10)) ∧ FS cM (rM P12) x28.toInt := g29
    have e31 : (fv P12 301 14).toInt = (fv P 301 14).toInt := congrArg Int32.toInt (KW.at k17 14 rl_301 rfl)
    show MEvP _ none q_166 23 [(1, .int z22), (0, .ref 301), (2, .int v2)] [.int x28] _ _ _ _
    refine mp_a (a_istore_n (L' := [(2, .int x28), (1, .int z22), (0, .ref 301)]) dX7_reduces_23 (by decide) rfl) (mpp 24 rfl ?_)
    refine mp_a (a_goto (t := 7) dX7_reduces_24 (by decide)) ?_
    refine MEvP.less (L := [(0, .ref 301), (1, .int z22), (2, .int x28)]) rfl rfl ⟨rfl, rfl, rfl, trivial⟩ ?_
    have i32 : x28.toInt = 0 ∨ (x28.toInt = 1 ∧ (fv P12 301 14).toInt = 0 ∧ 2 ≤ (fv P12 301 13).toInt) ∨ (x28.toInt = 2 ∧ (fv P12 301 14).toInt = 0 ∧ 2 ≤ (fv P12 301 13).toInt) ∨ ((fv P12 301 14).toInt = 1 ∧ 3 ≤ (fv P12 301 13).toInt ∧ 10 ≤ x28.toInt ∧ x28.toInt + 1 ≤ (fv P12 301 13).toInt + 10) ∨ ((fv P12 301 14).toInt = 0 ∧ 11 ≤ x28.toInt ∧ x28.toInt + 2 ≤ (fv P12 301 13).toInt + 10) := by omega
    have i33 : RP cM (rM Po) z22.toInt.toNat (rM P12) := RP.snoc' i_1 i_2 (by omega) g15.2 (by omega)
    have i34 : FS cM (rM P12) x28.toInt := g29.2
    have i35 : 0 ≤ z22.toInt ∧ z22.toInt + (fv P12 301 13).toInt ≤ (fv Po 301 13).toInt := by omega
    have i36 : KI 301 310 Po P12 ∧ fv P12 301 14 = fv Po 301 14 := ⟨fun x j hx => by rw [R18.2 x j (by omega)]; exact i_4.1 x j hx, by rw [R18.1]; exact i_4.2⟩
    have i37 : (fv Po 301 13).toInt ≤ 8 := by omega
    exact ih _ (by omega) _ _ P12 hT16 k19 i32 i33 i34 i35 i36 i37 rfl

set_option maxHeartbeats 4000000 in
theorem c_M_reduces {Po : mP}  (hT : Typ Po)  (hp0 : (fv Po 301 13).toInt ≤ 8)  : EvP 4 166 [.ref 301] Po (fun r P' => (∃ x : Int32, r = some (.int x) ∧ (0 ≤ x.toInt ∧ RD cM (rM Po) x.toInt.toNat (rM P'))) ∧ Typ P' ∧ KW [1101, 1536, 1600] Po P' ∧ fv P' 301 14 = fv Po 301 14 ∧ KI 301 310 Po P') := by
  refine EvP.of qm_166 (Nat.le_of_ble_eq_true rfl) rfl ?_
  show MEvP _ none q_166 0 [(0, .ref 301)] [] _ 0 0 _
  have g1 : (0 : Int) ≤ (fv Po 301 13).toInt ∧ (fv Po 301 13).toInt ≤ 8 := Typ.rng hT rl_301 (by decide) (by decide) rfl
  refine mp_a (a_iconst (v := 0) dX7_reduces_0 rfl) (mpp 1 rfl ?_)
  refine mp_a (a_istore_n (L' := [(1, .int 0), (0, .ref 301)]) dX7_reduces_1 (by decide) rfl) (mpp 2 rfl ?_)
  refine mp_a (a_aload_n dX7_reduces_2 rfl) (mpp 3 rfl ?_)
  refine mt_callv (i := 187) (q' := q_167) (As := []) (rest := []) hT dX7_reduces_3 rfl qm_167 (by decide) rfl rl_301 (by decide) rfl (Nat.le_of_ble_eq_true rfl) rfl ⟨rfl, rfl⟩ ⟨Nat.le_of_ble_eq_true rfl, Nat.le_of_ble_eq_true rfl⟩ (EvP.mono (by decide) (c_M_stepNow hT )) (fun r2 P3 g4 => mpp 6 rfl ?_)
  obtain ⟨⟨x5, rfl, g6⟩, e7⟩ := g4
  have e7 := e7.symm
  subst e7
  have wx5 := ti_full x5
  replace g6 : (x5.toInt = 0 ∨ (x5.toInt = 1 ∧ (fv Po 301 14).toInt = 0 ∧ 2 ≤ (fv Po 301 13).toInt) ∨ (x5.toInt = 2 ∧ (fv Po 301 14).toInt = 0 ∧ 2 ≤ (fv Po 301 13).toInt) ∨ ((fv Po 301 14).toInt = 1 ∧ 3 ≤ (fv Po 301 13).toInt ∧ 10 ≤ x5.toInt ∧ x5.toInt + 1 ≤ (fv Po 301 13).toInt + 10) ∨ ((fv Po 301 14).toInt = 0 ∧ 11 ≤ x5.toInt ∧ x5.toInt + 2 ≤ (fv Po 301 13).toInt + 10)) ∧ FS cM (rM Po) x5.toInt := g6
  have g8 : (0 : Int) ≤ (fv Po 301 14).toInt ∧ (fv Po 301 14).toInt ≤ 1 := Typ.rng hT rl_301 (by decide) (by decide) rfl
  show MEvP _ none q_166 6 [(1, .int 0), (0, .ref 301)] [.int x5] _ _ _ _
  refine mp_a (a_istore_n (L' := [(2, .int x5), (1, .int 0), (0, .ref 301)]) dX7_reduces_6 (by decide) rfl) (mpp 7 rfl ?_)
  refine MEvP.less (L := [(0, .ref 301), (1, .int 0), (2, .int x5)]) rfl rfl ⟨rfl, rfl, rfl, trivial⟩ ?_
  have i9 : x5.toInt = 0 ∨ (x5.toInt = 1 ∧ (fv Po 301 14).toInt = 0 ∧ 2 ≤ (fv Po 301 13).toInt) ∨ (x5.toInt = 2 ∧ (fv Po 301 14).toInt = 0 ∧ 2 ≤ (fv Po 301 13).toInt) ∨ ((fv Po 301 14).toInt = 1 ∧ 3 ≤ (fv Po 301 13).toInt ∧ 10 ≤ x5.toInt ∧ x5.toInt + 1 ≤ (fv Po 301 13).toInt + 10) ∨ ((fv Po 301 14).toInt = 0 ∧ 11 ≤ x5.toInt ∧ x5.toInt + 2 ≤ (fv Po 301 13).toInt + 10) := by omega
  have i10 : RP cM (rM Po) (0 : Int).toNat (rM Po) := (rfl : rM Po = rM Po)
  have i11 : FS cM (rM Po) x5.toInt := g6.2
  have i12 : 0 ≤ (0 : Int) ∧ (0 : Int) + (fv Po 301 13).toInt ≤ (fv Po 301 13).toInt := by omega
  have i13 : KI 301 310 Po Po ∧ fv Po 301 14 = fv Po 301 14 := ⟨KI.refl, rfl⟩
  have i14 : (fv Po 301 13).toInt ≤ 8 := by omega
  exact c_M_reduces_l7   hp0 _ _ _ Po hT KW.refl i9 i10 i11 i12 i13 i14 rfl

set_option maxHeartbeats 4000000 in
theorem c_M_folds {Po : mP}  (hT : Typ Po)  (hp0 : (fv Po 301 13).toInt ≤ 8)  : EvP 5 165 [.ref 301] Po (fun r P' => (∃ x : Int32, r = some (.int x) ∧ (0 ≤ x.toInt ∧ x.toInt ≤ 1 ∧ ((∃ k R', RD cM (rM Po) k R' ∧ ((x.toInt = 1 ∧ isRf eM R') ∨ (x.toInt = 0 ∧ ¬ isRf eM R')))))) ∧ Typ P' ∧ KW [1101, 1536, 1600] Po P' ∧ True) := by
  refine EvP.of qm_165 (Nat.le_of_ble_eq_true rfl) rfl ?_
  show MEvP _ none q_165 0 [(0, .ref 301)] [] _ 0 0 _
  have g1 : (0 : Int) ≤ (fv Po 301 13).toInt ∧ (fv Po 301 13).toInt ≤ 8 := Typ.rng hT rl_301 (by decide) (by decide) rfl
  refine mp_a (a_aload_n dX7_folds_0 rfl) (mpp 1 rfl ?_)
  have p2 : (fv Po 301 13).toInt ≤ 8 := by omega
  refine mt_callv (i := 193) (q' := q_166) (As := []) (rest := []) hT dX7_folds_1 rfl qm_166 (by decide) rfl rl_301 (by decide) rfl (Nat.le_of_ble_eq_true rfl) rfl ⟨rfl, rfl⟩ ⟨Nat.le_of_ble_eq_true rfl, Nat.le_of_ble_eq_true rfl⟩ (EvP.mono (by decide) (c_M_reduces hT p2 )) (fun r3 P4 g5 => mpp 4 rfl ?_)
  obtain ⟨⟨x6, rfl, g7⟩, hT8, k9, R10⟩ := g5
  have k11 : KW [1101, 1536, 1600] Po P4 := KW.trans KW.refl k9 rfl
  have wx6 := ti_full x6
  replace g7 : 0 ≤ x6.toInt ∧ RD cM (rM Po) x6.toInt.toNat (rM P4) := g7
  show MEvP _ none q_165 4 [(0, .ref 301)] [.int x6] _ _ _ _
  refine mp_a (a_istore_n (L' := [(1, .int x6), (0, .ref 301)]) dX7_folds_4 (by decide) rfl) (mpp 5 rfl ?_)
  refine mp_a (a_aload_n dX7_folds_5 rfl) (mpp 6 rfl ?_)
  have g13 : (0 : Int) ≤ (fv P4 301 14).toInt ∧ (fv P4 301 14).toInt ≤ 1 := Typ.rng hT8 rl_301 (by decide) (by decide) rfl
  refine mt_getI (i := 161) (k := 14) hT8 dX7_folds_6 rfl rl_301 (by decide) rfl (by decide) rfl (fun g14 g15 => mpp 9 rfl ?_)
  refine mp_Tb (t := 26) (j_if_ne dX7_folds_9) (by decide) (fun c16 => ?_) (fun c16 => mpp 12 rfl ?_)
  · have c16 : (fv P4 301 14).toInt ≠ 0 := ti_ne c16
    refine mp_a (a_aload_n dX7_folds_26 rfl) (mpp 27 rfl ?_)
    have g17 : (0 : Int) ≤ (fv P4 301 13).toInt ∧ (fv P4 301 13).toInt ≤ 8 := Typ.rng hT8 rl_301 (by decide) (by decide) rfl
    refine mt_getI (i := 165) (k := 13) hT8 dX7_folds_27 rfl rl_301 (by decide) rfl (by decide) rfl (fun g18 g19 => mpp 30 rfl ?_)
    refine mp_a (a_iconst (v := 2) dX7_folds_30 rfl) (mpp 31 rfl ?_)
    refine mp_Tb (t := 77) (j_icmp_ne dX7_folds_31) (by decide) (fun c20 => ?_) (fun c20 => mpp 34 rfl ?_)
    · have c20 : (fv P4 301 13).toInt ≠ 2 := ti_ne c20
      refine mp_a (a_iconst (v := 0) dX7_folds_77 rfl) (mpp 78 rfl ?_)
      have w22_ : isRf eM (rM P4) ↔ ((fv P4 301 13).toInt.toNat = 2 ∧ (fv P4 308 0).toInt = (fv P4 308 1).toInt ∧ (fv P4 309 0).toInt = (fv P4 309 1).toInt ∧ ¬ (fv P4 309 0).toInt = 0) := by
        rw [rM_eq, decide_eq_false (show ¬ (fv P4 301 14).toInt = 0 from by omega)]
        have e : GM P4 = (fun j : Nat => fv P4 309 j) := by funext j; unfold GM; rw [if_neg (by omega)]
        rw [e]
        exact isR_f
      have u21 : 0 ≤ (0 : Int) ∧ (0 : Int) ≤ 1 ∧ ((∃ k R', RD cM (rM Po) k R' ∧ (((0 : Int) = 1 ∧ isRf eM R') ∨ ((0 : Int) = 0 ∧ ¬ isRf eM R')))) := ⟨by omega, by omega, _, _, g7.2, by rw [w22_]; omega⟩
      exact mp_iret ⟨⟨_, rfl, u21⟩, hT8, k11, trivial⟩ dX7_folds_78 (Or.inr ⟨rfl, by decide⟩)
    · have c20 : (fv P4 301 13).toInt = 2 := ti_ne_n c20
      refine mp_a (a_aload_n dX7_folds_34 rfl) (mpp 35 rfl ?_)
      refine mt_getU (i := 28) (k := 11) (A := 308) hT8 dX7_folds_35 rfl rl_301 (by decide) rfl (by decide) rfl un_24 (mpp 38 rfl ?_)
      refine mp_a (a_iconst (v := 0) dX7_folds_38 rfl) (mpp 39 rfl ?_)
      refine mt_ial (n := 8) hT8 dX7_folds_39 rl_308 (by decide) rfl rfl (by decide) (by decide) rfl (fun g23 g24 => mpp 40 rfl ?_)
      refine mp_a (a_aload_n dX7_folds_40 rfl) (mpp 41 rfl ?_)
      refine mt_getU (i := 28) (k := 11) (A := 308) hT8 dX7_folds_41 rfl rl_301 (by decide) rfl (by decide) rfl un_24 (mpp 44 rfl ?_)
      refine mp_a (a_iconst (v := 1) dX7_folds_44 rfl) (mpp 45 rfl ?_)
      refine mt_ial (n := 8) hT8 dX7_folds_45 rl_308 (by decide) rfl rfl (by decide) (by decide) rfl (fun g25 g26 => mpp 46 rfl ?_)
      refine mp_Tb (t := 77) (j_icmp_ne dX7_folds_46) (by decide) (fun c27 => ?_) (fun c27 => mpp 49 rfl ?_)
      · have c27 : (fv P4 308 0).toInt ≠ (fv P4 308 1).toInt := ti_ne c27
        refine mp_a (a_iconst (v := 0) dX7_folds_77 rfl) (mpp 78 rfl ?_)
        have w29_ : isRf eM (rM P4) ↔ ((fv P4 301 13).toInt.toNat = 2 ∧ (fv P4 308 0).toInt = (fv P4 308 1).toInt ∧ (fv P4 309 0).toInt = (fv P4 309 1).toInt ∧ ¬ (fv P4 309 0).toInt = 0) := by
          rw [rM_eq, decide_eq_false (show ¬ (fv P4 301 14).toInt = 0 from by omega)]
          have e : GM P4 = (fun j : Nat => fv P4 309 j) := by funext j; unfold GM; rw [if_neg (by omega)]
          rw [e]
          exact isR_f
        have u28 : 0 ≤ (0 : Int) ∧ (0 : Int) ≤ 1 ∧ ((∃ k R', RD cM (rM Po) k R' ∧ (((0 : Int) = 1 ∧ isRf eM R') ∨ ((0 : Int) = 0 ∧ ¬ isRf eM R')))) := ⟨by omega, by omega, _, _, g7.2, by rw [w29_]; omega⟩
        exact mp_iret ⟨⟨_, rfl, u28⟩, hT8, k11, trivial⟩ dX7_folds_78 (Or.inr ⟨rfl, by decide⟩)
      · have c27 : (fv P4 308 0).toInt = (fv P4 308 1).toInt := ti_ne_n c27
        refine mp_a (a_aload_n dX7_folds_49 rfl) (mpp 50 rfl ?_)
        refine mt_getU (i := 31) (k := 12) (A := 309) hT8 dX7_folds_50 rfl rl_301 (by decide) rfl (by decide) rfl un_25 (mpp 53 rfl ?_)
        refine mp_a (a_iconst (v := 0) dX7_folds_53 rfl) (mpp 54 rfl ?_)
        refine mt_ial (n := 8) hT8 dX7_folds_54 rl_309 (by decide) rfl rfl (by decide) (by decide) rfl (fun g30 g31 => mpp 55 rfl ?_)
        refine mp_a (a_aload_n dX7_folds_55 rfl) (mpp 56 rfl ?_)
        refine mt_getU (i := 31) (k := 12) (A := 309) hT8 dX7_folds_56 rfl rl_301 (by decide) rfl (by decide) rfl un_25 (mpp 59 rfl ?_)
        refine mp_a (a_iconst (v := 1) dX7_folds_59 rfl) (mpp 60 rfl ?_)
        refine mt_ial (n := 8) hT8 dX7_folds_60 rl_309 (by decide) rfl rfl (by decide) (by decide) rfl (fun g32 g33 => mpp 61 rfl ?_)
        refine mp_Tb (t := 77) (j_icmp_ne dX7_folds_61) (by decide) (fun c34 => ?_) (fun c34 => mpp 64 rfl ?_)
        · have c34 : (fv P4 309 0).toInt ≠ (fv P4 309 1).toInt := ti_ne c34
          refine mp_a (a_iconst (v := 0) dX7_folds_77 rfl) (mpp 78 rfl ?_)
          have w36_ : isRf eM (rM P4) ↔ ((fv P4 301 13).toInt.toNat = 2 ∧ (fv P4 308 0).toInt = (fv P4 308 1).toInt ∧ (fv P4 309 0).toInt = (fv P4 309 1).toInt ∧ ¬ (fv P4 309 0).toInt = 0) := by
            rw [rM_eq, decide_eq_false (show ¬ (fv P4 301 14).toInt = 0 from by omega)]
            have e : GM P4 = (fun j : Nat => fv P4 309 j) := by funext j; unfold GM; rw [if_neg (by omega)]
            rw [e]
            exact isR_f
          have u35 : 0 ≤ (0 : Int) ∧ (0 : Int) ≤ 1 ∧ ((∃ k R', RD cM (rM Po) k R' ∧ (((0 : Int) = 1 ∧ isRf eM R') ∨ ((0 : Int) = 0 ∧ ¬ isRf eM R')))) := ⟨by omega, by omega, _, _, g7.2, by rw [w36_]; omega⟩
          exact mp_iret ⟨⟨_, rfl, u35⟩, hT8, k11, trivial⟩ dX7_folds_78 (Or.inr ⟨rfl, by decide⟩)
        · have c34 : (fv P4 309 0).toInt = (fv P4 309 1).toInt := ti_ne_n c34
          refine mp_a (a_aload_n dX7_folds_64 rfl) (mpp 65 rfl ?_)
          refine mt_getU (i := 31) (k := 12) (A := 309) hT8 dX7_folds_65 rfl rl_301 (by decide) rfl (by decide) rfl un_25 (mpp 68 rfl ?_)
          refine mp_a (a_iconst (v := 0) dX7_folds_68 rfl) (mpp 69 rfl ?_)
          refine mt_ial (n := 8) hT8 dX7_folds_69 rl_309 (by decide) rfl rfl (by decide) (by decide) rfl (fun g37 g38 => mpp 70 rfl ?_)
          refine mp_Tb (t := 77) (j_if_eq dX7_folds_70) (by decide) (fun c39 => ?_) (fun c39 => mpp 73 rfl ?_)
          · have c39 : (fv P4 309 0).toInt = 0 := ti_eq c39
            refine mp_a (a_iconst (v := 0) dX7_folds_77 rfl) (mpp 78 rfl ?_)
            have w41_ : isRf eM (rM P4) ↔ ((fv P4 301 13).toInt.toNat = 2 ∧ (fv P4 308 0).toInt = (fv P4 308 1).toInt ∧ (fv P4 309 0).toInt = (fv P4 309 1).toInt ∧ ¬ (fv P4 309 0).toInt = 0) := by
              rw [rM_eq, decide_eq_false (show ¬ (fv P4 301 14).toInt = 0 from by omega)]
              have e : GM P4 = (fun j : Nat => fv P4 309 j) := by funext j; unfold GM; rw [if_neg (by omega)]
              rw [e]
              exact isR_f
            have u40 : 0 ≤ (0 : Int) ∧ (0 : Int) ≤ 1 ∧ ((∃ k R', RD cM (rM Po) k R' ∧ (((0 : Int) = 1 ∧ isRf eM R') ∨ ((0 : Int) = 0 ∧ ¬ isRf eM R')))) := ⟨by omega, by omega, _, _, g7.2, by rw [w41_]; omega⟩
            exact mp_iret ⟨⟨_, rfl, u40⟩, hT8, k11, trivial⟩ dX7_folds_78 (Or.inr ⟨rfl, by decide⟩)
          · have c39 : (fv P4 309 0).toInt ≠ 0 := ti_eq_n c39
            refine mp_a (a_iconst (v := 1) dX7_folds_73 rfl) (mpp 74 rfl ?_)
            refine mp_a (a_goto (t := 78) dX7_folds_74 (by decide)) ?_
            have w43_ : isRf eM (rM P4) ↔ ((fv P4 301 13).toInt.toNat = 2 ∧ (fv P4 308 0).toInt = (fv P4 308 1).toInt ∧ (fv P4 309 0).toInt = (fv P4 309 1).toInt ∧ ¬ (fv P4 309 0).toInt = 0) := by
              rw [rM_eq, decide_eq_false (show ¬ (fv P4 301 14).toInt = 0 from by omega)]
              have e : GM P4 = (fun j : Nat => fv P4 309 j) := by funext j; unfold GM; rw [if_neg (by omega)]
              rw [e]
              exact isR_f
            have u42 : 0 ≤ (1 : Int) ∧ (1 : Int) ≤ 1 ∧ ((∃ k R', RD cM (rM Po) k R' ∧ (((1 : Int) = 1 ∧ isRf eM R') ∨ ((1 : Int) = 0 ∧ ¬ isRf eM R')))) := ⟨by omega, by omega, _, _, g7.2, by rw [w43_]; omega⟩
            exact mp_iret ⟨⟨_, rfl, u42⟩, hT8, k11, trivial⟩ dX7_folds_78 (Or.inr ⟨rfl, by decide⟩)
  · have c16 : (fv P4 301 14).toInt = 0 := ti_ne_n c16
    refine mp_a (a_aload_n dX7_folds_12 rfl) (mpp 13 rfl ?_)
    have g44 : (0 : Int) ≤ (fv P4 301 13).toInt ∧ (fv P4 301 13).toInt ≤ 8 := Typ.rng hT8 rl_301 (by decide) (by decide) rfl
    refine mt_getI (i := 165) (k := 13) hT8 dX7_folds_13 rfl rl_301 (by decide) rfl (by decide) rfl (fun g45 g46 => mpp 16 rfl ?_)
    refine mp_a (a_iconst (v := 1) dX7_folds_16 rfl) (mpp 17 rfl ?_)
    refine mp_Tb (t := 24) (j_icmp_ne dX7_folds_17) (by decide) (fun c47 => ?_) (fun c47 => mpp 20 rfl ?_)
    · have c47 : (fv P4 301 13).toInt ≠ 1 := ti_ne c47
      refine mp_a (a_iconst (v := 0) dX7_folds_24 rfl) (mpp 25 rfl ?_)
      have w49_ : isRf eM (rM P4) ↔ (fv P4 301 13).toInt.toNat = 1 := by rw [rM_eq, decide_eq_true (show (fv P4 301 14).toInt = 0 from by omega)]; exact isR_t
      have u48 : 0 ≤ (0 : Int) ∧ (0 : Int) ≤ 1 ∧ ((∃ k R', RD cM (rM Po) k R' ∧ (((0 : Int) = 1 ∧ isRf eM R') ∨ ((0 : Int) = 0 ∧ ¬ isRf eM R')))) := ⟨by omega, by omega, _, _, g7.2, by rw [w49_]; omega⟩
      exact mp_iret ⟨⟨_, rfl, u48⟩, hT8, k11, trivial⟩ dX7_folds_25 (Or.inr ⟨rfl, by decide⟩)
    · have c47 : (fv P4 301 13).toInt = 1 := ti_ne_n c47
      refine mp_a (a_iconst (v := 1) dX7_folds_20 rfl) (mpp 21 rfl ?_)
      refine mp_a (a_goto (t := 25) dX7_folds_21 (by decide)) ?_
      have w51_ : isRf eM (rM P4) ↔ (fv P4 301 13).toInt.toNat = 1 := by rw [rM_eq, decide_eq_true (show (fv P4 301 14).toInt = 0 from by omega)]; exact isR_t
      have u50 : 0 ≤ (1 : Int) ∧ (1 : Int) ≤ 1 ∧ ((∃ k R', RD cM (rM Po) k R' ∧ (((1 : Int) = 1 ∧ isRf eM R') ∨ ((1 : Int) = 0 ∧ ¬ isRf eM R')))) := ⟨by omega, by omega, _, _, g7.2, by rw [w51_]; omega⟩
      exact mp_iret ⟨⟨_, rfl, u50⟩, hT8, k11, trivial⟩ dX7_folds_25 (Or.inr ⟨rfl, by decide⟩)

set_option maxHeartbeats 4000000 in
theorem c_M_foldsNow {Po : mP} {t1 : Int32} (hT : Typ Po)  (hp0 : 0 ≤ t1.toInt) (hp1 : t1.toInt ≤ 7)  : EvP 6 163 [.ref 301, .int t1] Po (fun r P' => (∃ x : Int32, r = some (.int x) ∧ (0 ≤ x.toInt ∧ x.toInt ≤ 1 ∧ ((∃ k R', RD cM (pcR (fv Po 302 (3 + 19 * t1.toInt.toNat)).toInt (fv Po 302 (4 + 19 * t1.toInt.toNat)).toInt (fun j : Nat => fv Po 302 (6 + 19 * t1.toInt.toNat + j)) (fun j : Nat => fv Po 302 (14 + 19 * t1.toInt.toNat + j))) k R' ∧ ((x.toInt = 1 ∧ isRf eM R') ∨ (x.toInt = 0 ∧ ¬ isRf eM R')))))) ∧ Typ P' ∧ KW [1101, 1102, 1536, 1600] Po P' ∧ True) := by
  refine EvP.of qm_163 (Nat.le_of_ble_eq_true rfl) rfl ?_
  show MEvP _ none q_163 0 [(0, .ref 301), (1, .int t1)] [] _ 0 0 _
  have w_t1 := ti_full t1
  try have g1 : (0 : Int) ≤ (fv Po 302 (3 + 19 * t1.toInt.toNat)).toInt ∧ (fv Po 302 (3 + 19 * t1.toInt.toNat)).toInt ≤ 1 := s3_rng hT (by omega)
  try have g2 : (0 : Int) ≤ (fv Po 302 (4 + 19 * t1.toInt.toNat)).toInt ∧ (fv Po 302 (4 + 19 * t1.toInt.toNat)).toInt ≤ 8 := s4_rng hT (by omega)
  refine mp_a (a_aload_n dX7_foldsNow_0 rfl) (mpp 1 rfl ?_)
  refine mp_a (a_iload_n dX7_foldsNow_1 rfl) (mpp 2 rfl ?_)
  have p3 : 0 ≤ t1.toInt := by omega
  have p4 : t1.toInt ≤ 7 := by omega
  refine mt_callv (i := 196) (q' := q_164) (As := [.int t1]) (rest := []) hT dX7_foldsNow_2 rfl qm_164 (by decide) rfl rl_301 (by decide) rfl (Nat.le_of_ble_eq_true rfl) rfl ⟨rfl, rfl⟩ ⟨Nat.le_of_ble_eq_true rfl, Nat.le_of_ble_eq_true rfl⟩ (EvP.mono (by decide) (c_M_lays hT p3 p4 )) (fun r5 P6 g7 => mpp 5 rfl ?_)
  obtain ⟨⟨rfl, g9⟩, hT10, k11, R12⟩ := g7
  have k13 : KW [1101, 1102, 1536, 1600] Po P6 := KW.trans KW.refl k11 rfl
  replace g9 : (fv P6 301 14).toInt = (fv Po 302 (3 + 19 * t1.toInt.toNat)).toInt ∧ (fv P6 301 13).toInt = (fv Po 302 (4 + 19 * t1.toInt.toNat)).toInt ∧ (∀ j : Nat, j < 8 → fv P6 308 j = fv Po 302 (6 + 19 * t1.toInt.toNat + j)) ∧ ∀ j : Nat, j < 8 → fv P6 309 j = fv Po 302 (14 + 19 * t1.toInt.toNat + j) := g9
  have g15 : (0 : Int) ≤ (fv P6 301 14).toInt ∧ (fv P6 301 14).toInt ≤ 1 := Typ.rng hT10 rl_301 (by decide) (by decide) rfl
  have g16 : (0 : Int) ≤ (fv P6 301 13).toInt ∧ (fv P6 301 13).toInt ≤ 8 := Typ.rng hT10 rl_301 (by decide) (by decide) rfl
  show MEvP _ none q_163 5 [(0, .ref 301), (1, .int t1)] [] _ _ _ _
  refine mp_a (a_aload_n dX7_foldsNow_5 rfl) (mpp 6 rfl ?_)
  have p17 : (fv P6 301 13).toInt ≤ 8 := by omega
  refine mt_callv (i := 199) (q' := q_165) (As := []) (rest := []) hT10 dX7_foldsNow_6 rfl qm_165 (by decide) rfl rl_301 (by decide) rfl (Nat.le_of_ble_eq_true rfl) rfl ⟨rfl, rfl⟩ ⟨Nat.le_of_ble_eq_true rfl, Nat.le_of_ble_eq_true rfl⟩ (EvP.mono (by decide) (c_M_folds hT10 p17 )) (fun r18 P19 g20 => mpp 9 rfl ?_)
  obtain ⟨⟨x21, rfl, g22⟩, hT23, k24, R25⟩ := g20
  have k26 : KW [1101, 1102, 1536, 1600] Po P19 := KW.trans k13 k24 rfl
  have wx21 := ti_full x21
  replace g22 : 0 ≤ x21.toInt ∧ x21.toInt ≤ 1 ∧ ((∃ k R', RD cM (rM P6) k R' ∧ ((x21.toInt = 1 ∧ isRf eM R') ∨ (x21.toInt = 0 ∧ ¬ isRf eM R')))) := g22
  show MEvP _ none q_163 9 [(0, .ref 301), (1, .int t1)] [.int x21] _ _ _ _
  have w29_ := g22.2.2
  rw [rM_load g9.1 g9.2.1 g9.2.2.1 g9.2.2.2 (by omega)] at w29_
  have u28 : 0 ≤ x21.toInt ∧ x21.toInt ≤ 1 ∧ ((∃ k R', RD cM (pcR (fv Po 302 (3 + 19 * t1.toInt.toNat)).toInt (fv Po 302 (4 + 19 * t1.toInt.toNat)).toInt (fun j : Nat => fv Po 302 (6 + 19 * t1.toInt.toNat + j)) (fun j : Nat => fv Po 302 (14 + 19 * t1.toInt.toNat + j))) k R' ∧ ((x21.toInt = 1 ∧ isRf eM R') ∨ (x21.toInt = 0 ∧ ¬ isRf eM R')))) := ⟨by omega, by omega, w29_⟩
  exact mp_iret ⟨⟨_, rfl, u28⟩, hT23, k26, trivial⟩ dX7_foldsNow_9 (Or.inr ⟨rfl, ti_01 (by omega)⟩)

set_option maxHeartbeats 4000000 in
theorem c_M_evenAngles_l4 {Po : mP} {t1 : Int32} (hT : Typ Po)  (hp0 : 0 ≤ t1.toInt) (hp1 : t1.toInt ≤ 7)  : ∀ (n : Nat) (v2 : Int32) (v3 : Int32), (v2 = evF (fun j : Nat => fv Po 302 (6 + 19 * t1.toInt.toNat + j)) v3.toInt.toNat) → (v3.toInt % 2 = 0) → (v3.toInt ≤ (fv Po 302 (4 + 19 * t1.toInt.toNat)).toInt + 1) → (0 ≤ v3.toInt) → (0 ≤ v3.toInt) → (2147483647 - v3.toInt).toNat = n → MEvP 3 none q_161 4 [(0, .ref 301), (1, .int t1), (2, .int v2), (3, .int v3)] [] Po 0 0 (fun r P' => (∃ x : Int32, r = some (.int x) ∧ (x.toInt = (evF (fun j : Nat => fv Po 302 (6 + 19 * t1.toInt.toNat + j)) (fv Po 302 (4 + 19 * t1.toInt.toNat)).toInt.toNat).toInt)) ∧ P' = Po) := by
  intro n
  induction n using Nat.strongRecOn with | _ n ih => ?_
  intro v2 v3 i_0 i_1 i_2 i_3 i_4 hm
  have w_t1 := ti_full t1
  have w_v2 := ti_full v2
  have w_v3 := ti_full v3
  try have g1 : (0 : Int) ≤ (fv Po 302 (4 + 19 * t1.toInt.toNat)).toInt ∧ (fv Po 302 (4 + 19 * t1.toInt.toNat)).toInt ≤ 8 := s4_rng hT (by omega)
  refine mp_a (a_iload_n dX7_evenAngles_4 rfl) (mpp 5 rfl ?_)
  refine mp_a (a_aload_n dX7_evenAngles_5 rfl) (mpp 6 rfl ?_)
  refine mp_a (a_iload_n dX7_evenAngles_6 rfl) (mpp 7 rfl ?_)
  refine mp_a (a_iconst (v := 1) dX7_evenAngles_7 rfl) (mpp 8 rfl ?_)
  have p2 : 0 ≤ t1.toInt := by omega
  have p3 : t1.toInt ≤ 7 := by omega
  have p4 : 0 ≤ (1 : Int) := by omega
  have p5 : (1 : Int) ≤ 18 := by omega
  refine mt_callv (i := 78) (q' := q_137) (As := [.int t1, .int 1]) (rest := [.int v3]) hT dX7_evenAngles_8 rfl qm_137 (by decide) rfl rl_301 (by decide) rfl (Nat.le_of_ble_eq_true rfl) rfl ⟨rfl, rfl⟩ ⟨Nat.le_of_ble_eq_true rfl, Nat.le_of_ble_eq_true rfl⟩ (EvP.mono (by decide) (c_M_of_c1 hT p2 p3 p4 p5 )) (fun r6 P7 g8 => mpp 11 rfl ?_)
  obtain ⟨⟨x9, rfl, g10⟩, e11⟩ := g8
  have e11 := e11.symm
  subst e11
  have wx9 := ti_full x9
  replace g10 : x9.toInt = (fv Po 302 (4 + 19 * t1.toInt.toNat)).toInt ∧ 0 ≤ x9.toInt ∧ x9.toInt ≤ 8 := g10
  show MEvP _ none q_161 11 [(0, .ref 301), (1, .int t1), (2, .int v2), (3, .int v3)] [.int x9, .int v3] _ _ _ _
  refine mp_Tb (t := 29) (j_icmp_ge dX7_evenAngles_11) (by decide) (fun c12 => ?_) (fun c12 => mpp 14 rfl ?_)
  · have c12 : v3.toInt ≥ x9.toInt := ti_ge c12
    refine mp_a (a_iload_n dX7_evenAngles_29 rfl) (mpp 30 rfl ?_)
    have u13 : v2.toInt = (evF (fun j : Nat => fv Po 302 (6 + 19 * t1.toInt.toNat + j)) (fv Po 302 (4 + 19 * t1.toInt.toNat)).toInt.toNat).toInt := congrArg Int32.toInt (evF.fin i_0 (by omega) (by omega) (by omega))
    exact mp_iret ⟨⟨_, rfl, u13⟩, rfl⟩ dX7_evenAngles_30 (Or.inl rfl)
  · have c12 : v3.toInt < x9.toInt := ti_ge_n c12
    refine mp_a (a_iload_n dX7_evenAngles_14 rfl) (mpp 15 rfl ?_)
    refine mp_a (a_aload_n dX7_evenAngles_15 rfl) (mpp 16 rfl ?_)
    refine mp_a (a_iload_n dX7_evenAngles_16 rfl) (mpp 17 rfl ?_)
    refine mp_a (a_iload_n dX7_evenAngles_17 rfl) (mpp 18 rfl ?_)
    have p14 : 0 ≤ t1.toInt := by omega
    have p15 : t1.toInt ≤ 7 := by omega
    have p16 : 0 ≤ v3.toInt := by omega
    have p17 : v3.toInt ≤ 7 := by omega
    refine mt_callv (i := 142) (q' := q_152) (As := [.int t1, .int v3]) (rest := [.int v2]) hT dX7_evenAngles_18 rfl qm_152 (by decide) rfl rl_301 (by decide) rfl (Nat.le_of_ble_eq_true rfl) rfl ⟨rfl, rfl⟩ ⟨Nat.le_of_ble_eq_true rfl, Nat.le_of_ble_eq_true rfl⟩ (EvP.mono (by decide) (c_M_sizeOf hT p14 p15 p16 p17 )) (fun r18 P19 g20 => mpp 21 rfl ?_)
    obtain ⟨⟨x21, rfl, g22⟩, e23⟩ := g20
    have e23 := e23.symm
    subst e23
    have wx21 := ti_full x21
    replace g22 : x21.toInt = (fv Po 302 (6 + 19 * t1.toInt.toNat + v3.toInt.toNat)).toInt := g22
    show MEvP _ none q_161 21 [(0, .ref 301), (1, .int t1), (2, .int v2), (3, .int v3)] [.int x21, .int v2] _ _ _ _
    obtain ⟨z24, h25⟩ := ti_ex (v2 + x21 : Int32)
    have wz24 := ti_full z24
    refine mp_t (s_iadd (v := z24) dX7_evenAngles_21 h25) (mpp 22 rfl ?_)
    try have e26 : z24.toInt = v2.toInt + x21.toInt := ti_addz h25 rfl rfl (by omega) (by omega)
    refine mp_a (a_istore_n (L' := [(2, .int z24), (0, .ref 301), (1, .int t1), (3, .int v3)]) dX7_evenAngles_22 (by decide) rfl) (mpp 23 rfl ?_)
    obtain ⟨z27, h28⟩ := ti_ex (v3 + 2 : Int32)
    have wz27 := ti_full z27
    refine mp_a (a_iinc (v := z27) (L' := [(3, .int z27), (2, .int z24), (0, .ref 301), (1, .int t1)]) dX7_evenAngles_23 (by decide) rfl h28 rfl) (mpp 26 rfl ?_)
    try have e29 : z27.toInt = v3.toInt + 2 := ti_addz h28 rfl rfl (by omega) (by omega)
    refine mp_a (a_goto (t := 4) dX7_evenAngles_26 (by decide)) ?_
    refine MEvP.less (L := [(0, .ref 301), (1, .int t1), (2, .int z24), (3, .int z27)]) rfl rfl ⟨rfl, rfl, rfl, rfl, trivial⟩ ?_
    have i30 : z24 = evF (fun j : Nat => fv Po 302 (6 + 19 * t1.toInt.toNat + j)) z27.toInt.toNat := evF.step i_0 (by omega) (by omega) (x := x21) (by show _ = (fv Po 302 (6 + 19 * t1.toInt.toNat + v3.toInt.toNat)).toInt; omega) h25
    have i31 : z27.toInt % 2 = 0 := by omega
    have i32 : z27.toInt ≤ (fv Po 302 (4 + 19 * t1.toInt.toNat)).toInt + 1 := by omega
    have i33 : 0 ≤ z27.toInt := by omega
    have i34 : 0 ≤ z27.toInt := by omega
    exact ih _ (by omega) _ _ i30 i31 i32 i33 i34 rfl

set_option maxHeartbeats 4000000 in
theorem c_M_evenAngles {Po : mP} {t1 : Int32} (hT : Typ Po)  (hp0 : 0 ≤ t1.toInt) (hp1 : t1.toInt ≤ 7)  : EvP 4 161 [.ref 301, .int t1] Po (fun r P' => (∃ x : Int32, r = some (.int x) ∧ (x.toInt = (evF (fun j : Nat => fv Po 302 (6 + 19 * t1.toInt.toNat + j)) (fv Po 302 (4 + 19 * t1.toInt.toNat)).toInt.toNat).toInt)) ∧ P' = Po) := by
  refine EvP.of qm_161 (Nat.le_of_ble_eq_true rfl) rfl ?_
  show MEvP _ none q_161 0 [(0, .ref 301), (1, .int t1)] [] _ 0 0 _
  have w_t1 := ti_full t1
  try have g1 : (0 : Int) ≤ (fv Po 302 (4 + 19 * t1.toInt.toNat)).toInt ∧ (fv Po 302 (4 + 19 * t1.toInt.toNat)).toInt ≤ 8 := s4_rng hT (by omega)
  refine mp_a (a_iconst (v := 0) dX7_evenAngles_0 rfl) (mpp 1 rfl ?_)
  refine mp_a (a_istore_n (L' := [(2, .int 0), (0, .ref 301), (1, .int t1)]) dX7_evenAngles_1 (by decide) rfl) (mpp 2 rfl ?_)
  refine mp_a (a_iconst (v := 0) dX7_evenAngles_2 rfl) (mpp 3 rfl ?_)
  refine mp_a (a_istore_n (L' := [(3, .int 0), (2, .int 0), (0, .ref 301), (1, .int t1)]) dX7_evenAngles_3 (by decide) rfl) (mpp 4 rfl ?_)
  refine MEvP.less (L := [(0, .ref 301), (1, .int t1), (2, .int 0), (3, .int 0)]) rfl rfl ⟨rfl, rfl, rfl, rfl, trivial⟩ ?_
  have i2 : 0 = evF (fun j : Nat => fv Po 302 (6 + 19 * t1.toInt.toNat + j)) (0 : Int).toNat := rfl
  have i3 : (0 : Int) % 2 = 0 := by omega
  have i4 : (0 : Int) ≤ (fv Po 302 (4 + 19 * t1.toInt.toNat)).toInt + 1 := by omega
  have i5 : 0 ≤ (0 : Int) := by omega
  have i6 : 0 ≤ (0 : Int) := by omega
  exact c_M_evenAngles_l4 hT  hp0 hp1 _ _ _ i2 i3 i4 i5 i6 rfl

