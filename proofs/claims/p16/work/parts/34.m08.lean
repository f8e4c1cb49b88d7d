/-! methods on typed pools, 8 (written by a program) -/
set_option maxHeartbeats 4000000 in
theorem c_CR_make_Reducer {Po : mP} {t1 : Int32} (hT : Typ Po) (hX : XR Po)  (hp0 : 2 ≤ (fv Po 291 1).toInt) (hp1 : FS cC (rC Po) t1.toInt) (hp2 : ¬ t1.toInt = 0)  : EvP 2 53 [.ref 291, .int t1] Po (fun r P' => (r = none ∧ (rC P' = mkF (rC Po) t1.toInt)) ∧ Typ P' ∧ KW [641, 704, 768] Po P' ∧ KI 291 294 Po P') := by
  refine EvP.of qm_53 (Nat.le_of_ble_eq_true rfl) rfl ?_
  show MEvP _ none q_53 0 [(0, .ref 291), (1, .int t1)] [] _ 0 0 _
  have w_t1 := ti_full t1
  have g1 : (0 : Int) ≤ (fv Po 291 1).toInt ∧ (fv Po 291 1).toInt ≤ 8 := Typ.rng hT rl_291 (by decide) (by decide) rfl
  refine mp_a (a_iload_n dX3_make_0 rfl) (mpp 1 rfl ?_)
  refine mp_a (a_iconst (v := 2) dX3_make_1 rfl) (mpp 2 rfl ?_)
  refine mp_Tb (t := 16) (j_icmp_ne dX3_make_2) (by decide) (fun c2 => ?_) (fun c2 => mpp 5 rfl ?_)
  · have c2 : t1.toInt ≠ 2 := ti_ne c2
    refine mp_a (a_iload_n dX3_make_16 rfl) (mpp 17 rfl ?_)
    refine mp_a (a_iconst (v := 1) dX3_make_17 rfl) (mpp 18 rfl ?_)
    refine mp_Tb (t := 48) (j_icmp_ne dX3_make_18) (by decide) (fun c3 => ?_) (fun c3 => mpp 21 rfl ?_)
    · have c3 : t1.toInt ≠ 1 := ti_ne c3
      obtain ⟨ix, hix, hlo, hhi⟩ := FS_crimp (show FS cC (tm _ _ _ _) _ from hp1) hp2 (by omega) (by omega)
      have hin : ix < (fv Po 291 1).toInt.toNat := hiI_le hhi
      refine mp_a (a_iload_n dX3_make_48 rfl) (mpp 49 rfl ?_)
      refine mp_a (a_bipush (v := 10) dX3_make_49 rfl) (mpp 51 rfl ?_)
      obtain ⟨z4, h5⟩ := ti_ex (t1 - 10 : Int32)
      have wz4 := ti_full z4
      refine mp_t (s_isub (v := z4) dX3_make_51 h5) (mpp 52 rfl ?_)
      try have e6 : z4.toInt = t1.toInt - 10 := ti_subz h5 rfl rfl (by omega) (by omega)
      refine mp_a (a_istore_n (L' := [(2, .int z4), (0, .ref 291), (1, .int t1)]) dX3_make_52 (by decide) rfl) (mpp 53 rfl ?_)
      refine mp_a (a_aload_n dX3_make_53 rfl) (mpp 54 rfl ?_)
      refine mp_a (a_iload_n dX3_make_54 rfl) (mpp 55 rfl ?_)
      refine mt_callv (i := 80) (q' := q_49) (As := [.int z4]) (rest := []) hT dX3_make_55 rfl qm_49 (by decide) rfl rl_291 (by decide) rfl (Nat.le_of_ble_eq_true rfl) rfl ⟨rfl, rfl⟩ ⟨Nat.le_of_ble_eq_true rfl, Nat.le_of_ble_eq_true rfl⟩ (EvP.mono (by decide) (c_CR_before_Reducer hT hX )) (fun r7 P8 g9 => mpp 58 rfl ?_)
      obtain ⟨⟨x10, rfl, g11⟩, e12⟩ := g9
      have e12 := e12.symm
      subst e12
      have wx10 := ti_full x10
      replace g11 : z4.toInt < 0 ∨ x10.toInt = (prI (fv Po 291 1).toInt.toNat z4.toInt.toNat : Nat) ∨ (fv Po 291 1).toInt = 0 := g11
      try replace g11 : x10.toInt = (prI (fv Po 291 1).toInt.toNat z4.toInt.toNat : Nat) := ((g11.resolve_left (by omega)).resolve_right (by omega))
      show MEvP _ none q_53 58 [(2, .int z4), (0, .ref 291), (1, .int t1)] [.int x10] _ _ _ _
      refine mp_a (a_istore_n (L' := [(3, .int x10), (2, .int z4), (0, .ref 291), (1, .int t1)]) dX3_make_58 (by decide) rfl) (mpp 59 rfl ?_)
      refine mp_a (a_aload_n dX3_make_59 rfl) (mpp 60 rfl ?_)
      refine mp_a (a_iload_n dX3_make_60 rfl) (mpp 61 rfl ?_)
      refine mt_callv (i := 83) (q' := q_50) (As := [.int z4]) (rest := []) hT dX3_make_61 rfl qm_50 (by decide) rfl rl_291 (by decide) rfl (Nat.le_of_ble_eq_true rfl) rfl ⟨rfl, rfl⟩ ⟨Nat.le_of_ble_eq_true rfl, Nat.le_of_ble_eq_true rfl⟩ (EvP.mono (by decide) (c_CR_after_Reducer hT hX )) (fun r13 P14 g15 => mpp 64 rfl ?_)
      obtain ⟨⟨x16, rfl, g17⟩, e18⟩ := g15
      have e18 := e18.symm
      subst e18
      have wx16 := ti_full x16
      replace g17 : z4.toInt < 0 ∨ x16.toInt = (nxI (fv Po 291 1).toInt.toNat z4.toInt.toNat : Nat) := g17
      try replace g17 : x16.toInt = (nxI (fv Po 291 1).toInt.toNat z4.toInt.toNat : Nat) := (g17.resolve_left (by omega))
      show MEvP _ none q_53 64 [(3, .int x10), (2, .int z4), (0, .ref 291), (1, .int t1)] [.int x16] _ _ _ _
      refine mp_a (a_istore (L' := [(4, .int x16), (3, .int x10), (2, .int z4), (0, .ref 291), (1, .int t1)]) dX3_make_64 (by decide) rfl) (mpp 66 rfl ?_)
      refine mp_a (a_aload_n dX3_make_66 rfl) (mpp 67 rfl ?_)
      refine mt_getU (i := 9) (k := 2) (A := 292) hT dX3_make_67 rfl rl_291 (by decide) rfl (by decide) rfl un_11 (mpp 70 rfl ?_)
      refine mp_a (a_iload_n dX3_make_70 rfl) (mpp 71 rfl ?_)
      refine mp_a (a_aload_n dX3_make_71 rfl) (mpp 72 rfl ?_)
      refine mt_getU (i := 9) (k := 2) (A := 292) hT dX3_make_72 rfl rl_291 (by decide) rfl (by decide) rfl un_11 (mpp 75 rfl ?_)
      refine mp_a (a_iload_n dX3_make_75 rfl) (mpp 76 rfl ?_)
      refine mp_calls (i := 39) (q' := q_12) (As := [.ref 292, .int x10]) (rest := [.int x10, .ref 292]) dX3_make_76 rfl qm_12 (by decide) rfl (Nat.le_of_ble_eq_true rfl) rfl ⟨rfl, rfl⟩ ⟨Nat.le_of_ble_eq_true rfl, Nat.le_of_ble_eq_true rfl⟩ (EvP.mono (by decide) (c_F_at_rsizes hT hX )) (fun r19 P20 g21 => mpp 79 rfl ?_)
      obtain ⟨⟨x22, rfl, g23⟩, e24⟩ := g21
      have e24 := e24.symm
      subst e24
      have wx22 := ti_full x22
      replace g23 : (0 ≤ x10.toInt ∧ x10.toInt ≤ 7 ∧ x22.toInt = (fv Po 292 x10.toInt.toNat).toInt) ∨ ((x10.toInt < 0 ∨ 8 ≤ x10.toInt) ∧ x22.toInt = 0) := g23
      try replace g23 : x22.toInt = (fv Po 292 x10.toInt.toNat).toInt := (g23.resolve_right (by omega)).2.2
      show MEvP _ none q_53 79 [(4, .int x16), (3, .int x10), (2, .int z4), (0, .ref 291), (1, .int t1)] [.int x22, .int x10, .ref 292] _ _ _ _
      refine mp_a (a_aload_n dX3_make_79 rfl) (mpp 80 rfl ?_)
      refine mt_getU (i := 9) (k := 2) (A := 292) hT dX3_make_80 rfl rl_291 (by decide) rfl (by decide) rfl un_11 (mpp 83 rfl ?_)
      refine mp_a (a_iload dX3_make_83 rfl) (mpp 85 rfl ?_)
      refine mp_calls (i := 39) (q' := q_12) (As := [.ref 292, .int x16]) (rest := [.int x22, .int x10, .ref 292]) dX3_make_85 rfl qm_12 (by decide) rfl (Nat.le_of_ble_eq_true rfl) rfl ⟨rfl, rfl⟩ ⟨Nat.le_of_ble_eq_true rfl, Nat.le_of_ble_eq_true rfl⟩ (EvP.mono (by decide) (c_F_at_rsizes hT hX )) (fun r25 P26 g27 => mpp 88 rfl ?_)
      obtain ⟨⟨x28, rfl, g29⟩, e30⟩ := g27
      have e30 := e30.symm
      subst e30
      have wx28 := ti_full x28
      replace g29 : (0 ≤ x16.toInt ∧ x16.toInt ≤ 7 ∧ x28.toInt = (fv Po 292 x16.toInt.toNat).toInt) ∨ ((x16.toInt < 0 ∨ 8 ≤ x16.toInt) ∧ x28.toInt = 0) := g29
      try replace g29 : x28.toInt = (fv Po 292 x16.toInt.toNat).toInt := (g29.resolve_right (by omega)).2.2
      show MEvP _ none q_53 88 [(4, .int x16), (3, .int x10), (2, .int z4), (0, .ref 291), (1, .int t1)] [.int x28, .int x22, .int x10, .ref 292] _ _ _ _
      obtain ⟨z31, h32⟩ := ti_ex (x22 + x28 : Int32)
      have wz31 := ti_full z31
      refine mp_t (s_iadd (v := z31) dX3_make_88 h32) (mpp 89 rfl ?_)
      try have e33 : z31.toInt = x22.toInt + x28.toInt := ti_addz h32 rfl rfl (by omega) (by omega)
      refine mp_a (a_aload_n dX3_make_89 rfl) (mpp 90 rfl ?_)
      refine mt_getU (i := 9) (k := 2) (A := 292) hT dX3_make_90 rfl rl_291 (by decide) rfl (by decide) rfl un_11 (mpp 93 rfl ?_)
      refine mp_a (a_iload_n dX3_make_93 rfl) (mpp 94 rfl ?_)
      refine mp_calls (i := 39) (q' := q_12) (As := [.ref 292, .int z4]) (rest := [.int z31, .int x10, .ref 292]) dX3_make_94 rfl qm_12 (by decide) rfl (Nat.le_of_ble_eq_true rfl) rfl ⟨rfl, rfl⟩ ⟨Nat.le_of_ble_eq_true rfl, Nat.le_of_ble_eq_true rfl⟩ (EvP.mono (by decide) (c_F_at_rsizes hT hX )) (fun r34 P35 g36 => mpp 97 rfl ?_)
      obtain ⟨⟨x37, rfl, g38⟩, e39⟩ := g36
      have e39 := e39.symm
      subst e39
      have wx37 := ti_full x37
      replace g38 : (0 ≤ z4.toInt ∧ z4.toInt ≤ 7 ∧ x37.toInt = (fv Po 292 z4.toInt.toNat).toInt) ∨ ((z4.toInt < 0 ∨ 8 ≤ z4.toInt) ∧ x37.toInt = 0) := g38
      try replace g38 : x37.toInt = (fv Po 292 z4.toInt.toNat).toInt := (g38.resolve_right (by omega)).2.2
      show MEvP _ none q_53 97 [(4, .int x16), (3, .int x10), (2, .int z4), (0, .ref 291), (1, .int t1)] [.int x37, .int z31, .int x10, .ref 292] _ _ _ _
      obtain ⟨z40, h41⟩ := ti_ex (z31 - x37 : Int32)
      have wz40 := ti_full z40
      refine mp_t (s_isub (v := z40) dX3_make_97 h41) (mpp 98 rfl ?_)
      try have e42 : z40.toInt = z31.toInt - x37.toInt := ti_subz h41 rfl rfl (by omega) (by omega)
      refine mp_calls (i := 47) (q' := q_22) (As := [.ref 292, .int x10, .int z40]) (rest := []) dX3_make_98 rfl qm_22 (by decide) rfl (Nat.le_of_ble_eq_true rfl) rfl ⟨rfl, rfl⟩ ⟨Nat.le_of_ble_eq_true rfl, Nat.le_of_ble_eq_true rfl⟩ (EvP.mono (by decide) (c_F_put_rsizes hT hX )) (fun r43 P44 g45 => mpp 101 rfl ?_)
      obtain ⟨⟨rfl, g47⟩, hT48, k49, R50⟩ := g45
      have k51 : KW [641, 704, 768] Po P44 := KW.trans KW.refl k49 rfl
      show MEvP _ none q_53 101 [(4, .int x16), (3, .int x10), (2, .int z4), (0, .ref 291), (1, .int t1)] [] _ _ _ _
      refine mp_a (a_aload_n dX3_make_101 rfl) (mpp 102 rfl ?_)
      refine mt_getU (i := 9) (k := 2) (A := 292) hT48 dX3_make_102 rfl rl_291 (by decide) rfl (by decide) rfl un_11 (mpp 105 rfl ?_)
      refine mp_a (a_iload_n dX3_make_105 rfl) (mpp 106 rfl ?_)
      refine mp_a (a_iload dX3_make_106 rfl) (mpp 108 rfl ?_)
      obtain ⟨z53, h54⟩ := ti_ex (if (7 : Nat) = 7 then (if z4 < x16 then x16 else z4) else (if x16 < z4 then x16 else z4) : Int32)
      have e55 : z53.toInt = max z4.toInt x16.toInt := ti_mm7 h54
      refine mp_math (i := 109) (k := 0) (v := z53) dX3_make_108 rfl (by decide) (Nat.le_of_ble_eq_true rfl) h54 ⟨Nat.le_of_ble_eq_true rfl, Nat.le_of_ble_eq_true rfl⟩ (mpp 111 rfl ?_)
      have p56 : 0 ≤ z53.toInt := by omega
      refine mp_calls (i := 105) (q' := q_54) (As := [.ref 292, .int z53]) (rest := []) dX3_make_111 rfl qm_54 (by decide) rfl (Nat.le_of_ble_eq_true rfl) rfl ⟨rfl, rfl⟩ ⟨Nat.le_of_ble_eq_true rfl, Nat.le_of_ble_eq_true rfl⟩ (EvP.mono (by decide) (c_F_takeOut_rsizes hT48 (KW.xr k51 hX) p56 )) (fun r57 P58 g59 => mpp 114 rfl ?_)
      obtain ⟨⟨rfl, g61⟩, hT62, k63, R64⟩ := g59
      have k65 : KW [641, 704, 768] Po P58 := KW.trans k51 k63 rfl
      show MEvP _ none q_53 114 [(4, .int x16), (3, .int x10), (2, .int z4), (0, .ref 291), (1, .int t1)] [] _ _ _ _
      refine mp_a (a_aload_n dX3_make_114 rfl) (mpp 115 rfl ?_)
      refine mt_getU (i := 9) (k := 2) (A := 292) hT62 dX3_make_115 rfl rl_291 (by decide) rfl (by decide) rfl un_11 (mpp 118 rfl ?_)
      refine mp_a (a_iload_n dX3_make_118 rfl) (mpp 119 rfl ?_)
      refine mp_a (a_iload dX3_make_119 rfl) (mpp 121 rfl ?_)
      obtain ⟨z67, h68⟩ := ti_ex (if (8 : Nat) = 7 then (if z4 < x16 then x16 else z4) else (if x16 < z4 then x16 else z4) : Int32)
      have e69 : z67.toInt = min z4.toInt x16.toInt := ti_mm8 h68
      refine mp_math (i := 112) (k := 0) (v := z67) dX3_make_121 rfl (by decide) (Nat.le_of_ble_eq_true rfl) h68 ⟨Nat.le_of_ble_eq_true rfl, Nat.le_of_ble_eq_true rfl⟩ (mpp 124 rfl ?_)
      have p70 : 0 ≤ z67.toInt := by omega
      refine mp_calls (i := 105) (q' := q_54) (As := [.ref 292, .int z67]) (rest := []) dX3_make_124 rfl qm_54 (by decide) rfl (Nat.le_of_ble_eq_true rfl) rfl ⟨rfl, rfl⟩ ⟨Nat.le_of_ble_eq_true rfl, Nat.le_of_ble_eq_true rfl⟩ (EvP.mono (by decide) (c_F_takeOut_rsizes hT62 (KW.xr k65 hX) p70 )) (fun r71 P72 g73 => mpp 127 rfl ?_)
      obtain ⟨⟨rfl, g75⟩, hT76, k77, R78⟩ := g73
      have k79 : KW [641, 704, 768] Po P72 := KW.trans k65 k77 rfl
      show MEvP _ none q_53 127 [(4, .int x16), (3, .int x10), (2, .int z4), (0, .ref 291), (1, .int t1)] [] _ _ _ _
      refine mp_a (a_aload_n dX3_make_127 rfl) (mpp 128 rfl ?_)
      refine mt_getU (i := 15) (k := 3) (A := 293) hT76 dX3_make_128 rfl rl_291 (by decide) rfl (by decide) rfl un_12 (mpp 131 rfl ?_)
      refine mp_a (a_iload_n dX3_make_131 rfl) (mpp 132 rfl ?_)
      refine mp_a (a_iload dX3_make_132 rfl) (mpp 134 rfl ?_)
      obtain ⟨z81, h82⟩ := ti_ex (if (7 : Nat) = 7 then (if z4 < x16 then x16 else z4) else (if x16 < z4 then x16 else z4) : Int32)
      have e83 : z81.toInt = max z4.toInt x16.toInt := ti_mm7 h82
      refine mp_math (i := 109) (k := 0) (v := z81) dX3_make_134 rfl (by decide) (Nat.le_of_ble_eq_true rfl) h82 ⟨Nat.le_of_ble_eq_true rfl, Nat.le_of_ble_eq_true rfl⟩ (mpp 137 rfl ?_)
      have p84 : 0 ≤ z81.toInt := by omega
      refine mp_calls (i := 105) (q' := q_54) (As := [.ref 293, .int z81]) (rest := []) dX3_make_137 rfl qm_54 (by decide) rfl (Nat.le_of_ble_eq_true rfl) rfl ⟨rfl, rfl⟩ ⟨Nat.le_of_ble_eq_true rfl, Nat.le_of_ble_eq_true rfl⟩ (EvP.mono (by decide) (c_F_takeOut_rcreases hT76 (KW.xr k79 hX) p84 )) (fun r85 P86 g87 => mpp 140 rfl ?_)
      obtain ⟨⟨rfl, g89⟩, hT90, k91, R92⟩ := g87
      have k93 : KW [641, 704, 768] Po P86 := KW.trans k79 k91 rfl
      show MEvP _ none q_53 140 [(4, .int x16), (3, .int x10), (2, .int z4), (0, .ref 291), (1, .int t1)] [] _ _ _ _
      refine mp_a (a_aload_n dX3_make_140 rfl) (mpp 141 rfl ?_)
      refine mt_getU (i := 15) (k := 3) (A := 293) hT90 dX3_make_141 rfl rl_291 (by decide) rfl (by decide) rfl un_12 (mpp 144 rfl ?_)
      refine mp_a (a_iload_n dX3_make_144 rfl) (mpp 145 rfl ?_)
      refine mp_a (a_iload dX3_make_145 rfl) (mpp 147 rfl ?_)
      obtain ⟨z95, h96⟩ := ti_ex (if (8 : Nat) = 7 then (if z4 < x16 then x16 else z4) else (if x16 < z4 then x16 else z4) : Int32)
      have e97 : z95.toInt = min z4.toInt x16.toInt := ti_mm8 h96
      refine mp_math (i := 112) (k := 0) (v := z95) dX3_make_147 rfl (by decide) (Nat.le_of_ble_eq_true rfl) h96 ⟨Nat.le_of_ble_eq_true rfl, Nat.le_of_ble_eq_true rfl⟩ (mpp 150 rfl ?_)
      have p98 : 0 ≤ z95.toInt := by omega
      refine mp_calls (i := 105) (q' := q_54) (As := [.ref 293, .int z95]) (rest := []) dX3_make_150 rfl qm_54 (by decide) rfl (Nat.le_of_ble_eq_true rfl) rfl ⟨rfl, rfl⟩ ⟨Nat.le_of_ble_eq_true rfl, Nat.le_of_ble_eq_true rfl⟩ (EvP.mono (by decide) (c_F_takeOut_rcreases hT90 (KW.xr k93 hX) p98 )) (fun r99 P100 g101 => mpp 153 rfl ?_)
      obtain ⟨⟨rfl, g103⟩, hT104, k105, R106⟩ := g101
      have k107 : KW [641, 704, 768] Po P100 := KW.trans k93 k105 rfl
      show MEvP _ none q_53 153 [(4, .int x16), (3, .int x10), (2, .int z4), (0, .ref 291), (1, .int t1)] [] _ _ _ _
      refine mp_a (a_aload_n dX3_make_153 rfl) (mpp 154 rfl ?_)
      refine mp_t (s_dup dX3_make_154 rfl) (mpp 155 rfl ?_)
      have e109 : (fv P100 291 1).toInt = (fv Po 291 1).toInt := congrArg Int32.toInt ((KW.at k105 1 rl_291 rfl).trans ((KW.at k91 1 rl_291 rfl).trans ((KW.at k77 1 rl_291 rfl).trans ((KW.at k63 1 rl_291 rfl).trans (KW.at k49 1 rl_291 rfl)))))
      refine mt_getI (i := 28) (k := 1) hT104 dX3_make_155 rfl rl_291 (by decide) rfl (by decide) rfl (fun g110 g111 => mpp 158 rfl ?_)
      refine mp_a (a_iconst (v := 2) dX3_make_158 rfl) (mpp 159 rfl ?_)
      obtain ⟨z112, h113⟩ := ti_ex ((fv P100 291 1) - 2 : Int32)
      have wz112 := ti_full z112
      refine mp_t (s_isub (v := z112) dX3_make_159 h113) (mpp 160 rfl ?_)
      try have e114 : z112.toInt = (fv P100 291 1).toInt - 2 := ti_subz h113 rfl rfl (by omega) (by omega)
      refine mt_putI (i := 28) (k := 1) (x := z112) hT104 dX3_make_160 rfl rl_291 (by decide) rfl (by decide) rfl ⟨by omega, by omega⟩ rfl rfl (fun P115 hT116 f117 f118 f119 => mpp 163 rfl ?_)
      have k120 : KW [641, 704, 768] Po P115 := KW.step k107 rl_291 rfl f118 f119
      have e121 : (fv P115 291 1).toInt = z112.toInt := congrArg Int32.toInt f117
      have w123_k : decide ((fv P115 291 0).toInt = 0) = decide ((fv Po 291 0).toInt = 0) := by rw [f118 291 0 (by omega), R106.2 291 0 (by omega), R92.2 291 0 (by omega), R78.2 291 0 (by omega), R64.2 291 0 (by omega), R50.2.2 291 0 (by omega)]
      have w123_i : z4.toInt.toNat = ix := by omega
      have w123_l : x10.toInt.toNat = prI (fv Po 291 1).toInt.toNat ix := by rw [← w123_i]; omega
      have w123_r : x16.toInt.toNat = nxI (fv Po 291 1).toInt.toNat ix := by rw [← w123_i]; omega
      have w123_1 := prI_lt hin
      have w123_2 := nxI_lt hin
      have w123_v : z40 = fv Po 292 (prI (fv Po 291 1).toInt.toNat ix) + fv Po 292 (nxI (fv Po 291 1).toInt.toNat ix) - fv Po 292 ix := by
        have q1 : x22 = fv Po 292 (prI (fv Po 291 1).toInt.toNat ix) := Int32.toInt_inj.mp (by rw [← w123_l]; omega)
        have q2 : x28 = fv Po 292 (nxI (fv Po 291 1).toInt.toNat ix) := Int32.toInt_inj.mp (by rw [← w123_r]; omega)
        have q3 : x37 = fv Po 292 ix := Int32.toInt_inj.mp (by rw [← w123_i]; omega)
        rw [← h41, ← h32, q1, q2, q3]
      have w123_u : ∀ j : Nat, fv P44 292 j = up (prI (fv Po 291 1).toInt.toNat ix) z40 (fun j : Nat => fv Po 292 j) j := by
        intro j
        unfold up
        split
        · rename_i e; rw [e, ← w123_l]; exact Int32.toInt_inj.mp (R50.1.resolve_left (by omega))
        · rename_i e; exact R50.2.1 292 j (fun q => e (q.2.trans w123_l))
      have w123_a : z53.toInt.toNat = max ix (nxI (fv Po 291 1).toInt.toNat ix) := by rw [← w123_r, ← w123_i]; omega
      have w123_b : z67.toInt.toNat = min ix (nxI (fv Po 291 1).toInt.toNat ix) := by rw [← w123_r, ← w123_i]; omega
      have w123_c : z81.toInt.toNat = max ix (nxI (fv Po 291 1).toInt.toNat ix) := by rw [← w123_r, ← w123_i]; omega
      have w123_d : z95.toInt.toNat = min ix (nxI (fv Po 291 1).toInt.toNat ix) := by rw [← w123_r, ← w123_i]; omega
      have w123_f := tk2 w123_u R64.1 R78.1
      rw [w123_a, w123_b] at w123_f
      have w123_g := tk2 (F0 := fun j : Nat => fv Po 293 j) (F1 := fun j : Nat => fv P72 293 j) (fun j => by rw [R78.2 293 j (by omega), R64.2 293 j (by omega), R50.2.2 293 j (by omega)]) R92.1 R106.1
      rw [w123_c, w123_d] at w123_g
      have u122 : rC P115 = mkF (rC Po) t1.toInt := by show tm (decide ((fv P115 291 0).toInt = 0)) (fv P115 291 1).toInt.toNat (fun j => fv P115 292 j) (fun j => fv P115 293 j) = mkF (tm (decide ((fv Po 291 0).toInt = 0)) (fv Po 291 1).toInt.toNat (fun j => fv Po 292 j) (fun j => fv Po 293 j)) t1.toInt; rw [w123_k]; exact mkF.crimp hix (by omega) hlo hhi rfl rfl rfl rfl w123_v (fun j hj => (show fv P115 292 j = fv P72 292 j from by rw [f118 292 j (by omega), R106.2 292 j (by omega), R92.2 292 j (by omega)]).trans (w123_f j (by omega))) (fun j hj _ => (show fv P115 293 j = fv P100 293 j from by rw [f118 293 j (by omega)]).trans (w123_g j (by omega)))
      have u124 : KI 291 294 Po P115 := by
        intro x j hx
        rw [f118 x j (by omega), R106.2 x j (by omega), R92.2 x j (by omega), R78.2 x j (by omega), R64.2 x j (by omega), R50.2.2 x j (by omega)]
      exact mp_ret ⟨⟨rfl, u122⟩, hT116, k120, u124⟩ dX3_make_163 rfl
    · have c3 : t1.toInt = 1 := ti_ne_n c3
      refine mp_a (a_aload_n dX3_make_21 rfl) (mpp 22 rfl ?_)
      refine mt_getU (i := 9) (k := 2) (A := 292) hT dX3_make_22 rfl rl_291 (by decide) rfl (by decide) rfl un_11 (mpp 25 rfl ?_)
      refine mp_a (a_iconst (v := 0) dX3_make_25 rfl) (mpp 26 rfl ?_)
      have p125 : 0 ≤ (0 : Int) := by omega
      refine mp_calls (i := 105) (q' := q_54) (As := [.ref 292, .int 0]) (rest := []) dX3_make_26 rfl qm_54 (by decide) rfl (Nat.le_of_ble_eq_true rfl) rfl ⟨rfl, rfl⟩ ⟨Nat.le_of_ble_eq_true rfl, Nat.le_of_ble_eq_true rfl⟩ (EvP.mono (by decide) (c_F_takeOut_rsizes hT hX p125 )) (fun r126 P127 g128 => mpp 29 rfl ?_)
      obtain ⟨⟨rfl, g130⟩, hT131, k132, R133⟩ := g128
      have k134 : KW [641, 704, 768] Po P127 := KW.trans KW.refl k132 rfl
      show MEvP _ none q_53 29 [(0, .ref 291), (1, .int t1)] [] _ _ _ _
      refine mp_a (a_aload_n dX3_make_29 rfl) (mpp 30 rfl ?_)
      refine mt_getU (i := 15) (k := 3) (A := 293) hT131 dX3_make_30 rfl rl_291 (by decide) rfl (by decide) rfl un_12 (mpp 33 rfl ?_)
      refine mp_a (a_iconst (v := 0) dX3_make_33 rfl) (mpp 34 rfl ?_)
      have p136 : 0 ≤ (0 : Int) := by omega
      refine mp_calls (i := 105) (q' := q_54) (As := [.ref 293, .int 0]) (rest := []) dX3_make_34 rfl qm_54 (by decide) rfl (Nat.le_of_ble_eq_true rfl) rfl ⟨rfl, rfl⟩ ⟨Nat.le_of_ble_eq_true rfl, Nat.le_of_ble_eq_true rfl⟩ (EvP.mono (by decide) (c_F_takeOut_rcreases hT131 (KW.xr k134 hX) p136 )) (fun r137 P138 g139 => mpp 37 rfl ?_)
      obtain ⟨⟨rfl, g141⟩, hT142, k143, R144⟩ := g139
      have k145 : KW [641, 704, 768] Po P138 := KW.trans k134 k143 rfl
      show MEvP _ none q_53 37 [(0, .ref 291), (1, .int t1)] [] _ _ _ _
      refine mp_a (a_aload_n dX3_make_37 rfl) (mpp 38 rfl ?_)
      refine mp_t (s_dup dX3_make_38 rfl) (mpp 39 rfl ?_)
      have e147 : (fv P138 291 1).toInt = (fv Po 291 1).toInt := congrArg Int32.toInt ((KW.at k143 1 rl_291 rfl).trans (KW.at k132 1 rl_291 rfl))
      refine mt_getI (i := 28) (k := 1) hT142 dX3_make_39 rfl rl_291 (by decide) rfl (by decide) rfl (fun g148 g149 => mpp 42 rfl ?_)
      refine mp_a (a_iconst (v := 1) dX3_make_42 rfl) (mpp 43 rfl ?_)
      obtain ⟨z150, h151⟩ := ti_ex ((fv P138 291 1) - 1 : Int32)
      have wz150 := ti_full z150
      refine mp_t (s_isub (v := z150) dX3_make_43 h151) (mpp 44 rfl ?_)
      try have e152 : z150.toInt = (fv P138 291 1).toInt - 1 := ti_subz h151 rfl rfl (by omega) (by omega)
      refine mt_putI (i := 28) (k := 1) (x := z150) hT142 dX3_make_44 rfl rl_291 (by decide) rfl (by decide) rfl ⟨by omega, by omega⟩ rfl rfl (fun P153 hT154 f155 f156 f157 => mpp 47 rfl ?_)
      have k158 : KW [641, 704, 768] Po P153 := KW.step k145 rl_291 rfl f156 f157
      have e159 : (fv P153 291 1).toInt = z150.toInt := congrArg Int32.toInt f155
      have w161_k : decide ((fv P153 291 0).toInt = 0) = decide ((fv Po 291 0).toInt = 0) := by rw [f156 291 0 (by omega), R144.2 291 0 (by omega), R133.2 291 0 (by omega)]
      have u160 : rC P153 = mkF (rC Po) t1.toInt := by show tm (decide ((fv P153 291 0).toInt = 0)) (fv P153 291 1).toInt.toNat (fun j => fv P153 292 j) (fun j => fv P153 293 j) = mkF (tm (decide ((fv Po 291 0).toInt = 0)) (fv Po 291 1).toInt.toNat (fun j => fv Po 292 j) (fun j => fv Po 293 j)) t1.toInt; rw [w161_k]; exact mkF.one (by omega) (by omega) (fun j hj => (show fv P153 292 j = fv P127 292 j from by rw [f156 292 j (by omega), R144.2 292 j (by omega)]).trans (R133.1 j (by omega))) (fun j hj _ => (show fv P153 293 j = fv P138 293 j from by rw [f156 293 j (by omega)]).trans ((R144.1 j (by omega)).trans ((show fv P127 293 (j + 1) = fv Po 293 (j + 1) from by rw [R133.2 293 (j + 1) (by omega)]))))
      have u162 : KI 291 294 Po P153 := by
        intro x j hx
        rw [f156 x j (by omega), R144.2 x j (by omega), R133.2 x j (by omega)]
      exact mp_ret ⟨⟨rfl, u160⟩, hT154, k158, u162⟩ dX3_make_47 rfl
  · have c2 : t1.toInt = 2 := ti_ne_n c2
    refine mp_a (a_aload_n dX3_make_5 rfl) (mpp 6 rfl ?_)
    refine mp_t (s_dup dX3_make_6 rfl) (mpp 7 rfl ?_)
    refine mt_getI (i := 28) (k := 1) hT dX3_make_7 rfl rl_291 (by decide) rfl (by decide) rfl (fun g163 g164 => mpp 10 rfl ?_)
    refine mp_a (a_iconst (v := 1) dX3_make_10 rfl) (mpp 11 rfl ?_)
    obtain ⟨z165, h166⟩ := ti_ex ((fv Po 291 1) - 1 : Int32)
    have wz165 := ti_full z165
    refine mp_t (s_isub (v := z165) dX3_make_11 h166) (mpp 12 rfl ?_)
    try have e167 : z165.toInt = (fv Po 291 1).toInt - 1 := ti_subz h166 rfl rfl (by omega) (by omega)
    refine mt_putI (i := 28) (k := 1) (x := z165) hT dX3_make_12 rfl rl_291 (by decide) rfl (by decide) rfl ⟨by omega, by omega⟩ rfl rfl (fun P168 hT169 f170 f171 f172 => mpp 15 rfl ?_)
    have k173 : KW [641, 704, 768] Po P168 := KW.step KW.refl rl_291 rfl f171 f172
    have e174 : (fv P168 291 1).toInt = z165.toInt := congrArg Int32.toInt f170
    have w176_k : decide ((fv P168 291 0).toInt = 0) = decide ((fv Po 291 0).toInt = 0) := by rw [f171 291 0 (by omega)]
    have u175 : rC P168 = mkF (rC Po) t1.toInt := by show tm (decide ((fv P168 291 0).toInt = 0)) (fv P168 291 1).toInt.toNat (fun j => fv P168 292 j) (fun j => fv P168 293 j) = mkF (tm (decide ((fv Po 291 0).toInt = 0)) (fv Po 291 1).toInt.toNat (fun j => fv Po 292 j) (fun j => fv Po 293 j)) t1.toInt; rw [w176_k]; exact mkF.two (by omega) (by omega) (fun j _ => by rw [f171 292 j (by omega)]) (fun j _ _ => by rw [f171 293 j (by omega)])
    have u177 : KI 291 294 Po P168 := by
      intro x j hx
      rw [f171 x j (by omega)]
    exact mp_ret ⟨⟨rfl, u175⟩, hT169, k173, u177⟩ dX3_make_15 rfl

set_option maxHeartbeats 4000000 in
theorem c_CR_reduce_Reducer_l7 {Po : mP}  (hTo : Typ Po) (hX : XR Po) (hp0 : (fv Po 291 1).toInt ≤ 8)  : ∀ (n : Nat) (v1 : Int32) (v2 : Int32), ∀ (P : mP), Typ P → KW [641, 704, 768] Po P → (v2.toInt = 0 ∨ 2 ≤ (fv P 291 1).toInt) → (RP cC (rC Po) v1.toInt.toNat (rC P)) → (FS cC (rC P) v2.toInt) → (v1.toInt ≤ 8) → (KI 291 294 Po P) → (0 ≤ v1.toInt) → (2147483647 - v1.toInt).toNat = n → MEvP 2 none q_51 7 [(0, .ref 291), (1, .int v1), (2, .int v2)] [] P 0 0 (fun r P' => (∃ x : Int32, r = some (.int x) ∧ (0 ≤ x.toInt ∧ RD cC (rC Po) x.toInt.toNat (rC P'))) ∧ Typ P' ∧ KW [641, 704, 768] Po P' ∧ KI 291 294 Po P') := by
  intro n
  induction n using Nat.strongRecOn with | _ n ih => ?_
  intro v1 v2 P hT hK i_0 i_1 i_2 i_3 i_4 i_5 hm
  have w_v1 := ti_full v1
  have w_v2 := ti_full v2
  have g1 : (0 : Int) ≤ (fv P 291 1).toInt ∧ (fv P 291 1).toInt ≤ 8 := Typ.rng hT rl_291 (by decide) (by decide) rfl
  have g2 : (0 : Int) ≤ (fv P 291 1).toInt ∧ (fv P 291 1).toInt ≤ 8 := Typ.rng hT rl_291 (by decide) (by decide) rfl
  refine mp_a (a_iload_n dX3_reduce_7 rfl) (mpp 8 rfl ?_)
  refine mp_a (a_bipush (v := 8) dX3_reduce_8 rfl) (mpp 10 rfl ?_)
  refine mp_Tb (t := 33) (j_icmp_ge dX3_reduce_10) (by decide) (fun c3 => ?_) (fun c3 => mpp 13 rfl ?_)
  · have c3 : v1.toInt ≥ 8 := ti_ge c3
    refine mp_a (a_iload_n dX3_reduce_33 rfl) (mpp 34 rfl ?_)
    have u4 : 0 ≤ v1.toInt ∧ RD cC (rC Po) v1.toInt.toNat (rC P) := ⟨by omega, if h0 : v2.toInt = 0 then i_1.fin i_2 h0 else absurd (FS.two i_2 h0) (by have q := i_1.le; have q : (fv P 291 1).toInt.toNat + v1.toInt.toNat ≤ (fv Po 291 1).toInt.toNat := q; show ¬ 2 ≤ (fv P 291 1).toInt.toNat; omega)⟩
    have u5 : KI 291 294 Po P := i_4
    exact mp_iret ⟨⟨_, rfl, u4⟩, hT, hK, u5⟩ dX3_reduce_34 (Or.inl rfl)
  · have c3 : v1.toInt < 8 := ti_ge_n c3
    refine mp_a (a_iload_n dX3_reduce_13 rfl) (mpp 14 rfl ?_)
    refine mp_Tb (t := 33) (j_if_eq dX3_reduce_14) (by decide) (fun c6 => ?_) (fun c6 => mpp 17 rfl ?_)
    · have c6 : v2.toInt = 0 := ti_eq c6
      refine mp_a (a_iload_n dX3_reduce_33 rfl) (mpp 34 rfl ?_)
      have u7 : 0 ≤ v1.toInt ∧ RD cC (rC Po) v1.toInt.toNat (rC P) := ⟨by omega, if h0 : v2.toInt = 0 then i_1.fin i_2 h0 else absurd (FS.two i_2 h0) (by have q := i_1.le; have q : (fv P 291 1).toInt.toNat + v1.toInt.toNat ≤ (fv Po 291 1).toInt.toNat := q; show ¬ 2 ≤ (fv P 291 1).toInt.toNat; omega)⟩
      have u8 : KI 291 294 Po P := i_4
      exact mp_iret ⟨⟨_, rfl, u7⟩, hT, hK, u8⟩ dX3_reduce_34 (Or.inl rfl)
    · have c6 : v2.toInt ≠ 0 := ti_eq_n c6
      refine mp_a (a_aload_n dX3_reduce_17 rfl) (mpp 18 rfl ?_)
      refine mp_a (a_iload_n dX3_reduce_18 rfl) (mpp 19 rfl ?_)
      have p9 : 2 ≤ (fv P 291 1).toInt := by omega
      have p10 : FS cC (rC P) v2.toInt := i_2
      have p11 : ¬ v2.toInt = 0 := by omega
      refine mt_callv (i := 101) (q' := q_53) (As := [.int v2]) (rest := []) hT dX3_reduce_19 rfl qm_53 (by decide) rfl rl_291 (by decide) rfl (Nat.le_of_ble_eq_true rfl) rfl ⟨rfl, rfl⟩ ⟨Nat.le_of_ble_eq_true rfl, Nat.le_of_ble_eq_true rfl⟩ (EvP.mono (by decide) (c_CR_make_Reducer hT (KW.xr hK hX) p9 p10 p11 )) (fun r12 P13 g14 => mpp 22 rfl ?_)
      obtain ⟨⟨rfl, g16⟩, hT17, k18, R19⟩ := g14
      have k20 : KW [641, 704, 768] Po P13 := KW.trans hK k18 rfl
      replace g16 : rC P13 = mkF (rC P) v2.toInt := g16
      show MEvP _ none q_51 22 [(0, .ref 291), (1, .int v1), (2, .int v2)] [] _ _ _ _
      obtain ⟨z22, h23⟩ := ti_ex (v1 + 1 : Int32)
      have wz22 := ti_full z22
      refine mp_a (a_iinc (v := z22) (L' := [(1, .int z22), (0, .ref 291), (2, .int v2)]) dX3_reduce_22 (by decide) rfl h23 rfl) (mpp 25 rfl ?_)
      try have e24 : z22.toInt = v1.toInt + 1 := ti_addz h23 rfl rfl (by omega) (by omega)
      refine mp_a (a_aload_n dX3_reduce_25 rfl) (mpp 26 rfl ?_)
      refine mt_callv (i := 98) (q' := q_52) (As := []) (rest := []) hT17 dX3_reduce_26 rfl qm_52 (by decide) rfl rl_291 (by decide) rfl (Nat.le_of_ble_eq_true rfl) rfl ⟨rfl, rfl⟩ ⟨Nat.le_of_ble_eq_true rfl, Nat.le_of_ble_eq_true rfl⟩ (EvP.mono (by decide) (c_CR_firstStep_Reducer hT17 (KW.xr k20 hX) )) (fun r25 P26 g27 => mpp 29 rfl ?_)
      obtain ⟨⟨x28, rfl, g29⟩, e30⟩ := g27
      have e30 := e30.symm
      subst e30
      have wx28 := ti_full x28
      replace g29 : (x28.toInt = 0 ∨ 2 ≤ (fv P13 291 1).toInt) ∧ FS cC (rC P13) x28.toInt := g29
      have g31 : (0 : Int) ≤ (fv P13 291 1).toInt ∧ (fv P13 291 1).toInt ≤ 8 := Typ.rng hT17 rl_291 (by decide) (by decide) rfl
      show MEvP _ none q_51 29 [(1, .int z22), (0, .ref 291), (2, .int v2)] [.int x28] _ _ _ _
      refine mp_a (a_istore_n (L' := [(2, .int x28), (1, .int z22), (0, .ref 291)]) dX3_reduce_29 (by decide) rfl) (mpp 30 rfl ?_)
      refine mp_a (a_goto (t := 7) dX3_reduce_30 (by decide)) ?_
      refine MEvP.less (L := [(0, .ref 291), (1, .int z22), (2, .int x28)]) rfl rfl ⟨rfl, rfl, rfl, trivial⟩ ?_
      have i32 : x28.toInt = 0 ∨ 2 ≤ (fv P13 291 1).toInt := by omega
      have i33 : RP cC (rC Po) z22.toInt.toNat (rC P13) := RP.snoc' i_1 i_2 (by omega) g16 (by omega)
      have i34 : FS cC (rC P13) x28.toInt := g29.2
      have i35 : z22.toInt ≤ 8 := by omega
      have i36 : KI 291 294 Po P13 := fun x j hx => by rw [R19 x j (by omega), i_4 x j (by omega)]
      have i37 : 0 ≤ z22.toInt := by omega
      exact ih _ (by omega) _ _ P13 hT17 k20 i32 i33 i34 i35 i36 i37 rfl

set_option maxHeartbeats 4000000 in
theorem c_CR_reduce_Reducer {Po : mP}  (hT : Typ Po) (hX : XR Po)  (hp0 : (fv Po 291 1).toInt ≤ 8)  : EvP 3 51 [.ref 291] Po (fun r P' => (∃ x : Int32, r = some (.int x) ∧ (0 ≤ x.toInt ∧ RD cC (rC Po) x.toInt.toNat (rC P'))) ∧ Typ P' ∧ KW [641, 704, 768] Po P' ∧ KI 291 294 Po P') := by
  refine EvP.of qm_51 (Nat.le_of_ble_eq_true rfl) rfl ?_
  show MEvP _ none q_51 0 [(0, .ref 291)] [] _ 0 0 _
  have g1 : (0 : Int) ≤ (fv Po 291 1).toInt ∧ (fv Po 291 1).toInt ≤ 8 := Typ.rng hT rl_291 (by decide) (by decide) rfl
  refine mp_a (a_iconst (v := 0) dX3_reduce_0 rfl) (mpp 1 rfl ?_)
  refine mp_a (a_istore_n (L' := [(1, .int 0), (0, .ref 291)]) dX3_reduce_1 (by decide) rfl) (mpp 2 rfl ?_)
  refine mp_a (a_aload_n dX3_reduce_2 rfl) (mpp 3 rfl ?_)
  refine mt_callv (i := 98) (q' := q_52) (As := []) (rest := []) hT dX3_reduce_3 rfl qm_52 (by decide) rfl rl_291 (by decide) rfl (Nat.le_of_ble_eq_true rfl) rfl ⟨rfl, rfl⟩ ⟨Nat.le_of_ble_eq_true rfl, Nat.le_of_ble_eq_true rfl⟩ (EvP.mono (by decide) (c_CR_firstStep_Reducer hT hX )) (fun r2 P3 g4 => mpp 6 rfl ?_)
  obtain ⟨⟨x5, rfl, g6⟩, e7⟩ := g4
  have e7 := e7.symm
  subst e7
  have wx5 := ti_full x5
  replace g6 : (x5.toInt = 0 ∨ 2 ≤ (fv Po 291 1).toInt) ∧ FS cC (rC Po) x5.toInt := g6
  show MEvP _ none q_51 6 [(1, .int 0), (0, .ref 291)] [.int x5] _ _ _ _
  refine mp_a (a_istore_n (L' := [(2, .int x5), (1, .int 0), (0, .ref 291)]) dX3_reduce_6 (by decide) rfl) (mpp 7 rfl ?_)
  refine MEvP.less (L := [(0, .ref 291), (1, .int 0), (2, .int x5)]) rfl rfl ⟨rfl, rfl, rfl, trivial⟩ ?_
  have i8 : x5.toInt = 0 ∨ 2 ≤ (fv Po 291 1).toInt := by omega
  have i9 : RP cC (rC Po) (0 : Int).toNat (rC Po) := (rfl : rC Po = rC Po)
  have i10 : FS cC (rC Po) x5.toInt := g6.2
  have i11 : (0 : Int) ≤ 8 := by omega
  have i12 : KI 291 294 Po Po := KI.refl
  have i13 : 0 ≤ (0 : Int) := by omega
  exact c_CR_reduce_Reducer_l7 hT hX  hp0 _ _ _ Po hT KW.refl i8 i9 i10 i11 i12 i13 rfl

set_option maxHeartbeats 4000000 in
theorem c_CR_isReduced_Reducer {Po : mP}  (hT : Typ Po) (hX : XR Po)   : EvP 2 55 [.ref 291] Po (fun r P' => (∃ x : Int32, r = some (.int x) ∧ (0 ≤ x.toInt ∧ x.toInt ≤ 1 ∧ ((x.toInt = 1 ∧ isRf eC (rC Po)) ∨ (x.toInt = 0 ∧ ¬ isRf eC (rC Po))))) ∧ P' = Po) := by
  refine EvP.of qm_55 (Nat.le_of_ble_eq_true rfl) rfl ?_
  show MEvP _ none q_55 0 [(0, .ref 291)] [] _ 0 0 _
  refine mp_a (a_aload_n dX3_isReduced_0 rfl) (mpp 1 rfl ?_)
  have g1 := ti_full (fv Po 291 0)
  refine mt_getI (i := 24) (k := 0) hT dX3_isReduced_1 rfl rl_291 (by decide) rfl (by decide) rfl (fun g2 g3 => mpp 4 rfl ?_)
  refine mp_Tb (t := 21) (j_if_ne dX3_isReduced_4) (by decide) (fun c4 => ?_) (fun c4 => mpp 7 rfl ?_)
  · have c4 : (fv Po 291 0).toInt ≠ 0 := ti_ne c4
    refine mp_a (a_aload_n dX3_isReduced_21 rfl) (mpp 22 rfl ?_)
    have g5 : (0 : Int) ≤ (fv Po 291 1).toInt ∧ (fv Po 291 1).toInt ≤ 8 := Typ.rng hT rl_291 (by decide) (by decide) rfl
    refine mt_getI (i := 28) (k := 1) hT dX3_isReduced_22 rfl rl_291 (by decide) rfl (by decide) rfl (fun g6 g7 => mpp 25 rfl ?_)
    refine mp_a (a_iconst (v := 2) dX3_isReduced_25 rfl) (mpp 26 rfl ?_)
    refine mp_Tb (t := 71) (j_icmp_ne dX3_isReduced_26) (by decide) (fun c8 => ?_) (fun c8 => mpp 29 rfl ?_)
    · have c8 : (fv Po 291 1).toInt ≠ 2 := ti_ne c8
      refine mp_a (a_iconst (v := 0) dX3_isReduced_71 rfl) (mpp 72 rfl ?_)
      have w10_ : isRf eC (rC Po) ↔ ((fv Po 291 1).toInt.toNat = 2 ∧ (fv Po 292 0).toInt = (fv Po 292 1).toInt ∧ (fv Po 293 0).toInt = (fv Po 293 1).toInt) := by unfold rC; rw [decide_eq_false (show ¬ (fv Po 291 0).toInt = 0 from by omega)]; exact isR_f.trans ⟨fun h => ⟨h.1, h.2.1, h.2.2.1⟩, fun h => ⟨h.1, h.2.1, h.2.2, trivial⟩⟩
      have u9 : 0 ≤ (0 : Int) ∧ (0 : Int) ≤ 1 ∧ (((0 : Int) = 1 ∧ isRf eC (rC Po)) ∨ ((0 : Int) = 0 ∧ ¬ isRf eC (rC Po))) := ⟨by omega, by omega, by rw [w10_]; omega⟩
      exact mp_iret ⟨⟨_, rfl, u9⟩, rfl⟩ dX3_isReduced_72 (Or.inr ⟨rfl, by decide⟩)
    · have c8 : (fv Po 291 1).toInt = 2 := ti_ne_n c8
      refine mp_a (a_aload_n dX3_isReduced_29 rfl) (mpp 30 rfl ?_)
      refine mt_getU (i := 9) (k := 2) (A := 292) hT dX3_isReduced_30 rfl rl_291 (by decide) rfl (by decide) rfl un_11 (mpp 33 rfl ?_)
      refine mp_a (a_iconst (v := 0) dX3_isReduced_33 rfl) (mpp 34 rfl ?_)
      refine mp_calls (i := 39) (q' := q_12) (As := [.ref 292, .int 0]) (rest := []) dX3_isReduced_34 rfl qm_12 (by decide) rfl (Nat.le_of_ble_eq_true rfl) rfl ⟨rfl, rfl⟩ ⟨Nat.le_of_ble_eq_true rfl, Nat.le_of_ble_eq_true rfl⟩ (EvP.mono (by decide) (c_F_at_rsizes hT hX )) (fun r11 P12 g13 => mpp 37 rfl ?_)
      obtain ⟨⟨x14, rfl, g15⟩, e16⟩ := g13
      have e16 := e16.symm
      subst e16
      have wx14 := ti_full x14
      replace g15 : (0 ≤ (0 : Int) ∧ (0 : Int) ≤ 7 ∧ x14.toInt = (fv Po 292 0).toInt) ∨ (((0 : Int) < 0 ∨ 8 ≤ (0 : Int)) ∧ x14.toInt = 0) := g15
      try replace g15 : x14.toInt = (fv Po 292 0).toInt := (g15.resolve_right (by omega)).2.2
      show MEvP _ none q_55 37 [(0, .ref 291)] [.int x14] _ _ _ _
      refine mp_a (a_aload_n dX3_isReduced_37 rfl) (mpp 38 rfl ?_)
      refine mt_getU (i := 9) (k := 2) (A := 292) hT dX3_isReduced_38 rfl rl_291 (by decide) rfl (by decide) rfl un_11 (mpp 41 rfl ?_)
      refine mp_a (a_iconst (v := 1) dX3_isReduced_41 rfl) (mpp 42 rfl ?_)
      refine mp_calls (i := 39) (q' := q_12) (As := [.ref 292, .int 1]) (rest := [.int x14]) dX3_isReduced_42 rfl qm_12 (by decide) rfl (Nat.le_of_ble_eq_true rfl) rfl ⟨rfl, rfl⟩ ⟨Nat.le_of_ble_eq_true rfl, Nat.le_of_ble_eq_true rfl⟩ (EvP.mono (by decide) (c_F_at_rsizes hT hX )) (fun r17 P18 g19 => mpp 45 rfl ?_)
      obtain ⟨⟨x20, rfl, g21⟩, e22⟩ := g19
      have e22 := e22.symm
      subst e22
      have wx20 := ti_full x20
      replace g21 : (0 ≤ (1 : Int) ∧ (1 : Int) ≤ 7 ∧ x20.toInt = (fv Po 292 1).toInt) ∨ (((1 : Int) < 0 ∨ 8 ≤ (1 : Int)) ∧ x20.toInt = 0) := g21
      try replace g21 : x20.toInt = (fv Po 292 1).toInt := (g21.resolve_right (by omega)).2.2
      show MEvP _ none q_55 45 [(0, .ref 291)] [.int x20, .int x14] _ _ _ _
      refine mp_Tb (t := 71) (j_icmp_ne dX3_isReduced_45) (by decide) (fun c23 => ?_) (fun c23 => mpp 48 rfl ?_)
      · have c23 : x14.toInt ≠ x20.toInt := ti_ne c23
        refine mp_a (a_iconst (v := 0) dX3_isReduced_71 rfl) (mpp 72 rfl ?_)
        have w25_ : isRf eC (rC Po) ↔ ((fv Po 291 1).toInt.toNat = 2 ∧ (fv Po 292 0).toInt = (fv Po 292 1).toInt ∧ (fv Po 293 0).toInt = (fv Po 293 1).toInt) := by unfold rC; rw [decide_eq_false (show ¬ (fv Po 291 0).toInt = 0 from by omega)]; exact isR_f.trans ⟨fun h => ⟨h.1, h.2.1, h.2.2.1⟩, fun h => ⟨h.1, h.2.1, h.2.2, trivial⟩⟩
        have u24 : 0 ≤ (0 : Int) ∧ (0 : Int) ≤ 1 ∧ (((0 : Int) = 1 ∧ isRf eC (rC Po)) ∨ ((0 : Int) = 0 ∧ ¬ isRf eC (rC Po))) := ⟨by omega, by omega, by rw [w25_]; omega⟩
        exact mp_iret ⟨⟨_, rfl, u24⟩, rfl⟩ dX3_isReduced_72 (Or.inr ⟨rfl, by decide⟩)
      · have c23 : x14.toInt = x20.toInt := ti_ne_n c23
        refine mp_a (a_aload_n dX3_isReduced_48 rfl) (mpp 49 rfl ?_)
        refine mt_getU (i := 15) (k := 3) (A := 293) hT dX3_isReduced_49 rfl rl_291 (by decide) rfl (by decide) rfl un_12 (mpp 52 rfl ?_)
        refine mp_a (a_iconst (v := 0) dX3_isReduced_52 rfl) (mpp 53 rfl ?_)
        refine mp_calls (i := 39) (q' := q_12) (As := [.ref 293, .int 0]) (rest := []) dX3_isReduced_53 rfl qm_12 (by decide) rfl (Nat.le_of_ble_eq_true rfl) rfl ⟨rfl, rfl⟩ ⟨Nat.le_of_ble_eq_true rfl, Nat.le_of_ble_eq_true rfl⟩ (EvP.mono (by decide) (c_F_at_rcreases hT hX )) (fun r26 P27 g28 => mpp 56 rfl ?_)
        obtain ⟨⟨x29, rfl, g30⟩, e31⟩ := g28
        have e31 := e31.symm
        subst e31
        have wx29 := ti_full x29
        replace g30 : (0 ≤ (0 : Int) ∧ (0 : Int) ≤ 7 ∧ x29.toInt = (fv Po 293 0).toInt) ∨ (((0 : Int) < 0 ∨ 8 ≤ (0 : Int)) ∧ x29.toInt = 0) := g30
        try replace g30 : x29.toInt = (fv Po 293 0).toInt := (g30.resolve_right (by omega)).2.2
        show MEvP _ none q_55 56 [(0, .ref 291)] [.int x29] _ _ _ _
        refine mp_a (a_aload_n dX3_isReduced_56 rfl) (mpp 57 rfl ?_)
        refine mt_getU (i := 15) (k := 3) (A := 293) hT dX3_isReduced_57 rfl rl_291 (by decide) rfl (by decide) rfl un_12 (mpp 60 rfl ?_)
        refine mp_a (a_iconst (v := 1) dX3_isReduced_60 rfl) (mpp 61 rfl ?_)
        refine mp_calls (i := 39) (q' := q_12) (As := [.ref 293, .int 1]) (rest := [.int x29]) dX3_isReduced_61 rfl qm_12 (by decide) rfl (Nat.le_of_ble_eq_true rfl) rfl ⟨rfl, rfl⟩ ⟨Nat.le_of_ble_eq_true rfl, Nat.le_of_ble_eq_true rfl⟩ (EvP.mono (by decide) (c_F_at_rcreases hT hX )) (fun r32 P33 g34 => mpp 64 rfl ?_)
        obtain ⟨⟨x35, rfl, g36⟩, e37⟩ := g34
        have e37 := e37.symm
        subst e37
        have wx35 := ti_full x35
        replace g36 : (0 ≤ (1 : Int) ∧ (1 : Int) ≤ 7 ∧ x35.toInt = (fv Po 293 1).toInt) ∨ (((1 : Int) < 0 ∨ 8 ≤ (1 : Int)) ∧ x35.toInt = 0) := g36
        try replace g36 : x35.toInt = (fv Po 293 1).toInt := (g36.resolve_right (by omega)).2.2
        show MEvP _ none q_55 64 [(0, .ref 291)] [.int x35, .int x29] _ _ _ _
        refine mp_Tb (t := 71) (j_icmp_ne dX3_isReduced_64) (by decide) (fun c38 => ?_) (fun c38 => mpp 67 rfl ?_)
        · have c38 : x29.toInt ≠ x35.toInt := ti_ne c38
          refine mp_a (a_iconst (v := 0) dX3_isReduced_71 rfl) (mpp 72 rfl ?_)
          have w40_ : isRf eC (rC Po) ↔ ((fv Po 291 1).toInt.toNat = 2 ∧ (fv Po 292 0).toInt = (fv Po 292 1).toInt ∧ (fv Po 293 0).toInt = (fv Po 293 1).toInt) := by unfold rC; rw [decide_eq_false (show ¬ (fv Po 291 0).toInt = 0 from by omega)]; exact isR_f.trans ⟨fun h => ⟨h.1, h.2.1, h.2.2.1⟩, fun h => ⟨h.1, h.2.1, h.2.2, trivial⟩⟩
          have u39 : 0 ≤ (0 : Int) ∧ (0 : Int) ≤ 1 ∧ (((0 : Int) = 1 ∧ isRf eC (rC Po)) ∨ ((0 : Int) = 0 ∧ ¬ isRf eC (rC Po))) := ⟨by omega, by omega, by rw [w40_]; omega⟩
          exact mp_iret ⟨⟨_, rfl, u39⟩, rfl⟩ dX3_isReduced_72 (Or.inr ⟨rfl, by decide⟩)
        · have c38 : x29.toInt = x35.toInt := ti_ne_n c38
          refine mp_a (a_iconst (v := 1) dX3_isReduced_67 rfl) (mpp 68 rfl ?_)
          refine mp_a (a_goto (t := 72) dX3_isReduced_68 (by decide)) ?_
          have w42_ : isRf eC (rC Po) ↔ ((fv Po 291 1).toInt.toNat = 2 ∧ (fv Po 292 0).toInt = (fv Po 292 1).toInt ∧ (fv Po 293 0).toInt = (fv Po 293 1).toInt) := by unfold rC; rw [decide_eq_false (show ¬ (fv Po 291 0).toInt = 0 from by omega)]; exact isR_f.trans ⟨fun h => ⟨h.1, h.2.1, h.2.2.1⟩, fun h => ⟨h.1, h.2.1, h.2.2, trivial⟩⟩
          have u41 : 0 ≤ (1 : Int) ∧ (1 : Int) ≤ 1 ∧ (((1 : Int) = 1 ∧ isRf eC (rC Po)) ∨ ((1 : Int) = 0 ∧ ¬ isRf eC (rC Po))) := ⟨by omega, by omega, by rw [w42_]; omega⟩
          exact mp_iret ⟨⟨_, rfl, u41⟩, rfl⟩ dX3_isReduced_72 (Or.inr ⟨rfl, by decide⟩)
  · have c4 : (fv Po 291 0).toInt = 0 := ti_ne_n c4
    refine mp_a (a_aload_n dX3_isReduced_7 rfl) (mpp 8 rfl ?_)
    have g43 : (0 : Int) ≤ (fv Po 291 1).toInt ∧ (fv Po 291 1).toInt ≤ 8 := Typ.rng hT rl_291 (by decide) (by decide) rfl
    refine mt_getI (i := 28) (k := 1) hT dX3_isReduced_8 rfl rl_291 (by decide) rfl (by decide) rfl (fun g44 g45 => mpp 11 rfl ?_)
    refine mp_a (a_iconst (v := 1) dX3_isReduced_11 rfl) (mpp 12 rfl ?_)
    refine mp_Tb (t := 19) (j_icmp_ne dX3_isReduced_12) (by decide) (fun c46 => ?_) (fun c46 => mpp 15 rfl ?_)
    · have c46 : (fv Po 291 1).toInt ≠ 1 := ti_ne c46
      refine mp_a (a_iconst (v := 0) dX3_isReduced_19 rfl) (mpp 20 rfl ?_)
      have w48_ : isRf eC (rC Po) ↔ (fv Po 291 1).toInt.toNat = 1 := by unfold rC; rw [decide_eq_true (show (fv Po 291 0).toInt = 0 from by omega)]; exact isR_t
      have u47 : 0 ≤ (0 : Int) ∧ (0 : Int) ≤ 1 ∧ (((0 : Int) = 1 ∧ isRf eC (rC Po)) ∨ ((0 : Int) = 0 ∧ ¬ isRf eC (rC Po))) := ⟨by omega, by omega, by rw [w48_]; omega⟩
      exact mp_iret ⟨⟨_, rfl, u47⟩, rfl⟩ dX3_isReduced_20 (Or.inr ⟨rfl, by decide⟩)
    · have c46 : (fv Po 291 1).toInt = 1 := ti_ne_n c46
      refine mp_a (a_iconst (v := 1) dX3_isReduced_15 rfl) (mpp 16 rfl ?_)
      refine mp_a (a_goto (t := 20) dX3_isReduced_16 (by decide)) ?_
      have w50_ : isRf eC (rC Po) ↔ (fv Po 291 1).toInt.toNat = 1 := by unfold rC; rw [decide_eq_true (show (fv Po 291 0).toInt = 0 from by omega)]; exact isR_t
      have u49 : 0 ≤ (1 : Int) ∧ (1 : Int) ≤ 1 ∧ (((1 : Int) = 1 ∧ isRf eC (rC Po)) ∨ ((1 : Int) = 0 ∧ ¬ isRf eC (rC Po))) := ⟨by omega, by omega, by rw [w50_]; omega⟩
      exact mp_iret ⟨⟨_, rfl, u49⟩, rfl⟩ dX3_isReduced_20 (Or.inr ⟨rfl, by decide⟩)

set_option maxHeartbeats 4000000 in
theorem c_CR_evenAngles_Reducer_l4 {Po : mP}  (hT : Typ Po) (hX : XR Po)   : ∀ (n : Nat) (v1 : Int32) (v2 : Int32), (v1 = evF (fun j : Nat => fv Po 292 j) v2.toInt.toNat) → (v2.toInt % 2 = 0) → (v2.toInt ≤ (fv Po 291 1).toInt + 1) → (0 ≤ v2.toInt) → (0 ≤ v2.toInt) → (2147483647 - v2.toInt).toNat = n → MEvP 1 none q_47 4 [(0, .ref 291), (1, .int v1), (2, .int v2)] [] Po 0 0 (fun r P' => (∃ x : Int32, r = some (.int x) ∧ (x.toInt = (evF (fun j : Nat => fv Po 292 j) (fv Po 291 1).toInt.toNat).toInt)) ∧ P' = Po) := by
  intro n
  induction n using Nat.strongRecOn with | _ n ih => ?_
  intro v1 v2 i_0 i_1 i_2 i_3 i_4 hm
  have w_v1 := ti_full v1
  have w_v2 := ti_full v2
  have g1 : (0 : Int) ≤ (fv Po 291 1).toInt ∧ (fv Po 291 1).toInt ≤ 8 := Typ.rng hT rl_291 (by decide) (by decide) rfl
  refine mp_a (a_iload_n dX3_evenAngles_4 rfl) (mpp 5 rfl ?_)
  refine mp_a (a_aload_n dX3_evenAngles_5 rfl) (mpp 6 rfl ?_)
  refine mt_getI (i := 28) (k := 1) hT dX3_evenAngles_6 rfl rl_291 (by decide) rfl (by decide) rfl (fun g2 g3 => mpp 9 rfl ?_)
  refine mp_Tb (t := 29) (j_icmp_ge dX3_evenAngles_9) (by decide) (fun c4 => ?_) (fun c4 => mpp 12 rfl ?_)
  · have c4 : v2.toInt ≥ (fv Po 291 1).toInt := ti_ge c4
    refine mp_a (a_iload_n dX3_evenAngles_29 rfl) (mpp 30 rfl ?_)
    have u5 : v1.toInt = (evF (fun j : Nat => fv Po 292 j) (fv Po 291 1).toInt.toNat).toInt := congrArg Int32.toInt (evF.fin i_0 (by omega) (by omega) (by omega))
    exact mp_iret ⟨⟨_, rfl, u5⟩, rfl⟩ dX3_evenAngles_30 (Or.inl rfl)
  · have c4 : v2.toInt < (fv Po 291 1).toInt := ti_ge_n c4
    refine mp_a (a_iload_n dX3_evenAngles_12 rfl) (mpp 13 rfl ?_)
    refine mp_a (a_aload_n dX3_evenAngles_13 rfl) (mpp 14 rfl ?_)
    refine mt_getU (i := 9) (k := 2) (A := 292) hT dX3_evenAngles_14 rfl rl_291 (by decide) rfl (by decide) rfl un_11 (mpp 17 rfl ?_)
    refine mp_a (a_iload_n dX3_evenAngles_17 rfl) (mpp 18 rfl ?_)
    refine mp_calls (i := 39) (q' := q_12) (As := [.ref 292, .int v2]) (rest := [.int v1]) dX3_evenAngles_18 rfl qm_12 (by decide) rfl (Nat.le_of_ble_eq_true rfl) rfl ⟨rfl, rfl⟩ ⟨Nat.le_of_ble_eq_true rfl, Nat.le_of_ble_eq_true rfl⟩ (EvP.mono (by decide) (c_F_at_rsizes hT hX )) (fun r6 P7 g8 => mpp 21 rfl ?_)
    obtain ⟨⟨x9, rfl, g10⟩, e11⟩ := g8
    have e11 := e11.symm
    subst e11
    have wx9 := ti_full x9
    replace g10 : (0 ≤ v2.toInt ∧ v2.toInt ≤ 7 ∧ x9.toInt = (fv Po 292 v2.toInt.toNat).toInt) ∨ ((v2.toInt < 0 ∨ 8 ≤ v2.toInt) ∧ x9.toInt = 0) := g10
    try replace g10 : x9.toInt = (fv Po 292 v2.toInt.toNat).toInt := (g10.resolve_right (by omega)).2.2
    show MEvP _ none q_47 21 [(0, .ref 291), (1, .int v1), (2, .int v2)] [.int x9, .int v1] _ _ _ _
    obtain ⟨z12, h13⟩ := ti_ex (v1 + x9 : Int32)
    have wz12 := ti_full z12
    refine mp_t (s_iadd (v := z12) dX3_evenAngles_21 h13) (mpp 22 rfl ?_)
    try have e14 : z12.toInt = v1.toInt + x9.toInt := ti_addz h13 rfl rfl (by omega) (by omega)
    refine mp_a (a_istore_n (L' := [(1, .int z12), (0, .ref 291), (2, .int v2)]) dX3_evenAngles_22 (by decide) rfl) (mpp 23 rfl ?_)
    obtain ⟨z15, h16⟩ := ti_ex (v2 + 2 : Int32)
    have wz15 := ti_full z15
    refine mp_a (a_iinc (v := z15) (L' := [(2, .int z15), (1, .int z12), (0, .ref 291)]) dX3_evenAngles_23 (by decide) rfl h16 rfl) (mpp 26 rfl ?_)
    try have e17 : z15.toInt = v2.toInt + 2 := ti_addz h16 rfl rfl (by omega) (by omega)
    refine mp_a (a_goto (t := 4) dX3_evenAngles_26 (by decide)) ?_
    refine MEvP.less (L := [(0, .ref 291), (1, .int z12), (2, .int z15)]) rfl rfl ⟨rfl, rfl, rfl, trivial⟩ ?_
    have i18 : z12 = evF (fun j : Nat => fv Po 292 j) z15.toInt.toNat := evF.step i_0 (by omega) (by omega) (x := x9) (by show _ = (fv Po 292 v2.toInt.toNat).toInt; omega) h13
    have i19 : z15.toInt % 2 = 0 := by omega
    have i20 : z15.toInt ≤ (fv Po 291 1).toInt + 1 := by omega
    have i21 : 0 ≤ z15.toInt := by omega
    have i22 : 0 ≤ z15.toInt := by omega
    exact ih _ (by omega) _ _ i18 i19 i20 i21 i22 rfl

set_option maxHeartbeats 4000000 in
theorem c_CR_evenAngles_Reducer {Po : mP}  (hT : Typ Po) (hX : XR Po)   : EvP 2 47 [.ref 291] Po (fun r P' => (∃ x : Int32, r = some (.int x) ∧ (x.toInt = (evF (fun j : Nat => fv Po 292 j) (fv Po 291 1).toInt.toNat).toInt)) ∧ P' = Po) := by
  refine EvP.of qm_47 (Nat.le_of_ble_eq_true rfl) rfl ?_
  show MEvP _ none q_47 0 [(0, .ref 291)] [] _ 0 0 _
  have g1 : (0 : Int) ≤ (fv Po 291 1).toInt ∧ (fv Po 291 1).toInt ≤ 8 := Typ.rng hT rl_291 (by decide) (by decide) rfl
  refine mp_a (a_iconst (v := 0) dX3_evenAngles_0 rfl) (mpp 1 rfl ?_)
  refine mp_a (a_istore_n (L' := [(1, .int 0), (0, .ref 291)]) dX3_evenAngles_1 (by decide) rfl) (mpp 2 rfl ?_)
  refine mp_a (a_iconst (v := 0) dX3_evenAngles_2 rfl) (mpp 3 rfl ?_)
  refine mp_a (a_istore_n (L' := [(2, .int 0), (1, .int 0), (0, .ref 291)]) dX3_evenAngles_3 (by decide) rfl) (mpp 4 rfl ?_)
  refine MEvP.less (L := [(0, .ref 291), (1, .int 0), (2, .int 0)]) rfl rfl ⟨rfl, rfl, rfl, trivial⟩ ?_
  have i2 : 0 = evF (fun j : Nat => fv Po 292 j) (0 : Int).toNat := rfl
  have i3 : (0 : Int) % 2 = 0 := by omega
  have i4 : (0 : Int) ≤ (fv Po 291 1).toInt + 1 := by omega
  have i5 : 0 ≤ (0 : Int) := by omega
  have i6 : 0 ≤ (0 : Int) := by omega
  exact c_CR_evenAngles_Reducer_l4 hT hX   _ _ _ i2 i3 i4 i5 i6 rfl

set_option maxHeartbeats 4000000 in
theorem c_CR_hasSmallAngleOfOneKind_Reducer_l2 {Po : mP}  (hT : Typ Po) (hX : XR Po)   : ∀ (n : Nat) (v1 : Int32), (∀ j : Nat, (j : Int) < v1.toInt → ¬ SHp (fv Po 291 1).toInt.toNat (fun j : Nat => fv Po 292 j) (fun j : Nat => fv Po 293 j) j) → (v1.toInt ≤ (fv Po 291 1).toInt) → (0 ≤ v1.toInt) → (2147483647 - v1.toInt).toNat = n → MEvP 1 none q_48 2 [(0, .ref 291), (1, .int v1)] [] Po 0 0 (fun r P' => (∃ x : Int32, r = some (.int x) ∧ (0 ≤ x.toInt ∧ x.toInt ≤ 1 ∧ ((x.toInt = 1 ∧ SHf (fv Po 291 1).toInt.toNat (fun j : Nat => fv Po 292 j) (fun j : Nat => fv Po 293 j)) ∨ (x.toInt = 0 ∧ ¬ SHf (fv Po 291 1).toInt.toNat (fun j : Nat => fv Po 292 j) (fun j : Nat => fv Po 293 j))))) ∧ P' = Po) := by
  intro n
  induction n using Nat.strongRecOn with | _ n ih => ?_
  intro v1 i_0 i_1 i_2 hm
  have w_v1 := ti_full v1
  have g1 : (0 : Int) ≤ (fv Po 291 1).toInt ∧ (fv Po 291 1).toInt ≤ 8 := Typ.rng hT rl_291 (by decide) (by decide) rfl
  refine mp_a (a_iload_n dX3_hasSmallAngleOfOneKind_2 rfl) (mpp 3 rfl ?_)
  refine mp_a (a_aload_n dX3_hasSmallAngleOfOneKind_3 rfl) (mpp 4 rfl ?_)
  refine mt_getI (i := 28) (k := 1) hT dX3_hasSmallAngleOfOneKind_4 rfl rl_291 (by decide) rfl (by decide) rfl (fun g2 g3 => mpp 7 rfl ?_)
  refine mp_Tb (t := 92) (j_icmp_ge dX3_hasSmallAngleOfOneKind_7) (by decide) (fun c4 => ?_) (fun c4 => mpp 10 rfl ?_)
  · have c4 : v1.toInt ≥ (fv Po 291 1).toInt := ti_ge c4
    refine mp_a (a_iconst (v := 0) dX3_hasSmallAngleOfOneKind_92 rfl) (mpp 93 rfl ?_)
    have u5 : 0 ≤ (0 : Int) ∧ (0 : Int) ≤ 1 ∧ (((0 : Int) = 1 ∧ SHf (fv Po 291 1).toInt.toNat (fun j : Nat => fv Po 292 j) (fun j : Nat => fv Po 293 j)) ∨ ((0 : Int) = 0 ∧ ¬ SHf (fv Po 291 1).toInt.toNat (fun j : Nat => fv Po 292 j) (fun j : Nat => fv Po 293 j))) := ⟨by omega, by omega, Or.inr ⟨rfl, fun ⟨i, h1, h2⟩ => i_0 i (by omega) h2⟩⟩
    exact mp_iret ⟨⟨_, rfl, u5⟩, rfl⟩ dX3_hasSmallAngleOfOneKind_93 (Or.inr ⟨rfl, by decide⟩)
  · have c4 : v1.toInt < (fv Po 291 1).toInt := ti_ge_n c4
    refine mp_a (a_aload_n dX3_hasSmallAngleOfOneKind_10 rfl) (mpp 11 rfl ?_)
    refine mt_getU (i := 9) (k := 2) (A := 292) hT dX3_hasSmallAngleOfOneKind_11 rfl rl_291 (by decide) rfl (by decide) rfl un_11 (mpp 14 rfl ?_)
    refine mp_a (a_iload_n dX3_hasSmallAngleOfOneKind_14 rfl) (mpp 15 rfl ?_)
    refine mp_calls (i := 39) (q' := q_12) (As := [.ref 292, .int v1]) (rest := []) dX3_hasSmallAngleOfOneKind_15 rfl qm_12 (by decide) rfl (Nat.le_of_ble_eq_true rfl) rfl ⟨rfl, rfl⟩ ⟨Nat.le_of_ble_eq_true rfl, Nat.le_of_ble_eq_true rfl⟩ (EvP.mono (by decide) (c_F_at_rsizes hT hX )) (fun r6 P7 g8 => mpp 18 rfl ?_)
    obtain ⟨⟨x9, rfl, g10⟩, e11⟩ := g8
    have e11 := e11.symm
    subst e11
    have wx9 := ti_full x9
    replace g10 : (0 ≤ v1.toInt ∧ v1.toInt ≤ 7 ∧ x9.toInt = (fv Po 292 v1.toInt.toNat).toInt) ∨ ((v1.toInt < 0 ∨ 8 ≤ v1.toInt) ∧ x9.toInt = 0) := g10
    try replace g10 : x9.toInt = (fv Po 292 v1.toInt.toNat).toInt := (g10.resolve_right (by omega)).2.2
    show MEvP _ none q_48 18 [(0, .ref 291), (1, .int v1)] [.int x9] _ _ _ _
    refine mp_a (a_istore_n (L' := [(2, .int x9), (0, .ref 291), (1, .int v1)]) dX3_hasSmallAngleOfOneKind_18 (by decide) rfl) (mpp 19 rfl ?_)
    refine mp_a (a_iload_n dX3_hasSmallAngleOfOneKind_19 rfl) (mpp 20 rfl ?_)
    refine mp_a (a_aload_n dX3_hasSmallAngleOfOneKind_20 rfl) (mpp 21 rfl ?_)
    refine mt_getU (i := 9) (k := 2) (A := 292) hT dX3_hasSmallAngleOfOneKind_21 rfl rl_291 (by decide) rfl (by decide) rfl un_11 (mpp 24 rfl ?_)
    refine mp_a (a_aload_n dX3_hasSmallAngleOfOneKind_24 rfl) (mpp 25 rfl ?_)
    refine mp_a (a_iload_n dX3_hasSmallAngleOfOneKind_25 rfl) (mpp 26 rfl ?_)
    refine mt_callv (i := 80) (q' := q_49) (As := [.int v1]) (rest := [.ref 292, .int x9]) hT dX3_hasSmallAngleOfOneKind_26 rfl qm_49 (by decide) rfl rl_291 (by decide) rfl (Nat.le_of_ble_eq_true rfl) rfl ⟨rfl, rfl⟩ ⟨Nat.le_of_ble_eq_true rfl, Nat.le_of_ble_eq_true rfl⟩ (EvP.mono (by decide) (c_CR_before_Reducer hT hX )) (fun r12 P13 g14 => mpp 29 rfl ?_)
    obtain ⟨⟨x15, rfl, g16⟩, e17⟩ := g14
    have e17 := e17.symm
    subst e17
    have wx15 := ti_full x15
    replace g16 : v1.toInt < 0 ∨ x15.toInt = (prI (fv Po 291 1).toInt.toNat v1.toInt.toNat : Nat) ∨ (fv Po 291 1).toInt = 0 := g16
    try replace g16 : x15.toInt = (prI (fv Po 291 1).toInt.toNat v1.toInt.toNat : Nat) := ((g16.resolve_left (by omega)).resolve_right (by omega))
    show MEvP _ none q_48 29 [(2, .int x9), (0, .ref 291), (1, .int v1)] [.int x15, .ref 292, .int x9] _ _ _ _
    refine mp_calls (i := 39) (q' := q_12) (As := [.ref 292, .int x15]) (rest := [.int x9]) dX3_hasSmallAngleOfOneKind_29 rfl qm_12 (by decide) rfl (Nat.le_of_ble_eq_true rfl) rfl ⟨rfl, rfl⟩ ⟨Nat.le_of_ble_eq_true rfl, Nat.le_of_ble_eq_true rfl⟩ (EvP.mono (by decide) (c_F_at_rsizes hT hX )) (fun r18 P19 g20 => mpp 32 rfl ?_)
    obtain ⟨⟨x21, rfl, g22⟩, e23⟩ := g20
    have e23 := e23.symm
    subst e23
    have wx21 := ti_full x21
    replace g22 : (0 ≤ x15.toInt ∧ x15.toInt ≤ 7 ∧ x21.toInt = (fv Po 292 x15.toInt.toNat).toInt) ∨ ((x15.toInt < 0 ∨ 8 ≤ x15.toInt) ∧ x21.toInt = 0) := g22
    try replace g22 : x21.toInt = (fv Po 292 x15.toInt.toNat).toInt := (g22.resolve_right (by omega)).2.2
    show MEvP _ none q_48 32 [(2, .int x9), (0, .ref 291), (1, .int v1)] [.int x21, .int x9] _ _ _ _
    refine mp_Tb (t := 55) (j_icmp_ge dX3_hasSmallAngleOfOneKind_32) (by decide) (fun c24 => ?_) (fun c24 => mpp 35 rfl ?_)
    · have c24 : x9.toInt ≥ x21.toInt := ti_ge c24
      refine mp_a (a_iconst (v := 0) dX3_hasSmallAngleOfOneKind_55 rfl) (mpp 56 rfl ?_)
      refine mp_a (a_istore_n (L' := [(3, .int 0), (2, .int x9), (0, .ref 291), (1, .int v1)]) dX3_hasSmallAngleOfOneKind_56 (by decide) rfl) (mpp 57 rfl ?_)
      refine mp_a (a_iload_n dX3_hasSmallAngleOfOneKind_57 rfl) (mpp 58 rfl ?_)
      refine mp_Tt (t := 86) (j_if_eq dX3_hasSmallAngleOfOneKind_58) (by decide) (by decide) ?_
      obtain ⟨z25, h26⟩ := ti_ex (v1 + 1 : Int32)
      have wz25 := ti_full z25
      refine mp_a (a_iinc (v := z25) (L' := [(1, .int z25), (3, .int 0), (2, .int x9), (0, .ref 291)]) dX3_hasSmallAngleOfOneKind_86 (by decide) rfl h26 rfl) (mpp 89 rfl ?_)
      try have e27 : z25.toInt = v1.toInt + 1 := ti_addz h26 rfl rfl (by omega) (by omega)
      refine mp_a (a_goto (t := 2) dX3_hasSmallAngleOfOneKind_89 (by decide)) ?_
      refine MEvP.less (L := [(0, .ref 291), (1, .int z25)]) rfl rfl ⟨rfl, rfl, trivial⟩ ?_
      have q29 := prI_lt (n := (fv Po 291 1).toInt.toNat) (i := v1.toInt.toNat) (by omega)
      have q30 := nxI_lt (n := (fv Po 291 1).toInt.toNat) (i := v1.toInt.toNat) (by omega)
      have q31 : x9.toInt = (fv Po 292 v1.toInt.toNat).toInt := by omega
      have q32 : x21.toInt = (fv Po 292 (prI (fv Po 291 1).toInt.toNat v1.toInt.toNat)).toInt := by rw [show (prI (fv Po 291 1).toInt.toNat v1.toInt.toNat) = x15.toInt.toNat from by omega]; omega
      have w33_ : ¬ ((fv Po 292 v1.toInt.toNat).toInt < (fv Po 292 (prI (fv Po 291 1).toInt.toNat v1.toInt.toNat)).toInt ∧ (fv Po 292 v1.toInt.toNat).toInt < (fv Po 292 (nxI (fv Po 291 1).toInt.toNat v1.toInt.toNat)).toInt ∧ (fv Po 293 v1.toInt.toNat).toInt = (fv Po 293 (nxI (fv Po 291 1).toInt.toNat v1.toInt.toNat)).toInt) := by omega
      have i28 : ∀ j : Nat, (j : Int) < z25.toInt → ¬ SHp (fv Po 291 1).toInt.toNat (fun j : Nat => fv Po 292 j) (fun j : Nat => fv Po 293 j) j := fun j hj => if e : j = v1.toInt.toNat then fun h => w33_ (e ▸ h) else i_0 j (by omega)
      have i34 : z25.toInt ≤ (fv Po 291 1).toInt := by omega
      have i35 : 0 ≤ z25.toInt := by omega
      exact ih _ (by omega) _ i28 i34 i35 rfl
    · have c24 : x9.toInt < x21.toInt := ti_ge_n c24
      refine mp_a (a_iload_n dX3_hasSmallAngleOfOneKind_35 rfl) (mpp 36 rfl ?_)
      refine mp_a (a_aload_n dX3_hasSmallAngleOfOneKind_36 rfl) (mpp 37 rfl ?_)
      refine mt_getU (i := 9) (k := 2) (A := 292) hT dX3_hasSmallAngleOfOneKind_37 rfl rl_291 (by decide) rfl (by decide) rfl un_11 (mpp 40 rfl ?_)
      refine mp_a (a_aload_n dX3_hasSmallAngleOfOneKind_40 rfl) (mpp 41 rfl ?_)
      refine mp_a (a_iload_n dX3_hasSmallAngleOfOneKind_41 rfl) (mpp 42 rfl ?_)
      refine mt_callv (i := 83) (q' := q_50) (As := [.int v1]) (rest := [.ref 292, .int x9]) hT dX3_hasSmallAngleOfOneKind_42 rfl qm_50 (by decide) rfl rl_291 (by decide) rfl (Nat.le_of_ble_eq_true rfl) rfl ⟨rfl, rfl⟩ ⟨Nat.le_of_ble_eq_true rfl, Nat.le_of_ble_eq_true rfl⟩ (EvP.mono (by decide) (c_CR_after_Reducer hT hX )) (fun r36 P37 g38 => mpp 45 rfl ?_)
      obtain ⟨⟨x39, rfl, g40⟩, e41⟩ := g38
      have e41 := e41.symm
      subst e41
      have wx39 := ti_full x39
      replace g40 : v1.toInt < 0 ∨ x39.toInt = (nxI (fv Po 291 1).toInt.toNat v1.toInt.toNat : Nat) := g40
      try replace g40 : x39.toInt = (nxI (fv Po 291 1).toInt.toNat v1.toInt.toNat : Nat) := (g40.resolve_left (by omega))
      show MEvP _ none q_48 45 [(2, .int x9), (0, .ref 291), (1, .int v1)] [.int x39, .ref 292, .int x9] _ _ _ _
      refine mp_calls (i := 39) (q' := q_12) (As := [.ref 292, .int x39]) (rest := [.int x9]) dX3_hasSmallAngleOfOneKind_45 rfl qm_12 (by decide) rfl (Nat.le_of_ble_eq_true rfl) rfl ⟨rfl, rfl⟩ ⟨Nat.le_of_ble_eq_true rfl, Nat.le_of_ble_eq_true rfl⟩ (EvP.mono (by decide) (c_F_at_rsizes hT hX )) (fun r42 P43 g44 => mpp 48 rfl ?_)
      obtain ⟨⟨x45, rfl, g46⟩, e47⟩ := g44
      have e47 := e47.symm
      subst e47
      have wx45 := ti_full x45
      replace g46 : (0 ≤ x39.toInt ∧ x39.toInt ≤ 7 ∧ x45.toInt = (fv Po 292 x39.toInt.toNat).toInt) ∨ ((x39.toInt < 0 ∨ 8 ≤ x39.toInt) ∧ x45.toInt = 0) := g46
      try replace g46 : x45.toInt = (fv Po 292 x39.toInt.toNat).toInt := (g46.resolve_right (by omega)).2.2
      show MEvP _ none q_48 48 [(2, .int x9), (0, .ref 291), (1, .int v1)] [.int x45, .int x9] _ _ _ _
      refine mp_Tb (t := 55) (j_icmp_ge dX3_hasSmallAngleOfOneKind_48) (by decide) (fun c48 => ?_) (fun c48 => mpp 51 rfl ?_)
      · have c48 : x9.toInt ≥ x45.toInt := ti_ge c48
        refine mp_a (a_iconst (v := 0) dX3_hasSmallAngleOfOneKind_55 rfl) (mpp 56 rfl ?_)
        refine mp_a (a_istore_n (L' := [(3, .int 0), (2, .int x9), (0, .ref 291), (1, .int v1)]) dX3_hasSmallAngleOfOneKind_56 (by decide) rfl) (mpp 57 rfl ?_)
        refine mp_a (a_iload_n dX3_hasSmallAngleOfOneKind_57 rfl) (mpp 58 rfl ?_)
        refine mp_Tt (t := 86) (j_if_eq dX3_hasSmallAngleOfOneKind_58) (by decide) (by decide) ?_
        obtain ⟨z49, h50⟩ := ti_ex (v1 + 1 : Int32)
        have wz49 := ti_full z49
        refine mp_a (a_iinc (v := z49) (L' := [(1, .int z49), (3, .int 0), (2, .int x9), (0, .ref 291)]) dX3_hasSmallAngleOfOneKind_86 (by decide) rfl h50 rfl) (mpp 89 rfl ?_)
        try have e51 : z49.toInt = v1.toInt + 1 := ti_addz h50 rfl rfl (by omega) (by omega)
        refine mp_a (a_goto (t := 2) dX3_hasSmallAngleOfOneKind_89 (by decide)) ?_
        refine MEvP.less (L := [(0, .ref 291), (1, .int z49)]) rfl rfl ⟨rfl, rfl, trivial⟩ ?_
        have q53 := prI_lt (n := (fv Po 291 1).toInt.toNat) (i := v1.toInt.toNat) (by omega)
        have q54 := nxI_lt (n := (fv Po 291 1).toInt.toNat) (i := v1.toInt.toNat) (by omega)
        have q55 : x9.toInt = (fv Po 292 v1.toInt.toNat).toInt := by omega
        have q56 : x21.toInt = (fv Po 292 (prI (fv Po 291 1).toInt.toNat v1.toInt.toNat)).toInt := by rw [show (prI (fv Po 291 1).toInt.toNat v1.toInt.toNat) = x15.toInt.toNat from by omega]; omega
        have q57 : x45.toInt = (fv Po 292 (nxI (fv Po 291 1).toInt.toNat v1.toInt.toNat)).toInt := by rw [show (nxI (fv Po 291 1).toInt.toNat v1.toInt.toNat) = x39.toInt.toNat from by omega]; omega
        have w58_ : ¬ ((fv Po 292 v1.toInt.toNat).toInt < (fv Po 292 (prI (fv Po 291 1).toInt.toNat v1.toInt.toNat)).toInt ∧ (fv Po 292 v1.toInt.toNat).toInt < (fv Po 292 (nxI (fv Po 291 1).toInt.toNat v1.toInt.toNat)).toInt ∧ (fv Po 293 v1.toInt.toNat).toInt = (fv Po 293 (nxI (fv Po 291 1).toInt.toNat v1.toInt.toNat)).toInt) := by omega
        have i52 : ∀ j : Nat, (j : Int) < z49.toInt → ¬ SHp (fv Po 291 1).toInt.toNat (fun j : Nat => fv Po 292 j) (fun j : Nat => fv Po 293 j) j := fun j hj => if e : j = v1.toInt.toNat then fun h => w58_ (e ▸ h) else i_0 j (by omega)
        have i59 : z49.toInt ≤ (fv Po 291 1).toInt := by omega
        have i60 : 0 ≤ z49.toInt := by omega
        exact ih _ (by omega) _ i52 i59 i60 rfl
      · have c48 : x9.toInt < x45.toInt := ti_ge_n c48
        refine mp_a (a_iconst (v := 1) dX3_hasSmallAngleOfOneKind_51 rfl) (mpp 52 rfl ?_)
        refine mp_a (a_goto (t := 56) dX3_hasSmallAngleOfOneKind_52 (by decide)) ?_
        refine mp_a (a_istore_n (L' := [(3, .int 1), (2, .int x9), (0, .ref 291), (1, .int v1)]) dX3_hasSmallAngleOfOneKind_56 (by decide) rfl) (mpp 57 rfl ?_)
        refine mp_a (a_iload_n dX3_hasSmallAngleOfOneKind_57 rfl) (mpp 58 rfl ?_)
        refine mp_Tf (t := 86) (j_if_eq dX3_hasSmallAngleOfOneKind_58) (by decide) (by decide) (mpp 61 rfl ?_)
        refine mp_a (a_aload_n dX3_hasSmallAngleOfOneKind_61 rfl) (mpp 62 rfl ?_)
        refine mt_getU (i := 15) (k := 3) (A := 293) hT dX3_hasSmallAngleOfOneKind_62 rfl rl_291 (by decide) rfl (by decide) rfl un_12 (mpp 65 rfl ?_)
        refine mp_a (a_iload_n dX3_hasSmallAngleOfOneKind_65 rfl) (mpp 66 rfl ?_)
        refine mp_calls (i := 39) (q' := q_12) (As := [.ref 293, .int v1]) (rest := []) dX3_hasSmallAngleOfOneKind_66 rfl qm_12 (by decide) rfl (Nat.le_of_ble_eq_true rfl) rfl ⟨rfl, rfl⟩ ⟨Nat.le_of_ble_eq_true rfl, Nat.le_of_ble_eq_true rfl⟩ (EvP.mono (by decide) (c_F_at_rcreases hT hX )) (fun r61 P62 g63 => mpp 69 rfl ?_)
        obtain ⟨⟨x64, rfl, g65⟩, e66⟩ := g63
        have e66 := e66.symm
        subst e66
        have wx64 := ti_full x64
        replace g65 : (0 ≤ v1.toInt ∧ v1.toInt ≤ 7 ∧ x64.toInt = (fv Po 293 v1.toInt.toNat).toInt) ∨ ((v1.toInt < 0 ∨ 8 ≤ v1.toInt) ∧ x64.toInt = 0) := g65
        try replace g65 : x64.toInt = (fv Po 293 v1.toInt.toNat).toInt := (g65.resolve_right (by omega)).2.2
        show MEvP _ none q_48 69 [(3, .int 1), (2, .int x9), (0, .ref 291), (1, .int v1)] [.int x64] _ _ _ _
        refine mp_a (a_aload_n dX3_hasSmallAngleOfOneKind_69 rfl) (mpp 70 rfl ?_)
        refine mt_getU (i := 15) (k := 3) (A := 293) hT dX3_hasSmallAngleOfOneKind_70 rfl rl_291 (by decide) rfl (by decide) rfl un_12 (mpp 73 rfl ?_)
        refine mp_a (a_aload_n dX3_hasSmallAngleOfOneKind_73 rfl) (mpp 74 rfl ?_)
        refine mp_a (a_iload_n dX3_hasSmallAngleOfOneKind_74 rfl) (mpp 75 rfl ?_)
        refine mt_callv (i := 83) (q' := q_50) (As := [.int v1]) (rest := [.ref 293, .int x64]) hT dX3_hasSmallAngleOfOneKind_75 rfl qm_50 (by decide) rfl rl_291 (by decide) rfl (Nat.le_of_ble_eq_true rfl) rfl ⟨rfl, rfl⟩ ⟨Nat.le_of_ble_eq_true rfl, Nat.le_of_ble_eq_true rfl⟩ (EvP.mono (by decide) (c_CR_after_Reducer hT hX )) (fun r67 P68 g69 => mpp 78 rfl ?_)
        obtain ⟨⟨x70, rfl, g71⟩, e72⟩ := g69
        have e72 := e72.symm
        subst e72
        have wx70 := ti_full x70
        replace g71 : v1.toInt < 0 ∨ x70.toInt = (nxI (fv Po 291 1).toInt.toNat v1.toInt.toNat : Nat) := g71
        try replace g71 : x70.toInt = (nxI (fv Po 291 1).toInt.toNat v1.toInt.toNat : Nat) := (g71.resolve_left (by omega))
        show MEvP _ none q_48 78 [(3, .int 1), (2, .int x9), (0, .ref 291), (1, .int v1)] [.int x70, .ref 293, .int x64] _ _ _ _
        refine mp_calls (i := 39) (q' := q_12) (As := [.ref 293, .int x70]) (rest := [.int x64]) dX3_hasSmallAngleOfOneKind_78 rfl qm_12 (by decide) rfl (Nat.le_of_ble_eq_true rfl) rfl ⟨rfl, rfl⟩ ⟨Nat.le_of_ble_eq_true rfl, Nat.le_of_ble_eq_true rfl⟩ (EvP.mono (by decide) (c_F_at_rcreases hT hX )) (fun r73 P74 g75 => mpp 81 rfl ?_)
        obtain ⟨⟨x76, rfl, g77⟩, e78⟩ := g75
        have e78 := e78.symm
        subst e78
        have wx76 := ti_full x76
        replace g77 : (0 ≤ x70.toInt ∧ x70.toInt ≤ 7 ∧ x76.toInt = (fv Po 293 x70.toInt.toNat).toInt) ∨ ((x70.toInt < 0 ∨ 8 ≤ x70.toInt) ∧ x76.toInt = 0) := g77
        try replace g77 : x76.toInt = (fv Po 293 x70.toInt.toNat).toInt := (g77.resolve_right (by omega)).2.2
        show MEvP _ none q_48 81 [(3, .int 1), (2, .int x9), (0, .ref 291), (1, .int v1)] [.int x76, .int x64] _ _ _ _
        refine mp_Tb (t := 86) (j_icmp_ne dX3_hasSmallAngleOfOneKind_81) (by decide) (fun c79 => ?_) (fun c79 => mpp 84 rfl ?_)
        · have c79 : x64.toInt ≠ x76.toInt := ti_ne c79
          obtain ⟨z80, h81⟩ := ti_ex (v1 + 1 : Int32)
          have wz80 := ti_full z80
          refine mp_a (a_iinc (v := z80) (L' := [(1, .int z80), (3, .int 1), (2, .int x9), (0, .ref 291)]) dX3_hasSmallAngleOfOneKind_86 (by decide) rfl h81 rfl) (mpp 89 rfl ?_)
          try have e82 : z80.toInt = v1.toInt + 1 := ti_addz h81 rfl rfl (by omega) (by omega)
          refine mp_a (a_goto (t := 2) dX3_hasSmallAngleOfOneKind_89 (by decide)) ?_
          refine MEvP.less (L := [(0, .ref 291), (1, .int z80)]) rfl rfl ⟨rfl, rfl, trivial⟩ ?_
          have q84 := prI_lt (n := (fv Po 291 1).toInt.toNat) (i := v1.toInt.toNat) (by omega)
          have q85 := nxI_lt (n := (fv Po 291 1).toInt.toNat) (i := v1.toInt.toNat) (by omega)
          have q86 : x9.toInt = (fv Po 292 v1.toInt.toNat).toInt := by omega
          have q87 : x21.toInt = (fv Po 292 (prI (fv Po 291 1).toInt.toNat v1.toInt.toNat)).toInt := by rw [show (prI (fv Po 291 1).toInt.toNat v1.toInt.toNat) = x15.toInt.toNat from by omega]; omega
          have q88 : x45.toInt = (fv Po 292 (nxI (fv Po 291 1).toInt.toNat v1.toInt.toNat)).toInt := by rw [show (nxI (fv Po 291 1).toInt.toNat v1.toInt.toNat) = x39.toInt.toNat from by omega]; omega
          have q89 : x64.toInt = (fv Po 293 v1.toInt.toNat).toInt := by omega
          have q90 : x76.toInt = (fv Po 293 (nxI (fv Po 291 1).toInt.toNat v1.toInt.toNat)).toInt := by rw [show (nxI (fv Po 291 1).toInt.toNat v1.toInt.toNat) = x70.toInt.toNat from by omega]; omega
          have w91_ : ¬ ((fv Po 292 v1.toInt.toNat).toInt < (fv Po 292 (prI (fv Po 291 1).toInt.toNat v1.toInt.toNat)).toInt ∧ (fv Po 292 v1.toInt.toNat).toInt < (fv Po 292 (nxI (fv Po 291 1).toInt.toNat v1.toInt.toNat)).toInt ∧ (fv Po 293 v1.toInt.toNat).toInt = (fv Po 293 (nxI (fv Po 291 1).toInt.toNat v1.toInt.toNat)).toInt) := by omega
          have i83 : ∀ j : Nat, (j : Int) < z80.toInt → ¬ SHp (fv Po 291 1).toInt.toNat (fun j : Nat => fv Po 292 j) (fun j : Nat => fv Po 293 j) j := fun j hj => if e : j = v1.toInt.toNat then fun h => w91_ (e ▸ h) else i_0 j (by omega)
          have i92 : z80.toInt ≤ (fv Po 291 1).toInt := by omega
          have i93 : 0 ≤ z80.toInt := by omega
          exact ih _ (by omega) _ i83 i92 i93 rfl
        · have c79 : x64.toInt = x76.toInt := ti_ne_n c79
          refine mp_a (a_iconst (v := 1) dX3_hasSmallAngleOfOneKind_84 rfl) (mpp 85 rfl ?_)
          have q95 := prI_lt (n := (fv Po 291 1).toInt.toNat) (i := v1.toInt.toNat) (by omega)
          have q96 := nxI_lt (n := (fv Po 291 1).toInt.toNat) (i := v1.toInt.toNat) (by omega)
          have q97 : x9.toInt = (fv Po 292 v1.toInt.toNat).toInt := by omega
          have q98 : x21.toInt = (fv Po 292 (prI (fv Po 291 1).toInt.toNat v1.toInt.toNat)).toInt := by rw [show (prI (fv Po 291 1).toInt.toNat v1.toInt.toNat) = x15.toInt.toNat from by omega]; omega
          have q99 : x45.toInt = (fv Po 292 (nxI (fv Po 291 1).toInt.toNat v1.toInt.toNat)).toInt := by rw [show (nxI (fv Po 291 1).toInt.toNat v1.toInt.toNat) = x39.toInt.toNat from by omega]; omega
          have q100 : x64.toInt = (fv Po 293 v1.toInt.toNat).toInt := by omega
          have q101 : x76.toInt = (fv Po 293 (nxI (fv Po 291 1).toInt.toNat v1.toInt.toNat)).toInt := by rw [show (nxI (fv Po 291 1).toInt.toNat v1.toInt.toNat) = x70.toInt.toNat from by omega]; omega
          have u94 : 0 ≤ (1 : Int) ∧ (1 : Int) ≤ 1 ∧ (((1 : Int) = 1 ∧ SHf (fv Po 291 1).toInt.toNat (fun j : Nat => fv Po 292 j) (fun j : Nat => fv Po 293 j)) ∨ ((1 : Int) = 0 ∧ ¬ SHf (fv Po 291 1).toInt.toNat (fun j : Nat => fv Po 292 j) (fun j : Nat => fv Po 293 j))) := ⟨by omega, by omega, Or.inl ⟨rfl, v1.toInt.toNat, by omega, show ((fv Po 292 v1.toInt.toNat).toInt < (fv Po 292 (prI (fv Po 291 1).toInt.toNat v1.toInt.toNat)).toInt ∧ (fv Po 292 v1.toInt.toNat).toInt < (fv Po 292 (nxI (fv Po 291 1).toInt.toNat v1.toInt.toNat)).toInt ∧ (fv Po 293 v1.toInt.toNat).toInt = (fv Po 293 (nxI (fv Po 291 1).toInt.toNat v1.toInt.toNat)).toInt) from by omega⟩⟩
          exact mp_iret ⟨⟨_, rfl, u94⟩, rfl⟩ dX3_hasSmallAngleOfOneKind_85 (Or.inr ⟨rfl, by decide⟩)

set_option maxHeartbeats 4000000 in
theorem c_CR_hasSmallAngleOfOneKind_Reducer {Po : mP}  (hT : Typ Po) (hX : XR Po)   : EvP 2 48 [.ref 291] Po (fun r P' => (∃ x : Int32, r = some (.int x) ∧ (0 ≤ x.toInt ∧ x.toInt ≤ 1 ∧ ((x.toInt = 1 ∧ SHf (fv Po 291 1).toInt.toNat (fun j : Nat => fv Po 292 j) (fun j : Nat => fv Po 293 j)) ∨ (x.toInt = 0 ∧ ¬ SHf (fv Po 291 1).toInt.toNat (fun j : Nat => fv Po 292 j) (fun j : Nat => fv Po 293 j))))) ∧ P' = Po) := by
  refine EvP.of qm_48 (Nat.le_of_ble_eq_true rfl) rfl ?_
  show MEvP _ none q_48 0 [(0, .ref 291)] [] _ 0 0 _
  have g1 : (0 : Int) ≤ (fv Po 291 1).toInt ∧ (fv Po 291 1).toInt ≤ 8 := Typ.rng hT rl_291 (by decide) (by decide) rfl
  refine mp_a (a_iconst (v := 0) dX3_hasSmallAngleOfOneKind_0 rfl) (mpp 1 rfl ?_)
  refine mp_a (a_istore_n (L' := [(1, .int 0), (0, .ref 291)]) dX3_hasSmallAngleOfOneKind_1 (by decide) rfl) (mpp 2 rfl ?_)
  refine MEvP.less (L := [(0, .ref 291), (1, .int 0)]) rfl rfl ⟨rfl, rfl, trivial⟩ ?_
  have i2 : ∀ j : Nat, (j : Int) < (0 : Int) → ¬ SHp (fv Po 291 1).toInt.toNat (fun j : Nat => fv Po 292 j) (fun j : Nat => fv Po 293 j) j := fun j hj => absurd hj (by omega)
  have i3 : (0 : Int) ≤ (fv Po 291 1).toInt := by omega
  have i4 : 0 ≤ (0 : Int) := by omega
  exact c_CR_hasSmallAngleOfOneKind_Reducer_l2 hT hX   _ _ i2 i3 i4 rfl

