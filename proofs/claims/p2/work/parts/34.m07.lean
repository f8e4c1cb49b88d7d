/-! methods on typed pools, 7 (written by a program) -/
set_option maxHeartbeats 4000000 in
theorem c_CR_make_Reducer {Po : mP} {t1 : Int32} (hT : Typ Po) (hX : XR Po)  (hp0 : 2 ≤ (fv Po 291 1).toInt)  : EvP 2 53 [.ref 291, .int t1] Po (fun r P' => (r = none ∧ (True)) ∧ Typ P' ∧ KW [641, 704, 768] Po P' ∧ True) := by
  refine EvP.of qm_53 (Nat.le_of_ble_eq_true rfl) rfl ?_
  show MEvP _ none q_53 0 [(0, .ref 291), (1, .int t1)] [] _ 0 0 _
  have g1 : (0 : Int) ≤ (fv Po 291 1).toInt ∧ (fv Po 291 1).toInt ≤ 8 := Typ.rng hT rl_291 (by decide) (by decide) rfl
  refine mp_a (a_iload_n dX3_make_0 rfl) (mpp 1 rfl ?_)
  refine mp_a (a_iconst (v := 2) dX3_make_1 rfl) (mpp 2 rfl ?_)
  refine mp_Tb (t := 16) (j_icmp_ne dX3_make_2) (by decide) (fun c2 => ?_) (fun c2 => mpp 5 rfl ?_)
  · have c2 : t1.toInt ≠ 2 := ti_ne c2
    refine mp_a (a_iload_n dX3_make_16 rfl) (mpp 17 rfl ?_)
    refine mp_a (a_iconst (v := 1) dX3_make_17 rfl) (mpp 18 rfl ?_)
    refine mp_Tb (t := 48) (j_icmp_ne dX3_make_18) (by decide) (fun c3 => ?_) (fun c3 => mpp 21 rfl ?_)
    · have c3 : t1.toInt ≠ 1 := ti_ne c3
      refine mp_a (a_iload_n dX3_make_48 rfl) (mpp 49 rfl ?_)
      refine mp_a (a_bipush (v := 10) dX3_make_49 rfl) (mpp 51 rfl ?_)
      obtain ⟨z4, h5⟩ := ti_ex (t1 - 10 : Int32)
      have wz4 := ti_full z4
      refine mp_t (s_isub (v := z4) dX3_make_51 h5) (mpp 52 rfl ?_)
      try have e6 : z4.toInt = t1.toInt - 10 := ti_subz h5 rfl rfl (by omega) (by omega)
      refine mp_a (a_istore_n (L' := [(2, .int z4), (0, .ref 291), (1, .int t1)]) dX3_make_52 (by decide) rfl) (mpp 53 rfl ?_)
      refine mp_a (a_aload_n dX3_make_53 rfl) (mpp 54 rfl ?_)
      refine mp_a (a_iload_n dX3_make_54 rfl) (mpp 55 rfl ?_)
      refine mt_callv (i := 80) (q' := q_49) (As := [.int z4]) (rest := []) hT dX3_make_55 rfl qm_49 (by decide) rfl rl_291 (by decide) rfl (Nat.le_of_ble_eq_true rfl) rfl ⟨rfl, rfl⟩ ⟨Nat.le_of_ble_eq_true rfl, Nat.le_of_ble_eq_true rfl⟩ (EvP.mono (by decide) (c_CR_before_Reducer hT hX )) (fun r7 P8 g9 => mpp 58 rfl ?_)
      obtain ⟨⟨x10, rfl, g11⟩, e12⟩ := g9
      have e12 := e12.symm
      subst e12
      have wx10 := ti_full x10
      show MEvP _ none q_53 58 [(2, .int z4), (0, .ref 291), (1, .int t1)] [.int x10] _ _ _ _
      refine mp_a (a_istore_n (L' := [(3, .int x10), (2, .int z4), (0, .ref 291), (1, .int t1)]) dX3_make_58 (by decide) rfl) (mpp 59 rfl ?_)
      refine mp_a (a_aload_n dX3_make_59 rfl) (mpp 60 rfl ?_)
      refine mp_a (a_iload_n dX3_make_60 rfl) (mpp 61 rfl ?_)
      refine mt_callv (i := 83) (q' := q_50) (As := [.int z4]) (rest := []) hT dX3_make_61 rfl qm_50 (by decide) rfl rl_291 (by decide) rfl (Nat.le_of_ble_eq_true rfl) rfl ⟨rfl, rfl⟩ ⟨Nat.le_of_ble_eq_true rfl, Nat.le_of_ble_eq_true rfl⟩ (EvP.mono (by decide) (c_CR_after_Reducer hT hX )) (fun r13 P14 g15 => mpp 64 rfl ?_)
      obtain ⟨⟨x16, rfl, g17⟩, e18⟩ := g15
      have e18 := e18.symm
      subst e18
      have wx16 := ti_full x16
      show MEvP _ none q_53 64 [(3, .int x10), (2, .int z4), (0, .ref 291), (1, .int t1)] [.int x16] _ _ _ _
      refine mp_a (a_istore (L' := [(4, .int x16), (3, .int x10), (2, .int z4), (0, .ref 291), (1, .int t1)]) dX3_make_64 (by decide) rfl) (mpp 66 rfl ?_)
      refine mp_a (a_aload_n dX3_make_66 rfl) (mpp 67 rfl ?_)
      refine mt_getU (i := 9) (k := 2) (A := 292) hT dX3_make_67 rfl rl_291 (by decide) rfl (by decide) rfl un_11 (mpp 70 rfl ?_)
      refine mp_a (a_iload_n dX3_make_70 rfl) (mpp 71 rfl ?_)
      refine mp_a (a_aload_n dX3_make_71 rfl) (mpp 72 rfl ?_)
      refine mt_getU (i := 9) (k := 2) (A := 292) hT dX3_make_72 rfl rl_291 (by decide) rfl (by decide) rfl un_11 (mpp 75 rfl ?_)
      refine mp_a (a_iload_n dX3_make_75 rfl) (mpp 76 rfl ?_)
      refine mp_calls (i := 39) (q' := q_12) (As := [.ref 292, .int x10]) (rest := [.int x10, .ref 292]) dX3_make_76 rfl qm_12 (by decide) rfl (Nat.le_of_ble_eq_true rfl) rfl ⟨rfl, rfl⟩ ⟨Nat.le_of_ble_eq_true rfl, Nat.le_of_ble_eq_true rfl⟩ (EvP.mono (by decide) (c_F_at_rsizes hT hX )) (fun r19 P20 g21 => mpp 79 rfl ?_)
      obtain ⟨⟨x22, rfl, g23⟩, e24⟩ := g21
      have e24 := e24.symm
      subst e24
      have wx22 := ti_full x22
      show MEvP _ none q_53 79 [(4, .int x16), (3, .int x10), (2, .int z4), (0, .ref 291), (1, .int t1)] [.int x22, .int x10, .ref 292] _ _ _ _
      refine mp_a (a_aload_n dX3_make_79 rfl) (mpp 80 rfl ?_)
      refine mt_getU (i := 9) (k := 2) (A := 292) hT dX3_make_80 rfl rl_291 (by decide) rfl (by decide) rfl un_11 (mpp 83 rfl ?_)
      refine mp_a (a_iload dX3_make_83 rfl) (mpp 85 rfl ?_)
      refine mp_calls (i := 39) (q' := q_12) (As := [.ref 292, .int x16]) (rest := [.int x22, .int x10, .ref 292]) dX3_make_85 rfl qm_12 (by decide) rfl (Nat.le_of_ble_eq_true rfl) rfl ⟨rfl, rfl⟩ ⟨Nat.le_of_ble_eq_true rfl, Nat.le_of_ble_eq_true rfl⟩ (EvP.mono (by decide) (c_F_at_rsizes hT hX )) (fun r25 P26 g27 => mpp 88 rfl ?_)
      obtain ⟨⟨x28, rfl, g29⟩, e30⟩ := g27
      have e30 := e30.symm
      subst e30
      have wx28 := ti_full x28
      show MEvP _ none q_53 88 [(4, .int x16), (3, .int x10), (2, .int z4), (0, .ref 291), (1, .int t1)] [.int x28, .int x22, .int x10, .ref 292] _ _ _ _
      obtain ⟨z31, h32⟩ := ti_ex (x22 + x28 : Int32)
      have wz31 := ti_full z31
      refine mp_t (s_iadd (v := z31) dX3_make_88 h32) (mpp 89 rfl ?_)
      try have e33 : z31.toInt = x22.toInt + x28.toInt := ti_addz h32 rfl rfl (by omega) (by omega)
      refine mp_a (a_aload_n dX3_make_89 rfl) (mpp 90 rfl ?_)
      refine mt_getU (i := 9) (k := 2) (A := 292) hT dX3_make_90 rfl rl_291 (by decide) rfl (by decide) rfl un_11 (mpp 93 rfl ?_)
      refine mp_a (a_iload_n dX3_make_93 rfl) (mpp 94 rfl ?_)
      refine mp_calls (i := 39) (q' := q_12) (As := [.ref 292, .int z4]) (rest := [.int z31, .int x10, .ref 292]) dX3_make_94 rfl qm_12 (by decide) rfl (Nat.le_of_ble_eq_true rfl) rfl ⟨rfl, rfl⟩ ⟨Nat.le_of_ble_eq_true rfl, Nat.le_of_ble_eq_true rfl⟩ (EvP.mono (by decide) (c_F_at_rsizes hT hX )) (fun r34 P35 g36 => mpp 97 rfl ?_)
      obtain ⟨⟨x37, rfl, g38⟩, e39⟩ := g36
      have e39 := e39.symm
      subst e39
      have wx37 := ti_full x37
      show MEvP _ none q_53 97 [(4, .int x16), (3, .int x10), (2, .int z4), (0, .ref 291), (1, .int t1)] [.int x37, .int z31, .int x10, .ref 292] _ _ _ _
      obtain ⟨z40, h41⟩ := ti_ex (z31 - x37 : Int32)
      have wz40 := ti_full z40
      refine mp_t (s_isub (v := z40) dX3_make_97 h41) (mpp 98 rfl ?_)
      try have e42 : z40.toInt = z31.toInt - x37.toInt := ti_subz h41 rfl rfl (by omega) (by omega)
      refine mp_calls (i := 47) (q' := q_22) (As := [.ref 292, .int x10, .int z40]) (rest := []) dX3_make_98 rfl qm_22 (by decide) rfl (Nat.le_of_ble_eq_true rfl) rfl ⟨rfl, rfl⟩ ⟨Nat.le_of_ble_eq_true rfl, Nat.le_of_ble_eq_true rfl⟩ (EvP.mono (by decide) (c_F_put_rsizes hT hX )) (fun r43 P44 g45 => mpp 101 rfl ?_)
      obtain ⟨⟨rfl, g47⟩, hT48, k49, R50⟩ := g45
      have k51 : KW [641, 704, 768] Po P44 := KW.trans KW.refl k49 rfl
      show MEvP _ none q_53 101 [(4, .int x16), (3, .int x10), (2, .int z4), (0, .ref 291), (1, .int t1)] [] _ _ _ _
      refine mp_a (a_aload_n dX3_make_101 rfl) (mpp 102 rfl ?_)
      refine mt_getU (i := 9) (k := 2) (A := 292) hT48 dX3_make_102 rfl rl_291 (by decide) rfl (by decide) rfl un_11 (mpp 105 rfl ?_)
      refine mp_a (a_iload_n dX3_make_105 rfl) (mpp 106 rfl ?_)
      refine mp_a (a_iload dX3_make_106 rfl) (mpp 108 rfl ?_)
      obtain ⟨z53, h54⟩ := ti_ex (if (7 : Nat) = 7 then (if z4 < x16 then x16 else z4) else (if x16 < z4 then x16 else z4) : Int32)
      have e55 : z53.toInt = max z4.toInt x16.toInt := ti_mm7 h54
      refine mp_math (i := 109) (k := 0) (v := z53) dX3_make_108 rfl (by decide) (Nat.le_of_ble_eq_true rfl) h54 ⟨Nat.le_of_ble_eq_true rfl, Nat.le_of_ble_eq_true rfl⟩ (mpp 111 rfl ?_)
      refine mp_calls (i := 105) (q' := q_54) (As := [.ref 292, .int z53]) (rest := []) dX3_make_111 rfl qm_54 (by decide) rfl (Nat.le_of_ble_eq_true rfl) rfl ⟨rfl, rfl⟩ ⟨Nat.le_of_ble_eq_true rfl, Nat.le_of_ble_eq_true rfl⟩ (EvP.mono (by decide) (c_F_takeOut_rsizes hT48 (KW.xr k51 hX) )) (fun r56 P57 g58 => mpp 114 rfl ?_)
      obtain ⟨⟨rfl, g60⟩, hT61, k62, R63⟩ := g58
      have k64 : KW [641, 704, 768] Po P57 := KW.trans k51 k62 rfl
      show MEvP _ none q_53 114 [(4, .int x16), (3, .int x10), (2, .int z4), (0, .ref 291), (1, .int t1)] [] _ _ _ _
      refine mp_a (a_aload_n dX3_make_114 rfl) (mpp 115 rfl ?_)
      refine mt_getU (i := 9) (k := 2) (A := 292) hT61 dX3_make_115 rfl rl_291 (by decide) rfl (by decide) rfl un_11 (mpp 118 rfl ?_)
      refine mp_a (a_iload_n dX3_make_118 rfl) (mpp 119 rfl ?_)
      refine mp_a (a_iload dX3_make_119 rfl) (mpp 121 rfl ?_)
      obtain ⟨z66, h67⟩ := ti_ex (if (8 : Nat) = 7 then (if z4 < x16 then x16 else z4) else (if x16 < z4 then x16 else z4) : Int32)
      have e68 : z66.toInt = min z4.toInt x16.toInt := ti_mm8 h67
      refine mp_math (i := 112) (k := 0) (v := z66) dX3_make_121 rfl (by decide) (Nat.le_of_ble_eq_true rfl) h67 ⟨Nat.le_of_ble_eq_true rfl, Nat.le_of_ble_eq_true rfl⟩ (mpp 124 rfl ?_)
      refine mp_calls (i := 105) (q' := q_54) (As := [.ref 292, .int z66]) (rest := []) dX3_make_124 rfl qm_54 (by decide) rfl (Nat.le_of_ble_eq_true rfl) rfl ⟨rfl, rfl⟩ ⟨Nat.le_of_ble_eq_true rfl, Nat.le_of_ble_eq_true rfl⟩ (EvP.mono (by decide) (c_F_takeOut_rsizes hT61 (KW.xr k64 hX) )) (fun r69 P70 g71 => mpp 127 rfl ?_)
      obtain ⟨⟨rfl, g73⟩, hT74, k75, R76⟩ := g71
      have k77 : KW [641, 704, 768] Po P70 := KW.trans k64 k75 rfl
      show MEvP _ none q_53 127 [(4, .int x16), (3, .int x10), (2, .int z4), (0, .ref 291), (1, .int t1)] [] _ _ _ _
      refine mp_a (a_aload_n dX3_make_127 rfl) (mpp 128 rfl ?_)
      refine mt_getU (i := 15) (k := 3) (A := 293) hT74 dX3_make_128 rfl rl_291 (by decide) rfl (by decide) rfl un_12 (mpp 131 rfl ?_)
      refine mp_a (a_iload_n dX3_make_131 rfl) (mpp 132 rfl ?_)
      refine mp_a (a_iload dX3_make_132 rfl) (mpp 134 rfl ?_)
      obtain ⟨z79, h80⟩ := ti_ex (if (7 : Nat) = 7 then (if z4 < x16 then x16 else z4) else (if x16 < z4 then x16 else z4) : Int32)
      have e81 : z79.toInt = max z4.toInt x16.toInt := ti_mm7 h80
      refine mp_math (i := 109) (k := 0) (v := z79) dX3_make_134 rfl (by decide) (Nat.le_of_ble_eq_true rfl) h80 ⟨Nat.le_of_ble_eq_true rfl, Nat.le_of_ble_eq_true rfl⟩ (mpp 137 rfl ?_)
      refine mp_calls (i := 105) (q' := q_54) (As := [.ref 293, .int z79]) (rest := []) dX3_make_137 rfl qm_54 (by decide) rfl (Nat.le_of_ble_eq_true rfl) rfl ⟨rfl, rfl⟩ ⟨Nat.le_of_ble_eq_true rfl, Nat.le_of_ble_eq_true rfl⟩ (EvP.mono (by decide) (c_F_takeOut_rcreases hT74 (KW.xr k77 hX) )) (fun r82 P83 g84 => mpp 140 rfl ?_)
      obtain ⟨⟨rfl, g86⟩, hT87, k88, R89⟩ := g84
      have k90 : KW [641, 704, 768] Po P83 := KW.trans k77 k88 rfl
      show MEvP _ none q_53 140 [(4, .int x16), (3, .int x10), (2, .int z4), (0, .ref 291), (1, .int t1)] [] _ _ _ _
      refine mp_a (a_aload_n dX3_make_140 rfl) (mpp 141 rfl ?_)
      refine mt_getU (i := 15) (k := 3) (A := 293) hT87 dX3_make_141 rfl rl_291 (by decide) rfl (by decide) rfl un_12 (mpp 144 rfl ?_)
      refine mp_a (a_iload_n dX3_make_144 rfl) (mpp 145 rfl ?_)
      refine mp_a (a_iload dX3_make_145 rfl) (mpp 147 rfl ?_)
      obtain ⟨z92, h93⟩ := ti_ex (if (8 : Nat) = 7 then (if z4 < x16 then x16 else z4) else (if x16 < z4 then x16 else z4) : Int32)
      have e94 : z92.toInt = min z4.toInt x16.toInt := ti_mm8 h93
      refine mp_math (i := 112) (k := 0) (v := z92) dX3_make_147 rfl (by decide) (Nat.le_of_ble_eq_true rfl) h93 ⟨Nat.le_of_ble_eq_true rfl, Nat.le_of_ble_eq_true rfl⟩ (mpp 150 rfl ?_)
      refine mp_calls (i := 105) (q' := q_54) (As := [.ref 293, .int z92]) (rest := []) dX3_make_150 rfl qm_54 (by decide) rfl (Nat.le_of_ble_eq_true rfl) rfl ⟨rfl, rfl⟩ ⟨Nat.le_of_ble_eq_true rfl, Nat.le_of_ble_eq_true rfl⟩ (EvP.mono (by decide) (c_F_takeOut_rcreases hT87 (KW.xr k90 hX) )) (fun r95 P96 g97 => mpp 153 rfl ?_)
      obtain ⟨⟨rfl, g99⟩, hT100, k101, R102⟩ := g97
      have k103 : KW [641, 704, 768] Po P96 := KW.trans k90 k101 rfl
      show MEvP _ none q_53 153 [(4, .int x16), (3, .int x10), (2, .int z4), (0, .ref 291), (1, .int t1)] [] _ _ _ _
      refine mp_a (a_aload_n dX3_make_153 rfl) (mpp 154 rfl ?_)
      refine mp_t (s_dup dX3_make_154 rfl) (mpp 155 rfl ?_)
      have e105 : (fv P96 291 1).toInt = (fv Po 291 1).toInt := congrArg Int32.toInt ((KW.at k101 1 rl_291 rfl).trans ((KW.at k88 1 rl_291 rfl).trans ((KW.at k75 1 rl_291 rfl).trans ((KW.at k62 1 rl_291 rfl).trans (KW.at k49 1 rl_291 rfl)))))
      refine mt_getI (i := 28) (k := 1) hT100 dX3_make_155 rfl rl_291 (by decide) rfl (by decide) rfl (fun g106 g107 => mpp 158 rfl ?_)
      refine mp_a (a_iconst (v := 2) dX3_make_158 rfl) (mpp 159 rfl ?_)
      obtain ⟨z108, h109⟩ := ti_ex ((fv P96 291 1) - 2 : Int32)
      have wz108 := ti_full z108
      refine mp_t (s_isub (v := z108) dX3_make_159 h109) (mpp 160 rfl ?_)
      try have e110 : z108.toInt = (fv P96 291 1).toInt - 2 := ti_subz h109 rfl rfl (by omega) (by omega)
      refine mt_putI (i := 28) (k := 1) (x := z108) hT100 dX3_make_160 rfl rl_291 (by decide) rfl (by decide) rfl ⟨by omega, by omega⟩ rfl rfl (fun P111 hT112 f113 f114 f115 => mpp 163 rfl ?_)
      have k116 : KW [641, 704, 768] Po P111 := KW.step k103 rl_291 rfl f114 f115
      have e117 : (fv P111 291 1).toInt = z108.toInt := congrArg Int32.toInt f113
      exact mp_ret ⟨⟨rfl, trivial⟩, hT112, k116, trivial⟩ dX3_make_163 rfl
    · have c3 : t1.toInt = 1 := ti_ne_n c3
      refine mp_a (a_aload_n dX3_make_21 rfl) (mpp 22 rfl ?_)
      refine mt_getU (i := 9) (k := 2) (A := 292) hT dX3_make_22 rfl rl_291 (by decide) rfl (by decide) rfl un_11 (mpp 25 rfl ?_)
      refine mp_a (a_iconst (v := 0) dX3_make_25 rfl) (mpp 26 rfl ?_)
      refine mp_calls (i := 105) (q' := q_54) (As := [.ref 292, .int 0]) (rest := []) dX3_make_26 rfl qm_54 (by decide) rfl (Nat.le_of_ble_eq_true rfl) rfl ⟨rfl, rfl⟩ ⟨Nat.le_of_ble_eq_true rfl, Nat.le_of_ble_eq_true rfl⟩ (EvP.mono (by decide) (c_F_takeOut_rsizes hT hX )) (fun r118 P119 g120 => mpp 29 rfl ?_)
      obtain ⟨⟨rfl, g122⟩, hT123, k124, R125⟩ := g120
      have k126 : KW [641, 704, 768] Po P119 := KW.trans KW.refl k124 rfl
      show MEvP _ none q_53 29 [(0, .ref 291), (1, .int t1)] [] _ _ _ _
      refine mp_a (a_aload_n dX3_make_29 rfl) (mpp 30 rfl ?_)
      refine mt_getU (i := 15) (k := 3) (A := 293) hT123 dX3_make_30 rfl rl_291 (by decide) rfl (by decide) rfl un_12 (mpp 33 rfl ?_)
      refine mp_a (a_iconst (v := 0) dX3_make_33 rfl) (mpp 34 rfl ?_)
      refine mp_calls (i := 105) (q' := q_54) (As := [.ref 293, .int 0]) (rest := []) dX3_make_34 rfl qm_54 (by decide) rfl (Nat.le_of_ble_eq_true rfl) rfl ⟨rfl, rfl⟩ ⟨Nat.le_of_ble_eq_true rfl, Nat.le_of_ble_eq_true rfl⟩ (EvP.mono (by decide) (c_F_takeOut_rcreases hT123 (KW.xr k126 hX) )) (fun r128 P129 g130 => mpp 37 rfl ?_)
      obtain ⟨⟨rfl, g132⟩, hT133, k134, R135⟩ := g130
      have k136 : KW [641, 704, 768] Po P129 := KW.trans k126 k134 rfl
      show MEvP _ none q_53 37 [(0, .ref 291), (1, .int t1)] [] _ _ _ _
      refine mp_a (a_aload_n dX3_make_37 rfl) (mpp 38 rfl ?_)
      refine mp_t (s_dup dX3_make_38 rfl) (mpp 39 rfl ?_)
      have e138 : (fv P129 291 1).toInt = (fv Po 291 1).toInt := congrArg Int32.toInt ((KW.at k134 1 rl_291 rfl).trans (KW.at k124 1 rl_291 rfl))
      refine mt_getI (i := 28) (k := 1) hT133 dX3_make_39 rfl rl_291 (by decide) rfl (by decide) rfl (fun g139 g140 => mpp 42 rfl ?_)
      refine mp_a (a_iconst (v := 1) dX3_make_42 rfl) (mpp 43 rfl ?_)
      obtain ⟨z141, h142⟩ := ti_ex ((fv P129 291 1) - 1 : Int32)
      have wz141 := ti_full z141
      refine mp_t (s_isub (v := z141) dX3_make_43 h142) (mpp 44 rfl ?_)
      try have e143 : z141.toInt = (fv P129 291 1).toInt - 1 := ti_subz h142 rfl rfl (by omega) (by omega)
      refine mt_putI (i := 28) (k := 1) (x := z141) hT133 dX3_make_44 rfl rl_291 (by decide) rfl (by decide) rfl ⟨by omega, by omega⟩ rfl rfl (fun P144 hT145 f146 f147 f148 => mpp 47 rfl ?_)
      have k149 : KW [641, 704, 768] Po P144 := KW.step k136 rl_291 rfl f147 f148
      have e150 : (fv P144 291 1).toInt = z141.toInt := congrArg Int32.toInt f146
      exact mp_ret ⟨⟨rfl, trivial⟩, hT145, k149, trivial⟩ dX3_make_47 rfl
  · have c2 : t1.toInt = 2 := ti_ne_n c2
    refine mp_a (a_aload_n dX3_make_5 rfl) (mpp 6 rfl ?_)
    refine mp_t (s_dup dX3_make_6 rfl) (mpp 7 rfl ?_)
    refine mt_getI (i := 28) (k := 1) hT dX3_make_7 rfl rl_291 (by decide) rfl (by decide) rfl (fun g151 g152 => mpp 10 rfl ?_)
    refine mp_a (a_iconst (v := 1) dX3_make_10 rfl) (mpp 11 rfl ?_)
    obtain ⟨z153, h154⟩ := ti_ex ((fv Po 291 1) - 1 : Int32)
    have wz153 := ti_full z153
    refine mp_t (s_isub (v := z153) dX3_make_11 h154) (mpp 12 rfl ?_)
    try have e155 : z153.toInt = (fv Po 291 1).toInt - 1 := ti_subz h154 rfl rfl (by omega) (by omega)
    refine mt_putI (i := 28) (k := 1) (x := z153) hT dX3_make_12 rfl rl_291 (by decide) rfl (by decide) rfl ⟨by omega, by omega⟩ rfl rfl (fun P156 hT157 f158 f159 f160 => mpp 15 rfl ?_)
    have k161 : KW [641, 704, 768] Po P156 := KW.step KW.refl rl_291 rfl f159 f160
    have e162 : (fv P156 291 1).toInt = z153.toInt := congrArg Int32.toInt f158
    exact mp_ret ⟨⟨rfl, trivial⟩, hT157, k161, trivial⟩ dX3_make_15 rfl

set_option maxHeartbeats 4000000 in
theorem c_CR_reduce_Reducer_l7 {Po : mP}  (hTo : Typ Po) (hX : XR Po)  : ∀ (n : Nat) (v1 : Int32) (v2 : Int32), ∀ (P : mP), Typ P → KW [641, 704, 768] Po P → (v2.toInt = 0 ∨ 2 ≤ (fv P 291 1).toInt) → (0 ≤ v1.toInt) → (2147483647 - v1.toInt).toNat = n → MEvP 2 none q_51 7 [(0, .ref 291), (1, .int v1), (2, .int v2)] [] P 0 0 (fun r P' => (∃ x : Int32, r = some (.int x) ∧ (True)) ∧ Typ P' ∧ KW [641, 704, 768] Po P' ∧ True) := by
  intro n
  induction n using Nat.strongRecOn with | _ n ih => ?_
  intro v1 v2 P hT hK i_0 i_1 hm
  have w_v1 := ti_full v1
  have w_v2 := ti_full v2
  have g1 : (0 : Int) ≤ (fv P 291 1).toInt ∧ (fv P 291 1).toInt ≤ 8 := Typ.rng hT rl_291 (by decide) (by decide) rfl
  have g2 : (0 : Int) ≤ (fv P 291 1).toInt ∧ (fv P 291 1).toInt ≤ 8 := Typ.rng hT rl_291 (by decide) (by decide) rfl
  refine mp_a (a_iload_n dX3_reduce_7 rfl) (mpp 8 rfl ?_)
  refine mp_a (a_bipush (v := 8) dX3_reduce_8 rfl) (mpp 10 rfl ?_)
  refine mp_Tb (t := 33) (j_icmp_ge dX3_reduce_10) (by decide) (fun c3 => ?_) (fun c3 => mpp 13 rfl ?_)
  · have c3 : v1.toInt ≥ 8 := ti_ge c3
    refine mp_a (a_iload_n dX3_reduce_33 rfl) (mpp 34 rfl ?_)
    exact mp_iret ⟨⟨_, rfl, trivial⟩, hT, hK, trivial⟩ dX3_reduce_34 (Or.inl rfl)
  · have c3 : v1.toInt < 8 := ti_ge_n c3
    refine mp_a (a_iload_n dX3_reduce_13 rfl) (mpp 14 rfl ?_)
    refine mp_Tb (t := 33) (j_if_eq dX3_reduce_14) (by decide) (fun c4 => ?_) (fun c4 => mpp 17 rfl ?_)
    · have c4 : v2.toInt = 0 := ti_eq c4
      refine mp_a (a_iload_n dX3_reduce_33 rfl) (mpp 34 rfl ?_)
      exact mp_iret ⟨⟨_, rfl, trivial⟩, hT, hK, trivial⟩ dX3_reduce_34 (Or.inl rfl)
    · have c4 : v2.toInt ≠ 0 := ti_eq_n c4
      refine mp_a (a_aload_n dX3_reduce_17 rfl) (mpp 18 rfl ?_)
      refine mp_a (a_iload_n dX3_reduce_18 rfl) (mpp 19 rfl ?_)
      have p5 : 2 ≤ (fv P 291 1).toInt := by omega
      refine mt_callv (i := 101) (q' := q_53) (As := [.int v2]) (rest := []) hT dX3_reduce_19 rfl qm_53 (by decide) rfl rl_291 (by decide) rfl (Nat.le_of_ble_eq_true rfl) rfl ⟨rfl, rfl⟩ ⟨Nat.le_of_ble_eq_true rfl, Nat.le_of_ble_eq_true rfl⟩ (EvP.mono (by decide) (c_CR_make_Reducer hT (KW.xr hK hX) p5 )) (fun r6 P7 g8 => mpp 22 rfl ?_)
      obtain ⟨⟨rfl, g10⟩, hT11, k12, R13⟩ := g8
      have k14 : KW [641, 704, 768] Po P7 := KW.trans hK k12 rfl
      show MEvP _ none q_51 22 [(0, .ref 291), (1, .int v1), (2, .int v2)] [] _ _ _ _
      obtain ⟨z16, h17⟩ := ti_ex (v1 + 1 : Int32)
      have wz16 := ti_full z16
      refine mp_a (a_iinc (v := z16) (L' := [(1, .int z16), (0, .ref 291), (2, .int v2)]) dX3_reduce_22 (by decide) rfl h17 rfl) (mpp 25 rfl ?_)
      try have e18 : z16.toInt = v1.toInt + 1 := ti_addz h17 rfl rfl (by omega) (by omega)
      refine mp_a (a_aload_n dX3_reduce_25 rfl) (mpp 26 rfl ?_)
      refine mt_callv (i := 98) (q' := q_52) (As := []) (rest := []) hT11 dX3_reduce_26 rfl qm_52 (by decide) rfl rl_291 (by decide) rfl (Nat.le_of_ble_eq_true rfl) rfl ⟨rfl, rfl⟩ ⟨Nat.le_of_ble_eq_true rfl, Nat.le_of_ble_eq_true rfl⟩ (EvP.mono (by decide) (c_CR_firstStep_Reducer hT11 (KW.xr k14 hX) )) (fun r19 P20 g21 => mpp 29 rfl ?_)
      obtain ⟨⟨x22, rfl, g23⟩, e24⟩ := g21
      have e24 := e24.symm
      subst e24
      have wx22 := ti_full x22
      have g23 : x22.toInt = 0 ∨ 2 ≤ (fv P7 291 1).toInt := g23
      have g25 : (0 : Int) ≤ (fv P7 291 1).toInt ∧ (fv P7 291 1).toInt ≤ 8 := Typ.rng hT11 rl_291 (by decide) (by decide) rfl
      show MEvP _ none q_51 29 [(1, .int z16), (0, .ref 291), (2, .int v2)] [.int x22] _ _ _ _
      refine mp_a (a_istore_n (L' := [(2, .int x22), (1, .int z16), (0, .ref 291)]) dX3_reduce_29 (by decide) rfl) (mpp 30 rfl ?_)
      refine mp_a (a_goto (t := 7) dX3_reduce_30 (by decide)) ?_
      refine MEvP.less (L := [(0, .ref 291), (1, .int z16), (2, .int x22)]) rfl rfl ⟨rfl, rfl, rfl, trivial⟩ ?_
      have i26 : x22.toInt = 0 ∨ 2 ≤ (fv P7 291 1).toInt := by omega
      have i27 : 0 ≤ z16.toInt := by omega
      exact ih _ (by omega) _ _ P7 hT11 k14 i26 i27 rfl

set_option maxHeartbeats 4000000 in
theorem c_CR_reduce_Reducer {Po : mP}  (hT : Typ Po) (hX : XR Po)   : EvP 3 51 [.ref 291] Po (fun r P' => (∃ x : Int32, r = some (.int x) ∧ (True)) ∧ Typ P' ∧ KW [641, 704, 768] Po P' ∧ True) := by
  refine EvP.of qm_51 (Nat.le_of_ble_eq_true rfl) rfl ?_
  show MEvP _ none q_51 0 [(0, .ref 291)] [] _ 0 0 _
  refine mp_a (a_iconst (v := 0) dX3_reduce_0 rfl) (mpp 1 rfl ?_)
  refine mp_a (a_istore_n (L' := [(1, .int 0), (0, .ref 291)]) dX3_reduce_1 (by decide) rfl) (mpp 2 rfl ?_)
  refine mp_a (a_aload_n dX3_reduce_2 rfl) (mpp 3 rfl ?_)
  refine mt_callv (i := 98) (q' := q_52) (As := []) (rest := []) hT dX3_reduce_3 rfl qm_52 (by decide) rfl rl_291 (by decide) rfl (Nat.le_of_ble_eq_true rfl) rfl ⟨rfl, rfl⟩ ⟨Nat.le_of_ble_eq_true rfl, Nat.le_of_ble_eq_true rfl⟩ (EvP.mono (by decide) (c_CR_firstStep_Reducer hT hX )) (fun r1 P2 g3 => mpp 6 rfl ?_)
  obtain ⟨⟨x4, rfl, g5⟩, e6⟩ := g3
  have e6 := e6.symm
  subst e6
  have wx4 := ti_full x4
  have g5 : x4.toInt = 0 ∨ 2 ≤ (fv Po 291 1).toInt := g5
  have g7 : (0 : Int) ≤ (fv Po 291 1).toInt ∧ (fv Po 291 1).toInt ≤ 8 := Typ.rng hT rl_291 (by decide) (by decide) rfl
  show MEvP _ none q_51 6 [(1, .int 0), (0, .ref 291)] [.int x4] _ _ _ _
  refine mp_a (a_istore_n (L' := [(2, .int x4), (1, .int 0), (0, .ref 291)]) dX3_reduce_6 (by decide) rfl) (mpp 7 rfl ?_)
  refine MEvP.less (L := [(0, .ref 291), (1, .int 0), (2, .int x4)]) rfl rfl ⟨rfl, rfl, rfl, trivial⟩ ?_
  have i8 : x4.toInt = 0 ∨ 2 ≤ (fv Po 291 1).toInt := by omega
  have i9 : 0 ≤ (0 : Int) := by omega
  exact c_CR_reduce_Reducer_l7 hT hX   _ _ _ Po hT KW.refl i8 i9 rfl

set_option maxHeartbeats 4000000 in
theorem c_CR_isReduced_Reducer {Po : mP}  (hT : Typ Po) (hX : XR Po)   : EvP 2 55 [.ref 291] Po (fun r P' => (∃ x : Int32, r = some (.int x) ∧ (0 ≤ x.toInt ∧ x.toInt ≤ 1)) ∧ P' = Po) := by
  refine EvP.of qm_55 (Nat.le_of_ble_eq_true rfl) rfl ?_
  show MEvP _ none q_55 0 [(0, .ref 291)] [] _ 0 0 _
  refine mp_a (a_aload_n dX3_isReduced_0 rfl) (mpp 1 rfl ?_)
  have g1 := ti_full (fv Po 291 0)
  refine mt_getI (i := 24) (k := 0) hT dX3_isReduced_1 rfl rl_291 (by decide) rfl (by decide) rfl (fun g2 g3 => mpp 4 rfl ?_)
  refine mp_Tb (t := 21) (j_if_ne dX3_isReduced_4) (by decide) (fun c4 => ?_) (fun c4 => mpp 7 rfl ?_)
  · have c4 : (fv Po 291 0).toInt ≠ 0 := ti_ne c4
    refine mp_a (a_aload_n dX3_isReduced_21 rfl) (mpp 22 rfl ?_)
    have g5 : (0 : Int) ≤ (fv Po 291 1).toInt ∧ (fv Po 291 1).toInt ≤ 8 := Typ.rng hT rl_291 (by decide) (by decide) rfl
    refine mt_getI (i := 28) (k := 1) hT dX3_isReduced_22 rfl rl_291 (by decide) rfl (by decide) rfl (fun g6 g7 => mpp 25 rfl ?_)
    refine mp_a (a_iconst (v := 2) dX3_isReduced_25 rfl) (mpp 26 rfl ?_)
    refine mp_Tb (t := 71) (j_icmp_ne dX3_isReduced_26) (by decide) (fun c8 => ?_) (fun c8 => mpp 29 rfl ?_)
    · have c8 : (fv Po 291 1).toInt ≠ 2 := ti_ne c8
      refine mp_a (a_iconst (v := 0) dX3_isReduced_71 rfl) (mpp 72 rfl ?_)
      have u9 : 0 ≤ (0 : Int) ∧ (0 : Int) ≤ 1 := by omega
      exact mp_iret ⟨⟨_, rfl, u9⟩, rfl⟩ dX3_isReduced_72 (Or.inr ⟨rfl, by decide⟩)
    · have c8 : (fv Po 291 1).toInt = 2 := ti_ne_n c8
      refine mp_a (a_aload_n dX3_isReduced_29 rfl) (mpp 30 rfl ?_)
      refine mt_getU (i := 9) (k := 2) (A := 292) hT dX3_isReduced_30 rfl rl_291 (by decide) rfl (by decide) rfl un_11 (mpp 33 rfl ?_)
      refine mp_a (a_iconst (v := 0) dX3_isReduced_33 rfl) (mpp 34 rfl ?_)
      refine mp_calls (i := 39) (q' := q_12) (As := [.ref 292, .int 0]) (rest := []) dX3_isReduced_34 rfl qm_12 (by decide) rfl (Nat.le_of_ble_eq_true rfl) rfl ⟨rfl, rfl⟩ ⟨Nat.le_of_ble_eq_true rfl, Nat.le_of_ble_eq_true rfl⟩ (EvP.mono (by decide) (c_F_at_rsizes hT hX )) (fun r10 P11 g12 => mpp 37 rfl ?_)
      obtain ⟨⟨x13, rfl, g14⟩, e15⟩ := g12
      have e15 := e15.symm
      subst e15
      have wx13 := ti_full x13
      show MEvP _ none q_55 37 [(0, .ref 291)] [.int x13] _ _ _ _
      refine mp_a (a_aload_n dX3_isReduced_37 rfl) (mpp 38 rfl ?_)
      refine mt_getU (i := 9) (k := 2) (A := 292) hT dX3_isReduced_38 rfl rl_291 (by decide) rfl (by decide) rfl un_11 (mpp 41 rfl ?_)
      refine mp_a (a_iconst (v := 1) dX3_isReduced_41 rfl) (mpp 42 rfl ?_)
      refine mp_calls (i := 39) (q' := q_12) (As := [.ref 292, .int 1]) (rest := [.int x13]) dX3_isReduced_42 rfl qm_12 (by decide) rfl (Nat.le_of_ble_eq_true rfl) rfl ⟨rfl, rfl⟩ ⟨Nat.le_of_ble_eq_true rfl, Nat.le_of_ble_eq_true rfl⟩ (EvP.mono (by decide) (c_F_at_rsizes hT hX )) (fun r16 P17 g18 => mpp 45 rfl ?_)
      obtain ⟨⟨x19, rfl, g20⟩, e21⟩ := g18
      have e21 := e21.symm
      subst e21
      have wx19 := ti_full x19
      show MEvP _ none q_55 45 [(0, .ref 291)] [.int x19, .int x13] _ _ _ _
      refine mp_Tb (t := 71) (j_icmp_ne dX3_isReduced_45) (by decide) (fun c22 => ?_) (fun c22 => mpp 48 rfl ?_)
      · have c22 : x13.toInt ≠ x19.toInt := ti_ne c22
        refine mp_a (a_iconst (v := 0) dX3_isReduced_71 rfl) (mpp 72 rfl ?_)
        have u23 : 0 ≤ (0 : Int) ∧ (0 : Int) ≤ 1 := by omega
        exact mp_iret ⟨⟨_, rfl, u23⟩, rfl⟩ dX3_isReduced_72 (Or.inr ⟨rfl, by decide⟩)
      · have c22 : x13.toInt = x19.toInt := ti_ne_n c22
        refine mp_a (a_aload_n dX3_isReduced_48 rfl) (mpp 49 rfl ?_)
        refine mt_getU (i := 15) (k := 3) (A := 293) hT dX3_isReduced_49 rfl rl_291 (by decide) rfl (by decide) rfl un_12 (mpp 52 rfl ?_)
        refine mp_a (a_iconst (v := 0) dX3_isReduced_52 rfl) (mpp 53 rfl ?_)
        refine mp_calls (i := 39) (q' := q_12) (As := [.ref 293, .int 0]) (rest := []) dX3_isReduced_53 rfl qm_12 (by decide) rfl (Nat.le_of_ble_eq_true rfl) rfl ⟨rfl, rfl⟩ ⟨Nat.le_of_ble_eq_true rfl, Nat.le_of_ble_eq_true rfl⟩ (EvP.mono (by decide) (c_F_at_rcreases hT hX )) (fun r24 P25 g26 => mpp 56 rfl ?_)
        obtain ⟨⟨x27, rfl, g28⟩, e29⟩ := g26
        have e29 := e29.symm
        subst e29
        have wx27 := ti_full x27
        show MEvP _ none q_55 56 [(0, .ref 291)] [.int x27] _ _ _ _
        refine mp_a (a_aload_n dX3_isReduced_56 rfl) (mpp 57 rfl ?_)
        refine mt_getU (i := 15) (k := 3) (A := 293) hT dX3_isReduced_57 rfl rl_291 (by decide) rfl (by decide) rfl un_12 (mpp 60 rfl ?_)
        refine mp_a (a_iconst (v := 1) dX3_isReduced_60 rfl) (mpp 61 rfl ?_)
        refine mp_calls (i := 39) (q' := q_12) (As := [.ref 293, .int 1]) (rest := [.int x27]) dX3_isReduced_61 rfl qm_12 (by decide) rfl (Nat.le_of_ble_eq_true rfl) rfl ⟨rfl, rfl⟩ ⟨Nat.le_of_ble_eq_true rfl, Nat.le_of_ble_eq_true rfl⟩ (EvP.mono (by decide) (c_F_at_rcreases hT hX )) (fun r30 P31 g32 => mpp 64 rfl ?_)
        obtain ⟨⟨x33, rfl, g34⟩, e35⟩ := g32
        have e35 := e35.symm
        subst e35
        have wx33 := ti_full x33
        show MEvP _ none q_55 64 [(0, .ref 291)] [.int x33, .int x27] _ _ _ _
        refine mp_Tb (t := 71) (j_icmp_ne dX3_isReduced_64) (by decide) (fun c36 => ?_) (fun c36 => mpp 67 rfl ?_)
        · have c36 : x27.toInt ≠ x33.toInt := ti_ne c36
          refine mp_a (a_iconst (v := 0) dX3_isReduced_71 rfl) (mpp 72 rfl ?_)
          have u37 : 0 ≤ (0 : Int) ∧ (0 : Int) ≤ 1 := by omega
          exact mp_iret ⟨⟨_, rfl, u37⟩, rfl⟩ dX3_isReduced_72 (Or.inr ⟨rfl, by decide⟩)
        · have c36 : x27.toInt = x33.toInt := ti_ne_n c36
          refine mp_a (a_iconst (v := 1) dX3_isReduced_67 rfl) (mpp 68 rfl ?_)
          refine mp_a (a_goto (t := 72) dX3_isReduced_68 (by decide)) ?_
          have u38 : 0 ≤ (1 : Int) ∧ (1 : Int) ≤ 1 := by omega
          exact mp_iret ⟨⟨_, rfl, u38⟩, rfl⟩ dX3_isReduced_72 (Or.inr ⟨rfl, by decide⟩)
  · have c4 : (fv Po 291 0).toInt = 0 := ti_ne_n c4
    refine mp_a (a_aload_n dX3_isReduced_7 rfl) (mpp 8 rfl ?_)
    have g39 : (0 : Int) ≤ (fv Po 291 1).toInt ∧ (fv Po 291 1).toInt ≤ 8 := Typ.rng hT rl_291 (by decide) (by decide) rfl
    refine mt_getI (i := 28) (k := 1) hT dX3_isReduced_8 rfl rl_291 (by decide) rfl (by decide) rfl (fun g40 g41 => mpp 11 rfl ?_)
    refine mp_a (a_iconst (v := 1) dX3_isReduced_11 rfl) (mpp 12 rfl ?_)
    refine mp_Tb (t := 19) (j_icmp_ne dX3_isReduced_12) (by decide) (fun c42 => ?_) (fun c42 => mpp 15 rfl ?_)
    · have c42 : (fv Po 291 1).toInt ≠ 1 := ti_ne c42
      refine mp_a (a_iconst (v := 0) dX3_isReduced_19 rfl) (mpp 20 rfl ?_)
      have u43 : 0 ≤ (0 : Int) ∧ (0 : Int) ≤ 1 := by omega
      exact mp_iret ⟨⟨_, rfl, u43⟩, rfl⟩ dX3_isReduced_20 (Or.inr ⟨rfl, by decide⟩)
    · have c42 : (fv Po 291 1).toInt = 1 := ti_ne_n c42
      refine mp_a (a_iconst (v := 1) dX3_isReduced_15 rfl) (mpp 16 rfl ?_)
      refine mp_a (a_goto (t := 20) dX3_isReduced_16 (by decide)) ?_
      have u44 : 0 ≤ (1 : Int) ∧ (1 : Int) ≤ 1 := by omega
      exact mp_iret ⟨⟨_, rfl, u44⟩, rfl⟩ dX3_isReduced_20 (Or.inr ⟨rfl, by decide⟩)

set_option maxHeartbeats 4000000 in
theorem c_CR_evenAngles_Reducer_l4 {Po : mP}  (hT : Typ Po) (hX : XR Po)   : ∀ (n : Nat) (v1 : Int32) (v2 : Int32), (0 ≤ v2.toInt) → (2147483647 - v2.toInt).toNat = n → MEvP 1 none q_47 4 [(0, .ref 291), (1, .int v1), (2, .int v2)] [] Po 0 0 (fun r P' => (∃ x : Int32, r = some (.int x) ∧ (True)) ∧ P' = Po) := by
  intro n
  induction n using Nat.strongRecOn with | _ n ih => ?_
  intro v1 v2 i_0 hm
  have w_v1 := ti_full v1
  have w_v2 := ti_full v2
  refine mp_a (a_iload_n dX3_evenAngles_4 rfl) (mpp 5 rfl ?_)
  refine mp_a (a_aload_n dX3_evenAngles_5 rfl) (mpp 6 rfl ?_)
  have g1 : (0 : Int) ≤ (fv Po 291 1).toInt ∧ (fv Po 291 1).toInt ≤ 8 := Typ.rng hT rl_291 (by decide) (by decide) rfl
  refine mt_getI (i := 28) (k := 1) hT dX3_evenAngles_6 rfl rl_291 (by decide) rfl (by decide) rfl (fun g2 g3 => mpp 9 rfl ?_)
  refine mp_Tb (t := 29) (j_icmp_ge dX3_evenAngles_9) (by decide) (fun c4 => ?_) (fun c4 => mpp 12 rfl ?_)
  · have c4 : v2.toInt ≥ (fv Po 291 1).toInt := ti_ge c4
    refine mp_a (a_iload_n dX3_evenAngles_29 rfl) (mpp 30 rfl ?_)
    exact mp_iret ⟨⟨_, rfl, trivial⟩, rfl⟩ dX3_evenAngles_30 (Or.inl rfl)
  · have c4 : v2.toInt < (fv Po 291 1).toInt := ti_ge_n c4
    refine mp_a (a_iload_n dX3_evenAngles_12 rfl) (mpp 13 rfl ?_)
    refine mp_a (a_aload_n dX3_evenAngles_13 rfl) (mpp 14 rfl ?_)
    refine mt_getU (i := 9) (k := 2) (A := 292) hT dX3_evenAngles_14 rfl rl_291 (by decide) rfl (by decide) rfl un_11 (mpp 17 rfl ?_)
    refine mp_a (a_iload_n dX3_evenAngles_17 rfl) (mpp 18 rfl ?_)
    refine mp_calls (i := 39) (q' := q_12) (As := [.ref 292, .int v2]) (rest := [.int v1]) dX3_evenAngles_18 rfl qm_12 (by decide) rfl (Nat.le_of_ble_eq_true rfl) rfl ⟨rfl, rfl⟩ ⟨Nat.le_of_ble_eq_true rfl, Nat.le_of_ble_eq_true rfl⟩ (EvP.mono (by decide) (c_F_at_rsizes hT hX )) (fun r5 P6 g7 => mpp 21 rfl ?_)
    obtain ⟨⟨x8, rfl, g9⟩, e10⟩ := g7
    have e10 := e10.symm
    subst e10
    have wx8 := ti_full x8
    show MEvP _ none q_47 21 [(0, .ref 291), (1, .int v1), (2, .int v2)] [.int x8, .int v1] _ _ _ _
    obtain ⟨z11, h12⟩ := ti_ex (v1 + x8 : Int32)
    have wz11 := ti_full z11
    refine mp_t (s_iadd (v := z11) dX3_evenAngles_21 h12) (mpp 22 rfl ?_)
    try have e13 : z11.toInt = v1.toInt + x8.toInt := ti_addz h12 rfl rfl (by omega) (by omega)
    refine mp_a (a_istore_n (L' := [(1, .int z11), (0, .ref 291), (2, .int v2)]) dX3_evenAngles_22 (by decide) rfl) (mpp 23 rfl ?_)
    obtain ⟨z14, h15⟩ := ti_ex (v2 + 2 : Int32)
    have wz14 := ti_full z14
    refine mp_a (a_iinc (v := z14) (L' := [(2, .int z14), (1, .int z11), (0, .ref 291)]) dX3_evenAngles_23 (by decide) rfl h15 rfl) (mpp 26 rfl ?_)
    try have e16 : z14.toInt = v2.toInt + 2 := ti_addz h15 rfl rfl (by omega) (by omega)
    refine mp_a (a_goto (t := 4) dX3_evenAngles_26 (by decide)) ?_
    refine MEvP.less (L := [(0, .ref 291), (1, .int z11), (2, .int z14)]) rfl rfl ⟨rfl, rfl, rfl, trivial⟩ ?_
    have i17 : 0 ≤ z14.toInt := by omega
    exact ih _ (by omega) _ _ i17 rfl

set_option maxHeartbeats 4000000 in
theorem c_CR_evenAngles_Reducer {Po : mP}  (hT : Typ Po) (hX : XR Po)   : EvP 2 47 [.ref 291] Po (fun r P' => (∃ x : Int32, r = some (.int x) ∧ (True)) ∧ P' = Po) := by
  refine EvP.of qm_47 (Nat.le_of_ble_eq_true rfl) rfl ?_
  show MEvP _ none q_47 0 [(0, .ref 291)] [] _ 0 0 _
  refine mp_a (a_iconst (v := 0) dX3_evenAngles_0 rfl) (mpp 1 rfl ?_)
  refine mp_a (a_istore_n (L' := [(1, .int 0), (0, .ref 291)]) dX3_evenAngles_1 (by decide) rfl) (mpp 2 rfl ?_)
  refine mp_a (a_iconst (v := 0) dX3_evenAngles_2 rfl) (mpp 3 rfl ?_)
  refine mp_a (a_istore_n (L' := [(2, .int 0), (1, .int 0), (0, .ref 291)]) dX3_evenAngles_3 (by decide) rfl) (mpp 4 rfl ?_)
  refine MEvP.less (L := [(0, .ref 291), (1, .int 0), (2, .int 0)]) rfl rfl ⟨rfl, rfl, rfl, trivial⟩ ?_
  have i1 : 0 ≤ (0 : Int) := by omega
  exact c_CR_evenAngles_Reducer_l4 hT hX   _ _ _ i1 rfl

set_option maxHeartbeats 4000000 in
theorem c_CR_hasSmallAngleOfOneKind_Reducer_l2 {Po : mP}  (hT : Typ Po) (hX : XR Po)   : ∀ (n : Nat) (v1 : Int32), (0 ≤ v1.toInt) → (2147483647 - v1.toInt).toNat = n → MEvP 1 none q_48 2 [(0, .ref 291), (1, .int v1)] [] Po 0 0 (fun r P' => (∃ x : Int32, r = some (.int x) ∧ (0 ≤ x.toInt ∧ x.toInt ≤ 1)) ∧ P' = Po) := by
  intro n
  induction n using Nat.strongRecOn with | _ n ih => ?_
  intro v1 i_0 hm
  have w_v1 := ti_full v1
  refine mp_a (a_iload_n dX3_hasSmallAngleOfOneKind_2 rfl) (mpp 3 rfl ?_)
  refine mp_a (a_aload_n dX3_hasSmallAngleOfOneKind_3 rfl) (mpp 4 rfl ?_)
  have g1 : (0 : Int) ≤ (fv Po 291 1).toInt ∧ (fv Po 291 1).toInt ≤ 8 := Typ.rng hT rl_291 (by decide) (by decide) rfl
  refine mt_getI (i := 28) (k := 1) hT dX3_hasSmallAngleOfOneKind_4 rfl rl_291 (by decide) rfl (by decide) rfl (fun g2 g3 => mpp 7 rfl ?_)
  refine mp_Tb (t := 92) (j_icmp_ge dX3_hasSmallAngleOfOneKind_7) (by decide) (fun c4 => ?_) (fun c4 => mpp 10 rfl ?_)
  · have c4 : v1.toInt ≥ (fv Po 291 1).toInt := ti_ge c4
    refine mp_a (a_iconst (v := 0) dX3_hasSmallAngleOfOneKind_92 rfl) (mpp 93 rfl ?_)
    have u5 : 0 ≤ (0 : Int) ∧ (0 : Int) ≤ 1 := by omega
    exact mp_iret ⟨⟨_, rfl, u5⟩, rfl⟩ dX3_hasSmallAngleOfOneKind_93 (Or.inr ⟨rfl, by decide⟩)
  · have c4 : v1.toInt < (fv Po 291 1).toInt := ti_ge_n c4
    refine mp_a (a_aload_n dX3_hasSmallAngleOfOneKind_10 rfl) (mpp 11 rfl ?_)
    refine mt_getU (i := 9) (k := 2) (A := 292) hT dX3_hasSmallAngleOfOneKind_11 rfl rl_291 (by decide) rfl (by decide) rfl un_11 (mpp 14 rfl ?_)
    refine mp_a (a_iload_n dX3_hasSmallAngleOfOneKind_14 rfl) (mpp 15 rfl ?_)
    refine mp_calls (i := 39) (q' := q_12) (As := [.ref 292, .int v1]) (rest := []) dX3_hasSmallAngleOfOneKind_15 rfl qm_12 (by decide) rfl (Nat.le_of_ble_eq_true rfl) rfl ⟨rfl, rfl⟩ ⟨Nat.le_of_ble_eq_true rfl, Nat.le_of_ble_eq_true rfl⟩ (EvP.mono (by decide) (c_F_at_rsizes hT hX )) (fun r6 P7 g8 => mpp 18 rfl ?_)
    obtain ⟨⟨x9, rfl, g10⟩, e11⟩ := g8
    have e11 := e11.symm
    subst e11
    have wx9 := ti_full x9
    show MEvP _ none q_48 18 [(0, .ref 291), (1, .int v1)] [.int x9] _ _ _ _
    refine mp_a (a_istore_n (L' := [(2, .int x9), (0, .ref 291), (1, .int v1)]) dX3_hasSmallAngleOfOneKind_18 (by decide) rfl) (mpp 19 rfl ?_)
    refine mp_a (a_iload_n dX3_hasSmallAngleOfOneKind_19 rfl) (mpp 20 rfl ?_)
    refine mp_a (a_aload_n dX3_hasSmallAngleOfOneKind_20 rfl) (mpp 21 rfl ?_)
    refine mt_getU (i := 9) (k := 2) (A := 292) hT dX3_hasSmallAngleOfOneKind_21 rfl rl_291 (by decide) rfl (by decide) rfl un_11 (mpp 24 rfl ?_)
    refine mp_a (a_aload_n dX3_hasSmallAngleOfOneKind_24 rfl) (mpp 25 rfl ?_)
    refine mp_a (a_iload_n dX3_hasSmallAngleOfOneKind_25 rfl) (mpp 26 rfl ?_)
    refine mt_callv (i := 80) (q' := q_49) (As := [.int v1]) (rest := [.ref 292, .int x9]) hT dX3_hasSmallAngleOfOneKind_26 rfl qm_49 (by decide) rfl rl_291 (by decide) rfl (Nat.le_of_ble_eq_true rfl) rfl ⟨rfl, rfl⟩ ⟨Nat.le_of_ble_eq_true rfl, Nat.le_of_ble_eq_true rfl⟩ (EvP.mono (by decide) (c_CR_before_Reducer hT hX )) (fun r12 P13 g14 => mpp 29 rfl ?_)
    obtain ⟨⟨x15, rfl, g16⟩, e17⟩ := g14
    have e17 := e17.symm
    subst e17
    have wx15 := ti_full x15
    show MEvP _ none q_48 29 [(2, .int x9), (0, .ref 291), (1, .int v1)] [.int x15, .ref 292, .int x9] _ _ _ _
    refine mp_calls (i := 39) (q' := q_12) (As := [.ref 292, .int x15]) (rest := [.int x9]) dX3_hasSmallAngleOfOneKind_29 rfl qm_12 (by decide) rfl (Nat.le_of_ble_eq_true rfl) rfl ⟨rfl, rfl⟩ ⟨Nat.le_of_ble_eq_true rfl, Nat.le_of_ble_eq_true rfl⟩ (EvP.mono (by decide) (c_F_at_rsizes hT hX )) (fun r18 P19 g20 => mpp 32 rfl ?_)
    obtain ⟨⟨x21, rfl, g22⟩, e23⟩ := g20
    have e23 := e23.symm
    subst e23
    have wx21 := ti_full x21
    show MEvP _ none q_48 32 [(2, .int x9), (0, .ref 291), (1, .int v1)] [.int x21, .int x9] _ _ _ _
    refine mp_Tb (t := 55) (j_icmp_ge dX3_hasSmallAngleOfOneKind_32) (by decide) (fun c24 => ?_) (fun c24 => mpp 35 rfl ?_)
    · have c24 : x9.toInt ≥ x21.toInt := ti_ge c24
      refine mp_a (a_iconst (v := 0) dX3_hasSmallAngleOfOneKind_55 rfl) (mpp 56 rfl ?_)
      refine mp_a (a_istore_n (L' := [(3, .int 0), (2, .int x9), (0, .ref 291), (1, .int v1)]) dX3_hasSmallAngleOfOneKind_56 (by decide) rfl) (mpp 57 rfl ?_)
      refine mp_a (a_iload_n dX3_hasSmallAngleOfOneKind_57 rfl) (mpp 58 rfl ?_)
      refine mp_Tt (t := 86) (j_if_eq dX3_hasSmallAngleOfOneKind_58) (by decide) (by decide) ?_
      obtain ⟨z25, h26⟩ := ti_ex (v1 + 1 : Int32)
      have wz25 := ti_full z25
      refine mp_a (a_iinc (v := z25) (L' := [(1, .int z25), (3, .int 0), (2, .int x9), (0, .ref 291)]) dX3_hasSmallAngleOfOneKind_86 (by decide) rfl h26 rfl) (mpp 89 rfl ?_)
      try have e27 : z25.toInt = v1.toInt + 1 := ti_addz h26 rfl rfl (by omega) (by omega)
      refine mp_a (a_goto (t := 2) dX3_hasSmallAngleOfOneKind_89 (by decide)) ?_
      refine MEvP.less (L := [(0, .ref 291), (1, .int z25)]) rfl rfl ⟨rfl, rfl, trivial⟩ ?_
      have i28 : 0 ≤ z25.toInt := by omega
      exact ih _ (by omega) _ i28 rfl
    · have c24 : x9.toInt < x21.toInt := ti_ge_n c24
      refine mp_a (a_iload_n dX3_hasSmallAngleOfOneKind_35 rfl) (mpp 36 rfl ?_)
      refine mp_a (a_aload_n dX3_hasSmallAngleOfOneKind_36 rfl) (mpp 37 rfl ?_)
      refine mt_getU (i := 9) (k := 2) (A := 292) hT dX3_hasSmallAngleOfOneKind_37 rfl rl_291 (by decide) rfl (by decide) rfl un_11 (mpp 40 rfl ?_)
      refine mp_a (a_aload_n dX3_hasSmallAngleOfOneKind_40 rfl) (mpp 41 rfl ?_)
      refine mp_a (a_iload_n dX3_hasSmallAngleOfOneKind_41 rfl) (mpp 42 rfl ?_)
      refine mt_callv (i := 83) (q' := q_50) (As := [.int v1]) (rest := [.ref 292, .int x9]) hT dX3_hasSmallAngleOfOneKind_42 rfl qm_50 (by decide) rfl rl_291 (by decide) rfl (Nat.le_of_ble_eq_true rfl) rfl ⟨rfl, rfl⟩ ⟨Nat.le_of_ble_eq_true rfl, Nat.le_of_ble_eq_true rfl⟩ (EvP.mono (by decide) (c_CR_after_Reducer hT hX )) (fun r29 P30 g31 => mpp 45 rfl ?_)
      obtain ⟨⟨x32, rfl, g33⟩, e34⟩ := g31
      have e34 := e34.symm
      subst e34
      have wx32 := ti_full x32
      show MEvP _ none q_48 45 [(2, .int x9), (0, .ref 291), (1, .int v1)] [.int x32, .ref 292, .int x9] _ _ _ _
      refine mp_calls (i := 39) (q' := q_12) (As := [.ref 292, .int x32]) (rest := [.int x9]) dX3_hasSmallAngleOfOneKind_45 rfl qm_12 (by decide) rfl (Nat.le_of_ble_eq_true rfl) rfl ⟨rfl, rfl⟩ ⟨Nat.le_of_ble_eq_true rfl, Nat.le_of_ble_eq_true rfl⟩ (EvP.mono (by decide) (c_F_at_rsizes hT hX )) (fun r35 P36 g37 => mpp 48 rfl ?_)
      obtain ⟨⟨x38, rfl, g39⟩, e40⟩ := g37
      have e40 := e40.symm
      subst e40
      have wx38 := ti_full x38
      show MEvP _ none q_48 48 [(2, .int x9), (0, .ref 291), (1, .int v1)] [.int x38, .int x9] _ _ _ _
      refine mp_Tb (t := 55) (j_icmp_ge dX3_hasSmallAngleOfOneKind_48) (by decide) (fun c41 => ?_) (fun c41 => mpp 51 rfl ?_)
      · have c41 : x9.toInt ≥ x38.toInt := ti_ge c41
        refine mp_a (a_iconst (v := 0) dX3_hasSmallAngleOfOneKind_55 rfl) (mpp 56 rfl ?_)
        refine mp_a (a_istore_n (L' := [(3, .int 0), (2, .int x9), (0, .ref 291), (1, .int v1)]) dX3_hasSmallAngleOfOneKind_56 (by decide) rfl) (mpp 57 rfl ?_)
        refine mp_a (a_iload_n dX3_hasSmallAngleOfOneKind_57 rfl) (mpp 58 rfl ?_)
        refine mp_Tt (t := 86) (j_if_eq dX3_hasSmallAngleOfOneKind_58) (by decide) (by decide) ?_
        obtain ⟨z42, h43⟩ := ti_ex (v1 + 1 : Int32)
        have wz42 := ti_full z42
        refine mp_a (a_iinc (v := z42) (L' := [(1, .int z42), (3, .int 0), (2, .int x9), (0, .ref 291)]) dX3_hasSmallAngleOfOneKind_86 (by decide) rfl h43 rfl) (mpp 89 rfl ?_)
        try have e44 : z42.toInt = v1.toInt + 1 := ti_addz h43 rfl rfl (by omega) (by omega)
        refine mp_a (a_goto (t := 2) dX3_hasSmallAngleOfOneKind_89 (by decide)) ?_
        refine MEvP.less (L := [(0, .ref 291), (1, .int z42)]) rfl rfl ⟨rfl, rfl, trivial⟩ ?_
        have i45 : 0 ≤ z42.toInt := by omega
        exact ih _ (by omega) _ i45 rfl
      · have c41 : x9.toInt < x38.toInt := ti_ge_n c41
        refine mp_a (a_iconst (v := 1) dX3_hasSmallAngleOfOneKind_51 rfl) (mpp 52 rfl ?_)
        refine mp_a (a_goto (t := 56) dX3_hasSmallAngleOfOneKind_52 (by decide)) ?_
        refine mp_a (a_istore_n (L' := [(3, .int 1), (2, .int x9), (0, .ref 291), (1, .int v1)]) dX3_hasSmallAngleOfOneKind_56 (by decide) rfl) (mpp 57 rfl ?_)
        refine mp_a (a_iload_n dX3_hasSmallAngleOfOneKind_57 rfl) (mpp 58 rfl ?_)
        refine mp_Tf (t := 86) (j_if_eq dX3_hasSmallAngleOfOneKind_58) (by decide) (by decide) (mpp 61 rfl ?_)
        refine mp_a (a_aload_n dX3_hasSmallAngleOfOneKind_61 rfl) (mpp 62 rfl ?_)
        refine mt_getU (i := 15) (k := 3) (A := 293) hT dX3_hasSmallAngleOfOneKind_62 rfl rl_291 (by decide) rfl (by decide) rfl un_12 (mpp 65 rfl ?_)
        refine mp_a (a_iload_n dX3_hasSmallAngleOfOneKind_65 rfl) (mpp 66 rfl ?_)
        refine mp_calls (i := 39) (q' := q_12) (As := [.ref 293, .int v1]) (rest := []) dX3_hasSmallAngleOfOneKind_66 rfl qm_12 (by decide) rfl (Nat.le_of_ble_eq_true rfl) rfl ⟨rfl, rfl⟩ ⟨Nat.le_of_ble_eq_true rfl, Nat.le_of_ble_eq_true rfl⟩ (EvP.mono (by decide) (c_F_at_rcreases hT hX )) (fun r46 P47 g48 => mpp 69 rfl ?_)
        obtain ⟨⟨x49, rfl, g50⟩, e51⟩ := g48
        have e51 := e51.symm
        subst e51
        have wx49 := ti_full x49
        show MEvP _ none q_48 69 [(3, .int 1), (2, .int x9), (0, .ref 291), (1, .int v1)] [.int x49] _ _ _ _
        refine mp_a (a_aload_n dX3_hasSmallAngleOfOneKind_69 rfl) (mpp 70 rfl ?_)
        refine mt_getU (i := 15) (k := 3) (A := 293) hT dX3_hasSmallAngleOfOneKind_70 rfl rl_291 (by decide) rfl (by decide) rfl un_12 (mpp 73 rfl ?_)
        refine mp_a (a_aload_n dX3_hasSmallAngleOfOneKind_73 rfl) (mpp 74 rfl ?_)
        refine mp_a (a_iload_n dX3_hasSmallAngleOfOneKind_74 rfl) (mpp 75 rfl ?_)
        refine mt_callv (i := 83) (q' := q_50) (As := [.int v1]) (rest := [.ref 293, .int x49]) hT dX3_hasSmallAngleOfOneKind_75 rfl qm_50 (by decide) rfl rl_291 (by decide) rfl (Nat.le_of_ble_eq_true rfl) rfl ⟨rfl, rfl⟩ ⟨Nat.le_of_ble_eq_true rfl, Nat.le_of_ble_eq_true rfl⟩ (EvP.mono (by decide) (c_CR_after_Reducer hT hX )) (fun r52 P53 g54 => mpp 78 rfl ?_)
        obtain ⟨⟨x55, rfl, g56⟩, e57⟩ := g54
        have e57 := e57.symm
        subst e57
        have wx55 := ti_full x55
        show MEvP _ none q_48 78 [(3, .int 1), (2, .int x9), (0, .ref 291), (1, .int v1)] [.int x55, .ref 293, .int x49] _ _ _ _
        refine mp_calls (i := 39) (q' := q_12) (As := [.ref 293, .int x55]) (rest := [.int x49]) dX3_hasSmallAngleOfOneKind_78 rfl qm_12 (by decide) rfl (Nat.le_of_ble_eq_true rfl) rfl ⟨rfl, rfl⟩ ⟨Nat.le_of_ble_eq_true rfl, Nat.le_of_ble_eq_true rfl⟩ (EvP.mono (by decide) (c_F_at_rcreases hT hX )) (fun r58 P59 g60 => mpp 81 rfl ?_)
        obtain ⟨⟨x61, rfl, g62⟩, e63⟩ := g60
        have e63 := e63.symm
        subst e63
        have wx61 := ti_full x61
        show MEvP _ none q_48 81 [(3, .int 1), (2, .int x9), (0, .ref 291), (1, .int v1)] [.int x61, .int x49] _ _ _ _
        refine mp_Tb (t := 86) (j_icmp_ne dX3_hasSmallAngleOfOneKind_81) (by decide) (fun c64 => ?_) (fun c64 => mpp 84 rfl ?_)
        · have c64 : x49.toInt ≠ x61.toInt := ti_ne c64
          obtain ⟨z65, h66⟩ := ti_ex (v1 + 1 : Int32)
          have wz65 := ti_full z65
          refine mp_a (a_iinc (v := z65) (L' := [(1, .int z65), (3, .int 1), (2, .int x9), (0, .ref 291)]) dX3_hasSmallAngleOfOneKind_86 (by decide) rfl h66 rfl) (mpp 89 rfl ?_)
          try have e67 : z65.toInt = v1.toInt + 1 := ti_addz h66 rfl rfl (by omega) (by omega)
          refine mp_a (a_goto (t := 2) dX3_hasSmallAngleOfOneKind_89 (by decide)) ?_
          refine MEvP.less (L := [(0, .ref 291), (1, .int z65)]) rfl rfl ⟨rfl, rfl, trivial⟩ ?_
          have i68 : 0 ≤ z65.toInt := by omega
          exact ih _ (by omega) _ i68 rfl
        · have c64 : x49.toInt = x61.toInt := ti_ne_n c64
          refine mp_a (a_iconst (v := 1) dX3_hasSmallAngleOfOneKind_84 rfl) (mpp 85 rfl ?_)
          have u69 : 0 ≤ (1 : Int) ∧ (1 : Int) ≤ 1 := by omega
          exact mp_iret ⟨⟨_, rfl, u69⟩, rfl⟩ dX3_hasSmallAngleOfOneKind_85 (Or.inr ⟨rfl, by decide⟩)

set_option maxHeartbeats 4000000 in
theorem c_CR_hasSmallAngleOfOneKind_Reducer {Po : mP}  (hT : Typ Po) (hX : XR Po)   : EvP 2 48 [.ref 291] Po (fun r P' => (∃ x : Int32, r = some (.int x) ∧ (0 ≤ x.toInt ∧ x.toInt ≤ 1)) ∧ P' = Po) := by
  refine EvP.of qm_48 (Nat.le_of_ble_eq_true rfl) rfl ?_
  show MEvP _ none q_48 0 [(0, .ref 291)] [] _ 0 0 _
  refine mp_a (a_iconst (v := 0) dX3_hasSmallAngleOfOneKind_0 rfl) (mpp 1 rfl ?_)
  refine mp_a (a_istore_n (L' := [(1, .int 0), (0, .ref 291)]) dX3_hasSmallAngleOfOneKind_1 (by decide) rfl) (mpp 2 rfl ?_)
  refine MEvP.less (L := [(0, .ref 291), (1, .int 0)]) rfl rfl ⟨rfl, rfl, trivial⟩ ?_
  have i1 : 0 ≤ (0 : Int) := by omega
  exact c_CR_hasSmallAngleOfOneKind_Reducer_l2 hT hX   _ _ i1 rfl

set_option maxHeartbeats 4000000 in
theorem c_CR_whatStandsInTheWay_Reducer_NPiece {Po : mP} {a1_ : Nat} (hT : Typ Po) (hX : XR Po)  (ha1 : rl a1_ = 33) : EvP 4 44 [.ref 291, .ref a1_] Po (fun r P' => (∃ x : Int32, r = some (.int x) ∧ (True)) ∧ Typ P' ∧ KW [640, 641, 704, 768] Po P' ∧ True) := by
  refine EvP.of qm_44 (Nat.le_of_ble_eq_true rfl) rfl ?_
  show MEvP _ none q_44 0 [(0, .ref 291), (1, .ref a1_)] [] _ 0 0 _
  have w1 := np_ar ha1
  refine mp_a (a_aload_n dX3_whatStandsInTheWay_0 rfl) (mpp 1 rfl ?_)
  refine mt_callv (i := 51) (q' := q_42) (As := []) (rest := []) hT dX3_whatStandsInTheWay_1 rfl qm_42 (by decide) rfl ha1 (by decide) rfl (Nat.le_of_ble_eq_true rfl) rfl ⟨rfl, rfl⟩ ⟨Nat.le_of_ble_eq_true rfl, Nat.le_of_ble_eq_true rfl⟩ (EvP.mono (by decide) (c_CP_isUndecided_NPiece hT hX ha1)) (fun r2 P3 g4 => mpp 4 rfl ?_)
  obtain ⟨⟨x5, rfl, g6⟩, e7⟩ := g4
  have e7 := e7.symm
  subst e7
  have wx5 := ti_full x5
  have g6 : 0 ≤ x5.toInt ∧ x5.toInt ≤ 1 := g6
  show MEvP _ none q_44 4 [(0, .ref 291), (1, .ref a1_)] [.int x5] _ _ _ _
  refine mp_Tb (t := 9) (j_if_eq dX3_whatStandsInTheWay_4) (by decide) (fun c8 => ?_) (fun c8 => mpp 7 rfl ?_)
  · have c8 : x5.toInt = 0 := ti_eq c8
    refine mp_a (a_aload_n dX3_whatStandsInTheWay_9 rfl) (mpp 10 rfl ?_)
    refine mp_a (a_aload_n dX3_whatStandsInTheWay_10 rfl) (mpp 11 rfl ?_)
    refine mt_callv (i := 55) (q' := q_45) (As := [.ref a1_]) (rest := []) hT dX3_whatStandsInTheWay_11 rfl qm_45 (by decide) rfl rl_291 (by decide) rfl (Nat.le_of_ble_eq_true rfl) rfl ⟨rfl, rfl⟩ ⟨Nat.le_of_ble_eq_true rfl, Nat.le_of_ble_eq_true rfl⟩ (EvP.mono (by decide) (c_CR_load_Reducer_NPiece hT hX ha1)) (fun r9 P10 g11 => mpp 14 rfl ?_)
    obtain ⟨⟨rfl, g13⟩, hT14, k15, R16⟩ := g11
    have k17 : KW [640, 641, 704, 768] Po P10 := KW.trans KW.refl k15 rfl
    show MEvP _ none q_44 14 [(0, .ref 291), (1, .ref a1_)] [] _ _ _ _
    refine mp_a (a_aload_n dX3_whatStandsInTheWay_14 rfl) (mpp 15 rfl ?_)
    have g19 := ti_full (fv P10 291 0)
    refine mt_getI (i := 24) (k := 0) hT14 dX3_whatStandsInTheWay_15 rfl rl_291 (by decide) rfl (by decide) rfl (fun g20 g21 => mpp 18 rfl ?_)
    refine mp_a (a_iconst (v := 1) dX3_whatStandsInTheWay_18 rfl) (mpp 19 rfl ?_)
    refine mp_Tb (t := 62) (j_icmp_ne dX3_whatStandsInTheWay_19) (by decide) (fun c22 => ?_) (fun c22 => mpp 22 rfl ?_)
    · have c22 : (fv P10 291 0).toInt ≠ 1 := ti_ne c22
      refine mp_a (a_aload_n dX3_whatStandsInTheWay_62 rfl) (mpp 63 rfl ?_)
      refine mt_callv (i := 74) (q' := q_51) (As := []) (rest := []) hT14 dX3_whatStandsInTheWay_63 rfl qm_51 (by decide) rfl rl_291 (by decide) rfl (Nat.le_of_ble_eq_true rfl) rfl ⟨rfl, rfl⟩ ⟨Nat.le_of_ble_eq_true rfl, Nat.le_of_ble_eq_true rfl⟩ (EvP.mono (by decide) (c_CR_reduce_Reducer hT14 (KW.xr k17 hX) )) (fun r23 P24 g25 => mpp 66 rfl ?_)
      obtain ⟨⟨x26, rfl, g27⟩, hT28, k29, R30⟩ := g25
      have k31 : KW [640, 641, 704, 768] Po P24 := KW.trans k17 k29 rfl
      have wx26 := ti_full x26
      show MEvP _ none q_44 66 [(0, .ref 291), (1, .ref a1_)] [.int x26] _ _ _ _
      refine mp_t (s_pop dX3_whatStandsInTheWay_66 rfl) (mpp 67 rfl ?_)
      refine mp_a (a_aload_n dX3_whatStandsInTheWay_67 rfl) (mpp 68 rfl ?_)
      refine mt_callv (i := 77) (q' := q_55) (As := []) (rest := []) hT28 dX3_whatStandsInTheWay_68 rfl qm_55 (by decide) rfl rl_291 (by decide) rfl (Nat.le_of_ble_eq_true rfl) rfl ⟨rfl, rfl⟩ ⟨Nat.le_of_ble_eq_true rfl, Nat.le_of_ble_eq_true rfl⟩ (EvP.mono (by decide) (c_CR_isReduced_Reducer hT28 (KW.xr k31 hX) )) (fun r33 P34 g35 => mpp 71 rfl ?_)
      obtain ⟨⟨x36, rfl, g37⟩, e38⟩ := g35
      have e38 := e38.symm
      subst e38
      have wx36 := ti_full x36
      have g37 : 0 ≤ x36.toInt ∧ x36.toInt ≤ 1 := g37
      show MEvP _ none q_44 71 [(0, .ref 291), (1, .ref a1_)] [.int x36] _ _ _ _
      refine mp_Tb (t := 78) (j_if_eq dX3_whatStandsInTheWay_71) (by decide) (fun c39 => ?_) (fun c39 => mpp 74 rfl ?_)
      · have c39 : x36.toInt = 0 := ti_eq c39
        refine mp_a (a_iconst (v := 5) dX3_whatStandsInTheWay_78 rfl) (mpp 79 rfl ?_)
        exact mp_iret ⟨⟨_, rfl, trivial⟩, hT28, k31, trivial⟩ dX3_whatStandsInTheWay_79 (Or.inl rfl)
      · have c39 : x36.toInt ≠ 0 := ti_eq_n c39
        refine mp_a (a_iconst (v := 0) dX3_whatStandsInTheWay_74 rfl) (mpp 75 rfl ?_)
        refine mp_a (a_goto (t := 79) dX3_whatStandsInTheWay_75 (by decide)) ?_
        exact mp_iret ⟨⟨_, rfl, trivial⟩, hT28, k31, trivial⟩ dX3_whatStandsInTheWay_79 (Or.inl rfl)
    · have c22 : (fv P10 291 0).toInt = 1 := ti_ne_n c22
      refine mp_a (a_aload_n dX3_whatStandsInTheWay_22 rfl) (mpp 23 rfl ?_)
      refine mt_callv (i := 59) (q' := q_47) (As := []) (rest := []) hT14 dX3_whatStandsInTheWay_23 rfl qm_47 (by decide) rfl rl_291 (by decide) rfl (Nat.le_of_ble_eq_true rfl) rfl ⟨rfl, rfl⟩ ⟨Nat.le_of_ble_eq_true rfl, Nat.le_of_ble_eq_true rfl⟩ (EvP.mono (by decide) (c_CR_evenAngles_Reducer hT14 (KW.xr k17 hX) )) (fun r40 P41 g42 => mpp 26 rfl ?_)
      obtain ⟨⟨x43, rfl, g44⟩, e45⟩ := g42
      have e45 := e45.symm
      subst e45
      have wx43 := ti_full x43
      show MEvP _ none q_44 26 [(0, .ref 291), (1, .ref a1_)] [.int x43] _ _ _ _
      refine mp_a (a_bipush (v := 12) dX3_whatStandsInTheWay_26 rfl) (mpp 28 rfl ?_)
      refine mp_Tb (t := 33) (j_icmp_eq dX3_whatStandsInTheWay_28) (by decide) (fun c46 => ?_) (fun c46 => mpp 31 rfl ?_)
      · have c46 : x43.toInt = 12 := ti_eq c46
        refine mp_a (a_aload_n dX3_whatStandsInTheWay_33 rfl) (mpp 34 rfl ?_)
        refine mp_a (a_iconst (v := 1) dX3_whatStandsInTheWay_34 rfl) (mpp 35 rfl ?_)
        refine mt_callv (i := 62) (q' := q_32) (As := [.int 1]) (rest := []) hT14 dX3_whatStandsInTheWay_35 rfl qm_32 (by decide) rfl ha1 (by decide) rfl (Nat.le_of_ble_eq_true rfl) rfl ⟨rfl, rfl⟩ ⟨Nat.le_of_ble_eq_true rfl, Nat.le_of_ble_eq_true rfl⟩ (EvP.mono (by decide) (c_CP_countOf_NPiece hT14 (KW.xr k17 hX) ha1)) (fun r47 P48 g49 => mpp 38 rfl ?_)
        obtain ⟨⟨x50, rfl, g51⟩, e52⟩ := g49
        have e52 := e52.symm
        subst e52
        have wx50 := ti_full x50
        have g51 : 0 ≤ x50.toInt ∧ x50.toInt ≤ 8 := g51
        show MEvP _ none q_44 38 [(0, .ref 291), (1, .ref a1_)] [.int x50] _ _ _ _
        refine mp_a (a_aload_n dX3_whatStandsInTheWay_38 rfl) (mpp 39 rfl ?_)
        refine mp_a (a_iconst (v := 2) dX3_whatStandsInTheWay_39 rfl) (mpp 40 rfl ?_)
        refine mt_callv (i := 62) (q' := q_32) (As := [.int 2]) (rest := [.int x50]) hT14 dX3_whatStandsInTheWay_40 rfl qm_32 (by decide) rfl ha1 (by decide) rfl (Nat.le_of_ble_eq_true rfl) rfl ⟨rfl, rfl⟩ ⟨Nat.le_of_ble_eq_true rfl, Nat.le_of_ble_eq_true rfl⟩ (EvP.mono (by decide) (c_CP_countOf_NPiece hT14 (KW.xr k17 hX) ha1)) (fun r53 P54 g55 => mpp 43 rfl ?_)
        obtain ⟨⟨x56, rfl, g57⟩, e58⟩ := g55
        have e58 := e58.symm
        subst e58
        have wx56 := ti_full x56
        have g57 : 0 ≤ x56.toInt ∧ x56.toInt ≤ 8 := g57
        show MEvP _ none q_44 43 [(0, .ref 291), (1, .ref a1_)] [.int x56, .int x50] _ _ _ _
        obtain ⟨z59, h60⟩ := ti_ex (x50 - x56 : Int32)
        have wz59 := ti_full z59
        refine mp_t (s_isub (v := z59) dX3_whatStandsInTheWay_43 h60) (mpp 44 rfl ?_)
        try have e61 : z59.toInt = x50.toInt - x56.toInt := ti_subz h60 rfl rfl (by omega) (by omega)
        obtain ⟨z62, h63⟩ := ti_ex (if 0 ≤ z59 then z59 else 0 - z59 : Int32)
        have wz62 := ti_full z62
        refine mp_abs (i := 66) (k := 0) (v := z62) dX3_whatStandsInTheWay_44 rfl (Nat.le_of_ble_eq_true rfl) h63 ⟨Nat.le_of_ble_eq_true rfl, Nat.le_of_ble_eq_true rfl⟩ (mpp 47 rfl ?_)
        refine mp_a (a_iconst (v := 2) dX3_whatStandsInTheWay_47 rfl) (mpp 48 rfl ?_)
        refine mp_Tb (t := 53) (j_icmp_eq dX3_whatStandsInTheWay_48) (by decide) (fun c64 => ?_) (fun c64 => mpp 51 rfl ?_)
        · have c64 : z62.toInt = 2 := ti_eq c64
          refine mp_a (a_aload_n dX3_whatStandsInTheWay_53 rfl) (mpp 54 rfl ?_)
          refine mt_callv (i := 71) (q' := q_48) (As := []) (rest := []) hT14 dX3_whatStandsInTheWay_54 rfl qm_48 (by decide) rfl rl_291 (by decide) rfl (Nat.le_of_ble_eq_true rfl) rfl ⟨rfl, rfl⟩ ⟨Nat.le_of_ble_eq_true rfl, Nat.le_of_ble_eq_true rfl⟩ (EvP.mono (by decide) (c_CR_hasSmallAngleOfOneKind_Reducer hT14 (KW.xr k17 hX) )) (fun r65 P66 g67 => mpp 57 rfl ?_)
          obtain ⟨⟨x68, rfl, g69⟩, e70⟩ := g67
          have e70 := e70.symm
          subst e70
          have wx68 := ti_full x68
          have g69 : 0 ≤ x68.toInt ∧ x68.toInt ≤ 1 := g69
          show MEvP _ none q_44 57 [(0, .ref 291), (1, .ref a1_)] [.int x68] _ _ _ _
          refine mp_Tb (t := 62) (j_if_eq dX3_whatStandsInTheWay_57) (by decide) (fun c71 => ?_) (fun c71 => mpp 60 rfl ?_)
          · have c71 : x68.toInt = 0 := ti_eq c71
            refine mp_a (a_aload_n dX3_whatStandsInTheWay_62 rfl) (mpp 63 rfl ?_)
            refine mt_callv (i := 74) (q' := q_51) (As := []) (rest := []) hT14 dX3_whatStandsInTheWay_63 rfl qm_51 (by decide) rfl rl_291 (by decide) rfl (Nat.le_of_ble_eq_true rfl) rfl ⟨rfl, rfl⟩ ⟨Nat.le_of_ble_eq_true rfl, Nat.le_of_ble_eq_true rfl⟩ (EvP.mono (by decide) (c_CR_reduce_Reducer hT14 (KW.xr k17 hX) )) (fun r72 P73 g74 => mpp 66 rfl ?_)
            obtain ⟨⟨x75, rfl, g76⟩, hT77, k78, R79⟩ := g74
            have k80 : KW [640, 641, 704, 768] Po P73 := KW.trans k17 k78 rfl
            have wx75 := ti_full x75
            show MEvP _ none q_44 66 [(0, .ref 291), (1, .ref a1_)] [.int x75] _ _ _ _
            refine mp_t (s_pop dX3_whatStandsInTheWay_66 rfl) (mpp 67 rfl ?_)
            refine mp_a (a_aload_n dX3_whatStandsInTheWay_67 rfl) (mpp 68 rfl ?_)
            refine mt_callv (i := 77) (q' := q_55) (As := []) (rest := []) hT77 dX3_whatStandsInTheWay_68 rfl qm_55 (by decide) rfl rl_291 (by decide) rfl (Nat.le_of_ble_eq_true rfl) rfl ⟨rfl, rfl⟩ ⟨Nat.le_of_ble_eq_true rfl, Nat.le_of_ble_eq_true rfl⟩ (EvP.mono (by decide) (c_CR_isReduced_Reducer hT77 (KW.xr k80 hX) )) (fun r82 P83 g84 => mpp 71 rfl ?_)
            obtain ⟨⟨x85, rfl, g86⟩, e87⟩ := g84
            have e87 := e87.symm
            subst e87
            have wx85 := ti_full x85
            have g86 : 0 ≤ x85.toInt ∧ x85.toInt ≤ 1 := g86
            show MEvP _ none q_44 71 [(0, .ref 291), (1, .ref a1_)] [.int x85] _ _ _ _
            refine mp_Tb (t := 78) (j_if_eq dX3_whatStandsInTheWay_71) (by decide) (fun c88 => ?_) (fun c88 => mpp 74 rfl ?_)
            · have c88 : x85.toInt = 0 := ti_eq c88
              refine mp_a (a_iconst (v := 5) dX3_whatStandsInTheWay_78 rfl) (mpp 79 rfl ?_)
              exact mp_iret ⟨⟨_, rfl, trivial⟩, hT77, k80, trivial⟩ dX3_whatStandsInTheWay_79 (Or.inl rfl)
            · have c88 : x85.toInt ≠ 0 := ti_eq_n c88
              refine mp_a (a_iconst (v := 0) dX3_whatStandsInTheWay_74 rfl) (mpp 75 rfl ?_)
              refine mp_a (a_goto (t := 79) dX3_whatStandsInTheWay_75 (by decide)) ?_
              exact mp_iret ⟨⟨_, rfl, trivial⟩, hT77, k80, trivial⟩ dX3_whatStandsInTheWay_79 (Or.inl rfl)
          · have c71 : x68.toInt ≠ 0 := ti_eq_n c71
            refine mp_a (a_iconst (v := 3) dX3_whatStandsInTheWay_60 rfl) (mpp 61 rfl ?_)
            exact mp_iret ⟨⟨_, rfl, trivial⟩, hT14, k17, trivial⟩ dX3_whatStandsInTheWay_61 (Or.inl rfl)
        · have c64 : z62.toInt ≠ 2 := ti_eq_n c64
          refine mp_a (a_iconst (v := 2) dX3_whatStandsInTheWay_51 rfl) (mpp 52 rfl ?_)
          exact mp_iret ⟨⟨_, rfl, trivial⟩, hT14, k17, trivial⟩ dX3_whatStandsInTheWay_52 (Or.inl rfl)
      · have c46 : x43.toInt ≠ 12 := ti_eq_n c46
        refine mp_a (a_iconst (v := 1) dX3_whatStandsInTheWay_31 rfl) (mpp 32 rfl ?_)
        exact mp_iret ⟨⟨_, rfl, trivial⟩, hT14, k17, trivial⟩ dX3_whatStandsInTheWay_32 (Or.inl rfl)
  · have c8 : x5.toInt ≠ 0 := ti_eq_n c8
    refine mp_a (a_iconst (v := 4) dX3_whatStandsInTheWay_7 rfl) (mpp 8 rfl ?_)
    exact mp_iret ⟨⟨_, rfl, trivial⟩, hT, KW.refl, trivial⟩ dX3_whatStandsInTheWay_8 (Or.inl rfl)

