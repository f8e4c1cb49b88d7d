/-! methods on typed pools, 31 (written by a program) -/
set_option maxHeartbeats 4000000 in
theorem c_M_place {Po : mP} {t1 : Int32} {t2 : Int32} (hT : Typ Po)   : EvP 5 210 [.ref 301, .int t1, .int t2] Po (fun r P' => (∃ x : Int32, r = some (.int x) ∧ (True)) ∧ P' = Po) := by
  refine EvP.of qm_210 (Nat.le_of_ble_eq_true rfl) rfl ?_
  show MEvP _ none q_210 0 [(0, .ref 301), (1, .int t1), (2, .int t2)] [] _ 0 0 _
  refine mp_a (a_aload_n dX7_place_0 rfl) (mpp 1 rfl ?_)
  refine mp_a (a_iload_n dX7_place_1 rfl) (mpp 2 rfl ?_)
  refine mt_callv (i := 85) (q' := q_144) (As := [.int t1]) (rest := []) hT dX7_place_2 rfl qm_144 (by decide) rfl rl_301 (by decide) rfl (Nat.le_of_ble_eq_true rfl) rfl ⟨rfl, rfl⟩ ⟨Nat.le_of_ble_eq_true rfl, Nat.le_of_ble_eq_true rfl⟩ (EvP.mono (by decide) (c_M_isPiece hT )) (fun r1 P2 g3 => mpp 5 rfl ?_)
  obtain ⟨⟨x4, rfl, g5⟩, e6⟩ := g3
  have e6 := e6.symm
  subst e6
  have wx4 := ti_full x4
  have g5 : 0 ≤ x4.toInt ∧ x4.toInt ≤ 1 ∧ (x4.toInt = 0 ∨ (0 ≤ t1.toInt ∧ t1.toInt + 1 ≤ (fv Po 302 0).toInt ∧ t1.toInt ≤ 7)) := g5
  have g7 : (0 : Int) ≤ (fv Po 302 0).toInt ∧ (fv Po 302 0).toInt ≤ 8 := Typ.rng hT rl_302 (by decide) (by decide) rfl
  show MEvP _ none q_210 5 [(0, .ref 301), (1, .int t1), (2, .int t2)] [.int x4] _ _ _ _
  refine mp_Tb (t := 23) (j_if_eq dX7_place_5) (by decide) (fun c8 => ?_) (fun c8 => mpp 8 rfl ?_)
  · have c8 : x4.toInt = 0 := ti_eq c8
    refine mp_a (a_sipush (v := -1001) dX7_place_23 rfl) (mpp 26 rfl ?_)
    exact mp_iret ⟨⟨_, rfl, trivial⟩, rfl⟩ dX7_place_26 (Or.inl rfl)
  · have c8 : x4.toInt ≠ 0 := ti_eq_n c8
    refine mp_a (a_aload_n dX7_place_8 rfl) (mpp 9 rfl ?_)
    refine mp_a (a_iload_n dX7_place_9 rfl) (mpp 10 rfl ?_)
    refine mp_a (a_iload_n dX7_place_10 rfl) (mpp 11 rfl ?_)
    refine mp_a (a_aload_n dX7_place_11 rfl) (mpp 12 rfl ?_)
    refine mp_a (a_iload_n dX7_place_12 rfl) (mpp 13 rfl ?_)
    refine mp_a (a_iconst (v := 1) dX7_place_13 rfl) (mpp 14 rfl ?_)
    have p9 : 0 ≤ t1.toInt := by omega
    have p10 : t1.toInt ≤ 7 := by omega
    have p11 : 0 ≤ (1 : Int) := by omega
    have p12 : (1 : Int) ≤ 18 := by omega
    refine mt_callv (i := 78) (q' := q_137) (As := [.int t1, .int 1]) (rest := [.int t2, .int t1, .ref 301]) hT dX7_place_14 rfl qm_137 (by decide) rfl rl_301 (by decide) rfl (Nat.le_of_ble_eq_true rfl) rfl ⟨rfl, rfl⟩ ⟨Nat.le_of_ble_eq_true rfl, Nat.le_of_ble_eq_true rfl⟩ (EvP.mono (by decide) (c_M_of_c1 hT p9 p10 p11 p12 )) (fun r13 P14 g15 => mpp 17 rfl ?_)
    obtain ⟨⟨x16, rfl, g17⟩, e18⟩ := g15
    have e18 := e18.symm
    subst e18
    have wx16 := ti_full x16
    have g17 : x16.toInt = (fv Po 302 (4 + 19 * t1.toInt.toNat)).toInt ∧ 0 ≤ x16.toInt ∧ x16.toInt ≤ 8 := g17
    show MEvP _ none q_210 17 [(0, .ref 301), (1, .int t1), (2, .int t2)] [.int x16, .int t2, .int t1, .ref 301] _ _ _ _
    have p19 : 0 ≤ t1.toInt := by omega
    have p20 : t1.toInt ≤ 7 := by omega
    refine mt_callv (i := 285) (q' := q_209) (As := [.int t1, .int t2, .int x16]) (rest := []) hT dX7_place_17 rfl qm_209 (by decide) rfl rl_301 (by decide) rfl (Nat.le_of_ble_eq_true rfl) rfl ⟨rfl, rfl⟩ ⟨Nat.le_of_ble_eq_true rfl, Nat.le_of_ble_eq_true rfl⟩ (EvP.mono (by decide) (c_M_isStripWithout hT p19 p20 )) (fun r21 P22 g23 => mpp 20 rfl ?_)
    obtain ⟨⟨x24, rfl, g25⟩, e26⟩ := g23
    have e26 := e26.symm
    subst e26
    have wx24 := ti_full x24
    have g25 : 0 ≤ x24.toInt ∧ x24.toInt ≤ 1 ∧ (x24.toInt = 1 ∨ (fv Po 302 (3 + 19 * t1.toInt.toNat)).toInt = 1 ∨ (0 ≤ t2.toInt ∧ t2.toInt ≤ x16.toInt)) := g25
    show MEvP _ none q_210 20 [(0, .ref 301), (1, .int t1), (2, .int t2)] [.int x24] _ _ _ _
    refine mp_Tb (t := 27) (j_if_eq dX7_place_20) (by decide) (fun c27 => ?_) (fun c27 => mpp 23 rfl ?_)
    · have c27 : x24.toInt = 0 := ti_eq c27
      refine mp_a (a_aload_n dX7_place_27 rfl) (mpp 28 rfl ?_)
      refine mp_a (a_iload_n dX7_place_28 rfl) (mpp 29 rfl ?_)
      have p28 : 0 ≤ t1.toInt := by omega
      have p29 : t1.toInt ≤ 7 := by omega
      refine mt_callv (i := 81) (q' := q_138) (As := [.int t1]) (rest := []) hT dX7_place_29 rfl qm_138 (by decide) rfl rl_301 (by decide) rfl (Nat.le_of_ble_eq_true rfl) rfl ⟨rfl, rfl⟩ ⟨Nat.le_of_ble_eq_true rfl, Nat.le_of_ble_eq_true rfl⟩ (EvP.mono (by decide) (c_M_isCorner hT p28 p29 )) (fun r30 P31 g32 => mpp 32 rfl ?_)
      obtain ⟨⟨x33, rfl, g34⟩, e35⟩ := g32
      have e35 := e35.symm
      subst e35
      have wx33 := ti_full x33
      have g34 : 0 ≤ x33.toInt ∧ x33.toInt ≤ 1 ∧ ((x33.toInt = 1 ∧ (fv Po 302 (3 + 19 * t1.toInt.toNat)).toInt = 1) ∨ (x33.toInt = 0 ∧ (fv Po 302 (3 + 19 * t1.toInt.toNat)).toInt = 0)) := g34
      show MEvP _ none q_210 32 [(0, .ref 301), (1, .int t1), (2, .int t2)] [.int x33] _ _ _ _
      refine mp_Tb (t := 41) (j_if_eq dX7_place_32) (by decide) (fun c36 => ?_) (fun c36 => mpp 35 rfl ?_)
      · have c36 : x33.toInt = 0 := ti_eq c36
        refine mp_a (a_aload_n dX7_place_41 rfl) (mpp 42 rfl ?_)
        refine mp_a (a_iload_n dX7_place_42 rfl) (mpp 43 rfl ?_)
        refine mp_a (a_iload_n dX7_place_43 rfl) (mpp 44 rfl ?_)
        have p37 : 0 ≤ t1.toInt := by omega
        have p38 : t1.toInt ≤ 7 := by omega
        have p39 : t2.toInt ≤ 8 := by omega
        refine mt_callv (i := 225) (q' := q_186) (As := [.int t1, .int t2]) (rest := []) hT dX7_place_44 rfl qm_186 (by decide) rfl rl_301 (by decide) rfl (Nat.le_of_ble_eq_true rfl) rfl ⟨rfl, rfl⟩ ⟨Nat.le_of_ble_eq_true rfl, Nat.le_of_ble_eq_true rfl⟩ (EvP.mono (by decide) (c_M_placeOf hT p37 p38 p39 )) (fun r40 P41 g42 => mpp 47 rfl ?_)
        obtain ⟨⟨x43, rfl, g44⟩, e45⟩ := g42
        have e45 := e45.symm
        subst e45
        have wx43 := ti_full x43
        show MEvP _ none q_210 47 [(0, .ref 301), (1, .int t1), (2, .int t2)] [.int x43] _ _ _ _
        exact mp_iret ⟨⟨_, rfl, trivial⟩, rfl⟩ dX7_place_47 (Or.inl rfl)
      · have c36 : x33.toInt ≠ 0 := ti_eq_n c36
        refine mp_a (a_sipush (v := -1002) dX7_place_35 rfl) (mpp 38 rfl ?_)
        refine mp_a (a_goto (t := 47) dX7_place_38 (by decide)) ?_
        exact mp_iret ⟨⟨_, rfl, trivial⟩, rfl⟩ dX7_place_47 (Or.inl rfl)
    · have c27 : x24.toInt ≠ 0 := ti_eq_n c27
      refine mp_a (a_sipush (v := -1001) dX7_place_23 rfl) (mpp 26 rfl ?_)
      exact mp_iret ⟨⟨_, rfl, trivial⟩, rfl⟩ dX7_place_26 (Or.inl rfl)

set_option maxHeartbeats 4000000 in
theorem c_M_layer {Po : mP} {t1 : Int32} {t2 : Int32} (hT : Typ Po) (hR : Rel Po)  : EvP 14 208 [.ref 301, .int t1, .int t2] Po (fun r P' => (∃ x : Int32, r = some (.int x) ∧ (True)) ∧ Typ P' ∧ KW [1107, 1108, 1109, 1664, 1728, 1792, 1856] Po P' ∧ Rel P') := by
  refine EvP.of qm_208 (Nat.le_of_ble_eq_true rfl) rfl ?_
  show MEvP _ none q_208 0 [(0, .ref 301), (1, .int t1), (2, .int t2)] [] _ 0 0 _
  refine mp_a (a_aload_n dX7_layer_0 rfl) (mpp 1 rfl ?_)
  refine mp_a (a_iload_n dX7_layer_1 rfl) (mpp 2 rfl ?_)
  refine mt_callv (i := 85) (q' := q_144) (As := [.int t1]) (rest := []) hT dX7_layer_2 rfl qm_144 (by decide) rfl rl_301 (by decide) rfl (Nat.le_of_ble_eq_true rfl) rfl ⟨rfl, rfl⟩ ⟨Nat.le_of_ble_eq_true rfl, Nat.le_of_ble_eq_true rfl⟩ (EvP.mono (by decide) (c_M_isPiece hT )) (fun r1 P2 g3 => mpp 5 rfl ?_)
  obtain ⟨⟨x4, rfl, g5⟩, e6⟩ := g3
  have e6 := e6.symm
  subst e6
  have wx4 := ti_full x4
  have g5 : 0 ≤ x4.toInt ∧ x4.toInt ≤ 1 ∧ (x4.toInt = 0 ∨ (0 ≤ t1.toInt ∧ t1.toInt + 1 ≤ (fv Po 302 0).toInt ∧ t1.toInt ≤ 7)) := g5
  have g7 : (0 : Int) ≤ (fv Po 302 0).toInt ∧ (fv Po 302 0).toInt ≤ 8 := Typ.rng hT rl_302 (by decide) (by decide) rfl
  show MEvP _ none q_208 5 [(0, .ref 301), (1, .int t1), (2, .int t2)] [.int x4] _ _ _ _
  refine mp_Tb (t := 25) (j_if_eq dX7_layer_5) (by decide) (fun c8 => ?_) (fun c8 => mpp 8 rfl ?_)
  · have c8 : x4.toInt = 0 := ti_eq c8
    refine mp_a (a_sipush (v := -1001) dX7_layer_25 rfl) (mpp 28 rfl ?_)
    exact mp_iret ⟨⟨_, rfl, trivial⟩, hT, KW.refl, hR⟩ dX7_layer_28 (Or.inl rfl)
  · have c8 : x4.toInt ≠ 0 := ti_eq_n c8
    refine mp_a (a_aload_n dX7_layer_8 rfl) (mpp 9 rfl ?_)
    refine mp_a (a_iload_n dX7_layer_9 rfl) (mpp 10 rfl ?_)
    refine mp_a (a_iload_n dX7_layer_10 rfl) (mpp 11 rfl ?_)
    refine mp_a (a_aload_n dX7_layer_11 rfl) (mpp 12 rfl ?_)
    refine mp_a (a_iload_n dX7_layer_12 rfl) (mpp 13 rfl ?_)
    refine mp_a (a_iconst (v := 1) dX7_layer_13 rfl) (mpp 14 rfl ?_)
    have p9 : 0 ≤ t1.toInt := by omega
    have p10 : t1.toInt ≤ 7 := by omega
    have p11 : 0 ≤ (1 : Int) := by omega
    have p12 : (1 : Int) ≤ 18 := by omega
    refine mt_callv (i := 78) (q' := q_137) (As := [.int t1, .int 1]) (rest := [.int t2, .int t1, .ref 301]) hT dX7_layer_14 rfl qm_137 (by decide) rfl rl_301 (by decide) rfl (Nat.le_of_ble_eq_true rfl) rfl ⟨rfl, rfl⟩ ⟨Nat.le_of_ble_eq_true rfl, Nat.le_of_ble_eq_true rfl⟩ (EvP.mono (by decide) (c_M_of_c1 hT p9 p10 p11 p12 )) (fun r13 P14 g15 => mpp 17 rfl ?_)
    obtain ⟨⟨x16, rfl, g17⟩, e18⟩ := g15
    have e18 := e18.symm
    subst e18
    have wx16 := ti_full x16
    have g17 : x16.toInt = (fv Po 302 (4 + 19 * t1.toInt.toNat)).toInt ∧ 0 ≤ x16.toInt ∧ x16.toInt ≤ 8 := g17
    show MEvP _ none q_208 17 [(0, .ref 301), (1, .int t1), (2, .int t2)] [.int x16, .int t2, .int t1, .ref 301] _ _ _ _
    refine mp_a (a_iconst (v := 1) dX7_layer_17 rfl) (mpp 18 rfl ?_)
    obtain ⟨z19, h20⟩ := ti_ex (x16 - 1 : Int32)
    have wz19 := ti_full z19
    refine mp_t (s_isub (v := z19) dX7_layer_18 h20) (mpp 19 rfl ?_)
    try have e21 : z19.toInt = x16.toInt - 1 := ti_subz h20 rfl rfl (by omega) (by omega)
    have p22 : 0 ≤ t1.toInt := by omega
    have p23 : t1.toInt ≤ 7 := by omega
    refine mt_callv (i := 285) (q' := q_209) (As := [.int t1, .int t2, .int z19]) (rest := []) hT dX7_layer_19 rfl qm_209 (by decide) rfl rl_301 (by decide) rfl (Nat.le_of_ble_eq_true rfl) rfl ⟨rfl, rfl⟩ ⟨Nat.le_of_ble_eq_true rfl, Nat.le_of_ble_eq_true rfl⟩ (EvP.mono (by decide) (c_M_isStripWithout hT p22 p23 )) (fun r24 P25 g26 => mpp 22 rfl ?_)
    obtain ⟨⟨x27, rfl, g28⟩, e29⟩ := g26
    have e29 := e29.symm
    subst e29
    have wx27 := ti_full x27
    have g28 : 0 ≤ x27.toInt ∧ x27.toInt ≤ 1 ∧ (x27.toInt = 1 ∨ (fv Po 302 (3 + 19 * t1.toInt.toNat)).toInt = 1 ∨ (0 ≤ t2.toInt ∧ t2.toInt ≤ z19.toInt)) := g28
    show MEvP _ none q_208 22 [(0, .ref 301), (1, .int t1), (2, .int t2)] [.int x27] _ _ _ _
    refine mp_Tb (t := 29) (j_if_eq dX7_layer_22) (by decide) (fun c30 => ?_) (fun c30 => mpp 25 rfl ?_)
    · have c30 : x27.toInt = 0 := ti_eq c30
      refine mp_a (a_aload_n dX7_layer_29 rfl) (mpp 30 rfl ?_)
      refine mp_a (a_iload_n dX7_layer_30 rfl) (mpp 31 rfl ?_)
      refine mt_callv (i := 279) (q' := q_199) (As := [.int t1]) (rest := []) hT dX7_layer_31 rfl qm_199 (by decide) rfl rl_301 (by decide) rfl (Nat.le_of_ble_eq_true rfl) rfl ⟨rfl, rfl⟩ ⟨Nat.le_of_ble_eq_true rfl, Nat.le_of_ble_eq_true rfl⟩ (EvP.mono (by decide) (c_M_wrongStrip hT )) (fun r31 P32 g33 => mpp 34 rfl ?_)
      obtain ⟨⟨x34, rfl, g35⟩, e36⟩ := g33
      have e36 := e36.symm
      subst e36
      have wx34 := ti_full x34
      have g35 : x34.toInt ≠ 0 ∨ (0 ≤ t1.toInt ∧ t1.toInt + 1 ≤ (fv Po 302 0).toInt ∧ t1.toInt ≤ 7 ∧ (fv Po 302 (3 + 19 * t1.toInt.toNat)).toInt = 0) := g35
      show MEvP _ none q_208 34 [(0, .ref 301), (1, .int t1), (2, .int t2)] [.int x34] _ _ _ _
      refine mp_a (a_istore_n (L' := [(3, .int x34), (0, .ref 301), (1, .int t1), (2, .int t2)]) dX7_layer_34 (by decide) rfl) (mpp 35 rfl ?_)
      refine mp_a (a_iload_n dX7_layer_35 rfl) (mpp 36 rfl ?_)
      refine mp_Tb (t := 41) (j_if_eq dX7_layer_36) (by decide) (fun c37 => ?_) (fun c37 => mpp 39 rfl ?_)
      · have c37 : x34.toInt = 0 := ti_eq c37
        refine mp_a (a_aload_n dX7_layer_41 rfl) (mpp 42 rfl ?_)
        refine mp_a (a_iload_n dX7_layer_42 rfl) (mpp 43 rfl ?_)
        have p38 : 0 ≤ t1.toInt := by omega
        have p39 : t1.toInt ≤ 7 := by omega
        have p40 : (fv Po 302 (4 + 19 * t1.toInt.toNat)).toInt ≤ 7 := Rel.use hR (p := t1.toInt.toNat) (by omega) (by omega)
        refine mt_callv (i := 282) (q' := q_200) (As := [.int t1]) (rest := []) hT dX7_layer_43 rfl qm_200 (by decide) rfl rl_301 (by decide) rfl (Nat.le_of_ble_eq_true rfl) rfl ⟨rfl, rfl⟩ ⟨Nat.le_of_ble_eq_true rfl, Nat.le_of_ble_eq_true rfl⟩ (EvP.mono (by decide) (c_M_ordersOf hT p38 p39 p40 )) (fun r41 P42 g43 => mpp 46 rfl ?_)
        obtain ⟨⟨x44, rfl, g45⟩, hT46, k47, R48⟩ := g43
        have k49 : KW [1107, 1108, 1109, 1664, 1728, 1792, 1856] Po P42 := KW.trans KW.refl k47 rfl
        have R50 := Rel.kw hR k47 rfl
        have wx44 := ti_full x44
        show MEvP _ none q_208 46 [(3, .int x34), (0, .ref 301), (1, .int t1), (2, .int t2)] [.int x44] _ _ _ _
        refine mp_Tb (t := 58) (j_if_le dX7_layer_46) (by decide) (fun c51 => ?_) (fun c51 => mpp 49 rfl ?_)
        · have c51 : x44.toInt ≤ 0 := ti_le c51
          refine mp_a (a_sipush (v := -1004) dX7_layer_58 rfl) (mpp 61 rfl ?_)
          exact mp_iret ⟨⟨_, rfl, trivial⟩, hT46, k49, R50⟩ dX7_layer_61 (Or.inl rfl)
        · have c51 : x44.toInt > 0 := ti_le_n c51
          refine mp_a (a_aload_n dX7_layer_49 rfl) (mpp 50 rfl ?_)
          refine mt_getU (i := 37) (k := 16) (A := 311) hT46 dX7_layer_50 rfl rl_301 (by decide) rfl (by decide) rfl un_27 (mpp 53 rfl ?_)
          refine mp_a (a_iload_n dX7_layer_53 rfl) (mpp 54 rfl ?_)
          refine mt_ial (n := 7) hT46 dX7_layer_54 rl_311 (by decide) rfl rfl (by omega) (by omega) rfl (fun g52 g53 => mpp 55 rfl ?_)
          refine mp_a (a_goto (t := 61) dX7_layer_55 (by decide)) ?_
          exact mp_iret ⟨⟨_, rfl, trivial⟩, hT46, k49, R50⟩ dX7_layer_61 (Or.inl rfl)
      · have c37 : x34.toInt ≠ 0 := ti_eq_n c37
        refine mp_a (a_iload_n dX7_layer_39 rfl) (mpp 40 rfl ?_)
        exact mp_iret ⟨⟨_, rfl, trivial⟩, hT, KW.refl, hR⟩ dX7_layer_40 (Or.inl rfl)
    · have c30 : x27.toInt ≠ 0 := ti_eq_n c30
      refine mp_a (a_sipush (v := -1001) dX7_layer_25 rfl) (mpp 28 rfl ?_)
      exact mp_iret ⟨⟨_, rfl, trivial⟩, hT, KW.refl, hR⟩ dX7_layer_28 (Or.inl rfl)

set_option maxHeartbeats 4000000 in
theorem c_M_orders {Po : mP} {t1 : Int32} (hT : Typ Po) (hR : Rel Po)  : EvP 14 207 [.ref 301, .int t1] Po (fun r P' => (∃ x : Int32, r = some (.int x) ∧ (True)) ∧ Typ P' ∧ KW [1107, 1108, 1109, 1664, 1728, 1792, 1856] Po P' ∧ Rel P') := by
  refine EvP.of qm_207 (Nat.le_of_ble_eq_true rfl) rfl ?_
  show MEvP _ none q_207 0 [(0, .ref 301), (1, .int t1)] [] _ 0 0 _
  refine mp_a (a_aload_n dX7_orders_0 rfl) (mpp 1 rfl ?_)
  refine mp_a (a_iload_n dX7_orders_1 rfl) (mpp 2 rfl ?_)
  refine mt_callv (i := 279) (q' := q_199) (As := [.int t1]) (rest := []) hT dX7_orders_2 rfl qm_199 (by decide) rfl rl_301 (by decide) rfl (Nat.le_of_ble_eq_true rfl) rfl ⟨rfl, rfl⟩ ⟨Nat.le_of_ble_eq_true rfl, Nat.le_of_ble_eq_true rfl⟩ (EvP.mono (by decide) (c_M_wrongStrip hT )) (fun r1 P2 g3 => mpp 5 rfl ?_)
  obtain ⟨⟨x4, rfl, g5⟩, e6⟩ := g3
  have e6 := e6.symm
  subst e6
  have wx4 := ti_full x4
  have g5 : x4.toInt ≠ 0 ∨ (0 ≤ t1.toInt ∧ t1.toInt + 1 ≤ (fv Po 302 0).toInt ∧ t1.toInt ≤ 7 ∧ (fv Po 302 (3 + 19 * t1.toInt.toNat)).toInt = 0) := g5
  have g7 : (0 : Int) ≤ (fv Po 302 0).toInt ∧ (fv Po 302 0).toInt ≤ 8 := Typ.rng hT rl_302 (by decide) (by decide) rfl
  show MEvP _ none q_207 5 [(0, .ref 301), (1, .int t1)] [.int x4] _ _ _ _
  refine mp_a (a_istore_n (L' := [(2, .int x4), (0, .ref 301), (1, .int t1)]) dX7_orders_5 (by decide) rfl) (mpp 6 rfl ?_)
  refine mp_a (a_iload_n dX7_orders_6 rfl) (mpp 7 rfl ?_)
  refine mp_Tb (t := 14) (j_if_eq dX7_orders_7) (by decide) (fun c8 => ?_) (fun c8 => mpp 10 rfl ?_)
  · have c8 : x4.toInt = 0 := ti_eq c8
    refine mp_a (a_aload_n dX7_orders_14 rfl) (mpp 15 rfl ?_)
    refine mp_a (a_iload_n dX7_orders_15 rfl) (mpp 16 rfl ?_)
    have p9 : 0 ≤ t1.toInt := by omega
    have p10 : t1.toInt ≤ 7 := by omega
    have p11 : (fv Po 302 (4 + 19 * t1.toInt.toNat)).toInt ≤ 7 := Rel.use hR (p := t1.toInt.toNat) (by omega) (by omega)
    refine mt_callv (i := 282) (q' := q_200) (As := [.int t1]) (rest := []) hT dX7_orders_16 rfl qm_200 (by decide) rfl rl_301 (by decide) rfl (Nat.le_of_ble_eq_true rfl) rfl ⟨rfl, rfl⟩ ⟨Nat.le_of_ble_eq_true rfl, Nat.le_of_ble_eq_true rfl⟩ (EvP.mono (by decide) (c_M_ordersOf hT p9 p10 p11 )) (fun r12 P13 g14 => mpp 19 rfl ?_)
    obtain ⟨⟨x15, rfl, g16⟩, hT17, k18, R19⟩ := g14
    have k20 : KW [1107, 1108, 1109, 1664, 1728, 1792, 1856] Po P13 := KW.trans KW.refl k18 rfl
    have R21 := Rel.kw hR k18 rfl
    have wx15 := ti_full x15
    show MEvP _ none q_207 19 [(2, .int x4), (0, .ref 301), (1, .int t1)] [.int x15] _ _ _ _
    exact mp_iret ⟨⟨_, rfl, trivial⟩, hT17, k20, R21⟩ dX7_orders_19 (Or.inl rfl)
  · have c8 : x4.toInt ≠ 0 := ti_eq_n c8
    refine mp_a (a_iload_n dX7_orders_10 rfl) (mpp 11 rfl ?_)
    refine mp_a (a_goto (t := 19) dX7_orders_11 (by decide)) ?_
    exact mp_iret ⟨⟨_, rfl, trivial⟩, hT, KW.refl, hR⟩ dX7_orders_19 (Or.inl rfl)

set_option maxHeartbeats 4000000 in
theorem c_M_overAt_l5 {Po : mP} {t1 : Int32} {t2 : Int32} (hT : Typ Po)  (hp0 : 0 ≤ t1.toInt) (hp1 : t1.toInt ≤ 7)  : ∀ (n : Nat) (v3 : Int32) (v4 : Int32), (0 ≤ v4.toInt) → (2147483647 - v4.toInt).toNat = n → MEvP 4 none q_212 5 [(0, .ref 301), (1, .int t1), (2, .int t2), (3, .int v3), (4, .int v4)] [] Po 0 0 (fun r P' => (∃ x : Int32, r = some (.int x) ∧ (True)) ∧ P' = Po) := by
  intro n
  induction n using Nat.strongRecOn with | _ n ih => ?_
  intro v3 v4 i_0 hm
  have w_v3 := ti_full v3
  have w_v4 := ti_full v4
  refine mp_a (a_iload dX7_overAt_5 rfl) (mpp 7 rfl ?_)
  refine mp_a (a_aload_n dX7_overAt_7 rfl) (mpp 8 rfl ?_)
  refine mp_a (a_iload_n dX7_overAt_8 rfl) (mpp 9 rfl ?_)
  refine mp_a (a_iconst (v := 1) dX7_overAt_9 rfl) (mpp 10 rfl ?_)
  have p1 : 0 ≤ t1.toInt := by omega
  have p2 : t1.toInt ≤ 7 := by omega
  have p3 : 0 ≤ (1 : Int) := by omega
  have p4 : (1 : Int) ≤ 18 := by omega
  refine mt_callv (i := 78) (q' := q_137) (As := [.int t1, .int 1]) (rest := [.int v4]) hT dX7_overAt_10 rfl qm_137 (by decide) rfl rl_301 (by decide) rfl (Nat.le_of_ble_eq_true rfl) rfl ⟨rfl, rfl⟩ ⟨Nat.le_of_ble_eq_true rfl, Nat.le_of_ble_eq_true rfl⟩ (EvP.mono (by decide) (c_M_of_c1 hT p1 p2 p3 p4 )) (fun r5 P6 g7 => mpp 13 rfl ?_)
  obtain ⟨⟨x8, rfl, g9⟩, e10⟩ := g7
  have e10 := e10.symm
  subst e10
  have wx8 := ti_full x8
  have g9 : x8.toInt = (fv Po 302 (4 + 19 * t1.toInt.toNat)).toInt ∧ 0 ≤ x8.toInt ∧ x8.toInt ≤ 8 := g9
  show MEvP _ none q_212 13 [(0, .ref 301), (1, .int t1), (2, .int t2), (3, .int v3), (4, .int v4)] [.int x8, .int v4] _ _ _ _
  refine mp_Tb (t := 74) (j_icmp_ge dX7_overAt_13) (by decide) (fun c11 => ?_) (fun c11 => mpp 16 rfl ?_)
  · have c11 : v4.toInt ≥ x8.toInt := ti_ge c11
    refine mp_a (a_iload_n dX7_overAt_74 rfl) (mpp 75 rfl ?_)
    exact mp_iret ⟨⟨_, rfl, trivial⟩, rfl⟩ dX7_overAt_75 (Or.inl rfl)
  · have c11 : v4.toInt < x8.toInt := ti_ge_n c11
    refine mp_a (a_aload_n dX7_overAt_16 rfl) (mpp 17 rfl ?_)
    refine mp_a (a_iload_n dX7_overAt_17 rfl) (mpp 18 rfl ?_)
    refine mp_a (a_iload dX7_overAt_18 rfl) (mpp 20 rfl ?_)
    have p12 : 0 ≤ t1.toInt := by omega
    have p13 : t1.toInt ≤ 7 := by omega
    have p14 : v4.toInt ≤ 8 := by omega
    refine mt_callv (i := 225) (q' := q_186) (As := [.int t1, .int v4]) (rest := []) hT dX7_overAt_20 rfl qm_186 (by decide) rfl rl_301 (by decide) rfl (Nat.le_of_ble_eq_true rfl) rfl ⟨rfl, rfl⟩ ⟨Nat.le_of_ble_eq_true rfl, Nat.le_of_ble_eq_true rfl⟩ (EvP.mono (by decide) (c_M_placeOf hT p12 p13 p14 )) (fun r15 P16 g17 => mpp 23 rfl ?_)
    obtain ⟨⟨x18, rfl, g19⟩, e20⟩ := g17
    have e20 := e20.symm
    subst e20
    have wx18 := ti_full x18
    show MEvP _ none q_212 23 [(0, .ref 301), (1, .int t1), (2, .int t2), (3, .int v3), (4, .int v4)] [.int x18] _ _ _ _
    refine mp_a (a_istore (L' := [(5, .int x18), (0, .ref 301), (1, .int t1), (2, .int t2), (3, .int v3), (4, .int v4)]) dX7_overAt_23 (by decide) rfl) (mpp 25 rfl ?_)
    refine mp_a (a_aload_n dX7_overAt_25 rfl) (mpp 26 rfl ?_)
    refine mp_a (a_iload_n dX7_overAt_26 rfl) (mpp 27 rfl ?_)
    refine mp_a (a_iload dX7_overAt_27 rfl) (mpp 29 rfl ?_)
    refine mp_a (a_iconst (v := 1) dX7_overAt_29 rfl) (mpp 30 rfl ?_)
    obtain ⟨z21, h22⟩ := ti_ex (v4 + 1 : Int32)
    have wz21 := ti_full z21
    refine mp_t (s_iadd (v := z21) dX7_overAt_30 h22) (mpp 31 rfl ?_)
    try have e23 : z21.toInt = v4.toInt + 1 := ti_addz h22 rfl rfl (by omega) (by omega)
    have p24 : 0 ≤ t1.toInt := by omega
    have p25 : t1.toInt ≤ 7 := by omega
    have p26 : z21.toInt ≤ 8 := by omega
    refine mt_callv (i := 225) (q' := q_186) (As := [.int t1, .int z21]) (rest := []) hT dX7_overAt_31 rfl qm_186 (by decide) rfl rl_301 (by decide) rfl (Nat.le_of_ble_eq_true rfl) rfl ⟨rfl, rfl⟩ ⟨Nat.le_of_ble_eq_true rfl, Nat.le_of_ble_eq_true rfl⟩ (EvP.mono (by decide) (c_M_placeOf hT p24 p25 p26 )) (fun r27 P28 g29 => mpp 34 rfl ?_)
    obtain ⟨⟨x30, rfl, g31⟩, e32⟩ := g29
    have e32 := e32.symm
    subst e32
    have wx30 := ti_full x30
    show MEvP _ none q_212 34 [(5, .int x18), (0, .ref 301), (1, .int t1), (2, .int t2), (3, .int v3), (4, .int v4)] [.int x30] _ _ _ _
    refine mp_a (a_istore (L' := [(6, .int x30), (5, .int x18), (0, .ref 301), (1, .int t1), (2, .int t2), (3, .int v3), (4, .int v4)]) dX7_overAt_34 (by decide) rfl) (mpp 36 rfl ?_)
    refine mp_a (a_iload_n dX7_overAt_36 rfl) (mpp 37 rfl ?_)
    refine mp_a (a_iload dX7_overAt_37 rfl) (mpp 39 rfl ?_)
    refine mp_a (a_iload dX7_overAt_39 rfl) (mpp 41 rfl ?_)
    refine mp_calls (i := 155) (q' := q_158) (As := [.int x18, .int x30]) (rest := [.int v3]) dX7_overAt_41 rfl qm_158 (by decide) rfl (Nat.le_of_ble_eq_true rfl) rfl ⟨rfl, rfl⟩ ⟨Nat.le_of_ble_eq_true rfl, Nat.le_of_ble_eq_true rfl⟩ (EvP.mono (by decide) (c_M_lesser hT )) (fun r33 P34 g35 => mpp 44 rfl ?_)
    obtain ⟨⟨x36, rfl, g37⟩, e38⟩ := g35
    have e38 := e38.symm
    subst e38
    have wx36 := ti_full x36
    have g37 : (x36.toInt = x18.toInt ∧ x18.toInt ≤ x30.toInt) ∨ (x36.toInt = x30.toInt ∧ x30.toInt ≤ x18.toInt) := g37
    show MEvP _ none q_212 44 [(6, .int x30), (5, .int x18), (0, .ref 301), (1, .int t1), (2, .int t2), (3, .int v3), (4, .int v4)] [.int x36, .int v3] _ _ _ _
    refine mp_a (a_iload_n dX7_overAt_44 rfl) (mpp 45 rfl ?_)
    refine mp_Tb (t := 65) (j_icmp_gt dX7_overAt_45) (by decide) (fun c39 => ?_) (fun c39 => mpp 48 rfl ?_)
    · have c39 : x36.toInt > t2.toInt := ti_gt c39
      refine mp_a (a_iconst (v := 0) dX7_overAt_65 rfl) (mpp 66 rfl ?_)
      obtain ⟨z40, h41⟩ := ti_ex (v3 + 0 : Int32)
      have wz40 := ti_full z40
      refine mp_t (s_iadd (v := z40) dX7_overAt_66 h41) (mpp 67 rfl ?_)
      try have e42 : z40.toInt = v3.toInt + 0 := ti_addz h41 rfl rfl (by omega) (by omega)
      refine mp_a (a_istore_n (L' := [(3, .int z40), (6, .int x30), (5, .int x18), (0, .ref 301), (1, .int t1), (2, .int t2), (4, .int v4)]) dX7_overAt_67 (by decide) rfl) (mpp 68 rfl ?_)
      obtain ⟨z43, h44⟩ := ti_ex (v4 + 1 : Int32)
      have wz43 := ti_full z43
      refine mp_a (a_iinc (v := z43) (L' := [(4, .int z43), (3, .int z40), (6, .int x30), (5, .int x18), (0, .ref 301), (1, .int t1), (2, .int t2)]) dX7_overAt_68 (by decide) rfl h44 rfl) (mpp 71 rfl ?_)
      try have e45 : z43.toInt = v4.toInt + 1 := ti_addz h44 rfl rfl (by omega) (by omega)
      refine mp_a (a_goto (t := 5) dX7_overAt_71 (by decide)) ?_
      refine MEvP.less (L := [(0, .ref 301), (1, .int t1), (2, .int t2), (3, .int z40), (4, .int z43)]) rfl rfl ⟨rfl, rfl, rfl, rfl, rfl, trivial⟩ ?_
      have i46 : 0 ≤ z43.toInt := by omega
      exact ih _ (by omega) _ _ i46 rfl
    · have c39 : x36.toInt ≤ t2.toInt := ti_gt_n c39
      refine mp_a (a_iload_n dX7_overAt_48 rfl) (mpp 49 rfl ?_)
      refine mp_a (a_iconst (v := 1) dX7_overAt_49 rfl) (mpp 50 rfl ?_)
      obtain ⟨z47, h48⟩ := ti_ex (t2 + 1 : Int32)
      have wz47 := ti_full z47
      refine mp_t (s_iadd (v := z47) dX7_overAt_50 h48) (mpp 51 rfl ?_)
      try have e49 : z47.toInt = t2.toInt + 1 := ti_addz h48 rfl rfl (by omega) (by omega)
      refine mp_a (a_iload dX7_overAt_51 rfl) (mpp 53 rfl ?_)
      refine mp_a (a_iload dX7_overAt_53 rfl) (mpp 55 rfl ?_)
      refine mp_calls (i := 178) (q' := q_173) (As := [.int x18, .int x30]) (rest := [.int z47, .int v3]) dX7_overAt_55 rfl qm_173 (by decide) rfl (Nat.le_of_ble_eq_true rfl) rfl ⟨rfl, rfl⟩ ⟨Nat.le_of_ble_eq_true rfl, Nat.le_of_ble_eq_true rfl⟩ (EvP.mono (by decide) (c_M_greater hT )) (fun r50 P51 g52 => mpp 58 rfl ?_)
      obtain ⟨⟨x53, rfl, g54⟩, e55⟩ := g52
      have e55 := e55.symm
      subst e55
      have wx53 := ti_full x53
      have g54 : (x53.toInt = x18.toInt ∧ x30.toInt ≤ x18.toInt) ∨ (x53.toInt = x30.toInt ∧ x18.toInt ≤ x30.toInt) := g54
      show MEvP _ none q_212 58 [(6, .int x30), (5, .int x18), (0, .ref 301), (1, .int t1), (2, .int t2), (3, .int v3), (4, .int v4)] [.int x53, .int z47, .int v3] _ _ _ _
      refine mp_Tb (t := 65) (j_icmp_gt dX7_overAt_58) (by decide) (fun c56 => ?_) (fun c56 => mpp 61 rfl ?_)
      · have c56 : z47.toInt > x53.toInt := ti_gt c56
        refine mp_a (a_iconst (v := 0) dX7_overAt_65 rfl) (mpp 66 rfl ?_)
        obtain ⟨z57, h58⟩ := ti_ex (v3 + 0 : Int32)
        have wz57 := ti_full z57
        refine mp_t (s_iadd (v := z57) dX7_overAt_66 h58) (mpp 67 rfl ?_)
        try have e59 : z57.toInt = v3.toInt + 0 := ti_addz h58 rfl rfl (by omega) (by omega)
        refine mp_a (a_istore_n (L' := [(3, .int z57), (6, .int x30), (5, .int x18), (0, .ref 301), (1, .int t1), (2, .int t2), (4, .int v4)]) dX7_overAt_67 (by decide) rfl) (mpp 68 rfl ?_)
        obtain ⟨z60, h61⟩ := ti_ex (v4 + 1 : Int32)
        have wz60 := ti_full z60
        refine mp_a (a_iinc (v := z60) (L' := [(4, .int z60), (3, .int z57), (6, .int x30), (5, .int x18), (0, .ref 301), (1, .int t1), (2, .int t2)]) dX7_overAt_68 (by decide) rfl h61 rfl) (mpp 71 rfl ?_)
        try have e62 : z60.toInt = v4.toInt + 1 := ti_addz h61 rfl rfl (by omega) (by omega)
        refine mp_a (a_goto (t := 5) dX7_overAt_71 (by decide)) ?_
        refine MEvP.less (L := [(0, .ref 301), (1, .int t1), (2, .int t2), (3, .int z57), (4, .int z60)]) rfl rfl ⟨rfl, rfl, rfl, rfl, rfl, trivial⟩ ?_
        have i63 : 0 ≤ z60.toInt := by omega
        exact ih _ (by omega) _ _ i63 rfl
      · have c56 : z47.toInt ≤ x53.toInt := ti_gt_n c56
        refine mp_a (a_iconst (v := 1) dX7_overAt_61 rfl) (mpp 62 rfl ?_)
        refine mp_a (a_goto (t := 66) dX7_overAt_62 (by decide)) ?_
        obtain ⟨z64, h65⟩ := ti_ex (v3 + 1 : Int32)
        have wz64 := ti_full z64
        refine mp_t (s_iadd (v := z64) dX7_overAt_66 h65) (mpp 67 rfl ?_)
        try have e66 : z64.toInt = v3.toInt + 1 := ti_addz h65 rfl rfl (by omega) (by omega)
        refine mp_a (a_istore_n (L' := [(3, .int z64), (6, .int x30), (5, .int x18), (0, .ref 301), (1, .int t1), (2, .int t2), (4, .int v4)]) dX7_overAt_67 (by decide) rfl) (mpp 68 rfl ?_)
        obtain ⟨z67, h68⟩ := ti_ex (v4 + 1 : Int32)
        have wz67 := ti_full z67
        refine mp_a (a_iinc (v := z67) (L' := [(4, .int z67), (3, .int z64), (6, .int x30), (5, .int x18), (0, .ref 301), (1, .int t1), (2, .int t2)]) dX7_overAt_68 (by decide) rfl h68 rfl) (mpp 71 rfl ?_)
        try have e69 : z67.toInt = v4.toInt + 1 := ti_addz h68 rfl rfl (by omega) (by omega)
        refine mp_a (a_goto (t := 5) dX7_overAt_71 (by decide)) ?_
        refine MEvP.less (L := [(0, .ref 301), (1, .int t1), (2, .int t2), (3, .int z64), (4, .int z67)]) rfl rfl ⟨rfl, rfl, rfl, rfl, rfl, trivial⟩ ?_
        have i70 : 0 ≤ z67.toInt := by omega
        exact ih _ (by omega) _ _ i70 rfl

set_option maxHeartbeats 4000000 in
theorem c_M_overAt {Po : mP} {t1 : Int32} {t2 : Int32} (hT : Typ Po)  (hp0 : 0 ≤ t1.toInt) (hp1 : t1.toInt ≤ 7)  : EvP 5 212 [.ref 301, .int t1, .int t2] Po (fun r P' => (∃ x : Int32, r = some (.int x) ∧ (True)) ∧ P' = Po) := by
  refine EvP.of qm_212 (Nat.le_of_ble_eq_true rfl) rfl ?_
  show MEvP _ none q_212 0 [(0, .ref 301), (1, .int t1), (2, .int t2)] [] _ 0 0 _
  refine mp_a (a_iconst (v := 0) dX7_overAt_0 rfl) (mpp 1 rfl ?_)
  refine mp_a (a_istore_n (L' := [(3, .int 0), (0, .ref 301), (1, .int t1), (2, .int t2)]) dX7_overAt_1 (by decide) rfl) (mpp 2 rfl ?_)
  refine mp_a (a_iconst (v := 0) dX7_overAt_2 rfl) (mpp 3 rfl ?_)
  refine mp_a (a_istore (L' := [(4, .int 0), (3, .int 0), (0, .ref 301), (1, .int t1), (2, .int t2)]) dX7_overAt_3 (by decide) rfl) (mpp 5 rfl ?_)
  refine MEvP.less (L := [(0, .ref 301), (1, .int t1), (2, .int t2), (3, .int 0), (4, .int 0)]) rfl rfl ⟨rfl, rfl, rfl, rfl, rfl, trivial⟩ ?_
  have i1 : 0 ≤ (0 : Int) := by omega
  exact c_M_overAt_l5 hT hp0 hp1 _ _ _ i1 rfl

set_option maxHeartbeats 4000000 in
theorem c_M_thickest_l65 {Po : mP} {t1 : Int32} (hT : Typ Po)   {nO : Nat} (ihO : ∀ m : Nat, m < nO → ∀ (v2 : Int32) (v3 : Int32), (0 ≤ t1.toInt) → (t1.toInt ≤ 7) → (0 ≤ v3.toInt) → (2147483647 - v3.toInt).toNat = m → MEvP 5 none q_211 28 [(0, .ref 301), (1, .int t1), (2, .int v2), (3, .int v3)] [] Po 0 0 (fun r P' => (∃ x : Int32, r = some (.int x) ∧ (True)) ∧ P' = Po)) : ∀ (n : Nat) (v2 : Int32) (v3 : Int32) (v4 : Int32) (v5 : Int32) (v6 : Int32), (0 ≤ t1.toInt) → (t1.toInt ≤ 7) → (0 ≤ v3.toInt) → (v3.toInt ≤ 7) → (2147483647 - v3.toInt).toNat = nO → (2147483647 - v6.toInt).toNat = n → MEvP 5 none q_211 65 [(0, .ref 301), (1, .int t1), (2, .int v2), (3, .int v3), (4, .int v4), (5, .int v5), (6, .int v6)] [] Po 0 0 (fun r P' => (∃ x : Int32, r = some (.int x) ∧ (True)) ∧ P' = Po) := by
  intro n
  induction n using Nat.strongRecOn with | _ n ih => ?_
  intro v2 v3 v4 v5 v6 i_0 i_1 i_2 i_3 hmO hm
  have w_v2 := ti_full v2
  have w_v3 := ti_full v3
  have w_v4 := ti_full v4
  have w_v5 := ti_full v5
  have w_v6 := ti_full v6
  refine mp_a (a_iload dX7_thickest_65 rfl) (mpp 67 rfl ?_)
  refine mp_a (a_iload dX7_thickest_67 rfl) (mpp 69 rfl ?_)
  refine mp_a (a_iload dX7_thickest_69 rfl) (mpp 71 rfl ?_)
  refine mp_calls (i := 178) (q' := q_173) (As := [.int v4, .int v5]) (rest := [.int v6]) dX7_thickest_71 rfl qm_173 (by decide) rfl (Nat.le_of_ble_eq_true rfl) rfl ⟨rfl, rfl⟩ ⟨Nat.le_of_ble_eq_true rfl, Nat.le_of_ble_eq_true rfl⟩ (EvP.mono (by decide) (c_M_greater hT )) (fun r1 P2 g3 => mpp 74 rfl ?_)
  obtain ⟨⟨x4, rfl, g5⟩, e6⟩ := g3
  have e6 := e6.symm
  subst e6
  have wx4 := ti_full x4
  have g5 : (x4.toInt = v4.toInt ∧ v5.toInt ≤ v4.toInt) ∨ (x4.toInt = v5.toInt ∧ v4.toInt ≤ v5.toInt) := g5
  show MEvP _ none q_211 74 [(0, .ref 301), (1, .int t1), (2, .int v2), (3, .int v3), (4, .int v4), (5, .int v5), (6, .int v6)] [.int x4, .int v6] _ _ _ _
  refine mp_Tb (t := 95) (j_icmp_ge dX7_thickest_74) (by decide) (fun c7 => ?_) (fun c7 => mpp 77 rfl ?_)
  · have c7 : v6.toInt ≥ x4.toInt := ti_ge c7
    obtain ⟨z8, h9⟩ := ti_ex (v3 + 1 : Int32)
    have wz8 := ti_full z8
    refine mp_a (a_iinc (v := z8) (L' := [(3, .int z8), (0, .ref 301), (1, .int t1), (2, .int v2), (4, .int v4), (5, .int v5), (6, .int v6)]) dX7_thickest_95 (by decide) rfl h9 rfl) (mpp 98 rfl ?_)
    try have e10 : z8.toInt = v3.toInt + 1 := ti_addz h9 rfl rfl (by omega) (by omega)
    refine mp_a (a_goto (t := 28) dX7_thickest_98 (by decide)) ?_
    refine MEvP.less (L := [(0, .ref 301), (1, .int t1), (2, .int v2), (3, .int z8)]) rfl rfl ⟨rfl, rfl, rfl, rfl, trivial⟩ ?_
    have i11 : 0 ≤ t1.toInt := by omega
    have i12 : t1.toInt ≤ 7 := by omega
    have i13 : 0 ≤ z8.toInt := by omega
    exact ihO _ (by omega) _ _ i11 i12 i13 rfl
  · have c7 : v6.toInt < x4.toInt := ti_ge_n c7
    refine mp_a (a_iload_n dX7_thickest_77 rfl) (mpp 78 rfl ?_)
    refine mp_a (a_aload_n dX7_thickest_78 rfl) (mpp 79 rfl ?_)
    refine mp_a (a_iload_n dX7_thickest_79 rfl) (mpp 80 rfl ?_)
    refine mp_a (a_iload dX7_thickest_80 rfl) (mpp 82 rfl ?_)
    have p14 : 0 ≤ t1.toInt := by omega
    have p15 : t1.toInt ≤ 7 := by omega
    refine mt_callv (i := 288) (q' := q_212) (As := [.int t1, .int v6]) (rest := [.int v2]) hT dX7_thickest_82 rfl qm_212 (by decide) rfl rl_301 (by decide) rfl (Nat.le_of_ble_eq_true rfl) rfl ⟨rfl, rfl⟩ ⟨Nat.le_of_ble_eq_true rfl, Nat.le_of_ble_eq_true rfl⟩ (EvP.mono (by decide) (c_M_overAt hT p14 p15 )) (fun r16 P17 g18 => mpp 85 rfl ?_)
    obtain ⟨⟨x19, rfl, g20⟩, e21⟩ := g18
    have e21 := e21.symm
    subst e21
    have wx19 := ti_full x19
    show MEvP _ none q_211 85 [(0, .ref 301), (1, .int t1), (2, .int v2), (3, .int v3), (4, .int v4), (5, .int v5), (6, .int v6)] [.int x19, .int v2] _ _ _ _
    refine mp_calls (i := 178) (q' := q_173) (As := [.int v2, .int x19]) (rest := []) dX7_thickest_85 rfl qm_173 (by decide) rfl (Nat.le_of_ble_eq_true rfl) rfl ⟨rfl, rfl⟩ ⟨Nat.le_of_ble_eq_true rfl, Nat.le_of_ble_eq_true rfl⟩ (EvP.mono (by decide) (c_M_greater hT )) (fun r22 P23 g24 => mpp 88 rfl ?_)
    obtain ⟨⟨x25, rfl, g26⟩, e27⟩ := g24
    have e27 := e27.symm
    subst e27
    have wx25 := ti_full x25
    have g26 : (x25.toInt = v2.toInt ∧ x19.toInt ≤ v2.toInt) ∨ (x25.toInt = x19.toInt ∧ v2.toInt ≤ x19.toInt) := g26
    show MEvP _ none q_211 88 [(0, .ref 301), (1, .int t1), (2, .int v2), (3, .int v3), (4, .int v4), (5, .int v5), (6, .int v6)] [.int x25] _ _ _ _
    refine mp_a (a_istore_n (L' := [(2, .int x25), (0, .ref 301), (1, .int t1), (3, .int v3), (4, .int v4), (5, .int v5), (6, .int v6)]) dX7_thickest_88 (by decide) rfl) (mpp 89 rfl ?_)
    obtain ⟨z28, h29⟩ := ti_ex (v6 + 1 : Int32)
    have wz28 := ti_full z28
    refine mp_a (a_iinc (v := z28) (L' := [(6, .int z28), (2, .int x25), (0, .ref 301), (1, .int t1), (3, .int v3), (4, .int v4), (5, .int v5)]) dX7_thickest_89 (by decide) rfl h29 rfl) (mpp 92 rfl ?_)
    try have e30 : z28.toInt = v6.toInt + 1 := ti_addz h29 rfl rfl (by omega) (by omega)
    refine mp_a (a_goto (t := 65) dX7_thickest_92 (by decide)) ?_
    refine MEvP.less (L := [(0, .ref 301), (1, .int t1), (2, .int x25), (3, .int v3), (4, .int v4), (5, .int v5), (6, .int z28)]) rfl rfl ⟨rfl, rfl, rfl, rfl, rfl, rfl, rfl, trivial⟩ ?_
    have i31 : 0 ≤ t1.toInt := by omega
    have i32 : t1.toInt ≤ 7 := by omega
    have i33 : 0 ≤ v3.toInt := by omega
    have i34 : v3.toInt ≤ 7 := by omega
    exact ih _ (by omega) _ _ _ _ _ i31 i32 i33 i34 hmO rfl

set_option maxHeartbeats 4000000 in
theorem c_M_thickest_l28 {Po : mP} {t1 : Int32} (hT : Typ Po)   : ∀ (n : Nat) (v2 : Int32) (v3 : Int32), (0 ≤ t1.toInt) → (t1.toInt ≤ 7) → (0 ≤ v3.toInt) → (2147483647 - v3.toInt).toNat = n → MEvP 5 none q_211 28 [(0, .ref 301), (1, .int t1), (2, .int v2), (3, .int v3)] [] Po 0 0 (fun r P' => (∃ x : Int32, r = some (.int x) ∧ (True)) ∧ P' = Po) := by
  intro n
  induction n using Nat.strongRecOn with | _ n ih => ?_
  intro v2 v3 i_0 i_1 i_2 hm
  have w_v2 := ti_full v2
  have w_v3 := ti_full v3
  refine mp_a (a_iload_n dX7_thickest_28 rfl) (mpp 29 rfl ?_)
  refine mp_a (a_aload_n dX7_thickest_29 rfl) (mpp 30 rfl ?_)
  refine mp_a (a_iload_n dX7_thickest_30 rfl) (mpp 31 rfl ?_)
  refine mp_a (a_iconst (v := 1) dX7_thickest_31 rfl) (mpp 32 rfl ?_)
  have p1 : 0 ≤ t1.toInt := by omega
  have p2 : t1.toInt ≤ 7 := by omega
  have p3 : 0 ≤ (1 : Int) := by omega
  have p4 : (1 : Int) ≤ 18 := by omega
  refine mt_callv (i := 78) (q' := q_137) (As := [.int t1, .int 1]) (rest := [.int v3]) hT dX7_thickest_32 rfl qm_137 (by decide) rfl rl_301 (by decide) rfl (Nat.le_of_ble_eq_true rfl) rfl ⟨rfl, rfl⟩ ⟨Nat.le_of_ble_eq_true rfl, Nat.le_of_ble_eq_true rfl⟩ (EvP.mono (by decide) (c_M_of_c1 hT p1 p2 p3 p4 )) (fun r5 P6 g7 => mpp 35 rfl ?_)
  obtain ⟨⟨x8, rfl, g9⟩, e10⟩ := g7
  have e10 := e10.symm
  subst e10
  have wx8 := ti_full x8
  have g9 : x8.toInt = (fv Po 302 (4 + 19 * t1.toInt.toNat)).toInt ∧ 0 ≤ x8.toInt ∧ x8.toInt ≤ 8 := g9
  show MEvP _ none q_211 35 [(0, .ref 301), (1, .int t1), (2, .int v2), (3, .int v3)] [.int x8, .int v3] _ _ _ _
  refine mp_Tb (t := 101) (j_icmp_ge dX7_thickest_35) (by decide) (fun c11 => ?_) (fun c11 => mpp 38 rfl ?_)
  · have c11 : v3.toInt ≥ x8.toInt := ti_ge c11
    refine mp_a (a_iload_n dX7_thickest_101 rfl) (mpp 102 rfl ?_)
    exact mp_iret ⟨⟨_, rfl, trivial⟩, rfl⟩ dX7_thickest_102 (Or.inl rfl)
  · have c11 : v3.toInt < x8.toInt := ti_ge_n c11
    refine mp_a (a_aload_n dX7_thickest_38 rfl) (mpp 39 rfl ?_)
    refine mp_a (a_iload_n dX7_thickest_39 rfl) (mpp 40 rfl ?_)
    refine mp_a (a_iload_n dX7_thickest_40 rfl) (mpp 41 rfl ?_)
    have p12 : 0 ≤ t1.toInt := by omega
    have p13 : t1.toInt ≤ 7 := by omega
    have p14 : v3.toInt ≤ 8 := by omega
    refine mt_callv (i := 225) (q' := q_186) (As := [.int t1, .int v3]) (rest := []) hT dX7_thickest_41 rfl qm_186 (by decide) rfl rl_301 (by decide) rfl (Nat.le_of_ble_eq_true rfl) rfl ⟨rfl, rfl⟩ ⟨Nat.le_of_ble_eq_true rfl, Nat.le_of_ble_eq_true rfl⟩ (EvP.mono (by decide) (c_M_placeOf hT p12 p13 p14 )) (fun r15 P16 g17 => mpp 44 rfl ?_)
    obtain ⟨⟨x18, rfl, g19⟩, e20⟩ := g17
    have e20 := e20.symm
    subst e20
    have wx18 := ti_full x18
    show MEvP _ none q_211 44 [(0, .ref 301), (1, .int t1), (2, .int v2), (3, .int v3)] [.int x18] _ _ _ _
    refine mp_a (a_istore (L' := [(4, .int x18), (0, .ref 301), (1, .int t1), (2, .int v2), (3, .int v3)]) dX7_thickest_44 (by decide) rfl) (mpp 46 rfl ?_)
    refine mp_a (a_aload_n dX7_thickest_46 rfl) (mpp 47 rfl ?_)
    refine mp_a (a_iload_n dX7_thickest_47 rfl) (mpp 48 rfl ?_)
    refine mp_a (a_iload_n dX7_thickest_48 rfl) (mpp 49 rfl ?_)
    refine mp_a (a_iconst (v := 1) dX7_thickest_49 rfl) (mpp 50 rfl ?_)
    obtain ⟨z21, h22⟩ := ti_ex (v3 + 1 : Int32)
    have wz21 := ti_full z21
    refine mp_t (s_iadd (v := z21) dX7_thickest_50 h22) (mpp 51 rfl ?_)
    try have e23 : z21.toInt = v3.toInt + 1 := ti_addz h22 rfl rfl (by omega) (by omega)
    have p24 : 0 ≤ t1.toInt := by omega
    have p25 : t1.toInt ≤ 7 := by omega
    have p26 : z21.toInt ≤ 8 := by omega
    refine mt_callv (i := 225) (q' := q_186) (As := [.int t1, .int z21]) (rest := []) hT dX7_thickest_51 rfl qm_186 (by decide) rfl rl_301 (by decide) rfl (Nat.le_of_ble_eq_true rfl) rfl ⟨rfl, rfl⟩ ⟨Nat.le_of_ble_eq_true rfl, Nat.le_of_ble_eq_true rfl⟩ (EvP.mono (by decide) (c_M_placeOf hT p24 p25 p26 )) (fun r27 P28 g29 => mpp 54 rfl ?_)
    obtain ⟨⟨x30, rfl, g31⟩, e32⟩ := g29
    have e32 := e32.symm
    subst e32
    have wx30 := ti_full x30
    show MEvP _ none q_211 54 [(4, .int x18), (0, .ref 301), (1, .int t1), (2, .int v2), (3, .int v3)] [.int x30] _ _ _ _
    refine mp_a (a_istore (L' := [(5, .int x30), (4, .int x18), (0, .ref 301), (1, .int t1), (2, .int v2), (3, .int v3)]) dX7_thickest_54 (by decide) rfl) (mpp 56 rfl ?_)
    refine mp_a (a_iload dX7_thickest_56 rfl) (mpp 58 rfl ?_)
    refine mp_a (a_iload dX7_thickest_58 rfl) (mpp 60 rfl ?_)
    refine mp_calls (i := 155) (q' := q_158) (As := [.int x18, .int x30]) (rest := []) dX7_thickest_60 rfl qm_158 (by decide) rfl (Nat.le_of_ble_eq_true rfl) rfl ⟨rfl, rfl⟩ ⟨Nat.le_of_ble_eq_true rfl, Nat.le_of_ble_eq_true rfl⟩ (EvP.mono (by decide) (c_M_lesser hT )) (fun r33 P34 g35 => mpp 63 rfl ?_)
    obtain ⟨⟨x36, rfl, g37⟩, e38⟩ := g35
    have e38 := e38.symm
    subst e38
    have wx36 := ti_full x36
    have g37 : (x36.toInt = x18.toInt ∧ x18.toInt ≤ x30.toInt) ∨ (x36.toInt = x30.toInt ∧ x30.toInt ≤ x18.toInt) := g37
    show MEvP _ none q_211 63 [(5, .int x30), (4, .int x18), (0, .ref 301), (1, .int t1), (2, .int v2), (3, .int v3)] [.int x36] _ _ _ _
    refine mp_a (a_istore (L' := [(6, .int x36), (5, .int x30), (4, .int x18), (0, .ref 301), (1, .int t1), (2, .int v2), (3, .int v3)]) dX7_thickest_63 (by decide) rfl) (mpp 65 rfl ?_)
    refine MEvP.less (L := [(0, .ref 301), (1, .int t1), (2, .int v2), (3, .int v3), (4, .int x18), (5, .int x30), (6, .int x36)]) rfl rfl ⟨rfl, rfl, rfl, rfl, rfl, rfl, rfl, trivial⟩ ?_
    have i39 : 0 ≤ t1.toInt := by omega
    have i40 : t1.toInt ≤ 7 := by omega
    have i41 : 0 ≤ v3.toInt := by omega
    have i42 : v3.toInt ≤ 7 := by omega
    exact c_M_thickest_l65 hT  ih _ _ _ _ _ _ i39 i40 i41 i42 hm rfl

set_option maxHeartbeats 4000000 in
theorem c_M_thickest {Po : mP} {t1 : Int32} (hT : Typ Po)   : EvP 6 211 [.ref 301, .int t1] Po (fun r P' => (∃ x : Int32, r = some (.int x) ∧ (True)) ∧ P' = Po) := by
  refine EvP.of qm_211 (Nat.le_of_ble_eq_true rfl) rfl ?_
  show MEvP _ none q_211 0 [(0, .ref 301), (1, .int t1)] [] _ 0 0 _
  refine mp_a (a_aload_n dX7_thickest_0 rfl) (mpp 1 rfl ?_)
  refine mp_a (a_iload_n dX7_thickest_1 rfl) (mpp 2 rfl ?_)
  refine mt_callv (i := 85) (q' := q_144) (As := [.int t1]) (rest := []) hT dX7_thickest_2 rfl qm_144 (by decide) rfl rl_301 (by decide) rfl (Nat.le_of_ble_eq_true rfl) rfl ⟨rfl, rfl⟩ ⟨Nat.le_of_ble_eq_true rfl, Nat.le_of_ble_eq_true rfl⟩ (EvP.mono (by decide) (c_M_isPiece hT )) (fun r1 P2 g3 => mpp 5 rfl ?_)
  obtain ⟨⟨x4, rfl, g5⟩, e6⟩ := g3
  have e6 := e6.symm
  subst e6
  have wx4 := ti_full x4
  have g5 : 0 ≤ x4.toInt ∧ x4.toInt ≤ 1 ∧ (x4.toInt = 0 ∨ (0 ≤ t1.toInt ∧ t1.toInt + 1 ≤ (fv Po 302 0).toInt ∧ t1.toInt ≤ 7)) := g5
  have g7 : (0 : Int) ≤ (fv Po 302 0).toInt ∧ (fv Po 302 0).toInt ≤ 8 := Typ.rng hT rl_302 (by decide) (by decide) rfl
  show MEvP _ none q_211 5 [(0, .ref 301), (1, .int t1)] [.int x4] _ _ _ _
  refine mp_Tb (t := 12) (j_if_ne dX7_thickest_5) (by decide) (fun c8 => ?_) (fun c8 => mpp 8 rfl ?_)
  · have c8 : x4.toInt ≠ 0 := ti_ne c8
    refine mp_a (a_aload_n dX7_thickest_12 rfl) (mpp 13 rfl ?_)
    refine mp_a (a_iload_n dX7_thickest_13 rfl) (mpp 14 rfl ?_)
    have p9 : 0 ≤ t1.toInt := by omega
    have p10 : t1.toInt ≤ 7 := by omega
    refine mt_callv (i := 81) (q' := q_138) (As := [.int t1]) (rest := []) hT dX7_thickest_14 rfl qm_138 (by decide) rfl rl_301 (by decide) rfl (Nat.le_of_ble_eq_true rfl) rfl ⟨rfl, rfl⟩ ⟨Nat.le_of_ble_eq_true rfl, Nat.le_of_ble_eq_true rfl⟩ (EvP.mono (by decide) (c_M_isCorner hT p9 p10 )) (fun r11 P12 g13 => mpp 17 rfl ?_)
    obtain ⟨⟨x14, rfl, g15⟩, e16⟩ := g13
    have e16 := e16.symm
    subst e16
    have wx14 := ti_full x14
    have g15 : 0 ≤ x14.toInt ∧ x14.toInt ≤ 1 ∧ ((x14.toInt = 1 ∧ (fv Po 302 (3 + 19 * t1.toInt.toNat)).toInt = 1) ∨ (x14.toInt = 0 ∧ (fv Po 302 (3 + 19 * t1.toInt.toNat)).toInt = 0)) := g15
    show MEvP _ none q_211 17 [(0, .ref 301), (1, .int t1)] [.int x14] _ _ _ _
    refine mp_Tb (t := 24) (j_if_eq dX7_thickest_17) (by decide) (fun c17 => ?_) (fun c17 => mpp 20 rfl ?_)
    · have c17 : x14.toInt = 0 := ti_eq c17
      refine mp_a (a_iconst (v := 0) dX7_thickest_24 rfl) (mpp 25 rfl ?_)
      refine mp_a (a_istore_n (L' := [(2, .int 0), (0, .ref 301), (1, .int t1)]) dX7_thickest_25 (by decide) rfl) (mpp 26 rfl ?_)
      refine mp_a (a_iconst (v := 0) dX7_thickest_26 rfl) (mpp 27 rfl ?_)
      refine mp_a (a_istore_n (L' := [(3, .int 0), (2, .int 0), (0, .ref 301), (1, .int t1)]) dX7_thickest_27 (by decide) rfl) (mpp 28 rfl ?_)
      refine MEvP.less (L := [(0, .ref 301), (1, .int t1), (2, .int 0), (3, .int 0)]) rfl rfl ⟨rfl, rfl, rfl, rfl, trivial⟩ ?_
      have i18 : 0 ≤ t1.toInt := by omega
      have i19 : t1.toInt ≤ 7 := by omega
      have i20 : 0 ≤ (0 : Int) := by omega
      exact c_M_thickest_l28 hT  _ _ _ i18 i19 i20 rfl
    · have c17 : x14.toInt ≠ 0 := ti_eq_n c17
      refine mp_a (a_sipush (v := -1002) dX7_thickest_20 rfl) (mpp 23 rfl ?_)
      exact mp_iret ⟨⟨_, rfl, trivial⟩, rfl⟩ dX7_thickest_23 (Or.inl rfl)
  · have c8 : x4.toInt = 0 := ti_ne_n c8
    refine mp_a (a_sipush (v := -1001) dX7_thickest_8 rfl) (mpp 11 rfl ?_)
    exact mp_iret ⟨⟨_, rfl, trivial⟩, rfl⟩ dX7_thickest_11 (Or.inl rfl)

set_option maxHeartbeats 4000000 in
theorem c_M_reflected_l31 {Po : mP} {t1 : Int32} (hT : Typ Po)   : ∀ (n : Nat) (v2 : Int32) (v3 : Int32) (v4 : Int32), (0 ≤ t1.toInt) → (t1.toInt ≤ 7) → (0 ≤ v4.toInt) → (2147483647 - v4.toInt).toNat = n → MEvP 3 none q_213 31 [(0, .ref 301), (1, .int t1), (2, .int v2), (3, .int v3), (4, .int v4)] [] Po 0 0 (fun r P' => (∃ x : Int32, r = some (.int x) ∧ (True)) ∧ P' = Po) := by
  intro n
  induction n using Nat.strongRecOn with | _ n ih => ?_
  intro v2 v3 v4 i_0 i_1 i_2 hm
  have w_v2 := ti_full v2
  have w_v3 := ti_full v3
  have w_v4 := ti_full v4
  refine mp_a (a_iload dX7_reflected_31 rfl) (mpp 33 rfl ?_)
  refine mp_a (a_aload_n dX7_reflected_33 rfl) (mpp 34 rfl ?_)
  refine mp_a (a_iload_n dX7_reflected_34 rfl) (mpp 35 rfl ?_)
  refine mp_a (a_iconst (v := 1) dX7_reflected_35 rfl) (mpp 36 rfl ?_)
  have p1 : 0 ≤ t1.toInt := by omega
  have p2 : t1.toInt ≤ 7 := by omega
  have p3 : 0 ≤ (1 : Int) := by omega
  have p4 : (1 : Int) ≤ 18 := by omega
  refine mt_callv (i := 78) (q' := q_137) (As := [.int t1, .int 1]) (rest := [.int v4]) hT dX7_reflected_36 rfl qm_137 (by decide) rfl rl_301 (by decide) rfl (Nat.le_of_ble_eq_true rfl) rfl ⟨rfl, rfl⟩ ⟨Nat.le_of_ble_eq_true rfl, Nat.le_of_ble_eq_true rfl⟩ (EvP.mono (by decide) (c_M_of_c1 hT p1 p2 p3 p4 )) (fun r5 P6 g7 => mpp 39 rfl ?_)
  obtain ⟨⟨x8, rfl, g9⟩, e10⟩ := g7
  have e10 := e10.symm
  subst e10
  have wx8 := ti_full x8
  have g9 : x8.toInt = (fv Po 302 (4 + 19 * t1.toInt.toNat)).toInt ∧ 0 ≤ x8.toInt ∧ x8.toInt ≤ 8 := g9
  show MEvP _ none q_213 39 [(0, .ref 301), (1, .int t1), (2, .int v2), (3, .int v3), (4, .int v4)] [.int x8, .int v4] _ _ _ _
  refine mp_Tb (t := 73) (j_icmp_ge dX7_reflected_39) (by decide) (fun c11 => ?_) (fun c11 => mpp 42 rfl ?_)
  · have c11 : v4.toInt ≥ x8.toInt := ti_ge c11
    refine mp_a (a_iload_n dX7_reflected_73 rfl) (mpp 74 rfl ?_)
    exact mp_iret ⟨⟨_, rfl, trivial⟩, rfl⟩ dX7_reflected_74 (Or.inl rfl)
  · have c11 : v4.toInt < x8.toInt := ti_ge_n c11
    refine mp_a (a_iconst (v := 2) dX7_reflected_42 rfl) (mpp 43 rfl ?_)
    refine mp_a (a_iload_n dX7_reflected_43 rfl) (mpp 44 rfl ?_)
    obtain ⟨z12, h13⟩ := ti_ex (2 * v3 : Int32)
    have wz12 := ti_full z12
    refine mp_t (s_imul (v := z12) dX7_reflected_44 h13) (mpp 45 rfl ?_)
    try have e14 : z12.toInt = 2 * v3.toInt := ti_mulz h13 rfl rfl (by omega) (by omega)
    refine mp_a (a_iload_n dX7_reflected_45 rfl) (mpp 46 rfl ?_)
    obtain ⟨z15, h16⟩ := ti_ex (z12 - v2 : Int32)
    have wz15 := ti_full z15
    refine mp_t (s_isub (v := z15) dX7_reflected_46 h16) (mpp 47 rfl ?_)
    try have e17 : z15.toInt = z12.toInt - v2.toInt := ti_subz h16 rfl rfl (by omega) (by omega)
    refine mp_a (a_bipush (v := 24) dX7_reflected_47 rfl) (mpp 49 rfl ?_)
    obtain ⟨z18, h19⟩ := ti_ex (z15 - z15 / 24 * 24 : Int32)
    have wz18 := ti_full z18
    try have e20 : 0 ≤ z18.toInt ∧ z18.toInt < 24 := ti_rem h19 (show (0 : Int) ≤ z15.toInt by omega) (show (0 : Int) < 24 by omega)
    refine mp_t (s_irem (v := z18) dX7_reflected_49 (by decide) h19) (mpp 50 rfl ?_)
    refine mp_a (a_bipush (v := 24) dX7_reflected_50 rfl) (mpp 52 rfl ?_)
    obtain ⟨z21, h22⟩ := ti_ex (z18 + 24 : Int32)
    have wz21 := ti_full z21
    refine mp_t (s_iadd (v := z21) dX7_reflected_52 h22) (mpp 53 rfl ?_)
    try have e23 : z21.toInt = z18.toInt + 24 := ti_addz h22 rfl rfl (by omega) (by omega)
    refine mp_a (a_bipush (v := 24) dX7_reflected_53 rfl) (mpp 55 rfl ?_)
    obtain ⟨z24, h25⟩ := ti_ex (z21 - z21 / 24 * 24 : Int32)
    have wz24 := ti_full z24
    try have e26 : 0 ≤ z24.toInt ∧ z24.toInt < 24 := ti_rem h25 (show (0 : Int) ≤ z21.toInt by omega) (show (0 : Int) < 24 by omega)
    refine mp_t (s_irem (v := z24) dX7_reflected_55 (by decide) h25) (mpp 56 rfl ?_)
    refine mp_a (a_istore_n (L' := [(2, .int z24), (0, .ref 301), (1, .int t1), (3, .int v3), (4, .int v4)]) dX7_reflected_56 (by decide) rfl) (mpp 57 rfl ?_)
    refine mp_a (a_iload_n dX7_reflected_57 rfl) (mpp 58 rfl ?_)
    refine mp_a (a_aload_n dX7_reflected_58 rfl) (mpp 59 rfl ?_)
    refine mp_a (a_iload_n dX7_reflected_59 rfl) (mpp 60 rfl ?_)
    refine mp_a (a_iload dX7_reflected_60 rfl) (mpp 62 rfl ?_)
    have p27 : 0 ≤ t1.toInt := by omega
    have p28 : t1.toInt ≤ 7 := by omega
    have p29 : 0 ≤ v4.toInt := by omega
    have p30 : v4.toInt ≤ 7 := by omega
    refine mt_callv (i := 142) (q' := q_152) (As := [.int t1, .int v4]) (rest := [.int v3]) hT dX7_reflected_62 rfl qm_152 (by decide) rfl rl_301 (by decide) rfl (Nat.le_of_ble_eq_true rfl) rfl ⟨rfl, rfl⟩ ⟨Nat.le_of_ble_eq_true rfl, Nat.le_of_ble_eq_true rfl⟩ (EvP.mono (by decide) (c_M_sizeOf hT p27 p28 p29 p30 )) (fun r31 P32 g33 => mpp 65 rfl ?_)
    obtain ⟨⟨x34, rfl, g35⟩, e36⟩ := g33
    have e36 := e36.symm
    subst e36
    have wx34 := ti_full x34
    show MEvP _ none q_213 65 [(2, .int z24), (0, .ref 301), (1, .int t1), (3, .int v3), (4, .int v4)] [.int x34, .int v3] _ _ _ _
    obtain ⟨z37, h38⟩ := ti_ex (v3 + x34 : Int32)
    have wz37 := ti_full z37
    refine mp_t (s_iadd (v := z37) dX7_reflected_65 h38) (mpp 66 rfl ?_)
    try have e39 : z37.toInt = v3.toInt + x34.toInt := ti_addz h38 rfl rfl (by omega) (by omega)
    refine mp_a (a_istore_n (L' := [(3, .int z37), (2, .int z24), (0, .ref 301), (1, .int t1), (4, .int v4)]) dX7_reflected_66 (by decide) rfl) (mpp 67 rfl ?_)
    obtain ⟨z40, h41⟩ := ti_ex (v4 + 1 : Int32)
    have wz40 := ti_full z40
    refine mp_a (a_iinc (v := z40) (L' := [(4, .int z40), (3, .int z37), (2, .int z24), (0, .ref 301), (1, .int t1)]) dX7_reflected_67 (by decide) rfl h41 rfl) (mpp 70 rfl ?_)
    try have e42 : z40.toInt = v4.toInt + 1 := ti_addz h41 rfl rfl (by omega) (by omega)
    refine mp_a (a_goto (t := 31) dX7_reflected_70 (by decide)) ?_
    refine MEvP.less (L := [(0, .ref 301), (1, .int t1), (2, .int z24), (3, .int z37), (4, .int z40)]) rfl rfl ⟨rfl, rfl, rfl, rfl, rfl, trivial⟩ ?_
    have i43 : 0 ≤ t1.toInt := by omega
    have i44 : t1.toInt ≤ 7 := by omega
    have i45 : 0 ≤ z40.toInt := by omega
    exact ih _ (by omega) _ _ _ i43 i44 i45 rfl

set_option maxHeartbeats 4000000 in
theorem c_M_reflected {Po : mP} {t1 : Int32} (hT : Typ Po)   : EvP 4 213 [.ref 301, .int t1] Po (fun r P' => (∃ x : Int32, r = some (.int x) ∧ (True)) ∧ P' = Po) := by
  refine EvP.of qm_213 (Nat.le_of_ble_eq_true rfl) rfl ?_
  show MEvP _ none q_213 0 [(0, .ref 301), (1, .int t1)] [] _ 0 0 _
  refine mp_a (a_aload_n dX7_reflected_0 rfl) (mpp 1 rfl ?_)
  refine mp_a (a_iload_n dX7_reflected_1 rfl) (mpp 2 rfl ?_)
  refine mt_callv (i := 85) (q' := q_144) (As := [.int t1]) (rest := []) hT dX7_reflected_2 rfl qm_144 (by decide) rfl rl_301 (by decide) rfl (Nat.le_of_ble_eq_true rfl) rfl ⟨rfl, rfl⟩ ⟨Nat.le_of_ble_eq_true rfl, Nat.le_of_ble_eq_true rfl⟩ (EvP.mono (by decide) (c_M_isPiece hT )) (fun r1 P2 g3 => mpp 5 rfl ?_)
  obtain ⟨⟨x4, rfl, g5⟩, e6⟩ := g3
  have e6 := e6.symm
  subst e6
  have wx4 := ti_full x4
  have g5 : 0 ≤ x4.toInt ∧ x4.toInt ≤ 1 ∧ (x4.toInt = 0 ∨ (0 ≤ t1.toInt ∧ t1.toInt + 1 ≤ (fv Po 302 0).toInt ∧ t1.toInt ≤ 7)) := g5
  have g7 : (0 : Int) ≤ (fv Po 302 0).toInt ∧ (fv Po 302 0).toInt ≤ 8 := Typ.rng hT rl_302 (by decide) (by decide) rfl
  show MEvP _ none q_213 5 [(0, .ref 301), (1, .int t1)] [.int x4] _ _ _ _
  refine mp_Tb (t := 12) (j_if_ne dX7_reflected_5) (by decide) (fun c8 => ?_) (fun c8 => mpp 8 rfl ?_)
  · have c8 : x4.toInt ≠ 0 := ti_ne c8
    refine mp_a (a_aload_n dX7_reflected_12 rfl) (mpp 13 rfl ?_)
    refine mp_a (a_iload_n dX7_reflected_13 rfl) (mpp 14 rfl ?_)
    have p9 : 0 ≤ t1.toInt := by omega
    have p10 : t1.toInt ≤ 7 := by omega
    refine mt_callv (i := 81) (q' := q_138) (As := [.int t1]) (rest := []) hT dX7_reflected_14 rfl qm_138 (by decide) rfl rl_301 (by decide) rfl (Nat.le_of_ble_eq_true rfl) rfl ⟨rfl, rfl⟩ ⟨Nat.le_of_ble_eq_true rfl, Nat.le_of_ble_eq_true rfl⟩ (EvP.mono (by decide) (c_M_isCorner hT p9 p10 )) (fun r11 P12 g13 => mpp 17 rfl ?_)
    obtain ⟨⟨x14, rfl, g15⟩, e16⟩ := g13
    have e16 := e16.symm
    subst e16
    have wx14 := ti_full x14
    have g15 : 0 ≤ x14.toInt ∧ x14.toInt ≤ 1 ∧ ((x14.toInt = 1 ∧ (fv Po 302 (3 + 19 * t1.toInt.toNat)).toInt = 1) ∨ (x14.toInt = 0 ∧ (fv Po 302 (3 + 19 * t1.toInt.toNat)).toInt = 0)) := g15
    show MEvP _ none q_213 17 [(0, .ref 301), (1, .int t1)] [.int x14] _ _ _ _
    refine mp_Tb (t := 24) (j_if_ne dX7_reflected_17) (by decide) (fun c17 => ?_) (fun c17 => mpp 20 rfl ?_)
    · have c17 : x14.toInt ≠ 0 := ti_ne c17
      refine mp_a (a_iconst (v := 0) dX7_reflected_24 rfl) (mpp 25 rfl ?_)
      refine mp_a (a_istore_n (L' := [(2, .int 0), (0, .ref 301), (1, .int t1)]) dX7_reflected_25 (by decide) rfl) (mpp 26 rfl ?_)
      refine mp_a (a_iconst (v := 0) dX7_reflected_26 rfl) (mpp 27 rfl ?_)
      refine mp_a (a_istore_n (L' := [(3, .int 0), (2, .int 0), (0, .ref 301), (1, .int t1)]) dX7_reflected_27 (by decide) rfl) (mpp 28 rfl ?_)
      refine mp_a (a_iconst (v := 0) dX7_reflected_28 rfl) (mpp 29 rfl ?_)
      refine mp_a (a_istore (L' := [(4, .int 0), (3, .int 0), (2, .int 0), (0, .ref 301), (1, .int t1)]) dX7_reflected_29 (by decide) rfl) (mpp 31 rfl ?_)
      refine MEvP.less (L := [(0, .ref 301), (1, .int t1), (2, .int 0), (3, .int 0), (4, .int 0)]) rfl rfl ⟨rfl, rfl, rfl, rfl, rfl, trivial⟩ ?_
      have i18 : 0 ≤ t1.toInt := by omega
      have i19 : t1.toInt ≤ 7 := by omega
      have i20 : 0 ≤ (0 : Int) := by omega
      exact c_M_reflected_l31 hT  _ _ _ _ i18 i19 i20 rfl
    · have c17 : x14.toInt = 0 := ti_ne_n c17
      refine mp_a (a_sipush (v := -1002) dX7_reflected_20 rfl) (mpp 23 rfl ?_)
      exact mp_iret ⟨⟨_, rfl, trivial⟩, rfl⟩ dX7_reflected_23 (Or.inl rfl)
  · have c8 : x4.toInt = 0 := ti_ne_n c8
    refine mp_a (a_sipush (v := -1001) dX7_reflected_8 rfl) (mpp 11 rfl ?_)
    exact mp_iret ⟨⟨_, rfl, trivial⟩, rfl⟩ dX7_reflected_11 (Or.inl rfl)

