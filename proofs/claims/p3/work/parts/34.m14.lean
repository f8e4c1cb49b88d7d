/-! methods on typed pools, 14 (written by a program) -/
set_option maxHeartbeats 4000000 in
theorem c_F_layer {Po : mP} {t1 : Int32} {t2 : Int32} (hT : Typ Po) (hX : XR Po)   : EvP 6 83 [.ref 0, .int t1, .int t2] Po (fun r P' => (∃ x : Int32, r = some (.int x) ∧ (True)) ∧ Typ P' ∧ KW [832, 896, 960, 1024] Po P' ∧ True) := by
  refine EvP.of qm_83 (Nat.le_of_ble_eq_true rfl) rfl ?_
  show MEvP _ none q_83 0 [(0, .ref 0), (1, .int t1), (2, .int t2)] [] _ 0 0 _
  have w_t1 := ti_full t1
  have w_t2 := ti_full t2
  refine mp_a (a_aload_n dX6_layer_0 rfl) (mpp 1 rfl ?_)
  refine mt_getU (i := 10) (k := 0) (A := 1) hT dX6_layer_1 rfl rl_0 (by decide) rfl (by decide) rfl un_31 (mpp 4 rfl ?_)
  refine mp_a (a_iload_n dX6_layer_4 rfl) (mpp 5 rfl ?_)
  refine mt_callv (i := 94) (q' := q_9) (As := [.int t1]) (rest := []) hT dX6_layer_5 rfl qm_9 (by decide) rfl rl_1 (by decide) rfl (Nat.le_of_ble_eq_true rfl) rfl ⟨rfl, rfl⟩ ⟨Nat.le_of_ble_eq_true rfl, Nat.le_of_ble_eq_true rfl⟩ (EvP.mono (by decide) (c_CS_pieceAt_NState hT hX )) (fun r1 P2 g3 => mpp 8 rfl ?_)
  obtain ⟨g3, e4⟩ := g3
  have e4 := e4.symm
  subst e4
  rcases g3 with ⟨rfl, q6n⟩ | ⟨b5, rfl, q6, q6r⟩
  · show MEvP _ none q_83 8 [(0, .ref 0), (1, .int t1), (2, .int t2)] [.null] _ _ _ _
    replace q6n : t1.toInt < 0 ∨ (fv Po 1 1).toInt ≤ t1.toInt ∨ 8 ≤ t1.toInt := q6n
    have g7 : (0 : Int) ≤ (fv Po 1 1).toInt ∧ (fv Po 1 1).toInt ≤ 8 := Typ.rng hT rl_1 (by decide) (by decide) rfl
    refine mp_a (a_astore_nN (L' := [(3, .null), (0, .ref 0), (1, .int t1), (2, .int t2)]) dX6_layer_8 (by decide) rfl) (mpp 9 rfl ?_)
    refine mp_a (a_aload_nN dX6_layer_9 rfl) (mpp 10 rfl ?_)
    refine mp_t (s_ifnonnullN dX6_layer_10) (mpp 13 rfl ?_)
    refine mp_a (a_sipush (v := -1001) dX6_layer_13 rfl) (mpp 16 rfl ?_)
    exact mp_iret ⟨⟨_, rfl, trivial⟩, hT, KW.refl, trivial⟩ dX6_layer_16 (Or.inl rfl)
  · show MEvP _ none q_83 8 [(0, .ref 0), (1, .int t1), (2, .int t2)] [.ref b5] _ _ _ _
    replace q6r : 0 ≤ t1.toInt ∧ t1.toInt ≤ 7 ∧ t1.toInt + 1 ≤ (fv Po 1 1).toInt ∧ rv Po 2 t1.toInt.toNat = b5 := q6r
    have g8 : (0 : Int) ≤ (fv Po 1 1).toInt ∧ (fv Po 1 1).toInt ≤ 8 := Typ.rng hT rl_1 (by decide) (by decide) rfl
    have w9 := np_ar q6
    refine mp_a (a_astore_n (L' := [(3, .ref b5), (0, .ref 0), (1, .int t1), (2, .int t2)]) dX6_layer_8 (by decide) rfl) (mpp 9 rfl ?_)
    refine mp_a (a_aload_n dX6_layer_9 rfl) (mpp 10 rfl ?_)
    refine mp_t (s_ifnonnullR (t := 17) dX6_layer_10 (by decide)) ?_
    refine mp_a (a_aload_n dX6_layer_17 rfl) (mpp 18 rfl ?_)
    have g10 := ti_full (fv Po b5 0)
    refine mt_getI (i := 130) (k := 0) hT dX6_layer_18 rfl q6 (by decide) rfl (by decide) rfl (fun g11 g12 => mpp 21 rfl ?_)
    refine mp_Tb (t := 40) (j_if_ne dX6_layer_21) (by decide) (fun c13 => ?_) (fun c13 => mpp 24 rfl ?_)
    · have c13 : (fv Po b5 0).toInt ≠ 0 := ti_ne c13
      refine mp_a (a_aload_n dX6_layer_40 rfl) (mpp 41 rfl ?_)
      refine mp_calls (i := 181) (q' := q_63) (As := [.ref b5]) (rest := []) dX6_layer_41 rfl qm_63 (by decide) rfl (Nat.le_of_ble_eq_true rfl) rfl ⟨rfl, rfl⟩ ⟨Nat.le_of_ble_eq_true rfl, Nat.le_of_ble_eq_true rfl⟩ (EvP.mono (by decide) (c_F_errorOfDecidedStrip_NPiece hT hX q6)) (fun r14 P15 g16 => mpp 44 rfl ?_)
      obtain ⟨⟨x17, rfl, g18⟩, e19⟩ := g16
      have e19 := e19.symm
      subst e19
      have wx17 := ti_full x17
      show MEvP _ none q_83 44 [(3, .ref b5), (0, .ref 0), (1, .int t1), (2, .int t2)] [.int x17] _ _ _ _
      refine mp_a (a_istore (L' := [(4, .int x17), (3, .ref b5), (0, .ref 0), (1, .int t1), (2, .int t2)]) dX6_layer_44 (by decide) rfl) (mpp 46 rfl ?_)
      refine mp_a (a_iload dX6_layer_46 rfl) (mpp 48 rfl ?_)
      refine mp_Tb (t := 54) (j_if_eq dX6_layer_48) (by decide) (fun c20 => ?_) (fun c20 => mpp 51 rfl ?_)
      · have c20 : x17.toInt = 0 := ti_eq c20
        refine mp_a (a_aload_n dX6_layer_54 rfl) (mpp 55 rfl ?_)
        refine mt_getU (i := 46) (k := 6) (A := 294) hT dX6_layer_55 rfl rl_0 (by decide) rfl (by decide) rfl un_13 (mpp 58 rfl ?_)
        refine mp_a (a_aload_n dX6_layer_58 rfl) (mpp 59 rfl ?_)
        refine mp_a (a_iconst (v := 1) dX6_layer_59 rfl) (mpp 60 rfl ?_)
        refine mt_callv (i := 184) (q' := q_64) (As := [.ref b5, .int 1]) (rest := []) hT dX6_layer_60 rfl qm_64 (by decide) rfl rl_294 (by decide) rfl (Nat.le_of_ble_eq_true rfl) rfl ⟨rfl, rfl⟩ ⟨Nat.le_of_ble_eq_true rfl, Nat.le_of_ble_eq_true rfl⟩ (EvP.mono (by decide) (c_CL_search_Layers_NPiece hT hX q6)) (fun r21 P22 g23 => mpp 63 rfl ?_)
        obtain ⟨⟨x24, rfl, g25⟩, hT26, k27, R28⟩ := g23
        have k29 : KW [832, 896, 960, 1024] Po P22 := KW.trans KW.refl k27 rfl
        have wx24 := ti_full x24
        show MEvP _ none q_83 63 [(4, .int x17), (3, .ref b5), (0, .ref 0), (1, .int t1), (2, .int t2)] [.int x24] _ _ _ _
        refine mp_Tb (t := 72) (j_if_ne dX6_layer_63) (by decide) (fun c31 => ?_) (fun c31 => mpp 66 rfl ?_)
        · have c31 : x24.toInt ≠ 0 := ti_ne c31
          refine mp_a (a_aload_n dX6_layer_72 rfl) (mpp 73 rfl ?_)
          refine mt_getU (i := 46) (k := 6) (A := 294) hT26 dX6_layer_73 rfl rl_0 (by decide) rfl (by decide) rfl un_13 (mpp 76 rfl ?_)
          refine mt_getU (i := 206) (k := 1) (A := 295) hT26 dX6_layer_76 rfl rl_294 (by decide) rfl (by decide) rfl un_14 (mpp 79 rfl ?_)
          refine mp_a (a_iload_n dX6_layer_79 rfl) (mpp 80 rfl ?_)
          refine mp_calls (i := 112) (q' := q_12) (As := [.ref 295, .int t2]) (rest := []) dX6_layer_80 rfl qm_12 (by decide) rfl (Nat.le_of_ble_eq_true rfl) rfl ⟨rfl, rfl⟩ ⟨Nat.le_of_ble_eq_true rfl, Nat.le_of_ble_eq_true rfl⟩ (EvP.mono (by decide) (c_F_at_order hT26 (KW.xr k29 hX) )) (fun r32 P33 g34 => mpp 83 rfl ?_)
          obtain ⟨⟨x35, rfl, g36⟩, e37⟩ := g34
          have e37 := e37.symm
          subst e37
          have wx35 := ti_full x35
          replace g36 : (0 ≤ t2.toInt ∧ t2.toInt ≤ 7 ∧ x35.toInt = (fv P22 295 t2.toInt.toNat).toInt) ∨ ((t2.toInt < 0 ∨ 8 ≤ t2.toInt) ∧ x35.toInt = 0) := g36
          try replace g36 : x35.toInt = (fv P22 295 t2.toInt.toNat).toInt := (g36.resolve_right (by omega)).2.2
          show MEvP _ none q_83 83 [(4, .int x17), (3, .ref b5), (0, .ref 0), (1, .int t1), (2, .int t2)] [.int x35] _ _ _ _
          exact mp_iret ⟨⟨_, rfl, trivial⟩, hT26, k29, trivial⟩ dX6_layer_83 (Or.inl rfl)
        · have c31 : x24.toInt = 0 := ti_ne_n c31
          refine mp_a (a_sipush (v := -1004) dX6_layer_66 rfl) (mpp 69 rfl ?_)
          refine mp_a (a_goto (t := 83) dX6_layer_69 (by decide)) ?_
          exact mp_iret ⟨⟨_, rfl, trivial⟩, hT26, k29, trivial⟩ dX6_layer_83 (Or.inl rfl)
      · have c20 : x17.toInt ≠ 0 := ti_eq_n c20
        refine mp_a (a_iload dX6_layer_51 rfl) (mpp 53 rfl ?_)
        exact mp_iret ⟨⟨_, rfl, trivial⟩, hT, KW.refl, trivial⟩ dX6_layer_53 (Or.inl rfl)
    · have c13 : (fv Po b5 0).toInt = 0 := ti_ne_n c13
      refine mp_a (a_iload_n dX6_layer_24 rfl) (mpp 25 rfl ?_)
      refine mp_Tb (t := 36) (j_if_lt dX6_layer_25) (by decide) (fun c38 => ?_) (fun c38 => mpp 28 rfl ?_)
      · have c38 : t2.toInt < 0 := ti_lt c38
        refine mp_a (a_sipush (v := -1001) dX6_layer_36 rfl) (mpp 39 rfl ?_)
        exact mp_iret ⟨⟨_, rfl, trivial⟩, hT, KW.refl, trivial⟩ dX6_layer_39 (Or.inl rfl)
      · have c38 : t2.toInt ≥ 0 := ti_lt_n c38
        refine mp_a (a_iload_n dX6_layer_28 rfl) (mpp 29 rfl ?_)
        refine mp_a (a_aload_n dX6_layer_29 rfl) (mpp 30 rfl ?_)
        have g39 : (0 : Int) ≤ (fv Po b5 1).toInt ∧ (fv Po b5 1).toInt ≤ 8 := Typ.rng hT q6 (by decide) (by decide) rfl
        refine mt_getI (i := 143) (k := 1) hT dX6_layer_30 rfl q6 (by decide) rfl (by decide) rfl (fun g40 g41 => mpp 33 rfl ?_)
        refine mp_Tb (t := 40) (j_icmp_lt dX6_layer_33) (by decide) (fun c42 => ?_) (fun c42 => mpp 36 rfl ?_)
        · have c42 : t2.toInt < (fv Po b5 1).toInt := ti_lt c42
          refine mp_a (a_aload_n dX6_layer_40 rfl) (mpp 41 rfl ?_)
          refine mp_calls (i := 181) (q' := q_63) (As := [.ref b5]) (rest := []) dX6_layer_41 rfl qm_63 (by decide) rfl (Nat.le_of_ble_eq_true rfl) rfl ⟨rfl, rfl⟩ ⟨Nat.le_of_ble_eq_true rfl, Nat.le_of_ble_eq_true rfl⟩ (EvP.mono (by decide) (c_F_errorOfDecidedStrip_NPiece hT hX q6)) (fun r43 P44 g45 => mpp 44 rfl ?_)
          obtain ⟨⟨x46, rfl, g47⟩, e48⟩ := g45
          have e48 := e48.symm
          subst e48
          have wx46 := ti_full x46
          show MEvP _ none q_83 44 [(3, .ref b5), (0, .ref 0), (1, .int t1), (2, .int t2)] [.int x46] _ _ _ _
          refine mp_a (a_istore (L' := [(4, .int x46), (3, .ref b5), (0, .ref 0), (1, .int t1), (2, .int t2)]) dX6_layer_44 (by decide) rfl) (mpp 46 rfl ?_)
          refine mp_a (a_iload dX6_layer_46 rfl) (mpp 48 rfl ?_)
          refine mp_Tb (t := 54) (j_if_eq dX6_layer_48) (by decide) (fun c49 => ?_) (fun c49 => mpp 51 rfl ?_)
          · have c49 : x46.toInt = 0 := ti_eq c49
            refine mp_a (a_aload_n dX6_layer_54 rfl) (mpp 55 rfl ?_)
            refine mt_getU (i := 46) (k := 6) (A := 294) hT dX6_layer_55 rfl rl_0 (by decide) rfl (by decide) rfl un_13 (mpp 58 rfl ?_)
            refine mp_a (a_aload_n dX6_layer_58 rfl) (mpp 59 rfl ?_)
            refine mp_a (a_iconst (v := 1) dX6_layer_59 rfl) (mpp 60 rfl ?_)
            refine mt_callv (i := 184) (q' := q_64) (As := [.ref b5, .int 1]) (rest := []) hT dX6_layer_60 rfl qm_64 (by decide) rfl rl_294 (by decide) rfl (Nat.le_of_ble_eq_true rfl) rfl ⟨rfl, rfl⟩ ⟨Nat.le_of_ble_eq_true rfl, Nat.le_of_ble_eq_true rfl⟩ (EvP.mono (by decide) (c_CL_search_Layers_NPiece hT hX q6)) (fun r50 P51 g52 => mpp 63 rfl ?_)
            obtain ⟨⟨x53, rfl, g54⟩, hT55, k56, R57⟩ := g52
            have k58 : KW [832, 896, 960, 1024] Po P51 := KW.trans KW.refl k56 rfl
            have wx53 := ti_full x53
            show MEvP _ none q_83 63 [(4, .int x46), (3, .ref b5), (0, .ref 0), (1, .int t1), (2, .int t2)] [.int x53] _ _ _ _
            refine mp_Tb (t := 72) (j_if_ne dX6_layer_63) (by decide) (fun c60 => ?_) (fun c60 => mpp 66 rfl ?_)
            · have c60 : x53.toInt ≠ 0 := ti_ne c60
              refine mp_a (a_aload_n dX6_layer_72 rfl) (mpp 73 rfl ?_)
              refine mt_getU (i := 46) (k := 6) (A := 294) hT55 dX6_layer_73 rfl rl_0 (by decide) rfl (by decide) rfl un_13 (mpp 76 rfl ?_)
              refine mt_getU (i := 206) (k := 1) (A := 295) hT55 dX6_layer_76 rfl rl_294 (by decide) rfl (by decide) rfl un_14 (mpp 79 rfl ?_)
              refine mp_a (a_iload_n dX6_layer_79 rfl) (mpp 80 rfl ?_)
              refine mp_calls (i := 112) (q' := q_12) (As := [.ref 295, .int t2]) (rest := []) dX6_layer_80 rfl qm_12 (by decide) rfl (Nat.le_of_ble_eq_true rfl) rfl ⟨rfl, rfl⟩ ⟨Nat.le_of_ble_eq_true rfl, Nat.le_of_ble_eq_true rfl⟩ (EvP.mono (by decide) (c_F_at_order hT55 (KW.xr k58 hX) )) (fun r61 P62 g63 => mpp 83 rfl ?_)
              obtain ⟨⟨x64, rfl, g65⟩, e66⟩ := g63
              have e66 := e66.symm
              subst e66
              have wx64 := ti_full x64
              replace g65 : (0 ≤ t2.toInt ∧ t2.toInt ≤ 7 ∧ x64.toInt = (fv P51 295 t2.toInt.toNat).toInt) ∨ ((t2.toInt < 0 ∨ 8 ≤ t2.toInt) ∧ x64.toInt = 0) := g65
              try replace g65 : x64.toInt = (fv P51 295 t2.toInt.toNat).toInt := (g65.resolve_right (by omega)).2.2
              show MEvP _ none q_83 83 [(4, .int x46), (3, .ref b5), (0, .ref 0), (1, .int t1), (2, .int t2)] [.int x64] _ _ _ _
              exact mp_iret ⟨⟨_, rfl, trivial⟩, hT55, k58, trivial⟩ dX6_layer_83 (Or.inl rfl)
            · have c60 : x53.toInt = 0 := ti_ne_n c60
              refine mp_a (a_sipush (v := -1004) dX6_layer_66 rfl) (mpp 69 rfl ?_)
              refine mp_a (a_goto (t := 83) dX6_layer_69 (by decide)) ?_
              exact mp_iret ⟨⟨_, rfl, trivial⟩, hT55, k58, trivial⟩ dX6_layer_83 (Or.inl rfl)
          · have c49 : x46.toInt ≠ 0 := ti_eq_n c49
            refine mp_a (a_iload dX6_layer_51 rfl) (mpp 53 rfl ?_)
            exact mp_iret ⟨⟨_, rfl, trivial⟩, hT, KW.refl, trivial⟩ dX6_layer_53 (Or.inl rfl)
        · have c42 : t2.toInt ≥ (fv Po b5 1).toInt := ti_lt_n c42
          refine mp_a (a_sipush (v := -1001) dX6_layer_36 rfl) (mpp 39 rfl ?_)
          exact mp_iret ⟨⟨_, rfl, trivial⟩, hT, KW.refl, trivial⟩ dX6_layer_39 (Or.inl rfl)

set_option maxHeartbeats 4000000 in
theorem c_F_orders {Po : mP} {t1 : Int32} (hT : Typ Po) (hX : XR Po)   : EvP 6 84 [.ref 0, .int t1] Po (fun r P' => (∃ x : Int32, r = some (.int x) ∧ (True)) ∧ Typ P' ∧ KW [832, 896, 960, 1024] Po P' ∧ True) := by
  refine EvP.of qm_84 (Nat.le_of_ble_eq_true rfl) rfl ?_
  show MEvP _ none q_84 0 [(0, .ref 0), (1, .int t1)] [] _ 0 0 _
  have w_t1 := ti_full t1
  refine mp_a (a_aload_n dX6_orders_0 rfl) (mpp 1 rfl ?_)
  refine mt_getU (i := 10) (k := 0) (A := 1) hT dX6_orders_1 rfl rl_0 (by decide) rfl (by decide) rfl un_31 (mpp 4 rfl ?_)
  refine mp_a (a_iload_n dX6_orders_4 rfl) (mpp 5 rfl ?_)
  refine mt_callv (i := 94) (q' := q_9) (As := [.int t1]) (rest := []) hT dX6_orders_5 rfl qm_9 (by decide) rfl rl_1 (by decide) rfl (Nat.le_of_ble_eq_true rfl) rfl ⟨rfl, rfl⟩ ⟨Nat.le_of_ble_eq_true rfl, Nat.le_of_ble_eq_true rfl⟩ (EvP.mono (by decide) (c_CS_pieceAt_NState hT hX )) (fun r1 P2 g3 => mpp 8 rfl ?_)
  obtain ⟨g3, e4⟩ := g3
  have e4 := e4.symm
  subst e4
  rcases g3 with ⟨rfl, q6n⟩ | ⟨b5, rfl, q6, q6r⟩
  · show MEvP _ none q_84 8 [(0, .ref 0), (1, .int t1)] [.null] _ _ _ _
    replace q6n : t1.toInt < 0 ∨ (fv Po 1 1).toInt ≤ t1.toInt ∨ 8 ≤ t1.toInt := q6n
    have g7 : (0 : Int) ≤ (fv Po 1 1).toInt ∧ (fv Po 1 1).toInt ≤ 8 := Typ.rng hT rl_1 (by decide) (by decide) rfl
    refine mp_a (a_astore_nN (L' := [(2, .null), (0, .ref 0), (1, .int t1)]) dX6_orders_8 (by decide) rfl) (mpp 9 rfl ?_)
    refine mp_a (a_aload_nN dX6_orders_9 rfl) (mpp 10 rfl ?_)
    refine mp_calls (i := 181) (q' := q_63) (As := [.null]) (rest := []) dX6_orders_10 rfl qm_63 (by decide) rfl (Nat.le_of_ble_eq_true rfl) rfl ⟨rfl, rfl⟩ ⟨Nat.le_of_ble_eq_true rfl, Nat.le_of_ble_eq_true rfl⟩ (EvP.mono (by decide) (c_F_errorOfDecidedStrip_null hT hX )) (fun r8 P9 g10 => mpp 13 rfl ?_)
    obtain ⟨⟨x11, rfl, g12⟩, e13⟩ := g10
    have e13 := e13.symm
    subst e13
    have wx11 := ti_full x11
    show MEvP _ none q_84 13 [(2, .null), (0, .ref 0), (1, .int t1)] [.int x11] _ _ _ _
    refine mp_a (a_istore_n (L' := [(3, .int x11), (2, .null), (0, .ref 0), (1, .int t1)]) dX6_orders_13 (by decide) rfl) (mpp 14 rfl ?_)
    refine mp_a (a_iload_n dX6_orders_14 rfl) (mpp 15 rfl ?_)
    refine mp_Tb (t := 22) (j_if_ne dX6_orders_15) (by decide) (fun c14 => ?_) (fun c14 => mpp 18 rfl ?_)
    · have c14 : x11.toInt ≠ 0 := ti_ne c14
      refine mp_a (a_iload_n dX6_orders_22 rfl) (mpp 23 rfl ?_)
      exact mp_iret ⟨⟨_, rfl, trivial⟩, hT, KW.refl, trivial⟩ dX6_orders_23 (Or.inl rfl)
    · have c14 : x11.toInt = 0 := ti_ne_n c14
      refine mp_a (a_aload_nN dX6_orders_18 rfl) (mpp 19 rfl ?_)
      refine mp_t (s_ifnonnullN dX6_orders_19) (mpp 22 rfl ?_)
      refine mp_a (a_iload_n dX6_orders_22 rfl) (mpp 23 rfl ?_)
      exact mp_iret ⟨⟨_, rfl, trivial⟩, hT, KW.refl, trivial⟩ dX6_orders_23 (Or.inl rfl)
  · show MEvP _ none q_84 8 [(0, .ref 0), (1, .int t1)] [.ref b5] _ _ _ _
    replace q6r : 0 ≤ t1.toInt ∧ t1.toInt ≤ 7 ∧ t1.toInt + 1 ≤ (fv Po 1 1).toInt ∧ rv Po 2 t1.toInt.toNat = b5 := q6r
    have g15 : (0 : Int) ≤ (fv Po 1 1).toInt ∧ (fv Po 1 1).toInt ≤ 8 := Typ.rng hT rl_1 (by decide) (by decide) rfl
    have w16 := np_ar q6
    refine mp_a (a_astore_n (L' := [(2, .ref b5), (0, .ref 0), (1, .int t1)]) dX6_orders_8 (by decide) rfl) (mpp 9 rfl ?_)
    refine mp_a (a_aload_n dX6_orders_9 rfl) (mpp 10 rfl ?_)
    refine mp_calls (i := 181) (q' := q_63) (As := [.ref b5]) (rest := []) dX6_orders_10 rfl qm_63 (by decide) rfl (Nat.le_of_ble_eq_true rfl) rfl ⟨rfl, rfl⟩ ⟨Nat.le_of_ble_eq_true rfl, Nat.le_of_ble_eq_true rfl⟩ (EvP.mono (by decide) (c_F_errorOfDecidedStrip_NPiece hT hX q6)) (fun r17 P18 g19 => mpp 13 rfl ?_)
    obtain ⟨⟨x20, rfl, g21⟩, e22⟩ := g19
    have e22 := e22.symm
    subst e22
    have wx20 := ti_full x20
    show MEvP _ none q_84 13 [(2, .ref b5), (0, .ref 0), (1, .int t1)] [.int x20] _ _ _ _
    refine mp_a (a_istore_n (L' := [(3, .int x20), (2, .ref b5), (0, .ref 0), (1, .int t1)]) dX6_orders_13 (by decide) rfl) (mpp 14 rfl ?_)
    refine mp_a (a_iload_n dX6_orders_14 rfl) (mpp 15 rfl ?_)
    refine mp_Tb (t := 22) (j_if_ne dX6_orders_15) (by decide) (fun c23 => ?_) (fun c23 => mpp 18 rfl ?_)
    · have c23 : x20.toInt ≠ 0 := ti_ne c23
      refine mp_a (a_iload_n dX6_orders_22 rfl) (mpp 23 rfl ?_)
      exact mp_iret ⟨⟨_, rfl, trivial⟩, hT, KW.refl, trivial⟩ dX6_orders_23 (Or.inl rfl)
    · have c23 : x20.toInt = 0 := ti_ne_n c23
      refine mp_a (a_aload_n dX6_orders_18 rfl) (mpp 19 rfl ?_)
      refine mp_t (s_ifnonnullR (t := 24) dX6_orders_19 (by decide)) ?_
      refine mp_a (a_aload_n dX6_orders_24 rfl) (mpp 25 rfl ?_)
      refine mt_getU (i := 46) (k := 6) (A := 294) hT dX6_orders_25 rfl rl_0 (by decide) rfl (by decide) rfl un_13 (mpp 28 rfl ?_)
      refine mp_a (a_aload_n dX6_orders_28 rfl) (mpp 29 rfl ?_)
      refine mp_ldc (v := 1000000) dX6_orders_29 rfl (mpp 31 rfl ?_)
      refine mt_callv (i := 184) (q' := q_64) (As := [.ref b5, .int 1000000]) (rest := []) hT dX6_orders_31 rfl qm_64 (by decide) rfl rl_294 (by decide) rfl (Nat.le_of_ble_eq_true rfl) rfl ⟨rfl, rfl⟩ ⟨Nat.le_of_ble_eq_true rfl, Nat.le_of_ble_eq_true rfl⟩ (EvP.mono (by decide) (c_CL_search_Layers_NPiece hT hX q6)) (fun r24 P25 g26 => mpp 34 rfl ?_)
      obtain ⟨⟨x27, rfl, g28⟩, hT29, k30, R31⟩ := g26
      have k32 : KW [832, 896, 960, 1024] Po P25 := KW.trans KW.refl k30 rfl
      have wx27 := ti_full x27
      show MEvP _ none q_84 34 [(3, .int x20), (2, .ref b5), (0, .ref 0), (1, .int t1)] [.int x27] _ _ _ _
      exact mp_iret ⟨⟨_, rfl, trivial⟩, hT29, k32, trivial⟩ dX6_orders_34 (Or.inl rfl)

set_option maxHeartbeats 4000000 in
theorem c_CP_leftEndOf_NPiece {Po : mP} {a0_ : Nat} {t1 : Int32} (hT : Typ Po) (hX : XR Po)  (ha0 : rl a0_ = 33) : EvP 3 87 [.ref a0_, .int t1] Po (fun r P' => (∃ x : Int32, r = some (.int x) ∧ (True)) ∧ P' = Po) := by
  refine EvP.of qm_87 (Nat.le_of_ble_eq_true rfl) rfl ?_
  show MEvP _ none q_87 0 [(0, .ref a0_), (1, .int t1)] [] _ 0 0 _
  have w1 := np_ar ha0
  have w_t1 := ti_full t1
  refine mp_a (a_aload_n dX2_leftEndOf_0 rfl) (mpp 1 rfl ?_)
  refine mp_a (a_iload_n dX2_leftEndOf_1 rfl) (mpp 2 rfl ?_)
  refine mt_callv (i := 56) (q' := q_13) (As := [.int t1]) (rest := []) hT dX2_leftEndOf_2 rfl qm_13 (by decide) rfl ha0 (by decide) rfl (Nat.le_of_ble_eq_true rfl) rfl ⟨rfl, rfl⟩ ⟨Nat.le_of_ble_eq_true rfl, Nat.le_of_ble_eq_true rfl⟩ (EvP.mono (by decide) (c_CP_placeOf_NPiece hT hX ha0)) (fun r2 P3 g4 => mpp 5 rfl ?_)
  obtain ⟨⟨x5, rfl, g6⟩, e7⟩ := g4
  have e7 := e7.symm
  subst e7
  have wx5 := ti_full x5
  replace g6 : x5.toInt = (plF (fun j : Nat => fv Po (a0_ + 1) j) (min t1.toInt (fv Po a0_ 1).toInt).toNat).toInt := g6
  have g8 : (0 : Int) ≤ (fv Po a0_ 1).toInt ∧ (fv Po a0_ 1).toInt ≤ 8 := Typ.rng hT ha0 (by decide) (by decide) rfl
  show MEvP _ none q_87 5 [(0, .ref a0_), (1, .int t1)] [.int x5] _ _ _ _
  refine mp_a (a_aload_n dX2_leftEndOf_5 rfl) (mpp 6 rfl ?_)
  refine mp_a (a_iload_n dX2_leftEndOf_6 rfl) (mpp 7 rfl ?_)
  refine mp_a (a_iconst (v := 1) dX2_leftEndOf_7 rfl) (mpp 8 rfl ?_)
  obtain ⟨z9, h10⟩ := ti_ex (t1 + 1 : Int32)
  have wz9 := ti_full z9
  refine mp_t (s_iadd (v := z9) dX2_leftEndOf_8 h10) (mpp 9 rfl ?_)
  try have e11 : z9.toInt = t1.toInt + 1 := ti_addz h10 rfl rfl (by omega) (by omega)
  refine mt_callv (i := 56) (q' := q_13) (As := [.int z9]) (rest := [.int x5]) hT dX2_leftEndOf_9 rfl qm_13 (by decide) rfl ha0 (by decide) rfl (Nat.le_of_ble_eq_true rfl) rfl ⟨rfl, rfl⟩ ⟨Nat.le_of_ble_eq_true rfl, Nat.le_of_ble_eq_true rfl⟩ (EvP.mono (by decide) (c_CP_placeOf_NPiece hT hX ha0)) (fun r12 P13 g14 => mpp 12 rfl ?_)
  obtain ⟨⟨x15, rfl, g16⟩, e17⟩ := g14
  have e17 := e17.symm
  subst e17
  have wx15 := ti_full x15
  replace g16 : x15.toInt = (plF (fun j : Nat => fv Po (a0_ + 1) j) (min z9.toInt (fv Po a0_ 1).toInt).toNat).toInt := g16
  show MEvP _ none q_87 12 [(0, .ref a0_), (1, .int t1)] [.int x15, .int x5] _ _ _ _
  obtain ⟨z18, h19⟩ := ti_ex (if (8 : Nat) = 7 then (if x5 < x15 then x15 else x5) else (if x15 < x5 then x15 else x5) : Int32)
  have e20 : z18.toInt = min x5.toInt x15.toInt := ti_mm8 h19
  refine mp_math (i := 59) (k := 0) (v := z18) dX2_leftEndOf_12 rfl (by decide) (Nat.le_of_ble_eq_true rfl) h19 ⟨Nat.le_of_ble_eq_true rfl, Nat.le_of_ble_eq_true rfl⟩ (mpp 15 rfl ?_)
  exact mp_iret ⟨⟨_, rfl, trivial⟩, rfl⟩ dX2_leftEndOf_15 (Or.inl rfl)

set_option maxHeartbeats 4000000 in
theorem c_CP_rightEndOf_NPiece {Po : mP} {a0_ : Nat} {t1 : Int32} (hT : Typ Po) (hX : XR Po)  (ha0 : rl a0_ = 33) : EvP 3 89 [.ref a0_, .int t1] Po (fun r P' => (∃ x : Int32, r = some (.int x) ∧ (True)) ∧ P' = Po) := by
  refine EvP.of qm_89 (Nat.le_of_ble_eq_true rfl) rfl ?_
  show MEvP _ none q_89 0 [(0, .ref a0_), (1, .int t1)] [] _ 0 0 _
  have w1 := np_ar ha0
  have w_t1 := ti_full t1
  refine mp_a (a_aload_n dX2_rightEndOf_0 rfl) (mpp 1 rfl ?_)
  refine mp_a (a_iload_n dX2_rightEndOf_1 rfl) (mpp 2 rfl ?_)
  refine mt_callv (i := 56) (q' := q_13) (As := [.int t1]) (rest := []) hT dX2_rightEndOf_2 rfl qm_13 (by decide) rfl ha0 (by decide) rfl (Nat.le_of_ble_eq_true rfl) rfl ⟨rfl, rfl⟩ ⟨Nat.le_of_ble_eq_true rfl, Nat.le_of_ble_eq_true rfl⟩ (EvP.mono (by decide) (c_CP_placeOf_NPiece hT hX ha0)) (fun r2 P3 g4 => mpp 5 rfl ?_)
  obtain ⟨⟨x5, rfl, g6⟩, e7⟩ := g4
  have e7 := e7.symm
  subst e7
  have wx5 := ti_full x5
  replace g6 : x5.toInt = (plF (fun j : Nat => fv Po (a0_ + 1) j) (min t1.toInt (fv Po a0_ 1).toInt).toNat).toInt := g6
  have g8 : (0 : Int) ≤ (fv Po a0_ 1).toInt ∧ (fv Po a0_ 1).toInt ≤ 8 := Typ.rng hT ha0 (by decide) (by decide) rfl
  show MEvP _ none q_89 5 [(0, .ref a0_), (1, .int t1)] [.int x5] _ _ _ _
  refine mp_a (a_aload_n dX2_rightEndOf_5 rfl) (mpp 6 rfl ?_)
  refine mp_a (a_iload_n dX2_rightEndOf_6 rfl) (mpp 7 rfl ?_)
  refine mp_a (a_iconst (v := 1) dX2_rightEndOf_7 rfl) (mpp 8 rfl ?_)
  obtain ⟨z9, h10⟩ := ti_ex (t1 + 1 : Int32)
  have wz9 := ti_full z9
  refine mp_t (s_iadd (v := z9) dX2_rightEndOf_8 h10) (mpp 9 rfl ?_)
  try have e11 : z9.toInt = t1.toInt + 1 := ti_addz h10 rfl rfl (by omega) (by omega)
  refine mt_callv (i := 56) (q' := q_13) (As := [.int z9]) (rest := [.int x5]) hT dX2_rightEndOf_9 rfl qm_13 (by decide) rfl ha0 (by decide) rfl (Nat.le_of_ble_eq_true rfl) rfl ⟨rfl, rfl⟩ ⟨Nat.le_of_ble_eq_true rfl, Nat.le_of_ble_eq_true rfl⟩ (EvP.mono (by decide) (c_CP_placeOf_NPiece hT hX ha0)) (fun r12 P13 g14 => mpp 12 rfl ?_)
  obtain ⟨⟨x15, rfl, g16⟩, e17⟩ := g14
  have e17 := e17.symm
  subst e17
  have wx15 := ti_full x15
  replace g16 : x15.toInt = (plF (fun j : Nat => fv Po (a0_ + 1) j) (min z9.toInt (fv Po a0_ 1).toInt).toNat).toInt := g16
  show MEvP _ none q_89 12 [(0, .ref a0_), (1, .int t1)] [.int x15, .int x5] _ _ _ _
  obtain ⟨z18, h19⟩ := ti_ex (if (7 : Nat) = 7 then (if x5 < x15 then x15 else x5) else (if x15 < x5 then x15 else x5) : Int32)
  have e20 : z18.toInt = max x5.toInt x15.toInt := ti_mm7 h19
  refine mp_math (i := 65) (k := 0) (v := z18) dX2_rightEndOf_12 rfl (by decide) (Nat.le_of_ble_eq_true rfl) h19 ⟨Nat.le_of_ble_eq_true rfl, Nat.le_of_ble_eq_true rfl⟩ (mpp 15 rfl ?_)
  exact mp_iret ⟨⟨_, rfl, trivial⟩, rfl⟩ dX2_rightEndOf_15 (Or.inl rfl)

set_option maxHeartbeats 4000000 in
theorem c_CP_panelsBehind_NPiece_l4 {Po : mP} {a0_ : Nat} {t1 : Int32} (hT : Typ Po) (hX : XR Po)  (ha0 : rl a0_ = 33) : ∀ (n : Nat) (v2 : Int32) (v3 : Int32), (0 ≤ v3.toInt) → (2147483647 - v3.toInt).toNat = n → MEvP 3 none q_88 4 [(0, .ref a0_), (1, .int t1), (2, .int v2), (3, .int v3)] [] Po 0 0 (fun r P' => (∃ x : Int32, r = some (.int x) ∧ (True)) ∧ P' = Po) := by
  intro n
  induction n using Nat.strongRecOn with | _ n ih => ?_
  intro v2 v3 i_0 hm
  have w1 := np_ar ha0
  have w_t1 := ti_full t1
  have w_v2 := ti_full v2
  have w_v3 := ti_full v3
  refine mp_a (a_iload_n dX2_panelsBehind_4 rfl) (mpp 5 rfl ?_)
  refine mp_a (a_aload_n dX2_panelsBehind_5 rfl) (mpp 6 rfl ?_)
  have g2 : (0 : Int) ≤ (fv Po a0_ 1).toInt ∧ (fv Po a0_ 1).toInt ≤ 8 := Typ.rng hT ha0 (by decide) (by decide) rfl
  refine mt_getI (i := 26) (k := 1) hT dX2_panelsBehind_6 rfl ha0 (by decide) rfl (by decide) rfl (fun g3 g4 => mpp 9 rfl ?_)
  refine mp_Tb (t := 39) (j_icmp_ge dX2_panelsBehind_9) (by decide) (fun c5 => ?_) (fun c5 => mpp 12 rfl ?_)
  · have c5 : v3.toInt ≥ (fv Po a0_ 1).toInt := ti_ge c5
    refine mp_a (a_iload_n dX2_panelsBehind_39 rfl) (mpp 40 rfl ?_)
    exact mp_iret ⟨⟨_, rfl, trivial⟩, rfl⟩ dX2_panelsBehind_40 (Or.inl rfl)
  · have c5 : v3.toInt < (fv Po a0_ 1).toInt := ti_ge_n c5
    refine mp_a (a_aload_n dX2_panelsBehind_12 rfl) (mpp 13 rfl ?_)
    refine mp_a (a_iload_n dX2_panelsBehind_13 rfl) (mpp 14 rfl ?_)
    refine mt_callv (i := 71) (q' := q_87) (As := [.int v3]) (rest := []) hT dX2_panelsBehind_14 rfl qm_87 (by decide) rfl ha0 (by decide) rfl (Nat.le_of_ble_eq_true rfl) rfl ⟨rfl, rfl⟩ ⟨Nat.le_of_ble_eq_true rfl, Nat.le_of_ble_eq_true rfl⟩ (EvP.mono (by decide) (c_CP_leftEndOf_NPiece hT hX ha0)) (fun r6 P7 g8 => mpp 17 rfl ?_)
    obtain ⟨⟨x9, rfl, g10⟩, e11⟩ := g8
    have e11 := e11.symm
    subst e11
    have wx9 := ti_full x9
    show MEvP _ none q_88 17 [(0, .ref a0_), (1, .int t1), (2, .int v2), (3, .int v3)] [.int x9] _ _ _ _
    refine mp_a (a_iload_n dX2_panelsBehind_17 rfl) (mpp 18 rfl ?_)
    refine mp_Tb (t := 33) (j_icmp_gt dX2_panelsBehind_18) (by decide) (fun c12 => ?_) (fun c12 => mpp 21 rfl ?_)
    · have c12 : x9.toInt > t1.toInt := ti_gt c12
      obtain ⟨z13, h14⟩ := ti_ex (v3 + 1 : Int32)
      have wz13 := ti_full z13
      refine mp_a (a_iinc (v := z13) (L' := [(3, .int z13), (0, .ref a0_), (1, .int t1), (2, .int v2)]) dX2_panelsBehind_33 (by decide) rfl h14 rfl) (mpp 36 rfl ?_)
      try have e15 : z13.toInt = v3.toInt + 1 := ti_addz h14 rfl rfl (by omega) (by omega)
      refine mp_a (a_goto (t := 4) dX2_panelsBehind_36 (by decide)) ?_
      refine MEvP.less (L := [(0, .ref a0_), (1, .int t1), (2, .int v2), (3, .int z13)]) rfl rfl ⟨rfl, rfl, rfl, rfl, trivial⟩ ?_
      have i16 : 0 ≤ z13.toInt := by omega
      exact ih _ (by omega) _ _ i16 rfl
    · have c12 : x9.toInt ≤ t1.toInt := ti_gt_n c12
      refine mp_a (a_iload_n dX2_panelsBehind_21 rfl) (mpp 22 rfl ?_)
      refine mp_a (a_aload_n dX2_panelsBehind_22 rfl) (mpp 23 rfl ?_)
      refine mp_a (a_iload_n dX2_panelsBehind_23 rfl) (mpp 24 rfl ?_)
      refine mt_callv (i := 77) (q' := q_89) (As := [.int v3]) (rest := [.int t1]) hT dX2_panelsBehind_24 rfl qm_89 (by decide) rfl ha0 (by decide) rfl (Nat.le_of_ble_eq_true rfl) rfl ⟨rfl, rfl⟩ ⟨Nat.le_of_ble_eq_true rfl, Nat.le_of_ble_eq_true rfl⟩ (EvP.mono (by decide) (c_CP_rightEndOf_NPiece hT hX ha0)) (fun r17 P18 g19 => mpp 27 rfl ?_)
      obtain ⟨⟨x20, rfl, g21⟩, e22⟩ := g19
      have e22 := e22.symm
      subst e22
      have wx20 := ti_full x20
      show MEvP _ none q_88 27 [(0, .ref a0_), (1, .int t1), (2, .int v2), (3, .int v3)] [.int x20, .int t1] _ _ _ _
      refine mp_Tb (t := 33) (j_icmp_ge dX2_panelsBehind_27) (by decide) (fun c23 => ?_) (fun c23 => mpp 30 rfl ?_)
      · have c23 : t1.toInt ≥ x20.toInt := ti_ge c23
        obtain ⟨z24, h25⟩ := ti_ex (v3 + 1 : Int32)
        have wz24 := ti_full z24
        refine mp_a (a_iinc (v := z24) (L' := [(3, .int z24), (0, .ref a0_), (1, .int t1), (2, .int v2)]) dX2_panelsBehind_33 (by decide) rfl h25 rfl) (mpp 36 rfl ?_)
        try have e26 : z24.toInt = v3.toInt + 1 := ti_addz h25 rfl rfl (by omega) (by omega)
        refine mp_a (a_goto (t := 4) dX2_panelsBehind_36 (by decide)) ?_
        refine MEvP.less (L := [(0, .ref a0_), (1, .int t1), (2, .int v2), (3, .int z24)]) rfl rfl ⟨rfl, rfl, rfl, rfl, trivial⟩ ?_
        have i27 : 0 ≤ z24.toInt := by omega
        exact ih _ (by omega) _ _ i27 rfl
      · have c23 : t1.toInt < x20.toInt := ti_ge_n c23
        obtain ⟨z28, h29⟩ := ti_ex (v2 + 1 : Int32)
        have wz28 := ti_full z28
        refine mp_a (a_iinc (v := z28) (L' := [(2, .int z28), (0, .ref a0_), (1, .int t1), (3, .int v3)]) dX2_panelsBehind_30 (by decide) rfl h29 rfl) (mpp 33 rfl ?_)
        try have e30 : z28.toInt = v2.toInt + 1 := ti_addz h29 rfl rfl (by omega) (by omega)
        obtain ⟨z31, h32⟩ := ti_ex (v3 + 1 : Int32)
        have wz31 := ti_full z31
        refine mp_a (a_iinc (v := z31) (L' := [(3, .int z31), (2, .int z28), (0, .ref a0_), (1, .int t1)]) dX2_panelsBehind_33 (by decide) rfl h32 rfl) (mpp 36 rfl ?_)
        try have e33 : z31.toInt = v3.toInt + 1 := ti_addz h32 rfl rfl (by omega) (by omega)
        refine mp_a (a_goto (t := 4) dX2_panelsBehind_36 (by decide)) ?_
        refine MEvP.less (L := [(0, .ref a0_), (1, .int t1), (2, .int z28), (3, .int z31)]) rfl rfl ⟨rfl, rfl, rfl, rfl, trivial⟩ ?_
        have i34 : 0 ≤ z31.toInt := by omega
        exact ih _ (by omega) _ _ i34 rfl

set_option maxHeartbeats 4000000 in
theorem c_CP_panelsBehind_NPiece {Po : mP} {a0_ : Nat} {t1 : Int32} (hT : Typ Po) (hX : XR Po)  (ha0 : rl a0_ = 33) : EvP 4 88 [.ref a0_, .int t1] Po (fun r P' => (∃ x : Int32, r = some (.int x) ∧ (True)) ∧ P' = Po) := by
  refine EvP.of qm_88 (Nat.le_of_ble_eq_true rfl) rfl ?_
  show MEvP _ none q_88 0 [(0, .ref a0_), (1, .int t1)] [] _ 0 0 _
  have w1 := np_ar ha0
  have w_t1 := ti_full t1
  refine mp_a (a_iconst (v := 0) dX2_panelsBehind_0 rfl) (mpp 1 rfl ?_)
  refine mp_a (a_istore_n (L' := [(2, .int 0), (0, .ref a0_), (1, .int t1)]) dX2_panelsBehind_1 (by decide) rfl) (mpp 2 rfl ?_)
  refine mp_a (a_iconst (v := 0) dX2_panelsBehind_2 rfl) (mpp 3 rfl ?_)
  refine mp_a (a_istore_n (L' := [(3, .int 0), (2, .int 0), (0, .ref a0_), (1, .int t1)]) dX2_panelsBehind_3 (by decide) rfl) (mpp 4 rfl ?_)
  refine MEvP.less (L := [(0, .ref a0_), (1, .int t1), (2, .int 0), (3, .int 0)]) rfl rfl ⟨rfl, rfl, rfl, rfl, trivial⟩ ?_
  have i2 : 0 ≤ (0 : Int) := by omega
  exact c_CP_panelsBehind_NPiece_l4 hT hX  ha0 _ _ _ i2 rfl

set_option maxHeartbeats 4000000 in
theorem c_CP_thickness_NPiece_l4 {Po : mP} {a0_ : Nat} (hT : Typ Po) (hX : XR Po)  (ha0 : rl a0_ = 33) : ∀ (n : Nat) (v1 : Int32) (v2 : Int32), (0 ≤ v2.toInt) → (2147483647 - v2.toInt).toNat = n → MEvP 4 none q_86 4 [(0, .ref a0_), (1, .int v1), (2, .int v2)] [] Po 0 0 (fun r P' => (∃ x : Int32, r = some (.int x) ∧ (True)) ∧ P' = Po) := by
  intro n
  induction n using Nat.strongRecOn with | _ n ih => ?_
  intro v1 v2 i_0 hm
  have w1 := np_ar ha0
  have w_v1 := ti_full v1
  have w_v2 := ti_full v2
  refine mp_a (a_iload_n dX2_thickness_4 rfl) (mpp 5 rfl ?_)
  refine mp_a (a_aload_n dX2_thickness_5 rfl) (mpp 6 rfl ?_)
  have g2 : (0 : Int) ≤ (fv Po a0_ 1).toInt ∧ (fv Po a0_ 1).toInt ≤ 8 := Typ.rng hT ha0 (by decide) (by decide) rfl
  refine mt_getI (i := 26) (k := 1) hT dX2_thickness_6 rfl ha0 (by decide) rfl (by decide) rfl (fun g3 g4 => mpp 9 rfl ?_)
  refine mp_Tb (t := 32) (j_icmp_ge dX2_thickness_9) (by decide) (fun c5 => ?_) (fun c5 => mpp 12 rfl ?_)
  · have c5 : v2.toInt ≥ (fv Po a0_ 1).toInt := ti_ge c5
    refine mp_a (a_iload_n dX2_thickness_32 rfl) (mpp 33 rfl ?_)
    exact mp_iret ⟨⟨_, rfl, trivial⟩, rfl⟩ dX2_thickness_33 (Or.inl rfl)
  · have c5 : v2.toInt < (fv Po a0_ 1).toInt := ti_ge_n c5
    refine mp_a (a_iload_n dX2_thickness_12 rfl) (mpp 13 rfl ?_)
    refine mp_a (a_aload_n dX2_thickness_13 rfl) (mpp 14 rfl ?_)
    refine mp_a (a_aload_n dX2_thickness_14 rfl) (mpp 15 rfl ?_)
    refine mp_a (a_iload_n dX2_thickness_15 rfl) (mpp 16 rfl ?_)
    refine mt_callv (i := 71) (q' := q_87) (As := [.int v2]) (rest := [.ref a0_, .int v1]) hT dX2_thickness_16 rfl qm_87 (by decide) rfl ha0 (by decide) rfl (Nat.le_of_ble_eq_true rfl) rfl ⟨rfl, rfl⟩ ⟨Nat.le_of_ble_eq_true rfl, Nat.le_of_ble_eq_true rfl⟩ (EvP.mono (by decide) (c_CP_leftEndOf_NPiece hT hX ha0)) (fun r6 P7 g8 => mpp 19 rfl ?_)
    obtain ⟨⟨x9, rfl, g10⟩, e11⟩ := g8
    have e11 := e11.symm
    subst e11
    have wx9 := ti_full x9
    show MEvP _ none q_86 19 [(0, .ref a0_), (1, .int v1), (2, .int v2)] [.int x9, .ref a0_, .int v1] _ _ _ _
    refine mt_callv (i := 74) (q' := q_88) (As := [.int x9]) (rest := [.int v1]) hT dX2_thickness_19 rfl qm_88 (by decide) rfl ha0 (by decide) rfl (Nat.le_of_ble_eq_true rfl) rfl ⟨rfl, rfl⟩ ⟨Nat.le_of_ble_eq_true rfl, Nat.le_of_ble_eq_true rfl⟩ (EvP.mono (by decide) (c_CP_panelsBehind_NPiece hT hX ha0)) (fun r12 P13 g14 => mpp 22 rfl ?_)
    obtain ⟨⟨x15, rfl, g16⟩, e17⟩ := g14
    have e17 := e17.symm
    subst e17
    have wx15 := ti_full x15
    show MEvP _ none q_86 22 [(0, .ref a0_), (1, .int v1), (2, .int v2)] [.int x15, .int v1] _ _ _ _
    obtain ⟨z18, h19⟩ := ti_ex (if (7 : Nat) = 7 then (if v1 < x15 then x15 else v1) else (if x15 < v1 then x15 else v1) : Int32)
    have e20 : z18.toInt = max v1.toInt x15.toInt := ti_mm7 h19
    refine mp_math (i := 65) (k := 0) (v := z18) dX2_thickness_22 rfl (by decide) (Nat.le_of_ble_eq_true rfl) h19 ⟨Nat.le_of_ble_eq_true rfl, Nat.le_of_ble_eq_true rfl⟩ (mpp 25 rfl ?_)
    refine mp_a (a_istore_n (L' := [(1, .int z18), (0, .ref a0_), (2, .int v2)]) dX2_thickness_25 (by decide) rfl) (mpp 26 rfl ?_)
    obtain ⟨z21, h22⟩ := ti_ex (v2 + 1 : Int32)
    have wz21 := ti_full z21
    refine mp_a (a_iinc (v := z21) (L' := [(2, .int z21), (1, .int z18), (0, .ref a0_)]) dX2_thickness_26 (by decide) rfl h22 rfl) (mpp 29 rfl ?_)
    try have e23 : z21.toInt = v2.toInt + 1 := ti_addz h22 rfl rfl (by omega) (by omega)
    refine mp_a (a_goto (t := 4) dX2_thickness_29 (by decide)) ?_
    refine MEvP.less (L := [(0, .ref a0_), (1, .int z18), (2, .int z21)]) rfl rfl ⟨rfl, rfl, rfl, trivial⟩ ?_
    have i24 : 0 ≤ z21.toInt := by omega
    exact ih _ (by omega) _ _ i24 rfl

set_option maxHeartbeats 4000000 in
theorem c_CP_thickness_NPiece {Po : mP} {a0_ : Nat} (hT : Typ Po) (hX : XR Po)  (ha0 : rl a0_ = 33) : EvP 5 86 [.ref a0_] Po (fun r P' => (∃ x : Int32, r = some (.int x) ∧ (True)) ∧ P' = Po) := by
  refine EvP.of qm_86 (Nat.le_of_ble_eq_true rfl) rfl ?_
  show MEvP _ none q_86 0 [(0, .ref a0_)] [] _ 0 0 _
  have w1 := np_ar ha0
  refine mp_a (a_iconst (v := 0) dX2_thickness_0 rfl) (mpp 1 rfl ?_)
  refine mp_a (a_istore_n (L' := [(1, .int 0), (0, .ref a0_)]) dX2_thickness_1 (by decide) rfl) (mpp 2 rfl ?_)
  refine mp_a (a_iconst (v := 0) dX2_thickness_2 rfl) (mpp 3 rfl ?_)
  refine mp_a (a_istore_n (L' := [(2, .int 0), (1, .int 0), (0, .ref a0_)]) dX2_thickness_3 (by decide) rfl) (mpp 4 rfl ?_)
  refine MEvP.less (L := [(0, .ref a0_), (1, .int 0), (2, .int 0)]) rfl rfl ⟨rfl, rfl, rfl, trivial⟩ ?_
  have i2 : 0 ≤ (0 : Int) := by omega
  exact c_CP_thickness_NPiece_l4 hT hX  ha0 _ _ _ i2 rfl

set_option maxHeartbeats 4000000 in
theorem c_F_thickest {Po : mP} {t1 : Int32} (hT : Typ Po) (hX : XR Po)   : EvP 6 85 [.ref 0, .int t1] Po (fun r P' => (∃ x : Int32, r = some (.int x) ∧ (True)) ∧ P' = Po) := by
  refine EvP.of qm_85 (Nat.le_of_ble_eq_true rfl) rfl ?_
  show MEvP _ none q_85 0 [(0, .ref 0), (1, .int t1)] [] _ 0 0 _
  have w_t1 := ti_full t1
  refine mp_a (a_aload_n dX6_thickest_0 rfl) (mpp 1 rfl ?_)
  refine mt_getU (i := 10) (k := 0) (A := 1) hT dX6_thickest_1 rfl rl_0 (by decide) rfl (by decide) rfl un_31 (mpp 4 rfl ?_)
  refine mp_a (a_iload_n dX6_thickest_4 rfl) (mpp 5 rfl ?_)
  refine mt_callv (i := 94) (q' := q_9) (As := [.int t1]) (rest := []) hT dX6_thickest_5 rfl qm_9 (by decide) rfl rl_1 (by decide) rfl (Nat.le_of_ble_eq_true rfl) rfl ⟨rfl, rfl⟩ ⟨Nat.le_of_ble_eq_true rfl, Nat.le_of_ble_eq_true rfl⟩ (EvP.mono (by decide) (c_CS_pieceAt_NState hT hX )) (fun r1 P2 g3 => mpp 8 rfl ?_)
  obtain ⟨g3, e4⟩ := g3
  have e4 := e4.symm
  subst e4
  rcases g3 with ⟨rfl, q6n⟩ | ⟨b5, rfl, q6, q6r⟩
  · show MEvP _ none q_85 8 [(0, .ref 0), (1, .int t1)] [.null] _ _ _ _
    replace q6n : t1.toInt < 0 ∨ (fv Po 1 1).toInt ≤ t1.toInt ∨ 8 ≤ t1.toInt := q6n
    have g7 : (0 : Int) ≤ (fv Po 1 1).toInt ∧ (fv Po 1 1).toInt ≤ 8 := Typ.rng hT rl_1 (by decide) (by decide) rfl
    refine mp_a (a_astore_nN (L' := [(2, .null), (0, .ref 0), (1, .int t1)]) dX6_thickest_8 (by decide) rfl) (mpp 9 rfl ?_)
    refine mp_a (a_aload_nN dX6_thickest_9 rfl) (mpp 10 rfl ?_)
    refine mp_t (s_ifnonnullN dX6_thickest_10) (mpp 13 rfl ?_)
    refine mp_a (a_sipush (v := -1001) dX6_thickest_13 rfl) (mpp 16 rfl ?_)
    exact mp_iret ⟨⟨_, rfl, trivial⟩, rfl⟩ dX6_thickest_16 (Or.inl rfl)
  · show MEvP _ none q_85 8 [(0, .ref 0), (1, .int t1)] [.ref b5] _ _ _ _
    replace q6r : 0 ≤ t1.toInt ∧ t1.toInt ≤ 7 ∧ t1.toInt + 1 ≤ (fv Po 1 1).toInt ∧ rv Po 2 t1.toInt.toNat = b5 := q6r
    have g8 : (0 : Int) ≤ (fv Po 1 1).toInt ∧ (fv Po 1 1).toInt ≤ 8 := Typ.rng hT rl_1 (by decide) (by decide) rfl
    have w9 := np_ar q6
    refine mp_a (a_astore_n (L' := [(2, .ref b5), (0, .ref 0), (1, .int t1)]) dX6_thickest_8 (by decide) rfl) (mpp 9 rfl ?_)
    refine mp_a (a_aload_n dX6_thickest_9 rfl) (mpp 10 rfl ?_)
    refine mp_t (s_ifnonnullR (t := 17) dX6_thickest_10 (by decide)) ?_
    refine mp_a (a_aload_n dX6_thickest_17 rfl) (mpp 18 rfl ?_)
    have g10 := ti_full (fv Po b5 0)
    refine mt_getI (i := 130) (k := 0) hT dX6_thickest_18 rfl q6 (by decide) rfl (by decide) rfl (fun g11 g12 => mpp 21 rfl ?_)
    refine mp_Tb (t := 30) (j_if_eq dX6_thickest_21) (by decide) (fun c13 => ?_) (fun c13 => mpp 24 rfl ?_)
    · have c13 : (fv Po b5 0).toInt = 0 := ti_eq c13
      refine mp_a (a_aload_n dX6_thickest_30 rfl) (mpp 31 rfl ?_)
      refine mt_callv (i := 210) (q' := q_86) (As := []) (rest := []) hT dX6_thickest_31 rfl qm_86 (by decide) rfl q6 (by decide) rfl (Nat.le_of_ble_eq_true rfl) rfl ⟨rfl, rfl⟩ ⟨Nat.le_of_ble_eq_true rfl, Nat.le_of_ble_eq_true rfl⟩ (EvP.mono (by decide) (c_CP_thickness_NPiece hT hX q6)) (fun r14 P15 g16 => mpp 34 rfl ?_)
      obtain ⟨⟨x17, rfl, g18⟩, e19⟩ := g16
      have e19 := e19.symm
      subst e19
      have wx17 := ti_full x17
      show MEvP _ none q_85 34 [(2, .ref b5), (0, .ref 0), (1, .int t1)] [.int x17] _ _ _ _
      exact mp_iret ⟨⟨_, rfl, trivial⟩, rfl⟩ dX6_thickest_34 (Or.inl rfl)
    · have c13 : (fv Po b5 0).toInt ≠ 0 := ti_eq_n c13
      refine mp_a (a_sipush (v := -1002) dX6_thickest_24 rfl) (mpp 27 rfl ?_)
      refine mp_a (a_goto (t := 34) dX6_thickest_27 (by decide)) ?_
      exact mp_iret ⟨⟨_, rfl, trivial⟩, rfl⟩ dX6_thickest_34 (Or.inl rfl)

set_option maxHeartbeats 4000000 in
theorem c_F_floorMod {Po : mP} {t0 : Int32} {t1 : Int32} (hT : Typ Po)  (hp0 : 1 ≤ t1.toInt)  : EvP 1 236 [.int t0, .int t1] Po (fun r P' => (∃ x : Int32, r = some (.int x) ∧ (True)) ∧ P' = Po) := by
  refine EvP.of qm_236 (Nat.le_of_ble_eq_true rfl) rfl ?_
  show MEvP _ none q_236 0 [(0, .int t0), (1, .int t1)] [] _ 0 0 _
  have w_t0 := ti_full t0
  have w_t1 := ti_full t1
  refine mp_a (a_iload_n dJ9_floorMod_7cf53_0 rfl) (mpp 1 rfl ?_)
  refine mp_a (a_iload_n dJ9_floorMod_7cf53_1 rfl) (mpp 2 rfl ?_)
  obtain ⟨z1, h2⟩ := ti_ex (t0 - t0 / t1 * t1 : Int32)
  have wz1 := ti_full z1
  have n3 : ¬ t1 = 0 := ti_n0 (by omega)
  try have e5 : z1.toInt = t0.toInt % t1.toInt := ti_remx h2 (show (0 : Int) ≤ t0.toInt by omega) (show (0 : Int) < t1.toInt by omega)
  try have e4 : 0 ≤ z1.toInt ∧ z1.toInt < t1.toInt := ti_rem h2 (show (0 : Int) ≤ t0.toInt by omega) (show (0 : Int) < t1.toInt by omega)
  refine mp_t (s_irem (v := z1) dJ9_floorMod_7cf53_2 n3 h2) (mpp 3 rfl ?_)
  refine mp_a (a_istore_n (L' := [(2, .int z1), (0, .int t0), (1, .int t1)]) dJ9_floorMod_7cf53_3 (by decide) rfl) (mpp 4 rfl ?_)
  refine mp_a (a_iload_n dJ9_floorMod_7cf53_4 rfl) (mpp 5 rfl ?_)
  refine mp_a (a_iload_n dJ9_floorMod_7cf53_5 rfl) (mpp 6 rfl ?_)
  obtain ⟨z6, h7⟩ := ti_ex (t0 ^^^ t1 : Int32)
  have wz6 := ti_full z6
  refine mp_t (s_ixor (v := z6) dJ9_floorMod_7cf53_6 h7) (mpp 7 rfl ?_)
  refine mp_Tb (t := 18) (j_if_ge dJ9_floorMod_7cf53_7) (by decide) (fun c8 => ?_) (fun c8 => mpp 10 rfl ?_)
  · have c8 : z6.toInt ≥ 0 := ti_ge c8
    refine mp_a (a_iload_n dJ9_floorMod_7cf53_18 rfl) (mpp 19 rfl ?_)
    exact mp_iret ⟨⟨_, rfl, trivial⟩, rfl⟩ dJ9_floorMod_7cf53_19 (Or.inl rfl)
  · have c8 : z6.toInt < 0 := ti_ge_n c8
    refine mp_a (a_iload_n dJ9_floorMod_7cf53_10 rfl) (mpp 11 rfl ?_)
    refine mp_Tb (t := 18) (j_if_eq dJ9_floorMod_7cf53_11) (by decide) (fun c9 => ?_) (fun c9 => mpp 14 rfl ?_)
    · have c9 : z1.toInt = 0 := ti_eq c9
      refine mp_a (a_iload_n dJ9_floorMod_7cf53_18 rfl) (mpp 19 rfl ?_)
      exact mp_iret ⟨⟨_, rfl, trivial⟩, rfl⟩ dJ9_floorMod_7cf53_19 (Or.inl rfl)
    · have c9 : z1.toInt ≠ 0 := ti_eq_n c9
      refine mp_a (a_iload_n dJ9_floorMod_7cf53_14 rfl) (mpp 15 rfl ?_)
      refine mp_a (a_iload_n dJ9_floorMod_7cf53_15 rfl) (mpp 16 rfl ?_)
      obtain ⟨z10, h11⟩ := ti_ex (z1 + t1 : Int32)
      have wz10 := ti_full z10
      refine mp_t (s_iadd (v := z10) dJ9_floorMod_7cf53_16 h11) (mpp 17 rfl ?_)
      try have e12 : z10.toInt = z1.toInt + t1.toInt := ti_addz h11 rfl rfl (by omega) (by omega)
      exact mp_iret ⟨⟨_, rfl, trivial⟩, rfl⟩ dJ9_floorMod_7cf53_17 (Or.inl rfl)

set_option maxHeartbeats 4000000 in
theorem c_CP_reflection_NPiece_l6 {Po : mP} {a0_ : Nat} (hT : Typ Po) (hX : XR Po)  (ha0 : rl a0_ = 33) : ∀ (n : Nat) (v1 : Int32) (v2 : Int32) (v3 : Int32), (0 ≤ v3.toInt) → (2147483647 - v3.toInt).toNat = n → MEvP 1 none q_91 6 [(0, .ref a0_), (1, .int v1), (2, .int v2), (3, .int v3)] [] Po 0 0 (fun r P' => (∃ x : Int32, r = some (.int x) ∧ (True)) ∧ P' = Po) := by
  intro n
  induction n using Nat.strongRecOn with | _ n ih => ?_
  intro v1 v2 v3 i_0 hm
  have w1 := np_ar ha0
  have w_v1 := ti_full v1
  have w_v2 := ti_full v2
  have w_v3 := ti_full v3
  refine mp_a (a_iload_n dX2_reflection_6 rfl) (mpp 7 rfl ?_)
  refine mp_a (a_aload_n dX2_reflection_7 rfl) (mpp 8 rfl ?_)
  have g2 : (0 : Int) ≤ (fv Po a0_ 1).toInt ∧ (fv Po a0_ 1).toInt ≤ 8 := Typ.rng hT ha0 (by decide) (by decide) rfl
  refine mt_getI (i := 26) (k := 1) hT dX2_reflection_8 rfl ha0 (by decide) rfl (by decide) rfl (fun g3 g4 => mpp 11 rfl ?_)
  refine mp_Tb (t := 42) (j_icmp_ge dX2_reflection_11) (by decide) (fun c5 => ?_) (fun c5 => mpp 14 rfl ?_)
  · have c5 : v3.toInt ≥ (fv Po a0_ 1).toInt := ti_ge c5
    refine mp_a (a_iload_n dX2_reflection_42 rfl) (mpp 43 rfl ?_)
    exact mp_iret ⟨⟨_, rfl, trivial⟩, rfl⟩ dX2_reflection_43 (Or.inl rfl)
  · have c5 : v3.toInt < (fv Po a0_ 1).toInt := ti_ge_n c5
    refine mp_a (a_iconst (v := 2) dX2_reflection_14 rfl) (mpp 15 rfl ?_)
    refine mp_a (a_iload_n dX2_reflection_15 rfl) (mpp 16 rfl ?_)
    obtain ⟨z6, h7⟩ := ti_ex (2 * v2 : Int32)
    have wz6 := ti_full z6
    refine mp_t (s_imul (v := z6) dX2_reflection_16 h7) (mpp 17 rfl ?_)
    try have e8 : z6.toInt = 2 * v2.toInt := ti_mulz h7 rfl rfl (by omega) (by omega)
    refine mp_a (a_iload_n dX2_reflection_17 rfl) (mpp 18 rfl ?_)
    obtain ⟨z9, h10⟩ := ti_ex (z6 - v1 : Int32)
    have wz9 := ti_full z9
    refine mp_t (s_isub (v := z9) dX2_reflection_18 h10) (mpp 19 rfl ?_)
    try have e11 : z9.toInt = z6.toInt - v1.toInt := ti_subz h10 rfl rfl (by omega) (by omega)
    refine mp_a (a_bipush (v := 24) dX2_reflection_19 rfl) (mpp 21 rfl ?_)
    have p12 : 1 ≤ (24 : Int) := by omega
    refine mp_calls (i := 80) (q' := q_236) (As := [.int z9, .int 24]) (rest := []) dX2_reflection_21 rfl qm_236 (by decide) rfl (Nat.le_of_ble_eq_true rfl) rfl ⟨rfl, rfl⟩ ⟨Nat.le_of_ble_eq_true rfl, Nat.le_of_ble_eq_true rfl⟩ (EvP.mono (by decide) (c_F_floorMod hT p12 )) (fun r13 P14 g15 => mpp 24 rfl ?_)
    obtain ⟨⟨x16, rfl, g17⟩, e18⟩ := g15
    have e18 := e18.symm
    subst e18
    have wx16 := ti_full x16
    show MEvP _ none q_91 24 [(0, .ref a0_), (1, .int v1), (2, .int v2), (3, .int v3)] [.int x16] _ _ _ _
    refine mp_a (a_istore_n (L' := [(1, .int x16), (0, .ref a0_), (2, .int v2), (3, .int v3)]) dX2_reflection_24 (by decide) rfl) (mpp 25 rfl ?_)
    refine mp_a (a_iload_n dX2_reflection_25 rfl) (mpp 26 rfl ?_)
    refine mp_a (a_aload_n dX2_reflection_26 rfl) (mpp 27 rfl ?_)
    refine mt_getE (i := 9) (k := 3) hT dX2_reflection_27 rfl ha0 (by decide) rfl (by decide) rfl (hX.1 a0_ (Or.inr ha0)).1 (fun q19 => mpp 30 rfl ?_)
    refine mp_a (a_iload_n dX2_reflection_30 rfl) (mpp 31 rfl ?_)
    refine mp_calls (i := 48) (q' := q_12) (As := [.ref (a0_ + 1), .int v3]) (rest := [.int v2]) dX2_reflection_31 rfl qm_12 (by decide) rfl (Nat.le_of_ble_eq_true rfl) rfl ⟨rfl, rfl⟩ ⟨Nat.le_of_ble_eq_true rfl, Nat.le_of_ble_eq_true rfl⟩ (EvP.mono (by decide) (c_F_at_sizes hT hX q19)) (fun r20 P21 g22 => mpp 34 rfl ?_)
    obtain ⟨⟨x23, rfl, g24⟩, e25⟩ := g22
    have e25 := e25.symm
    subst e25
    have wx23 := ti_full x23
    replace g24 : (0 ≤ v3.toInt ∧ v3.toInt ≤ 7 ∧ x23.toInt = (fv Po (a0_ + 1) v3.toInt.toNat).toInt) ∨ ((v3.toInt < 0 ∨ 8 ≤ v3.toInt) ∧ x23.toInt = 0) := g24
    try replace g24 : x23.toInt = (fv Po (a0_ + 1) v3.toInt.toNat).toInt := (g24.resolve_right (by omega)).2.2
    show MEvP _ none q_91 34 [(1, .int x16), (0, .ref a0_), (2, .int v2), (3, .int v3)] [.int x23, .int v2] _ _ _ _
    obtain ⟨z26, h27⟩ := ti_ex (v2 + x23 : Int32)
    have wz26 := ti_full z26
    refine mp_t (s_iadd (v := z26) dX2_reflection_34 h27) (mpp 35 rfl ?_)
    try have e28 : z26.toInt = v2.toInt + x23.toInt := ti_addz h27 rfl rfl (by omega) (by omega)
    refine mp_a (a_istore_n (L' := [(2, .int z26), (1, .int x16), (0, .ref a0_), (3, .int v3)]) dX2_reflection_35 (by decide) rfl) (mpp 36 rfl ?_)
    obtain ⟨z29, h30⟩ := ti_ex (v3 + 1 : Int32)
    have wz29 := ti_full z29
    refine mp_a (a_iinc (v := z29) (L' := [(3, .int z29), (2, .int z26), (1, .int x16), (0, .ref a0_)]) dX2_reflection_36 (by decide) rfl h30 rfl) (mpp 39 rfl ?_)
    try have e31 : z29.toInt = v3.toInt + 1 := ti_addz h30 rfl rfl (by omega) (by omega)
    refine mp_a (a_goto (t := 6) dX2_reflection_39 (by decide)) ?_
    refine MEvP.less (L := [(0, .ref a0_), (1, .int x16), (2, .int z26), (3, .int z29)]) rfl rfl ⟨rfl, rfl, rfl, rfl, trivial⟩ ?_
    have i32 : 0 ≤ z29.toInt := by omega
    exact ih _ (by omega) _ _ _ i32 rfl

set_option maxHeartbeats 4000000 in
theorem c_CP_reflection_NPiece {Po : mP} {a0_ : Nat} (hT : Typ Po) (hX : XR Po)  (ha0 : rl a0_ = 33) : EvP 2 91 [.ref a0_] Po (fun r P' => (∃ x : Int32, r = some (.int x) ∧ (True)) ∧ P' = Po) := by
  refine EvP.of qm_91 (Nat.le_of_ble_eq_true rfl) rfl ?_
  show MEvP _ none q_91 0 [(0, .ref a0_)] [] _ 0 0 _
  have w1 := np_ar ha0
  refine mp_a (a_iconst (v := 0) dX2_reflection_0 rfl) (mpp 1 rfl ?_)
  refine mp_a (a_istore_n (L' := [(1, .int 0), (0, .ref a0_)]) dX2_reflection_1 (by decide) rfl) (mpp 2 rfl ?_)
  refine mp_a (a_iconst (v := 0) dX2_reflection_2 rfl) (mpp 3 rfl ?_)
  refine mp_a (a_istore_n (L' := [(2, .int 0), (1, .int 0), (0, .ref a0_)]) dX2_reflection_3 (by decide) rfl) (mpp 4 rfl ?_)
  refine mp_a (a_iconst (v := 0) dX2_reflection_4 rfl) (mpp 5 rfl ?_)
  refine mp_a (a_istore_n (L' := [(3, .int 0), (2, .int 0), (1, .int 0), (0, .ref a0_)]) dX2_reflection_5 (by decide) rfl) (mpp 6 rfl ?_)
  refine MEvP.less (L := [(0, .ref a0_), (1, .int 0), (2, .int 0), (3, .int 0)]) rfl rfl ⟨rfl, rfl, rfl, rfl, trivial⟩ ?_
  have i2 : 0 ≤ (0 : Int) := by omega
  exact c_CP_reflection_NPiece_l6 hT hX  ha0 _ _ _ _ i2 rfl

set_option maxHeartbeats 4000000 in
theorem c_F_reflected {Po : mP} {t1 : Int32} (hT : Typ Po) (hX : XR Po)   : EvP 3 90 [.ref 0, .int t1] Po (fun r P' => (∃ x : Int32, r = some (.int x) ∧ (True)) ∧ P' = Po) := by
  refine EvP.of qm_90 (Nat.le_of_ble_eq_true rfl) rfl ?_
  show MEvP _ none q_90 0 [(0, .ref 0), (1, .int t1)] [] _ 0 0 _
  have w_t1 := ti_full t1
  refine mp_a (a_aload_n dX6_reflected_0 rfl) (mpp 1 rfl ?_)
  refine mt_getU (i := 10) (k := 0) (A := 1) hT dX6_reflected_1 rfl rl_0 (by decide) rfl (by decide) rfl un_31 (mpp 4 rfl ?_)
  refine mp_a (a_iload_n dX6_reflected_4 rfl) (mpp 5 rfl ?_)
  refine mt_callv (i := 94) (q' := q_9) (As := [.int t1]) (rest := []) hT dX6_reflected_5 rfl qm_9 (by decide) rfl rl_1 (by decide) rfl (Nat.le_of_ble_eq_true rfl) rfl ⟨rfl, rfl⟩ ⟨Nat.le_of_ble_eq_true rfl, Nat.le_of_ble_eq_true rfl⟩ (EvP.mono (by decide) (c_CS_pieceAt_NState hT hX )) (fun r1 P2 g3 => mpp 8 rfl ?_)
  obtain ⟨g3, e4⟩ := g3
  have e4 := e4.symm
  subst e4
  rcases g3 with ⟨rfl, q6n⟩ | ⟨b5, rfl, q6, q6r⟩
  · show MEvP _ none q_90 8 [(0, .ref 0), (1, .int t1)] [.null] _ _ _ _
    replace q6n : t1.toInt < 0 ∨ (fv Po 1 1).toInt ≤ t1.toInt ∨ 8 ≤ t1.toInt := q6n
    have g7 : (0 : Int) ≤ (fv Po 1 1).toInt ∧ (fv Po 1 1).toInt ≤ 8 := Typ.rng hT rl_1 (by decide) (by decide) rfl
    refine mp_a (a_astore_nN (L' := [(2, .null), (0, .ref 0), (1, .int t1)]) dX6_reflected_8 (by decide) rfl) (mpp 9 rfl ?_)
    refine mp_a (a_aload_nN dX6_reflected_9 rfl) (mpp 10 rfl ?_)
    refine mp_t (s_ifnonnullN dX6_reflected_10) (mpp 13 rfl ?_)
    refine mp_a (a_sipush (v := -1001) dX6_reflected_13 rfl) (mpp 16 rfl ?_)
    exact mp_iret ⟨⟨_, rfl, trivial⟩, rfl⟩ dX6_reflected_16 (Or.inl rfl)
  · show MEvP _ none q_90 8 [(0, .ref 0), (1, .int t1)] [.ref b5] _ _ _ _
    replace q6r : 0 ≤ t1.toInt ∧ t1.toInt ≤ 7 ∧ t1.toInt + 1 ≤ (fv Po 1 1).toInt ∧ rv Po 2 t1.toInt.toNat = b5 := q6r
    have g8 : (0 : Int) ≤ (fv Po 1 1).toInt ∧ (fv Po 1 1).toInt ≤ 8 := Typ.rng hT rl_1 (by decide) (by decide) rfl
    have w9 := np_ar q6
    refine mp_a (a_astore_n (L' := [(2, .ref b5), (0, .ref 0), (1, .int t1)]) dX6_reflected_8 (by decide) rfl) (mpp 9 rfl ?_)
    refine mp_a (a_aload_n dX6_reflected_9 rfl) (mpp 10 rfl ?_)
    refine mp_t (s_ifnonnullR (t := 17) dX6_reflected_10 (by decide)) ?_
    refine mp_a (a_aload_n dX6_reflected_17 rfl) (mpp 18 rfl ?_)
    have g10 := ti_full (fv Po b5 0)
    refine mt_getI (i := 130) (k := 0) hT dX6_reflected_18 rfl q6 (by decide) rfl (by decide) rfl (fun g11 g12 => mpp 21 rfl ?_)
    refine mp_a (a_iconst (v := 1) dX6_reflected_21 rfl) (mpp 22 rfl ?_)
    refine mp_Tb (t := 31) (j_icmp_eq dX6_reflected_22) (by decide) (fun c13 => ?_) (fun c13 => mpp 25 rfl ?_)
    · have c13 : (fv Po b5 0).toInt = 1 := ti_eq c13
      refine mp_a (a_aload_n dX6_reflected_31 rfl) (mpp 32 rfl ?_)
      refine mt_callv (i := 213) (q' := q_91) (As := []) (rest := []) hT dX6_reflected_32 rfl qm_91 (by decide) rfl q6 (by decide) rfl (Nat.le_of_ble_eq_true rfl) rfl ⟨rfl, rfl⟩ ⟨Nat.le_of_ble_eq_true rfl, Nat.le_of_ble_eq_true rfl⟩ (EvP.mono (by decide) (c_CP_reflection_NPiece hT hX q6)) (fun r14 P15 g16 => mpp 35 rfl ?_)
      obtain ⟨⟨x17, rfl, g18⟩, e19⟩ := g16
      have e19 := e19.symm
      subst e19
      have wx17 := ti_full x17
      show MEvP _ none q_90 35 [(2, .ref b5), (0, .ref 0), (1, .int t1)] [.int x17] _ _ _ _
      exact mp_iret ⟨⟨_, rfl, trivial⟩, rfl⟩ dX6_reflected_35 (Or.inl rfl)
    · have c13 : (fv Po b5 0).toInt ≠ 1 := ti_eq_n c13
      refine mp_a (a_sipush (v := -1002) dX6_reflected_25 rfl) (mpp 28 rfl ?_)
      refine mp_a (a_goto (t := 35) dX6_reflected_28 (by decide)) ?_
      exact mp_iret ⟨⟨_, rfl, trivial⟩, rfl⟩ dX6_reflected_35 (Or.inl rfl)

set_option maxHeartbeats 4000000 in
theorem c_F_put_codes {Po : mP} {t1 : Int32} {t2 : Int32} (hT : Typ Po) (hX : XR Po)   : EvP 1 22 [.ref 290, .int t1, .int t2] Po (fun r P' => (r = none ∧ (True)) ∧ Typ P' ∧ KW [576] Po P' ∧ ((t1.toInt < 0 ∨ 80 ≤ t1.toInt) ∨ (fv P' 290 t1.toInt.toNat).toInt = t2.toInt) ∧ (∀ x j : Nat, ¬ (x = 290 ∧ j = t1.toInt.toNat) → fv P' x j = fv Po x j) ∧ KI 290 (290 + 1) Po P') := by
  refine EvP.of qm_22 (Nat.le_of_ble_eq_true rfl) rfl ?_
  show MEvP _ none q_22 0 [(0, .ref 290), (1, .int t1), (2, .int t2)] [] _ 0 0 _
  have w_t1 := ti_full t1
  have w_t2 := ti_full t2
  refine mp_a (a_iload_n dX6_put_0 rfl) (mpp 1 rfl ?_)
  refine mp_Tb (t := 14) (j_if_lt dX6_put_1) (by decide) (fun c1 => ?_) (fun c1 => mpp 4 rfl ?_)
  · have c1 : t1.toInt < 0 := ti_lt c1
    have u2 : ((t1.toInt < 0 ∨ 80 ≤ t1.toInt) ∨ (fv Po 290 t1.toInt.toNat).toInt = t2.toInt) := Or.inl (by omega)
    have u3 : (∀ x j : Nat, ¬ (x = 290 ∧ j = t1.toInt.toNat) → fv Po x j = fv Po x j) := fun _ _ _ => rfl
    have u4 : KI 290 (290 + 1) Po Po := fun _ _ _ => rfl
    exact mp_ret ⟨⟨rfl, trivial⟩, hT, KW.refl, ⟨u2, u3, u4⟩⟩ dX6_put_14 rfl
  · have c1 : t1.toInt ≥ 0 := ti_lt_n c1
    refine mp_a (a_iload_n dX6_put_4 rfl) (mpp 5 rfl ?_)
    refine mp_a (a_aload_n dX6_put_5 rfl) (mpp 6 rfl ?_)
    refine mt_len (n := 80) hT dX6_put_6 rl_290 (by decide) (by decide) rfl (mpp 7 rfl ?_)
    refine mp_Tb (t := 14) (j_icmp_ge dX6_put_7) (by decide) (fun c5 => ?_) (fun c5 => mpp 10 rfl ?_)
    · have c5 : t1.toInt ≥ 80 := ti_ge c5
      have u6 : ((t1.toInt < 0 ∨ 80 ≤ t1.toInt) ∨ (fv Po 290 t1.toInt.toNat).toInt = t2.toInt) := Or.inl (by omega)
      have u7 : (∀ x j : Nat, ¬ (x = 290 ∧ j = t1.toInt.toNat) → fv Po x j = fv Po x j) := fun _ _ _ => rfl
      have u8 : KI 290 (290 + 1) Po Po := fun _ _ _ => rfl
      exact mp_ret ⟨⟨rfl, trivial⟩, hT, KW.refl, ⟨u6, u7, u8⟩⟩ dX6_put_14 rfl
    · have c5 : t1.toInt < 80 := ti_ge_n c5
      refine mp_a (a_aload_n dX6_put_10 rfl) (mpp 11 rfl ?_)
      refine mp_a (a_iload_n dX6_put_11 rfl) (mpp 12 rfl ?_)
      refine mp_a (a_iload_n dX6_put_12 rfl) (mpp 13 rfl ?_)
      refine mt_ias (n := 80) hT dX6_put_13 rl_290 (by decide) rfl rfl (by omega) (by omega) rfl (ti_full t2) (fun P9 hT10 f11 f12 f13 => mpp 14 rfl ?_)
      have k14 : KW [576] Po P9 := KW.step KW.refl rl_290 rfl f12 f13
      have u15 : ((t1.toInt < 0 ∨ 80 ≤ t1.toInt) ∨ (fv P9 290 t1.toInt.toNat).toInt = t2.toInt) := Or.inr (congrArg Int32.toInt f11)
      have u16 : (∀ x j : Nat, ¬ (x = 290 ∧ j = t1.toInt.toNat) → fv P9 x j = fv Po x j) := f12
      have u17 : KI 290 (290 + 1) Po P9 := by
        intro x j hx
        rw [f12 x j (by omega)]
      exact mp_ret ⟨⟨rfl, trivial⟩, hT10, k14, ⟨u15, u16, u17⟩⟩ dX6_put_14 rfl

set_option maxHeartbeats 4000000 in
theorem c_CS_write_Script {Po : mP} {t1 : Int32} (hT : Typ Po) (hX : XR Po)  (hp0 : (fv Po 289 1).toInt ≤ 79)  : EvP 2 93 [.ref 289, .int t1] Po (fun r P' => (r = none ∧ ((fv P' 289 1).toInt = (fv Po 289 1).toInt + 1 ∧ (fv P' 290 (fv Po 289 1).toInt.toNat).toInt = t1.toInt ∧ ∀ j : Nat, ¬ j = (fv Po 289 1).toInt.toNat → fv P' 290 j = fv Po 290 j)) ∧ Typ P' ∧ KW [513, 576] Po P' ∧ KI 289 291 Po P') := by
  refine EvP.of qm_93 (Nat.le_of_ble_eq_true rfl) rfl ?_
  show MEvP _ none q_93 0 [(0, .ref 289), (1, .int t1)] [] _ 0 0 _
  have w_t1 := ti_full t1
  have g1 : (0 : Int) ≤ (fv Po 289 1).toInt ∧ (fv Po 289 1).toInt ≤ 80 := Typ.rng hT rl_289 (by decide) (by decide) rfl
  refine mp_a (a_aload_n dX4_write_0 rfl) (mpp 1 rfl ?_)
  refine mt_getU (i := 9) (k := 0) (A := 290) hT dX4_write_1 rfl rl_289 (by decide) rfl (by decide) rfl un_9 (mpp 4 rfl ?_)
  refine mp_a (a_aload_n dX4_write_4 rfl) (mpp 5 rfl ?_)
  refine mt_getI (i := 15) (k := 1) hT dX4_write_5 rfl rl_289 (by decide) rfl (by decide) rfl (fun g2 g3 => mpp 8 rfl ?_)
  refine mp_a (a_iload_n dX4_write_8 rfl) (mpp 9 rfl ?_)
  refine mp_calls (i := 19) (q' := q_22) (As := [.ref 290, .int (fv Po 289 1), .int t1]) (rest := []) dX4_write_9 rfl qm_22 (by decide) rfl (Nat.le_of_ble_eq_true rfl) rfl ⟨rfl, rfl⟩ ⟨Nat.le_of_ble_eq_true rfl, Nat.le_of_ble_eq_true rfl⟩ (EvP.mono (by decide) (c_F_put_codes hT hX )) (fun r4 P5 g6 => mpp 12 rfl ?_)
  obtain ⟨⟨rfl, g8⟩, hT9, k10, R11⟩ := g6
  have k12 : KW [513, 576] Po P5 := KW.trans KW.refl k10 rfl
  show MEvP _ none q_93 12 [(0, .ref 289), (1, .int t1)] [] _ _ _ _
  refine mp_a (a_aload_n dX4_write_12 rfl) (mpp 13 rfl ?_)
  refine mp_t (s_dup dX4_write_13 rfl) (mpp 14 rfl ?_)
  have e14 : (fv P5 289 1).toInt = (fv Po 289 1).toInt := congrArg Int32.toInt (KW.at k10 1 rl_289 rfl)
  refine mt_getI (i := 15) (k := 1) hT9 dX4_write_14 rfl rl_289 (by decide) rfl (by decide) rfl (fun g15 g16 => mpp 17 rfl ?_)
  refine mp_a (a_iconst (v := 1) dX4_write_17 rfl) (mpp 18 rfl ?_)
  obtain ⟨z17, h18⟩ := ti_ex ((fv P5 289 1) + 1 : Int32)
  have wz17 := ti_full z17
  refine mp_t (s_iadd (v := z17) dX4_write_18 h18) (mpp 19 rfl ?_)
  try have e19 : z17.toInt = (fv P5 289 1).toInt + 1 := ti_addz h18 rfl rfl (by omega) (by omega)
  refine mt_putI (i := 15) (k := 1) (x := z17) hT9 dX4_write_19 rfl rl_289 (by decide) rfl (by decide) rfl ⟨by omega, by omega⟩ rfl rfl (fun P20 hT21 f22 f23 f24 => mpp 22 rfl ?_)
  have k25 : KW [513, 576] Po P20 := KW.step k12 rl_289 rfl f23 f24
  have e26 : (fv P20 289 1).toInt = z17.toInt := congrArg Int32.toInt f22
  have u27 : (fv P20 289 1).toInt = (fv Po 289 1).toInt + 1 ∧ (fv P20 290 (fv Po 289 1).toInt.toNat).toInt = t1.toInt ∧ ∀ j : Nat, ¬ j = (fv Po 289 1).toInt.toNat → fv P20 290 j = fv Po 290 j := ⟨by omega, by rw [f23 290 _ (by omega)]; exact R11.1.resolve_left (by omega), fun j hj => (f23 290 j (by omega)).trans (R11.2.1 290 j (fun e => hj e.2))⟩
  have u28 : KI 289 291 Po P20 := by
    intro x j hx
    rw [f23 x j (by omega), R11.2.2 x j (by omega)]
  exact mp_ret ⟨⟨rfl, u27⟩, hT21, k25, u28⟩ dX4_write_22 rfl

