/-! methods on typed pools, 9 (written by a program) -/
set_option maxHeartbeats 4000000 in
theorem c_CR_whatStandsInTheWay_Reducer_NPiece {Po : mP} {a1_ : Nat} (hT : Typ Po) (hX : XR Po)  (hp0 : a1_ ≤ 288 ∨ 298 ≤ a1_) (ha1 : rl a1_ = 33) : EvP 4 44 [.ref 291, .ref a1_] Po (fun r P' => (∃ x : Int32, r = some (.int x) ∧ (0 ≤ x.toInt ∧ x.toInt ≤ 5 ∧ WYf cC eC (fv Po a1_ 0).toInt (fv Po a1_ 1).toInt (fun j : Nat => fv Po (a1_ + 1) j) (fun j : Nat => fv Po (a1_ + 2) j) x.toInt)) ∧ Typ P' ∧ KW [640, 641, 704, 768] Po P' ∧ KI 291 294 Po P') := by
  refine EvP.of qm_44 (Nat.le_of_ble_eq_true rfl) rfl ?_
  show MEvP _ none q_44 0 [(0, .ref 291), (1, .ref a1_)] [] _ 0 0 _
  have w1 := np_ar ha1
  have g2 := ti_full (fv Po a1_ 0)
  have g3 : (0 : Int) ≤ (fv Po a1_ 1).toInt ∧ (fv Po a1_ 1).toInt ≤ 8 := Typ.rng hT ha1 (by decide) (by decide) rfl
  refine mp_a (a_aload_n dX3_whatStandsInTheWay_0 rfl) (mpp 1 rfl ?_)
  refine mt_callv (i := 51) (q' := q_42) (As := []) (rest := []) hT dX3_whatStandsInTheWay_1 rfl qm_42 (by decide) rfl ha1 (by decide) rfl (Nat.le_of_ble_eq_true rfl) rfl ⟨rfl, rfl⟩ ⟨Nat.le_of_ble_eq_true rfl, Nat.le_of_ble_eq_true rfl⟩ (EvP.mono (by decide) (c_CP_isUndecided_NPiece hT hX ha1)) (fun r4 P5 g6 => mpp 4 rfl ?_)
  obtain ⟨⟨x7, rfl, g8⟩, e9⟩ := g6
  have e9 := e9.symm
  subst e9
  have wx7 := ti_full x7
  replace g8 : 0 ≤ x7.toInt ∧ x7.toInt ≤ 1 ∧ ((x7.toInt = 1 ∧ 1 ≤ cntF (fun j : Nat => fv Po (a1_ + 2) j) 0 (nC (fv Po a1_ 0).toInt (fv Po a1_ 1).toInt)) ∨ (x7.toInt = 0 ∧ cntF (fun j : Nat => fv Po (a1_ + 2) j) 0 (nC (fv Po a1_ 0).toInt (fv Po a1_ 1).toInt) = 0)) := g8
  show MEvP _ none q_44 4 [(0, .ref 291), (1, .ref a1_)] [.int x7] _ _ _ _
  refine mp_Tb (t := 9) (j_if_eq dX3_whatStandsInTheWay_4) (by decide) (fun c10 => ?_) (fun c10 => mpp 7 rfl ?_)
  · have c10 : x7.toInt = 0 := ti_eq c10
    refine mp_a (a_aload_n dX3_whatStandsInTheWay_9 rfl) (mpp 10 rfl ?_)
    refine mp_a (a_aload_n dX3_whatStandsInTheWay_10 rfl) (mpp 11 rfl ?_)
    have p11 : a1_ ≤ 288 ∨ 298 ≤ a1_ := by omega
    refine mt_callv (i := 55) (q' := q_45) (As := [.ref a1_]) (rest := []) hT dX3_whatStandsInTheWay_11 rfl qm_45 (by decide) rfl rl_291 (by decide) rfl (Nat.le_of_ble_eq_true rfl) rfl ⟨rfl, rfl⟩ ⟨Nat.le_of_ble_eq_true rfl, Nat.le_of_ble_eq_true rfl⟩ (EvP.mono (by decide) (c_CR_load_Reducer_NPiece hT hX p11 ha1)) (fun r12 P13 g14 => mpp 14 rfl ?_)
    obtain ⟨⟨rfl, g16⟩, hT17, k18, R19⟩ := g14
    have k20 : KW [640, 641, 704, 768] Po P13 := KW.trans KW.refl k18 rfl
    show MEvP _ none q_44 14 [(0, .ref 291), (1, .ref a1_)] [] _ _ _ _
    refine mp_a (a_aload_n dX3_whatStandsInTheWay_14 rfl) (mpp 15 rfl ?_)
    have g22 := ti_full (fv P13 291 0)
    refine mt_getI (i := 24) (k := 0) hT17 dX3_whatStandsInTheWay_15 rfl rl_291 (by decide) rfl (by decide) rfl (fun g23 g24 => mpp 18 rfl ?_)
    refine mp_a (a_iconst (v := 1) dX3_whatStandsInTheWay_18 rfl) (mpp 19 rfl ?_)
    refine mp_Tb (t := 62) (j_icmp_ne dX3_whatStandsInTheWay_19) (by decide) (fun c25 => ?_) (fun c25 => mpp 22 rfl ?_)
    · have c25 : (fv P13 291 0).toInt ≠ 1 := ti_ne c25
      refine mp_a (a_aload_n dX3_whatStandsInTheWay_62 rfl) (mpp 63 rfl ?_)
      have g26 : (0 : Int) ≤ (fv P13 291 1).toInt ∧ (fv P13 291 1).toInt ≤ 8 := Typ.rng hT17 rl_291 (by decide) (by decide) rfl
      have p27 : (fv P13 291 1).toInt ≤ 8 := by omega
      refine mt_callv (i := 74) (q' := q_51) (As := []) (rest := []) hT17 dX3_whatStandsInTheWay_63 rfl qm_51 (by decide) rfl rl_291 (by decide) rfl (Nat.le_of_ble_eq_true rfl) rfl ⟨rfl, rfl⟩ ⟨Nat.le_of_ble_eq_true rfl, Nat.le_of_ble_eq_true rfl⟩ (EvP.mono (by decide) (c_CR_reduce_Reducer hT17 (KW.xr k20 hX) p27 )) (fun r28 P29 g30 => mpp 66 rfl ?_)
      obtain ⟨⟨x31, rfl, g32⟩, hT33, k34, R35⟩ := g30
      have k36 : KW [640, 641, 704, 768] Po P29 := KW.trans k20 k34 rfl
      have wx31 := ti_full x31
      replace g32 : 0 ≤ x31.toInt ∧ RD cC (rC P13) x31.toInt.toNat (rC P29) := g32
      show MEvP _ none q_44 66 [(0, .ref 291), (1, .ref a1_)] [.int x31] _ _ _ _
      refine mp_t (s_pop dX3_whatStandsInTheWay_66 rfl) (mpp 67 rfl ?_)
      refine mp_a (a_aload_n dX3_whatStandsInTheWay_67 rfl) (mpp 68 rfl ?_)
      refine mt_callv (i := 77) (q' := q_55) (As := []) (rest := []) hT33 dX3_whatStandsInTheWay_68 rfl qm_55 (by decide) rfl rl_291 (by decide) rfl (Nat.le_of_ble_eq_true rfl) rfl ⟨rfl, rfl⟩ ⟨Nat.le_of_ble_eq_true rfl, Nat.le_of_ble_eq_true rfl⟩ (EvP.mono (by decide) (c_CR_isReduced_Reducer hT33 (KW.xr k36 hX) )) (fun r38 P39 g40 => mpp 71 rfl ?_)
      obtain ⟨⟨x41, rfl, g42⟩, e43⟩ := g40
      have e43 := e43.symm
      subst e43
      have wx41 := ti_full x41
      replace g42 : 0 ≤ x41.toInt ∧ x41.toInt ≤ 1 ∧ ((x41.toInt = 1 ∧ isRf eC (rC P29)) ∨ (x41.toInt = 0 ∧ ¬ isRf eC (rC P29))) := g42
      show MEvP _ none q_44 71 [(0, .ref 291), (1, .ref a1_)] [.int x41] _ _ _ _
      refine mp_Tb (t := 78) (j_if_eq dX3_whatStandsInTheWay_71) (by decide) (fun c44 => ?_) (fun c44 => mpp 74 rfl ?_)
      · have c44 : x41.toInt = 0 := ti_eq c44
        refine mp_a (a_iconst (v := 5) dX3_whatStandsInTheWay_78 rfl) (mpp 79 rfl ?_)
        have w46_k := congrArg Int32.toInt R19.1
        have w46_r := g32.2
        rw [rC_load R19.1 R19.2.1 R19.2.2.1 R19.2.2.2.1 (by omega)] at w46_r
        have u45 : 0 ≤ (5 : Int) ∧ (5 : Int) ≤ 5 ∧ WYf cC eC (fv Po a1_ 0).toInt (fv Po a1_ 1).toInt (fun j : Nat => fv Po (a1_ + 1) j) (fun j : Nat => fv Po (a1_ + 2) j) (5 : Int) := ⟨by omega, by omega, Or.inr (Or.inr (Or.inr (Or.inr ⟨by omega, Or.inl (by omega), _, _, w46_r, Or.inr ⟨(g42.2.2.resolve_left (by omega)).2, rfl⟩⟩)))⟩
        have u47 : KI 291 294 Po P29 := by
          intro x j hx
          rw [R35 x j (by omega), R19.2.2.2.2 x j (by omega)]
        exact mp_iret ⟨⟨_, rfl, u45⟩, hT33, k36, u47⟩ dX3_whatStandsInTheWay_79 (Or.inl rfl)
      · have c44 : x41.toInt ≠ 0 := ti_eq_n c44
        refine mp_a (a_iconst (v := 0) dX3_whatStandsInTheWay_74 rfl) (mpp 75 rfl ?_)
        refine mp_a (a_goto (t := 79) dX3_whatStandsInTheWay_75 (by decide)) ?_
        have w49_k := congrArg Int32.toInt R19.1
        have w49_r := g32.2
        rw [rC_load R19.1 R19.2.1 R19.2.2.1 R19.2.2.2.1 (by omega)] at w49_r
        have u48 : 0 ≤ (0 : Int) ∧ (0 : Int) ≤ 5 ∧ WYf cC eC (fv Po a1_ 0).toInt (fv Po a1_ 1).toInt (fun j : Nat => fv Po (a1_ + 1) j) (fun j : Nat => fv Po (a1_ + 2) j) (0 : Int) := ⟨by omega, by omega, Or.inr (Or.inr (Or.inr (Or.inr ⟨by omega, Or.inl (by omega), _, _, w49_r, Or.inl ⟨(g42.2.2.resolve_right (by omega)).2, rfl⟩⟩)))⟩
        have u50 : KI 291 294 Po P29 := by
          intro x j hx
          rw [R35 x j (by omega), R19.2.2.2.2 x j (by omega)]
        exact mp_iret ⟨⟨_, rfl, u48⟩, hT33, k36, u50⟩ dX3_whatStandsInTheWay_79 (Or.inl rfl)
    · have c25 : (fv P13 291 0).toInt = 1 := ti_ne_n c25
      refine mp_a (a_aload_n dX3_whatStandsInTheWay_22 rfl) (mpp 23 rfl ?_)
      refine mt_callv (i := 59) (q' := q_47) (As := []) (rest := []) hT17 dX3_whatStandsInTheWay_23 rfl qm_47 (by decide) rfl rl_291 (by decide) rfl (Nat.le_of_ble_eq_true rfl) rfl ⟨rfl, rfl⟩ ⟨Nat.le_of_ble_eq_true rfl, Nat.le_of_ble_eq_true rfl⟩ (EvP.mono (by decide) (c_CR_evenAngles_Reducer hT17 (KW.xr k20 hX) )) (fun r51 P52 g53 => mpp 26 rfl ?_)
      obtain ⟨⟨x54, rfl, g55⟩, e56⟩ := g53
      have e56 := e56.symm
      subst e56
      have wx54 := ti_full x54
      replace g55 : x54.toInt = (evF (fun j : Nat => fv P13 292 j) (fv P13 291 1).toInt.toNat).toInt := g55
      have g57 : (0 : Int) ≤ (fv P13 291 1).toInt ∧ (fv P13 291 1).toInt ≤ 8 := Typ.rng hT17 rl_291 (by decide) (by decide) rfl
      show MEvP _ none q_44 26 [(0, .ref 291), (1, .ref a1_)] [.int x54] _ _ _ _
      refine mp_a (a_bipush (v := 12) dX3_whatStandsInTheWay_26 rfl) (mpp 28 rfl ?_)
      refine mp_Tb (t := 33) (j_icmp_eq dX3_whatStandsInTheWay_28) (by decide) (fun c58 => ?_) (fun c58 => mpp 31 rfl ?_)
      · have c58 : x54.toInt = 12 := ti_eq c58
        refine mp_a (a_aload_n dX3_whatStandsInTheWay_33 rfl) (mpp 34 rfl ?_)
        refine mp_a (a_iconst (v := 1) dX3_whatStandsInTheWay_34 rfl) (mpp 35 rfl ?_)
        refine mt_callv (i := 62) (q' := q_32) (As := [.int 1]) (rest := []) hT17 dX3_whatStandsInTheWay_35 rfl qm_32 (by decide) rfl ha1 (by decide) rfl (Nat.le_of_ble_eq_true rfl) rfl ⟨rfl, rfl⟩ ⟨Nat.le_of_ble_eq_true rfl, Nat.le_of_ble_eq_true rfl⟩ (EvP.mono (by decide) (c_CP_countOf_NPiece hT17 (KW.xr k20 hX) ha1)) (fun r59 P60 g61 => mpp 38 rfl ?_)
        obtain ⟨⟨x62, rfl, g63⟩, e64⟩ := g61
        have e64 := e64.symm
        subst e64
        have wx62 := ti_full x62
        replace g63 : 0 ≤ x62.toInt ∧ x62.toInt ≤ 8 ∧ x62.toInt = cntF (fun j : Nat => fv P13 (a1_ + 2) j) (1 : Int) (nC (fv P13 a1_ 0).toInt (fv P13 a1_ 1).toInt) := g63
        have e65 : (fv P13 a1_ 0).toInt = (fv Po a1_ 0).toInt := congrArg Int32.toInt (KW.at k18 0 ha1 rfl)
        have e66 : (fv P13 a1_ 1).toInt = (fv Po a1_ 1).toInt := congrArg Int32.toInt (KW.at k18 1 ha1 rfl)
        show MEvP _ none q_44 38 [(0, .ref 291), (1, .ref a1_)] [.int x62] _ _ _ _
        refine mp_a (a_aload_n dX3_whatStandsInTheWay_38 rfl) (mpp 39 rfl ?_)
        refine mp_a (a_iconst (v := 2) dX3_whatStandsInTheWay_39 rfl) (mpp 40 rfl ?_)
        refine mt_callv (i := 62) (q' := q_32) (As := [.int 2]) (rest := [.int x62]) hT17 dX3_whatStandsInTheWay_40 rfl qm_32 (by decide) rfl ha1 (by decide) rfl (Nat.le_of_ble_eq_true rfl) rfl ⟨rfl, rfl⟩ ⟨Nat.le_of_ble_eq_true rfl, Nat.le_of_ble_eq_true rfl⟩ (EvP.mono (by decide) (c_CP_countOf_NPiece hT17 (KW.xr k20 hX) ha1)) (fun r67 P68 g69 => mpp 43 rfl ?_)
        obtain ⟨⟨x70, rfl, g71⟩, e72⟩ := g69
        have e72 := e72.symm
        subst e72
        have wx70 := ti_full x70
        replace g71 : 0 ≤ x70.toInt ∧ x70.toInt ≤ 8 ∧ x70.toInt = cntF (fun j : Nat => fv P13 (a1_ + 2) j) (2 : Int) (nC (fv P13 a1_ 0).toInt (fv P13 a1_ 1).toInt) := g71
        show MEvP _ none q_44 43 [(0, .ref 291), (1, .ref a1_)] [.int x70, .int x62] _ _ _ _
        obtain ⟨z73, h74⟩ := ti_ex (x62 - x70 : Int32)
        have wz73 := ti_full z73
        refine mp_t (s_isub (v := z73) dX3_whatStandsInTheWay_43 h74) (mpp 44 rfl ?_)
        try have e75 : z73.toInt = x62.toInt - x70.toInt := ti_subz h74 rfl rfl (by omega) (by omega)
        obtain ⟨z76, h77⟩ := ti_ex (if 0 ≤ z73 then z73 else 0 - z73 : Int32)
        have wz76 := ti_full z76
        try have e78 := ti_abs h77 (by omega)
        refine mp_abs (i := 66) (k := 0) (v := z76) dX3_whatStandsInTheWay_44 rfl (Nat.le_of_ble_eq_true rfl) h77 ⟨Nat.le_of_ble_eq_true rfl, Nat.le_of_ble_eq_true rfl⟩ (mpp 47 rfl ?_)
        refine mp_a (a_iconst (v := 2) dX3_whatStandsInTheWay_47 rfl) (mpp 48 rfl ?_)
        refine mp_Tb (t := 53) (j_icmp_eq dX3_whatStandsInTheWay_48) (by decide) (fun c79 => ?_) (fun c79 => mpp 51 rfl ?_)
        · have c79 : z76.toInt = 2 := ti_eq c79
          refine mp_a (a_aload_n dX3_whatStandsInTheWay_53 rfl) (mpp 54 rfl ?_)
          refine mt_callv (i := 71) (q' := q_48) (As := []) (rest := []) hT17 dX3_whatStandsInTheWay_54 rfl qm_48 (by decide) rfl rl_291 (by decide) rfl (Nat.le_of_ble_eq_true rfl) rfl ⟨rfl, rfl⟩ ⟨Nat.le_of_ble_eq_true rfl, Nat.le_of_ble_eq_true rfl⟩ (EvP.mono (by decide) (c_CR_hasSmallAngleOfOneKind_Reducer hT17 (KW.xr k20 hX) )) (fun r80 P81 g82 => mpp 57 rfl ?_)
          obtain ⟨⟨x83, rfl, g84⟩, e85⟩ := g82
          have e85 := e85.symm
          subst e85
          have wx83 := ti_full x83
          replace g84 : 0 ≤ x83.toInt ∧ x83.toInt ≤ 1 ∧ ((x83.toInt = 1 ∧ SHf (fv P13 291 1).toInt.toNat (fun j : Nat => fv P13 292 j) (fun j : Nat => fv P13 293 j)) ∨ (x83.toInt = 0 ∧ ¬ SHf (fv P13 291 1).toInt.toNat (fun j : Nat => fv P13 292 j) (fun j : Nat => fv P13 293 j))) := g84
          show MEvP _ none q_44 57 [(0, .ref 291), (1, .ref a1_)] [.int x83] _ _ _ _
          refine mp_Tb (t := 62) (j_if_eq dX3_whatStandsInTheWay_57) (by decide) (fun c86 => ?_) (fun c86 => mpp 60 rfl ?_)
          · have c86 : x83.toInt = 0 := ti_eq c86
            refine mp_a (a_aload_n dX3_whatStandsInTheWay_62 rfl) (mpp 63 rfl ?_)
            have p87 : (fv P13 291 1).toInt ≤ 8 := by omega
            refine mt_callv (i := 74) (q' := q_51) (As := []) (rest := []) hT17 dX3_whatStandsInTheWay_63 rfl qm_51 (by decide) rfl rl_291 (by decide) rfl (Nat.le_of_ble_eq_true rfl) rfl ⟨rfl, rfl⟩ ⟨Nat.le_of_ble_eq_true rfl, Nat.le_of_ble_eq_true rfl⟩ (EvP.mono (by decide) (c_CR_reduce_Reducer hT17 (KW.xr k20 hX) p87 )) (fun r88 P89 g90 => mpp 66 rfl ?_)
            obtain ⟨⟨x91, rfl, g92⟩, hT93, k94, R95⟩ := g90
            have k96 : KW [640, 641, 704, 768] Po P89 := KW.trans k20 k94 rfl
            have wx91 := ti_full x91
            replace g92 : 0 ≤ x91.toInt ∧ RD cC (rC P13) x91.toInt.toNat (rC P89) := g92
            show MEvP _ none q_44 66 [(0, .ref 291), (1, .ref a1_)] [.int x91] _ _ _ _
            refine mp_t (s_pop dX3_whatStandsInTheWay_66 rfl) (mpp 67 rfl ?_)
            refine mp_a (a_aload_n dX3_whatStandsInTheWay_67 rfl) (mpp 68 rfl ?_)
            refine mt_callv (i := 77) (q' := q_55) (As := []) (rest := []) hT93 dX3_whatStandsInTheWay_68 rfl qm_55 (by decide) rfl rl_291 (by decide) rfl (Nat.le_of_ble_eq_true rfl) rfl ⟨rfl, rfl⟩ ⟨Nat.le_of_ble_eq_true rfl, Nat.le_of_ble_eq_true rfl⟩ (EvP.mono (by decide) (c_CR_isReduced_Reducer hT93 (KW.xr k96 hX) )) (fun r98 P99 g100 => mpp 71 rfl ?_)
            obtain ⟨⟨x101, rfl, g102⟩, e103⟩ := g100
            have e103 := e103.symm
            subst e103
            have wx101 := ti_full x101
            replace g102 : 0 ≤ x101.toInt ∧ x101.toInt ≤ 1 ∧ ((x101.toInt = 1 ∧ isRf eC (rC P89)) ∨ (x101.toInt = 0 ∧ ¬ isRf eC (rC P89))) := g102
            show MEvP _ none q_44 71 [(0, .ref 291), (1, .ref a1_)] [.int x101] _ _ _ _
            refine mp_Tb (t := 78) (j_if_eq dX3_whatStandsInTheWay_71) (by decide) (fun c104 => ?_) (fun c104 => mpp 74 rfl ?_)
            · have c104 : x101.toInt = 0 := ti_eq c104
              refine mp_a (a_iconst (v := 5) dX3_whatStandsInTheWay_78 rfl) (mpp 79 rfl ?_)
              have w106_e : evF (fun j : Nat => fv P13 292 j) (fv Po a1_ 1).toInt.toNat = evF (fun j : Nat => fv Po (a1_ + 1) j) (fv Po a1_ 1).toInt.toNat := evF.congr (fun j hj => R19.2.2.1 j (by omega))
              replace g55 := g55
              have w106_n : (fv P13 291 1).toInt.toNat = (fv Po a1_ 1).toInt.toNat := by rw [R19.2.1]
              have w106_g := g55
              rw [w106_n, w106_e] at w106_g
              have w106_c0 := g63.2.2
              rw [show (fun j : Nat => fv P13 (a1_ + 2) j) = (fun j : Nat => fv Po (a1_ + 2) j) from funext (fun j => R19.2.2.2.2 _ j (by omega)), show (fv P13 a1_ 0) = (fv Po a1_ 0) from R19.2.2.2.2 _ _ (by omega), show (fv P13 a1_ 1) = (fv Po a1_ 1) from R19.2.2.2.2 _ _ (by omega)] at w106_c0
              have w106_c1 := g71.2.2
              rw [show (fun j : Nat => fv P13 (a1_ + 2) j) = (fun j : Nat => fv Po (a1_ + 2) j) from funext (fun j => R19.2.2.2.2 _ j (by omega)), show (fv P13 a1_ 0) = (fv Po a1_ 0) from R19.2.2.2.2 _ _ (by omega), show (fv P13 a1_ 1) = (fv Po a1_ 1) from R19.2.2.2.2 _ _ (by omega)] at w106_c1
              have w106_k := congrArg Int32.toInt R19.1
              have w106_s : ∀ j : Nat, j < (fv Po a1_ 1).toInt.toNat → fv P13 293 j = fv Po (a1_ + 2) j := fun j hj => by have q := R19.2.2.2.1 j (by unfold nC; rw [if_neg (by omega)]; exact hj); rwa [if_neg (by omega)] at q
              have w106_t : ∀ j : Nat, j < (fv Po a1_ 1).toInt.toNat → fv P13 292 j = fv Po (a1_ + 1) j := fun j hj => R19.2.2.1 j (by omega)
              have w106_h := g84.2.2
              rw [w106_n] at w106_h
              have w106_r := g92.2
              rw [rC_load R19.1 R19.2.1 R19.2.2.1 R19.2.2.2.1 (by omega)] at w106_r
              have u105 : 0 ≤ (5 : Int) ∧ (5 : Int) ≤ 5 ∧ WYf cC eC (fv Po a1_ 0).toInt (fv Po a1_ 1).toInt (fun j : Nat => fv Po (a1_ + 1) j) (fun j : Nat => fv Po (a1_ + 2) j) (5 : Int) := ⟨by omega, by omega, Or.inr (Or.inr (Or.inr (Or.inr ⟨by omega, Or.inr ⟨by omega, by omega, fun q => (w106_h.resolve_left (by omega)).2 (q.congr (fun j hj => (w106_t j hj).symm) (fun j hj => (w106_s j hj).symm))⟩, _, _, w106_r, Or.inr ⟨(g102.2.2.resolve_left (by omega)).2, rfl⟩⟩)))⟩
              have u107 : KI 291 294 Po P89 := by
                intro x j hx
                rw [R95 x j (by omega), R19.2.2.2.2 x j (by omega)]
              exact mp_iret ⟨⟨_, rfl, u105⟩, hT93, k96, u107⟩ dX3_whatStandsInTheWay_79 (Or.inl rfl)
            · have c104 : x101.toInt ≠ 0 := ti_eq_n c104
              refine mp_a (a_iconst (v := 0) dX3_whatStandsInTheWay_74 rfl) (mpp 75 rfl ?_)
              refine mp_a (a_goto (t := 79) dX3_whatStandsInTheWay_75 (by decide)) ?_
              have w109_e : evF (fun j : Nat => fv P13 292 j) (fv Po a1_ 1).toInt.toNat = evF (fun j : Nat => fv Po (a1_ + 1) j) (fv Po a1_ 1).toInt.toNat := evF.congr (fun j hj => R19.2.2.1 j (by omega))
              replace g55 := g55
              have w109_n : (fv P13 291 1).toInt.toNat = (fv Po a1_ 1).toInt.toNat := by rw [R19.2.1]
              have w109_g := g55
              rw [w109_n, w109_e] at w109_g
              have w109_c0 := g63.2.2
              rw [show (fun j : Nat => fv P13 (a1_ + 2) j) = (fun j : Nat => fv Po (a1_ + 2) j) from funext (fun j => R19.2.2.2.2 _ j (by omega)), show (fv P13 a1_ 0) = (fv Po a1_ 0) from R19.2.2.2.2 _ _ (by omega), show (fv P13 a1_ 1) = (fv Po a1_ 1) from R19.2.2.2.2 _ _ (by omega)] at w109_c0
              have w109_c1 := g71.2.2
              rw [show (fun j : Nat => fv P13 (a1_ + 2) j) = (fun j : Nat => fv Po (a1_ + 2) j) from funext (fun j => R19.2.2.2.2 _ j (by omega)), show (fv P13 a1_ 0) = (fv Po a1_ 0) from R19.2.2.2.2 _ _ (by omega), show (fv P13 a1_ 1) = (fv Po a1_ 1) from R19.2.2.2.2 _ _ (by omega)] at w109_c1
              have w109_k := congrArg Int32.toInt R19.1
              have w109_s : ∀ j : Nat, j < (fv Po a1_ 1).toInt.toNat → fv P13 293 j = fv Po (a1_ + 2) j := fun j hj => by have q := R19.2.2.2.1 j (by unfold nC; rw [if_neg (by omega)]; exact hj); rwa [if_neg (by omega)] at q
              have w109_t : ∀ j : Nat, j < (fv Po a1_ 1).toInt.toNat → fv P13 292 j = fv Po (a1_ + 1) j := fun j hj => R19.2.2.1 j (by omega)
              have w109_h := g84.2.2
              rw [w109_n] at w109_h
              have w109_r := g92.2
              rw [rC_load R19.1 R19.2.1 R19.2.2.1 R19.2.2.2.1 (by omega)] at w109_r
              have u108 : 0 ≤ (0 : Int) ∧ (0 : Int) ≤ 5 ∧ WYf cC eC (fv Po a1_ 0).toInt (fv Po a1_ 1).toInt (fun j : Nat => fv Po (a1_ + 1) j) (fun j : Nat => fv Po (a1_ + 2) j) (0 : Int) := ⟨by omega, by omega, Or.inr (Or.inr (Or.inr (Or.inr ⟨by omega, Or.inr ⟨by omega, by omega, fun q => (w109_h.resolve_left (by omega)).2 (q.congr (fun j hj => (w109_t j hj).symm) (fun j hj => (w109_s j hj).symm))⟩, _, _, w109_r, Or.inl ⟨(g102.2.2.resolve_right (by omega)).2, rfl⟩⟩)))⟩
              have u110 : KI 291 294 Po P89 := by
                intro x j hx
                rw [R95 x j (by omega), R19.2.2.2.2 x j (by omega)]
              exact mp_iret ⟨⟨_, rfl, u108⟩, hT93, k96, u110⟩ dX3_whatStandsInTheWay_79 (Or.inl rfl)
          · have c86 : x83.toInt ≠ 0 := ti_eq_n c86
            refine mp_a (a_iconst (v := 3) dX3_whatStandsInTheWay_60 rfl) (mpp 61 rfl ?_)
            have w112_e : evF (fun j : Nat => fv P13 292 j) (fv Po a1_ 1).toInt.toNat = evF (fun j : Nat => fv Po (a1_ + 1) j) (fv Po a1_ 1).toInt.toNat := evF.congr (fun j hj => R19.2.2.1 j (by omega))
            replace g55 := g55
            have w112_n : (fv P13 291 1).toInt.toNat = (fv Po a1_ 1).toInt.toNat := by rw [R19.2.1]
            have w112_g := g55
            rw [w112_n, w112_e] at w112_g
            have w112_c0 := g63.2.2
            rw [show (fun j : Nat => fv P13 (a1_ + 2) j) = (fun j : Nat => fv Po (a1_ + 2) j) from funext (fun j => R19.2.2.2.2 _ j (by omega)), show (fv P13 a1_ 0) = (fv Po a1_ 0) from R19.2.2.2.2 _ _ (by omega), show (fv P13 a1_ 1) = (fv Po a1_ 1) from R19.2.2.2.2 _ _ (by omega)] at w112_c0
            have w112_c1 := g71.2.2
            rw [show (fun j : Nat => fv P13 (a1_ + 2) j) = (fun j : Nat => fv Po (a1_ + 2) j) from funext (fun j => R19.2.2.2.2 _ j (by omega)), show (fv P13 a1_ 0) = (fv Po a1_ 0) from R19.2.2.2.2 _ _ (by omega), show (fv P13 a1_ 1) = (fv Po a1_ 1) from R19.2.2.2.2 _ _ (by omega)] at w112_c1
            have w112_k := congrArg Int32.toInt R19.1
            have w112_s : ∀ j : Nat, j < (fv Po a1_ 1).toInt.toNat → fv P13 293 j = fv Po (a1_ + 2) j := fun j hj => by have q := R19.2.2.2.1 j (by unfold nC; rw [if_neg (by omega)]; exact hj); rwa [if_neg (by omega)] at q
            have w112_t : ∀ j : Nat, j < (fv Po a1_ 1).toInt.toNat → fv P13 292 j = fv Po (a1_ + 1) j := fun j hj => R19.2.2.1 j (by omega)
            have w112_h := g84.2.2
            rw [w112_n] at w112_h
            have u111 : 0 ≤ (3 : Int) ∧ (3 : Int) ≤ 5 ∧ WYf cC eC (fv Po a1_ 0).toInt (fv Po a1_ 1).toInt (fun j : Nat => fv Po (a1_ + 1) j) (fun j : Nat => fv Po (a1_ + 2) j) (3 : Int) := ⟨by omega, by omega, Or.inr (Or.inr (Or.inr (Or.inl ⟨by omega, by omega, by omega, by omega, (w112_h.resolve_right (by omega)).2.congr w112_t w112_s, rfl⟩)))⟩
            have u113 : KI 291 294 Po P13 := by
              intro x j hx
              rw [R19.2.2.2.2 x j (by omega)]
            exact mp_iret ⟨⟨_, rfl, u111⟩, hT17, k20, u113⟩ dX3_whatStandsInTheWay_61 (Or.inl rfl)
        · have c79 : z76.toInt ≠ 2 := ti_eq_n c79
          refine mp_a (a_iconst (v := 2) dX3_whatStandsInTheWay_51 rfl) (mpp 52 rfl ?_)
          have w115_e : evF (fun j : Nat => fv P13 292 j) (fv Po a1_ 1).toInt.toNat = evF (fun j : Nat => fv Po (a1_ + 1) j) (fv Po a1_ 1).toInt.toNat := evF.congr (fun j hj => R19.2.2.1 j (by omega))
          replace g55 := g55
          have w115_n : (fv P13 291 1).toInt.toNat = (fv Po a1_ 1).toInt.toNat := by rw [R19.2.1]
          have w115_g := g55
          rw [w115_n, w115_e] at w115_g
          have w115_c0 := g63.2.2
          rw [show (fun j : Nat => fv P13 (a1_ + 2) j) = (fun j : Nat => fv Po (a1_ + 2) j) from funext (fun j => R19.2.2.2.2 _ j (by omega)), show (fv P13 a1_ 0) = (fv Po a1_ 0) from R19.2.2.2.2 _ _ (by omega), show (fv P13 a1_ 1) = (fv Po a1_ 1) from R19.2.2.2.2 _ _ (by omega)] at w115_c0
          have w115_c1 := g71.2.2
          rw [show (fun j : Nat => fv P13 (a1_ + 2) j) = (fun j : Nat => fv Po (a1_ + 2) j) from funext (fun j => R19.2.2.2.2 _ j (by omega)), show (fv P13 a1_ 0) = (fv Po a1_ 0) from R19.2.2.2.2 _ _ (by omega), show (fv P13 a1_ 1) = (fv Po a1_ 1) from R19.2.2.2.2 _ _ (by omega)] at w115_c1
          have w115_k := congrArg Int32.toInt R19.1
          have u114 : 0 ≤ (2 : Int) ∧ (2 : Int) ≤ 5 ∧ WYf cC eC (fv Po a1_ 0).toInt (fv Po a1_ 1).toInt (fun j : Nat => fv Po (a1_ + 1) j) (fun j : Nat => fv Po (a1_ + 2) j) (2 : Int) := ⟨by omega, by omega, Or.inr (Or.inr (Or.inl ⟨by omega, by omega, by omega, by omega, rfl⟩))⟩
          have u116 : KI 291 294 Po P13 := by
            intro x j hx
            rw [R19.2.2.2.2 x j (by omega)]
          exact mp_iret ⟨⟨_, rfl, u114⟩, hT17, k20, u116⟩ dX3_whatStandsInTheWay_52 (Or.inl rfl)
      · have c58 : x54.toInt ≠ 12 := ti_eq_n c58
        refine mp_a (a_iconst (v := 1) dX3_whatStandsInTheWay_31 rfl) (mpp 32 rfl ?_)
        have w118_e : evF (fun j : Nat => fv P13 292 j) (fv Po a1_ 1).toInt.toNat = evF (fun j : Nat => fv Po (a1_ + 1) j) (fv Po a1_ 1).toInt.toNat := evF.congr (fun j hj => R19.2.2.1 j (by omega))
        replace g55 := g55
        have w118_n : (fv P13 291 1).toInt.toNat = (fv Po a1_ 1).toInt.toNat := by rw [R19.2.1]
        have w118_g := g55
        rw [w118_n, w118_e] at w118_g
        have w118_k := congrArg Int32.toInt R19.1
        have u117 : 0 ≤ (1 : Int) ∧ (1 : Int) ≤ 5 ∧ WYf cC eC (fv Po a1_ 0).toInt (fv Po a1_ 1).toInt (fun j : Nat => fv Po (a1_ + 1) j) (fun j : Nat => fv Po (a1_ + 2) j) (1 : Int) := ⟨by omega, by omega, Or.inr (Or.inl ⟨by omega, by omega, by omega, rfl⟩)⟩
        have u119 : KI 291 294 Po P13 := by
          intro x j hx
          rw [R19.2.2.2.2 x j (by omega)]
        exact mp_iret ⟨⟨_, rfl, u117⟩, hT17, k20, u119⟩ dX3_whatStandsInTheWay_32 (Or.inl rfl)
  · have c10 : x7.toInt ≠ 0 := ti_eq_n c10
    refine mp_a (a_iconst (v := 4) dX3_whatStandsInTheWay_7 rfl) (mpp 8 rfl ?_)
    have u120 : 0 ≤ (4 : Int) ∧ (4 : Int) ≤ 5 ∧ WYf cC eC (fv Po a1_ 0).toInt (fv Po a1_ 1).toInt (fun j : Nat => fv Po (a1_ + 1) j) (fun j : Nat => fv Po (a1_ + 2) j) (4 : Int) := ⟨by omega, by omega, Or.inl ⟨by omega, rfl⟩⟩
    have u122 : KI 291 294 Po Po := fun _ _ _ => rfl
    exact mp_iret ⟨⟨_, rfl, u120⟩, hT, KW.refl, u122⟩ dX3_whatStandsInTheWay_8 (Or.inl rfl)

set_option maxHeartbeats 4000000 in
theorem c_CP_lowestUndecided_NPiece_l4 {Po : mP} {a0_ : Nat} (hT : Typ Po) (hX : XR Po)  (ha0 : rl a0_ = 33) : ∀ (n : Nat) (v1 : Int32) (v2 : Int32), (0 ≤ v2.toInt) → (2147483647 - v2.toInt).toNat = n → MEvP 1 none q_43 4 [(0, .ref a0_), (1, .int v1), (2, .int v2)] [] Po 0 0 (fun r P' => (∃ x : Int32, r = some (.int x) ∧ (True)) ∧ P' = Po) := by
  intro n
  induction n using Nat.strongRecOn with | _ n ih => ?_
  intro v1 v2 i_0 hm
  have w1 := np_ar ha0
  have w_v1 := ti_full v1
  have w_v2 := ti_full v2
  refine mp_a (a_iload_n dX2_lowestUndecided_4 rfl) (mpp 5 rfl ?_)
  refine mp_a (a_aload_n dX2_lowestUndecided_5 rfl) (mpp 6 rfl ?_)
  refine mt_callv (i := 37) (q' := q_25) (As := []) (rest := [.int v2]) hT dX2_lowestUndecided_6 rfl qm_25 (by decide) rfl ha0 (by decide) rfl (Nat.le_of_ble_eq_true rfl) rfl ⟨rfl, rfl⟩ ⟨Nat.le_of_ble_eq_true rfl, Nat.le_of_ble_eq_true rfl⟩ (EvP.mono (by decide) (c_CP_creaseCount_NPiece hT hX ha0)) (fun r2 P3 g4 => mpp 9 rfl ?_)
  obtain ⟨⟨x5, rfl, g6⟩, e7⟩ := g4
  have e7 := e7.symm
  subst e7
  have wx5 := ti_full x5
  replace g6 : -1 ≤ x5.toInt ∧ x5.toInt ≤ (fv Po a0_ 1).toInt ∧ (((fv Po a0_ 0).toInt = 0 ∧ x5.toInt = (fv Po a0_ 1).toInt - 1) ∨ ((fv Po a0_ 0).toInt ≠ 0 ∧ x5.toInt = (fv Po a0_ 1).toInt)) := g6
  have g8 : (0 : Int) ≤ (fv Po a0_ 1).toInt ∧ (fv Po a0_ 1).toInt ≤ 8 := Typ.rng hT ha0 (by decide) (by decide) rfl
  have g9 := ti_full (fv Po a0_ 0)
  show MEvP _ none q_43 9 [(0, .ref a0_), (1, .int v1), (2, .int v2)] [.int x5, .int v2] _ _ _ _
  refine mp_Tb (t := 33) (j_icmp_ge dX2_lowestUndecided_9) (by decide) (fun c10 => ?_) (fun c10 => mpp 12 rfl ?_)
  · have c10 : v2.toInt ≥ x5.toInt := ti_ge c10
    refine mp_a (a_iload_n dX2_lowestUndecided_33 rfl) (mpp 34 rfl ?_)
    exact mp_iret ⟨⟨_, rfl, trivial⟩, rfl⟩ dX2_lowestUndecided_34 (Or.inl rfl)
  · have c10 : v2.toInt < x5.toInt := ti_ge_n c10
    refine mp_a (a_aload_n dX2_lowestUndecided_12 rfl) (mpp 13 rfl ?_)
    refine mt_getE (i := 15) (k := 4) hT dX2_lowestUndecided_13 rfl ha0 (by decide) rfl (by decide) rfl (hX.1 a0_ (Or.inr ha0)).2 (fun q11 => mpp 16 rfl ?_)
    refine mp_a (a_iload_n dX2_lowestUndecided_16 rfl) (mpp 17 rfl ?_)
    refine mp_calls (i := 48) (q' := q_12) (As := [.ref (a0_ + 2), .int v2]) (rest := []) dX2_lowestUndecided_17 rfl qm_12 (by decide) rfl (Nat.le_of_ble_eq_true rfl) rfl ⟨rfl, rfl⟩ ⟨Nat.le_of_ble_eq_true rfl, Nat.le_of_ble_eq_true rfl⟩ (EvP.mono (by decide) (c_F_at_creases hT hX q11)) (fun r12 P13 g14 => mpp 20 rfl ?_)
    obtain ⟨⟨x15, rfl, g16⟩, e17⟩ := g14
    have e17 := e17.symm
    subst e17
    have wx15 := ti_full x15
    replace g16 : (0 ≤ v2.toInt ∧ v2.toInt ≤ 7 ∧ x15.toInt = (fv Po (a0_ + 2) v2.toInt.toNat).toInt) ∨ ((v2.toInt < 0 ∨ 8 ≤ v2.toInt) ∧ x15.toInt = 0) := g16
    try replace g16 : x15.toInt = (fv Po (a0_ + 2) v2.toInt.toNat).toInt := (g16.resolve_right (by omega)).2.2
    show MEvP _ none q_43 20 [(0, .ref a0_), (1, .int v1), (2, .int v2)] [.int x15] _ _ _ _
    refine mp_Tb (t := 33) (j_if_eq dX2_lowestUndecided_20) (by decide) (fun c18 => ?_) (fun c18 => mpp 23 rfl ?_)
    · have c18 : x15.toInt = 0 := ti_eq c18
      refine mp_a (a_iload_n dX2_lowestUndecided_33 rfl) (mpp 34 rfl ?_)
      exact mp_iret ⟨⟨_, rfl, trivial⟩, rfl⟩ dX2_lowestUndecided_34 (Or.inl rfl)
    · have c18 : x15.toInt ≠ 0 := ti_eq_n c18
      refine mp_a (a_iload_n dX2_lowestUndecided_23 rfl) (mpp 24 rfl ?_)
      refine mp_a (a_iconst (v := 1) dX2_lowestUndecided_24 rfl) (mpp 25 rfl ?_)
      obtain ⟨z19, h20⟩ := ti_ex (v2 + 1 : Int32)
      have wz19 := ti_full z19
      refine mp_t (s_iadd (v := z19) dX2_lowestUndecided_25 h20) (mpp 26 rfl ?_)
      try have e21 : z19.toInt = v2.toInt + 1 := ti_addz h20 rfl rfl (by omega) (by omega)
      refine mp_a (a_istore_n (L' := [(1, .int z19), (0, .ref a0_), (2, .int v2)]) dX2_lowestUndecided_26 (by decide) rfl) (mpp 27 rfl ?_)
      obtain ⟨z22, h23⟩ := ti_ex (v2 + 1 : Int32)
      have wz22 := ti_full z22
      refine mp_a (a_iinc (v := z22) (L' := [(2, .int z22), (1, .int z19), (0, .ref a0_)]) dX2_lowestUndecided_27 (by decide) rfl h23 rfl) (mpp 30 rfl ?_)
      try have e24 : z22.toInt = v2.toInt + 1 := ti_addz h23 rfl rfl (by omega) (by omega)
      refine mp_a (a_goto (t := 4) dX2_lowestUndecided_30 (by decide)) ?_
      refine MEvP.less (L := [(0, .ref a0_), (1, .int z19), (2, .int z22)]) rfl rfl ⟨rfl, rfl, rfl, trivial⟩ ?_
      have i25 : 0 ≤ z22.toInt := by omega
      exact ih _ (by omega) _ _ i25 rfl

set_option maxHeartbeats 4000000 in
theorem c_CP_lowestUndecided_NPiece {Po : mP} {a0_ : Nat} (hT : Typ Po) (hX : XR Po)  (ha0 : rl a0_ = 33) : EvP 2 43 [.ref a0_] Po (fun r P' => (∃ x : Int32, r = some (.int x) ∧ (True)) ∧ P' = Po) := by
  refine EvP.of qm_43 (Nat.le_of_ble_eq_true rfl) rfl ?_
  show MEvP _ none q_43 0 [(0, .ref a0_)] [] _ 0 0 _
  have w1 := np_ar ha0
  refine mp_a (a_iconst (v := 0) dX2_lowestUndecided_0 rfl) (mpp 1 rfl ?_)
  refine mp_a (a_istore_n (L' := [(1, .int 0), (0, .ref a0_)]) dX2_lowestUndecided_1 (by decide) rfl) (mpp 2 rfl ?_)
  refine mp_a (a_iconst (v := 0) dX2_lowestUndecided_2 rfl) (mpp 3 rfl ?_)
  refine mp_a (a_istore_n (L' := [(2, .int 0), (1, .int 0), (0, .ref a0_)]) dX2_lowestUndecided_3 (by decide) rfl) (mpp 4 rfl ?_)
  refine MEvP.less (L := [(0, .ref a0_), (1, .int 0), (2, .int 0)]) rfl rfl ⟨rfl, rfl, rfl, trivial⟩ ?_
  have i2 : 0 ≤ (0 : Int) := by omega
  exact c_CP_lowestUndecided_NPiece_l4 hT hX  ha0 _ _ _ i2 rfl

set_option maxHeartbeats 4000000 in
theorem c_F_fold {Po : mP} {t1 : Int32} (hT : Typ Po) (hX : XR Po)  (hJ : Inj Po)  : EvP 5 41 [.ref 0, .int t1] Po (fun r P' => (∃ x : Int32, r = some (.int x) ∧ (KPX Po P' ∧ foldC Po P' x.toInt t1.toInt)) ∧ Typ P' ∧ KW [10, 11, 12, 65, 66, 67, 192, 193, 194, 256, 320, 385, 386, 640, 641, 704, 768, 1987, 2114] Po P' ∧ Inj P' ∧ True) := by
  refine EvP.of qm_41 (Nat.le_of_ble_eq_true rfl) rfl ?_
  show MEvP _ none q_41 0 [(0, .ref 0), (1, .int t1)] [] _ 0 0 _
  have w_t1 := ti_full t1
  refine mp_a (a_aload_n dX6_fold_0 rfl) (mpp 1 rfl ?_)
  refine mt_getU (i := 10) (k := 0) (A := 1) hT dX6_fold_1 rfl rl_0 (by decide) rfl (by decide) rfl un_31 (mpp 4 rfl ?_)
  refine mp_a (a_iload_n dX6_fold_4 rfl) (mpp 5 rfl ?_)
  refine mt_callv (i := 94) (q' := q_9) (As := [.int t1]) (rest := []) hT dX6_fold_5 rfl qm_9 (by decide) rfl rl_1 (by decide) rfl (Nat.le_of_ble_eq_true rfl) rfl ⟨rfl, rfl⟩ ⟨Nat.le_of_ble_eq_true rfl, Nat.le_of_ble_eq_true rfl⟩ (EvP.mono (by decide) (c_CS_pieceAt_NState hT hX )) (fun r1 P2 g3 => mpp 8 rfl ?_)
  obtain ⟨g3, e4⟩ := g3
  have e4 := e4.symm
  subst e4
  rcases g3 with ⟨rfl, q6n⟩ | ⟨b5, rfl, q6, q6r⟩
  · show MEvP _ none q_41 8 [(0, .ref 0), (1, .int t1)] [.null] _ _ _ _
    replace q6n : t1.toInt < 0 ∨ (fv Po 1 1).toInt ≤ t1.toInt ∨ 8 ≤ t1.toInt := q6n
    have g7 : (0 : Int) ≤ (fv Po 1 1).toInt ∧ (fv Po 1 1).toInt ≤ 8 := Typ.rng hT rl_1 (by decide) (by decide) rfl
    refine mp_a (a_astore_nN (L' := [(2, .null), (0, .ref 0), (1, .int t1)]) dX6_fold_8 (by decide) rfl) (mpp 9 rfl ?_)
    refine mp_a (a_aload_nN dX6_fold_9 rfl) (mpp 10 rfl ?_)
    refine mp_t (s_ifnonnullN dX6_fold_10) (mpp 13 rfl ?_)
    refine mp_a (a_sipush (v := -1001) dX6_fold_13 rfl) (mpp 16 rfl ?_)
    have u8 : KPX Po Po ∧ foldC Po Po (-1001 : Int) t1.toInt := ⟨⟨rfl, fun x j hx => rfl⟩, (show ((-1001 : Int) = -1001 ∧ (t1.toInt < 0 ∨ (fv Po 1 1).toInt ≤ t1.toInt ∨ 8 ≤ t1.toInt) ∧ NCH Po Po) ∨ ((-1001 : Int) = -1003 ∧ (0 ≤ t1.toInt ∧ t1.toInt + 1 ≤ (fv Po 1 1).toInt ∧ t1.toInt ≤ 7) ∧ ((fv Po (rv Po 2 t1.toInt.toNat) 2).toInt = 1 ∨ (∃ w : Int, WYf cC eC (fv Po (rv Po 2 t1.toInt.toNat) 0).toInt (fv Po (rv Po 2 t1.toInt.toNat) 1).toInt (fun j : Nat => fv Po ((rv Po 2 t1.toInt.toNat) + 1) j) (fun j : Nat => fv Po ((rv Po 2 t1.toInt.toNat) + 2) j) w ∧ ¬ w = 0) ∨ (WYf cC eC (fv Po (rv Po 2 t1.toInt.toNat) 0).toInt (fv Po (rv Po 2 t1.toInt.toNat) 1).toInt (fun j : Nat => fv Po ((rv Po 2 t1.toInt.toNat) + 1) j) (fun j : Nat => fv Po ((rv Po 2 t1.toInt.toNat) + 2) j) 0 ∧ 0 < ((smF (fun k : Nat => wpC Po (rv Po 2 k)) (fv Po 1 1).toInt.toNat) + wdF (fv Po (rv Po 2 t1.toInt.toNat) 0).toInt (fun j : Nat => fv Po ((rv Po 2 t1.toInt.toNat) + 1) j) (fv Po (rv Po 2 t1.toInt.toNat) 1).toInt.toNat - fv Po 1 2).toInt)) ∧ NCH Po Po) ∨ ((0 ≤ t1.toInt ∧ t1.toInt + 1 ≤ (fv Po 1 1).toInt ∧ t1.toInt ≤ 7) ∧ (fv Po (rv Po 2 t1.toInt.toNat) 2).toInt = 0 ∧ WYf cC eC (fv Po (rv Po 2 t1.toInt.toNat) 0).toInt (fv Po (rv Po 2 t1.toInt.toNat) 1).toInt (fun j : Nat => fv Po ((rv Po 2 t1.toInt.toNat) + 1) j) (fun j : Nat => fv Po ((rv Po 2 t1.toInt.toNat) + 2) j) 0 ∧ ((smF (fun k : Nat => wpC Po (rv Po 2 k)) (fv Po 1 1).toInt.toNat) + wdF (fv Po (rv Po 2 t1.toInt.toNat) 0).toInt (fun j : Nat => fv Po ((rv Po 2 t1.toInt.toNat) + 1) j) (fv Po (rv Po 2 t1.toInt.toNat) 1).toInt.toNat - fv Po 1 2).toInt ≤ 0 ∧ (-1001 : Int) = (wdF (fv Po (rv Po 2 t1.toInt.toNat) 0).toInt (fun j : Nat => fv Po ((rv Po 2 t1.toInt.toNat) + 1) j) (fv Po (rv Po 2 t1.toInt.toNat) 1).toInt.toNat).toInt ∧ PSH Po Po ∧ (fv Po (rv Po 2 t1.toInt.toNat) 2).toInt = 1 ∧ fv Po 1 3 = fv Po 1 3 + 1 ∧ (∀ x j : Nat, 1 ≤ x → x < 27 → ¬ (x = (rv Po 2 t1.toInt.toNat) ∧ j = 2) → ¬ (x = 1 ∧ j = 3) → fv Po x j = fv Po x j) ∧ ∀ k : Nat, rv Po 2 k = rv Po 2 k) from by exact Or.inl (⟨by omega, by omega, ⟨fun x j h1 h2 => rfl, fun k => rfl⟩⟩))⟩
    exact mp_iret ⟨⟨_, rfl, u8⟩, hT, KW.refl, hJ, trivial⟩ dX6_fold_16 (Or.inl rfl)
  · show MEvP _ none q_41 8 [(0, .ref 0), (1, .int t1)] [.ref b5] _ _ _ _
    replace q6r : 0 ≤ t1.toInt ∧ t1.toInt ≤ 7 ∧ t1.toInt + 1 ≤ (fv Po 1 1).toInt ∧ rv Po 2 t1.toInt.toNat = b5 := q6r
    have g9 : (0 : Int) ≤ (fv Po 1 1).toInt ∧ (fv Po 1 1).toInt ≤ 8 := Typ.rng hT rl_1 (by decide) (by decide) rfl
    have w10 := np_ar q6
    refine mp_a (a_astore_n (L' := [(2, .ref b5), (0, .ref 0), (1, .int t1)]) dX6_fold_8 (by decide) rfl) (mpp 9 rfl ?_)
    refine mp_a (a_aload_n dX6_fold_9 rfl) (mpp 10 rfl ?_)
    refine mp_t (s_ifnonnullR (t := 17) dX6_fold_10 (by decide)) ?_
    refine mp_a (a_aload_n dX6_fold_17 rfl) (mpp 18 rfl ?_)
    have g11 : (0 : Int) ≤ (fv Po b5 2).toInt ∧ (fv Po b5 2).toInt ≤ 1 := Typ.rng hT q6 (by decide) (by decide) rfl
    refine mt_getI (i := 104) (k := 2) hT dX6_fold_18 rfl q6 (by decide) rfl (by decide) rfl (fun g12 g13 => mpp 21 rfl ?_)
    refine mp_Tb (t := 31) (j_if_eq dX6_fold_21) (by decide) (fun c14 => ?_) (fun c14 => mpp 24 rfl ?_)
    · have c14 : (fv Po b5 2).toInt = 0 := ti_eq c14
      refine mp_a (a_aload_n dX6_fold_31 rfl) (mpp 32 rfl ?_)
      refine mt_callv (i := 159) (q' := q_42) (As := []) (rest := []) hT dX6_fold_32 rfl qm_42 (by decide) rfl q6 (by decide) rfl (Nat.le_of_ble_eq_true rfl) rfl ⟨rfl, rfl⟩ ⟨Nat.le_of_ble_eq_true rfl, Nat.le_of_ble_eq_true rfl⟩ (EvP.mono (by decide) (c_CP_isUndecided_NPiece hT hX q6)) (fun r15 P16 g17 => mpp 35 rfl ?_)
      obtain ⟨⟨x18, rfl, g19⟩, e20⟩ := g17
      have e20 := e20.symm
      subst e20
      have wx18 := ti_full x18
      replace g19 : 0 ≤ x18.toInt ∧ x18.toInt ≤ 1 ∧ ((x18.toInt = 1 ∧ 1 ≤ cntF (fun j : Nat => fv Po (b5 + 2) j) 0 (nC (fv Po b5 0).toInt (fv Po b5 1).toInt)) ∨ (x18.toInt = 0 ∧ cntF (fun j : Nat => fv Po (b5 + 2) j) 0 (nC (fv Po b5 0).toInt (fv Po b5 1).toInt) = 0)) := g19
      have g21 := ti_full (fv Po b5 0)
      have g22 : (0 : Int) ≤ (fv Po b5 1).toInt ∧ (fv Po b5 1).toInt ≤ 8 := Typ.rng hT q6 (by decide) (by decide) rfl
      show MEvP _ none q_41 35 [(2, .ref b5), (0, .ref 0), (1, .int t1)] [.int x18] _ _ _ _
      refine mp_Tb (t := 48) (j_if_eq dX6_fold_35) (by decide) (fun c23 => ?_) (fun c23 => mpp 38 rfl ?_)
      · have c23 : x18.toInt = 0 := ti_eq c23
        refine mp_a (a_aload_n dX6_fold_48 rfl) (mpp 49 rfl ?_)
        refine mt_getU (i := 39) (k := 5) (A := 291) hT dX6_fold_49 rfl rl_0 (by decide) rfl (by decide) rfl un_10 (mpp 52 rfl ?_)
        refine mp_a (a_aload_n dX6_fold_52 rfl) (mpp 53 rfl ?_)
        have p24 : b5 ≤ 288 ∨ 298 ≤ b5 := by omega
        refine mt_callv (i := 166) (q' := q_44) (As := [.ref b5]) (rest := []) hT dX6_fold_53 rfl qm_44 (by decide) rfl rl_291 (by decide) rfl (Nat.le_of_ble_eq_true rfl) rfl ⟨rfl, rfl⟩ ⟨Nat.le_of_ble_eq_true rfl, Nat.le_of_ble_eq_true rfl⟩ (EvP.mono (by decide) (c_CR_whatStandsInTheWay_Reducer_NPiece hT hX p24 q6)) (fun r25 P26 g27 => mpp 56 rfl ?_)
        obtain ⟨⟨x28, rfl, g29⟩, hT30, k31, R32⟩ := g27
        have k33 : KW [10, 11, 12, 65, 66, 67, 192, 193, 194, 256, 320, 385, 386, 640, 641, 704, 768, 1987, 2114] Po P26 := KW.trans KW.refl k31 rfl
        have J35 := Inj.kw hJ k31 rfl
        have wx28 := ti_full x28
        replace g29 : 0 ≤ x28.toInt ∧ x28.toInt ≤ 5 ∧ WYf cC eC (fv Po b5 0).toInt (fv Po b5 1).toInt (fun j : Nat => fv Po (b5 + 1) j) (fun j : Nat => fv Po (b5 + 2) j) x28.toInt := g29
        show MEvP _ none q_41 56 [(2, .ref b5), (0, .ref 0), (1, .int t1)] [.int x28] _ _ _ _
        refine mp_a (a_istore_n (L' := [(3, .int x28), (2, .ref b5), (0, .ref 0), (1, .int t1)]) dX6_fold_56 (by decide) rfl) (mpp 57 rfl ?_)
        refine mp_a (a_iload_n dX6_fold_57 rfl) (mpp 58 rfl ?_)
        refine mp_Tb (t := 68) (j_if_eq dX6_fold_58) (by decide) (fun c36 => ?_) (fun c36 => mpp 61 rfl ?_)
        · have c36 : x28.toInt = 0 := ti_eq c36
          refine mp_a (a_aload_n dX6_fold_68 rfl) (mpp 69 rfl ?_)
          refine mt_callv (i := 170) (q' := q_10) (As := []) (rest := []) hT30 dX6_fold_69 rfl qm_10 (by decide) rfl q6 (by decide) rfl (Nat.le_of_ble_eq_true rfl) rfl ⟨rfl, rfl⟩ ⟨Nat.le_of_ble_eq_true rfl, Nat.le_of_ble_eq_true rfl⟩ (EvP.mono (by decide) (c_CP_width_NPiece hT30 (KW.xr k33 hX) q6)) (fun r37 P38 g39 => mpp 72 rfl ?_)
          obtain ⟨⟨x40, rfl, g41⟩, e42⟩ := g39
          have e42 := e42.symm
          subst e42
          have wx40 := ti_full x40
          replace g41 : x40.toInt = (wdF (fv P26 b5 0).toInt (fun j : Nat => fv P26 (b5 + 1) j) (fv P26 b5 1).toInt.toNat).toInt := g41
          have e43 : (fv P26 b5 0).toInt = (fv Po b5 0).toInt := congrArg Int32.toInt (KW.at k31 0 q6 rfl)
          have e44 : (fv P26 b5 1).toInt = (fv Po b5 1).toInt := congrArg Int32.toInt (KW.at k31 1 q6 rfl)
          show MEvP _ none q_41 72 [(3, .int x28), (2, .ref b5), (0, .ref 0), (1, .int t1)] [.int x40] _ _ _ _
          refine mp_a (a_istore (L' := [(4, .int x40), (3, .int x28), (2, .ref b5), (0, .ref 0), (1, .int t1)]) dX6_fold_72 (by decide) rfl) (mpp 74 rfl ?_)
          refine mp_a (a_aload_n dX6_fold_74 rfl) (mpp 75 rfl ?_)
          refine mt_getU (i := 10) (k := 0) (A := 1) hT30 dX6_fold_75 rfl rl_0 (by decide) rfl (by decide) rfl un_31 (mpp 78 rfl ?_)
          refine mt_callv (i := 64) (q' := q_8) (As := []) (rest := []) hT30 dX6_fold_78 rfl qm_8 (by decide) rfl rl_1 (by decide) rfl (Nat.le_of_ble_eq_true rfl) rfl ⟨rfl, rfl⟩ ⟨Nat.le_of_ble_eq_true rfl, Nat.le_of_ble_eq_true rfl⟩ (EvP.mono (by decide) (c_CS_occupied_NState hT30 (KW.xr k33 hX) )) (fun r45 P46 g47 => mpp 81 rfl ?_)
          obtain ⟨⟨x48, rfl, g49⟩, e50⟩ := g47
          have e50 := e50.symm
          subst e50
          have wx48 := ti_full x48
          replace g49 : x48.toInt = (smF (fun k : Nat => wpC P26 (rv P26 2 k)) (fv P26 1 1).toInt.toNat).toInt := g49
          have e51 : (fv P26 1 1).toInt = (fv Po 1 1).toInt := congrArg Int32.toInt (KW.at k31 1 rl_1 rfl)
          show MEvP _ none q_41 81 [(4, .int x40), (3, .int x28), (2, .ref b5), (0, .ref 0), (1, .int t1)] [.int x48] _ _ _ _
          refine mp_a (a_iload dX6_fold_81 rfl) (mpp 83 rfl ?_)
          obtain ⟨z52, h53⟩ := ti_ex (x48 + x40 : Int32)
          have wz52 := ti_full z52
          refine mp_t (s_iadd (v := z52) dX6_fold_83 h53) (mpp 84 rfl ?_)
          try have e54 : z52.toInt = x48.toInt + x40.toInt := ti_addz h53 rfl rfl (by omega) (by omega)
          refine mp_a (a_aload_n dX6_fold_84 rfl) (mpp 85 rfl ?_)
          refine mt_getU (i := 10) (k := 0) (A := 1) hT30 dX6_fold_85 rfl rl_0 (by decide) rfl (by decide) rfl un_31 (mpp 88 rfl ?_)
          have g55 := ti_full (fv P26 1 2)
          refine mt_getI (i := 76) (k := 2) hT30 dX6_fold_88 rfl rl_1 (by decide) rfl (by decide) rfl (fun g56 g57 => mpp 91 rfl ?_)
          obtain ⟨z58, h59⟩ := ti_ex (z52 - (fv P26 1 2) : Int32)
          have wz58 := ti_full z58
          refine mp_t (s_isub (v := z58) dX6_fold_91 h59) (mpp 92 rfl ?_)
          try have e60 : z58.toInt = z52.toInt - (fv P26 1 2).toInt := ti_subz h59 rfl rfl (by omega) (by omega)
          refine mp_a (a_istore (L' := [(5, .int z58), (4, .int x40), (3, .int x28), (2, .ref b5), (0, .ref 0), (1, .int t1)]) dX6_fold_92 (by decide) rfl) (mpp 94 rfl ?_)
          refine mp_a (a_iload dX6_fold_94 rfl) (mpp 96 rfl ?_)
          refine mp_Tb (t := 108) (j_if_le dX6_fold_96) (by decide) (fun c61 => ?_) (fun c61 => mpp 99 rfl ?_)
          · have c61 : z58.toInt ≤ 0 := ti_le c61
            refine mp_a (a_aload_n dX6_fold_108 rfl) (mpp 109 rfl ?_)
            refine mt_getU (i := 25) (k := 3) (A := 79) hT30 dX6_fold_109 rfl rl_0 (by decide) rfl (by decide) rfl un_6 (mpp 112 rfl ?_)
            refine mp_a (a_aload_n dX6_fold_112 rfl) (mpp 113 rfl ?_)
            refine mt_getU (i := 10) (k := 0) (A := 1) hT30 dX6_fold_113 rfl rl_0 (by decide) rfl (by decide) rfl un_31 (mpp 116 rfl ?_)
            refine mt_callv (i := 72) (q' := q_15) (As := [.ref 1]) (rest := []) hT30 dX6_fold_116 rfl qm_15 (by decide) rfl rl_79 (by decide) rfl (Nat.le_of_ble_eq_true rfl) rfl ⟨rfl, rfl⟩ ⟨Nat.le_of_ble_eq_true rfl, Nat.le_of_ble_eq_true rfl⟩ (EvP.mono (by decide) (c_CH_push_History_NState hT30 (KW.xr k33 hX) J35 )) (fun r62 P63 g64 => mpp 119 rfl ?_)
            obtain ⟨⟨rfl, g66⟩, hT67, k68, J71, R69⟩ := g64
            have k70 : KW [10, 11, 12, 65, 66, 67, 192, 193, 194, 256, 320, 385, 386, 640, 641, 704, 768, 1987, 2114] Po P63 := KW.trans k33 k68 rfl
            show MEvP _ none q_41 119 [(5, .int z58), (4, .int x40), (3, .int x28), (2, .ref b5), (0, .ref 0), (1, .int t1)] [] _ _ _ _
            refine mp_a (a_aload_n dX6_fold_119 rfl) (mpp 120 rfl ?_)
            refine mp_a (a_iconst (v := 1) dX6_fold_120 rfl) (mpp 121 rfl ?_)
            refine mt_putI (i := 104) (k := 2) (x := 1) hT67 dX6_fold_121 rfl q6 (by decide) rfl (by decide) rfl (by decide) rfl rfl (fun P72 hT73 f74 f75 f76 => mpp 124 rfl ?_)
            have k77 : KW [10, 11, 12, 65, 66, 67, 192, 193, 194, 256, 320, 385, 386, 640, 641, 704, 768, 1987, 2114] Po P72 := KW.step k70 q6 rfl f75 f76
            have J78 := Inj.st J71 f76
            have e79 : (fv P72 b5 2).toInt = 1 := congrArg Int32.toInt f74
            refine mp_a (a_aload_n dX6_fold_124 rfl) (mpp 125 rfl ?_)
            refine mt_getU (i := 10) (k := 0) (A := 1) hT73 dX6_fold_125 rfl rl_0 (by decide) rfl (by decide) rfl un_31 (mpp 128 rfl ?_)
            refine mp_t (s_dup dX6_fold_128 rfl) (mpp 129 rfl ?_)
            have g80 := ti_full (fv P72 1 3)
            refine mt_getI (i := 172) (k := 3) hT73 dX6_fold_129 rfl rl_1 (by decide) rfl (by decide) rfl (fun g81 g82 => mpp 132 rfl ?_)
            refine mp_a (a_iconst (v := 1) dX6_fold_132 rfl) (mpp 133 rfl ?_)
            obtain ⟨z83, h84⟩ := ti_ex ((fv P72 1 3) + 1 : Int32)
            have wz83 := ti_full z83
            refine mp_t (s_iadd (v := z83) dX6_fold_133 h84) (mpp 134 rfl ?_)
            try have e85 : z83.toInt = (fv P72 1 3).toInt + 1 := ti_addz h84 rfl rfl (by omega) (by omega)
            refine mt_putI (i := 172) (k := 3) (x := z83) hT73 dX6_fold_134 rfl rl_1 (by decide) rfl (by decide) rfl (ti_full z83) rfl rfl (fun P86 hT87 f88 f89 f90 => mpp 137 rfl ?_)
            have k91 : KW [10, 11, 12, 65, 66, 67, 192, 193, 194, 256, 320, 385, 386, 640, 641, 704, 768, 1987, 2114] Po P86 := KW.step k77 rl_1 rfl f89 f90
            have J92 := Inj.st J78 f90
            have e93 : (fv P86 1 3).toInt = z83.toInt := congrArg Int32.toInt f88
            refine mp_a (a_iload dX6_fold_137 rfl) (mpp 139 rfl ?_)
            have e95 : (fv P26 1 1).toInt = (fv Po 1 1).toInt := congrArg Int32.toInt (R32 1 1 (by omega))
            have e96 : (fv P26 1 2).toInt = (fv Po 1 2).toInt := congrArg Int32.toInt (R32 1 2 (by omega))
            have e97 : (fv P26 1 3).toInt = (fv Po 1 3).toInt := congrArg Int32.toInt (R32 1 3 (by omega))
            have e98 : (fv P63 1 1).toInt = (fv P26 1 1).toInt := congrArg Int32.toInt (R69.2.2.2.2.2 1 1 (by omega))
            have e99 : (fv P63 1 2).toInt = (fv P26 1 2).toInt := congrArg Int32.toInt (R69.2.2.2.2.2 1 2 (by omega))
            have e100 : (fv P63 1 3).toInt = (fv P26 1 3).toInt := congrArg Int32.toInt (R69.2.2.2.2.2 1 3 (by omega))
            have e101 : (fv P72 1 1).toInt = (fv P63 1 1).toInt := congrArg Int32.toInt (f75 1 1 (by omega))
            have e102 : (fv P72 1 2).toInt = (fv P63 1 2).toInt := congrArg Int32.toInt (f75 1 2 (by omega))
            have e103 : (fv P72 1 3).toInt = (fv P63 1 3).toInt := congrArg Int32.toInt (f75 1 3 (by omega))
            have e104 : (fv P86 1 1).toInt = (fv P72 1 1).toInt := congrArg Int32.toInt (f89 1 1 (by omega))
            have e105 : (fv P86 1 2).toInt = (fv P72 1 2).toInt := congrArg Int32.toInt (f89 1 2 (by omega))
            have w106_n : NCH Po P26 := ⟨fun x j h1 h2 => by rw [R32 x j (by omega)], fun k => by rw [k31.2.2 rfl k]⟩
            have w106_w := Int32.toInt_inj.mp g41
            rw [wd_congr w106_n (by omega)] at w106_w
            have w106_c : (fv P26 1 1).toInt = (fv Po 1 1).toInt := congrArg Int32.toInt (w106_n.1 1 1 (by omega) (by omega))
            have w106_o := Int32.toInt_inj.mp g49
            rw [occ_congr (n := (fv Po 1 1).toInt.toNat) hT w106_n (by omega) (by omega)] at w106_o
            have w106_l : z58 = smF (fun k : Nat => wpC Po (rv Po 2 k)) (fv Po 1 1).toInt.toNat + wdF (fv Po b5 0).toInt (fun j : Nat => fv Po (b5 + 1) j) (fv Po b5 1).toInt.toNat - fv Po 1 2 := by rw [← h59, ← h53, w106_o, w106_w, w106_n.1 1 2 (by omega) (by omega)]
            have u94 : KPX Po P86 ∧ foldC Po P86 x40.toInt t1.toInt := ⟨⟨by rw [f89 0 8 (by omega), f75 0 8 (by omega), R69.2.2.2.2.2 0 8 (by omega), R32 0 8 (by omega)], fun x j hx => by rw [f89 x j (by omega), f75 x j (by omega), R69.2.2.2.2.2 x j (by omega), R32 x j (by omega)]⟩, (show (x40.toInt = -1001 ∧ (t1.toInt < 0 ∨ (fv Po 1 1).toInt ≤ t1.toInt ∨ 8 ≤ t1.toInt) ∧ NCH Po P86) ∨ (x40.toInt = -1003 ∧ (0 ≤ t1.toInt ∧ t1.toInt + 1 ≤ (fv Po 1 1).toInt ∧ t1.toInt ≤ 7) ∧ ((fv Po (rv Po 2 t1.toInt.toNat) 2).toInt = 1 ∨ (∃ w : Int, WYf cC eC (fv Po (rv Po 2 t1.toInt.toNat) 0).toInt (fv Po (rv Po 2 t1.toInt.toNat) 1).toInt (fun j : Nat => fv Po ((rv Po 2 t1.toInt.toNat) + 1) j) (fun j : Nat => fv Po ((rv Po 2 t1.toInt.toNat) + 2) j) w ∧ ¬ w = 0) ∨ (WYf cC eC (fv Po (rv Po 2 t1.toInt.toNat) 0).toInt (fv Po (rv Po 2 t1.toInt.toNat) 1).toInt (fun j : Nat => fv Po ((rv Po 2 t1.toInt.toNat) + 1) j) (fun j : Nat => fv Po ((rv Po 2 t1.toInt.toNat) + 2) j) 0 ∧ 0 < ((smF (fun k : Nat => wpC Po (rv Po 2 k)) (fv Po 1 1).toInt.toNat) + wdF (fv Po (rv Po 2 t1.toInt.toNat) 0).toInt (fun j : Nat => fv Po ((rv Po 2 t1.toInt.toNat) + 1) j) (fv Po (rv Po 2 t1.toInt.toNat) 1).toInt.toNat - fv Po 1 2).toInt)) ∧ NCH Po P86) ∨ ((0 ≤ t1.toInt ∧ t1.toInt + 1 ≤ (fv Po 1 1).toInt ∧ t1.toInt ≤ 7) ∧ (fv Po (rv Po 2 t1.toInt.toNat) 2).toInt = 0 ∧ WYf cC eC (fv Po (rv Po 2 t1.toInt.toNat) 0).toInt (fv Po (rv Po 2 t1.toInt.toNat) 1).toInt (fun j : Nat => fv Po ((rv Po 2 t1.toInt.toNat) + 1) j) (fun j : Nat => fv Po ((rv Po 2 t1.toInt.toNat) + 2) j) 0 ∧ ((smF (fun k : Nat => wpC Po (rv Po 2 k)) (fv Po 1 1).toInt.toNat) + wdF (fv Po (rv Po 2 t1.toInt.toNat) 0).toInt (fun j : Nat => fv Po ((rv Po 2 t1.toInt.toNat) + 1) j) (fv Po (rv Po 2 t1.toInt.toNat) 1).toInt.toNat - fv Po 1 2).toInt ≤ 0 ∧ x40.toInt = (wdF (fv Po (rv Po 2 t1.toInt.toNat) 0).toInt (fun j : Nat => fv Po ((rv Po 2 t1.toInt.toNat) + 1) j) (fv Po (rv Po 2 t1.toInt.toNat) 1).toInt.toNat).toInt ∧ PSH Po P86 ∧ (fv P86 (rv Po 2 t1.toInt.toNat) 2).toInt = 1 ∧ fv P86 1 3 = fv Po 1 3 + 1 ∧ (∀ x j : Nat, 1 ≤ x → x < 27 → ¬ (x = (rv Po 2 t1.toInt.toNat) ∧ j = 2) → ¬ (x = 1 ∧ j = 3) → fv P86 x j = fv Po x j) ∧ ∀ k : Nat, rv P86 2 k = rv Po 2 k) from by rw [q6r.2.2.2]; exact Or.inr (Or.inr (⟨by omega, by omega, (show x28.toInt = 0 from by omega) ▸ g29.2.2, by rw [← w106_l]; omega, congrArg Int32.toInt w106_w, PSH.mk (P := P26) (Q := P63) hT R69.1 R69.2.1 R69.2.2.1 R69.2.2.2.1 R69.2.2.2.2.1 (fun x j h1 h2 => by rw [f89 x j (by omega), f75 x j (by omega)]) (fun x j hx => by rw [R32 x j (by omega)]) (fun k => by rw [k31.2.2 rfl k]) (Typ.rng hT rl_79 (by decide) (by decide) rfl), by rw [f89 b5 2 (by omega), f74]; rfl, f88.trans (h84.symm.trans (congrArg (· + 1) (by rw [f75 1 3 (by omega), R69.2.2.2.2.2 1 3 (by omega), R32 1 3 (by omega)]))), fun x j h1 h2 h3 h4 => by rw [f89 x j (by omega), f75 x j (by omega), R69.2.2.2.2.2 x j (by omega), R32 x j (by omega)], fun k => by rw [f90 2 k, f76 2 k, k68.2.2 rfl k, k31.2.2 rfl k]⟩)))⟩
            exact mp_iret ⟨⟨_, rfl, u94⟩, hT87, k91, J92, trivial⟩ dX6_fold_139 (Or.inl rfl)
          · have c61 : z58.toInt > 0 := ti_le_n c61
            refine mp_a (a_aload_n dX6_fold_99 rfl) (mpp 100 rfl ?_)
            refine mp_a (a_bipush (v := 7) dX6_fold_100 rfl) (mpp 102 rfl ?_)
            refine mp_a (a_iload dX6_fold_102 rfl) (mpp 104 rfl ?_)
            refine mt_callv (i := 68) (q' := q_14) (As := [.int 7, .int z58]) (rest := []) hT30 dX6_fold_104 rfl qm_14 (by decide) rfl rl_0 (by decide) rfl (Nat.le_of_ble_eq_true rfl) rfl ⟨rfl, rfl⟩ ⟨Nat.le_of_ble_eq_true rfl, Nat.le_of_ble_eq_true rfl⟩ (EvP.mono (by decide) (c_F_refuse hT30 (KW.xr k33 hX) )) (fun r107 P108 g109 => mpp 107 rfl ?_)
            obtain ⟨⟨x110, rfl, g111⟩, hT112, k113, R114⟩ := g109
            have k115 : KW [10, 11, 12, 65, 66, 67, 192, 193, 194, 256, 320, 385, 386, 640, 641, 704, 768, 1987, 2114] Po P108 := KW.trans k33 k113 rfl
            have J117 := Inj.kw J35 k113 rfl
            have wx110 := ti_full x110
            replace g111 : x110.toInt = -1003 := g111
            show MEvP _ none q_41 107 [(5, .int z58), (4, .int x40), (3, .int x28), (2, .ref b5), (0, .ref 0), (1, .int t1)] [.int x110] _ _ _ _
            have e119 : (fv P26 1 1).toInt = (fv Po 1 1).toInt := congrArg Int32.toInt (R32 1 1 (by omega))
            have e120 : (fv P26 1 2).toInt = (fv Po 1 2).toInt := congrArg Int32.toInt (R32 1 2 (by omega))
            have e121 : (fv P26 1 3).toInt = (fv Po 1 3).toInt := congrArg Int32.toInt (R32 1 3 (by omega))
            have e122 : (fv P108 1 1).toInt = (fv P26 1 1).toInt := congrArg Int32.toInt (R114.2 1 1 (by omega))
            have e123 : (fv P108 1 2).toInt = (fv P26 1 2).toInt := congrArg Int32.toInt (R114.2 1 2 (by omega))
            have e124 : (fv P108 1 3).toInt = (fv P26 1 3).toInt := congrArg Int32.toInt (R114.2 1 3 (by omega))
            have w125_n : NCH Po P26 := ⟨fun x j h1 h2 => by rw [R32 x j (by omega)], fun k => by rw [k31.2.2 rfl k]⟩
            have w125_w := Int32.toInt_inj.mp g41
            rw [wd_congr w125_n (by omega)] at w125_w
            have w125_c : (fv P26 1 1).toInt = (fv Po 1 1).toInt := congrArg Int32.toInt (w125_n.1 1 1 (by omega) (by omega))
            have w125_o := Int32.toInt_inj.mp g49
            rw [occ_congr (n := (fv Po 1 1).toInt.toNat) hT w125_n (by omega) (by omega)] at w125_o
            have w125_l : z58 = smF (fun k : Nat => wpC Po (rv Po 2 k)) (fv Po 1 1).toInt.toNat + wdF (fv Po b5 0).toInt (fun j : Nat => fv Po (b5 + 1) j) (fv Po b5 1).toInt.toNat - fv Po 1 2 := by rw [← h59, ← h53, w125_o, w125_w, w125_n.1 1 2 (by omega) (by omega)]
            have u118 : KPX Po P108 ∧ foldC Po P108 x110.toInt t1.toInt := ⟨⟨by rw [R114.1, R32 0 8 (by omega)], fun x j hx => by rw [R114.2 x j (by omega), R32 x j (by omega)]⟩, (show (x110.toInt = -1001 ∧ (t1.toInt < 0 ∨ (fv Po 1 1).toInt ≤ t1.toInt ∨ 8 ≤ t1.toInt) ∧ NCH Po P108) ∨ (x110.toInt = -1003 ∧ (0 ≤ t1.toInt ∧ t1.toInt + 1 ≤ (fv Po 1 1).toInt ∧ t1.toInt ≤ 7) ∧ ((fv Po (rv Po 2 t1.toInt.toNat) 2).toInt = 1 ∨ (∃ w : Int, WYf cC eC (fv Po (rv Po 2 t1.toInt.toNat) 0).toInt (fv Po (rv Po 2 t1.toInt.toNat) 1).toInt (fun j : Nat => fv Po ((rv Po 2 t1.toInt.toNat) + 1) j) (fun j : Nat => fv Po ((rv Po 2 t1.toInt.toNat) + 2) j) w ∧ ¬ w = 0) ∨ (WYf cC eC (fv Po (rv Po 2 t1.toInt.toNat) 0).toInt (fv Po (rv Po 2 t1.toInt.toNat) 1).toInt (fun j : Nat => fv Po ((rv Po 2 t1.toInt.toNat) + 1) j) (fun j : Nat => fv Po ((rv Po 2 t1.toInt.toNat) + 2) j) 0 ∧ 0 < ((smF (fun k : Nat => wpC Po (rv Po 2 k)) (fv Po 1 1).toInt.toNat) + wdF (fv Po (rv Po 2 t1.toInt.toNat) 0).toInt (fun j : Nat => fv Po ((rv Po 2 t1.toInt.toNat) + 1) j) (fv Po (rv Po 2 t1.toInt.toNat) 1).toInt.toNat - fv Po 1 2).toInt)) ∧ NCH Po P108) ∨ ((0 ≤ t1.toInt ∧ t1.toInt + 1 ≤ (fv Po 1 1).toInt ∧ t1.toInt ≤ 7) ∧ (fv Po (rv Po 2 t1.toInt.toNat) 2).toInt = 0 ∧ WYf cC eC (fv Po (rv Po 2 t1.toInt.toNat) 0).toInt (fv Po (rv Po 2 t1.toInt.toNat) 1).toInt (fun j : Nat => fv Po ((rv Po 2 t1.toInt.toNat) + 1) j) (fun j : Nat => fv Po ((rv Po 2 t1.toInt.toNat) + 2) j) 0 ∧ ((smF (fun k : Nat => wpC Po (rv Po 2 k)) (fv Po 1 1).toInt.toNat) + wdF (fv Po (rv Po 2 t1.toInt.toNat) 0).toInt (fun j : Nat => fv Po ((rv Po 2 t1.toInt.toNat) + 1) j) (fv Po (rv Po 2 t1.toInt.toNat) 1).toInt.toNat - fv Po 1 2).toInt ≤ 0 ∧ x110.toInt = (wdF (fv Po (rv Po 2 t1.toInt.toNat) 0).toInt (fun j : Nat => fv Po ((rv Po 2 t1.toInt.toNat) + 1) j) (fv Po (rv Po 2 t1.toInt.toNat) 1).toInt.toNat).toInt ∧ PSH Po P108 ∧ (fv P108 (rv Po 2 t1.toInt.toNat) 2).toInt = 1 ∧ fv P108 1 3 = fv Po 1 3 + 1 ∧ (∀ x j : Nat, 1 ≤ x → x < 27 → ¬ (x = (rv Po 2 t1.toInt.toNat) ∧ j = 2) → ¬ (x = 1 ∧ j = 3) → fv P108 x j = fv Po x j) ∧ ∀ k : Nat, rv P108 2 k = rv Po 2 k) from by rw [q6r.2.2.2]; exact Or.inr (Or.inl (⟨by omega, by omega, Or.inr (Or.inr ⟨(show x28.toInt = 0 from by omega) ▸ g29.2.2, by rw [← w125_l]; omega⟩), ⟨fun x j h1 h2 => by rw [R114.2 x j (by omega), R32 x j (by omega)], fun k => by rw [k113.2.2 rfl k, k31.2.2 rfl k]⟩⟩)))⟩
            exact mp_iret ⟨⟨_, rfl, u118⟩, hT112, k115, J117, trivial⟩ dX6_fold_107 (Or.inl rfl)
        · have c36 : x28.toInt ≠ 0 := ti_eq_n c36
          refine mp_a (a_aload_n dX6_fold_61 rfl) (mpp 62 rfl ?_)
          refine mp_a (a_iconst (v := 5) dX6_fold_62 rfl) (mpp 63 rfl ?_)
          refine mp_a (a_iload_n dX6_fold_63 rfl) (mpp 64 rfl ?_)
          refine mt_callv (i := 68) (q' := q_14) (As := [.int 5, .int x28]) (rest := []) hT30 dX6_fold_64 rfl qm_14 (by decide) rfl rl_0 (by decide) rfl (Nat.le_of_ble_eq_true rfl) rfl ⟨rfl, rfl⟩ ⟨Nat.le_of_ble_eq_true rfl, Nat.le_of_ble_eq_true rfl⟩ (EvP.mono (by decide) (c_F_refuse hT30 (KW.xr k33 hX) )) (fun r126 P127 g128 => mpp 67 rfl ?_)
          obtain ⟨⟨x129, rfl, g130⟩, hT131, k132, R133⟩ := g128
          have k134 : KW [10, 11, 12, 65, 66, 67, 192, 193, 194, 256, 320, 385, 386, 640, 641, 704, 768, 1987, 2114] Po P127 := KW.trans k33 k132 rfl
          have J136 := Inj.kw J35 k132 rfl
          have wx129 := ti_full x129
          replace g130 : x129.toInt = -1003 := g130
          show MEvP _ none q_41 67 [(3, .int x28), (2, .ref b5), (0, .ref 0), (1, .int t1)] [.int x129] _ _ _ _
          have e138 : (fv P26 1 1).toInt = (fv Po 1 1).toInt := congrArg Int32.toInt (R32 1 1 (by omega))
          have e139 : (fv P26 1 2).toInt = (fv Po 1 2).toInt := congrArg Int32.toInt (R32 1 2 (by omega))
          have e140 : (fv P26 1 3).toInt = (fv Po 1 3).toInt := congrArg Int32.toInt (R32 1 3 (by omega))
          have e141 : (fv P127 1 1).toInt = (fv P26 1 1).toInt := congrArg Int32.toInt (R133.2 1 1 (by omega))
          have e142 : (fv P127 1 2).toInt = (fv P26 1 2).toInt := congrArg Int32.toInt (R133.2 1 2 (by omega))
          have e143 : (fv P127 1 3).toInt = (fv P26 1 3).toInt := congrArg Int32.toInt (R133.2 1 3 (by omega))
          have u137 : KPX Po P127 ∧ foldC Po P127 x129.toInt t1.toInt := ⟨⟨by rw [R133.1, R32 0 8 (by omega)], fun x j hx => by rw [R133.2 x j (by omega), R32 x j (by omega)]⟩, (show (x129.toInt = -1001 ∧ (t1.toInt < 0 ∨ (fv Po 1 1).toInt ≤ t1.toInt ∨ 8 ≤ t1.toInt) ∧ NCH Po P127) ∨ (x129.toInt = -1003 ∧ (0 ≤ t1.toInt ∧ t1.toInt + 1 ≤ (fv Po 1 1).toInt ∧ t1.toInt ≤ 7) ∧ ((fv Po (rv Po 2 t1.toInt.toNat) 2).toInt = 1 ∨ (∃ w : Int, WYf cC eC (fv Po (rv Po 2 t1.toInt.toNat) 0).toInt (fv Po (rv Po 2 t1.toInt.toNat) 1).toInt (fun j : Nat => fv Po ((rv Po 2 t1.toInt.toNat) + 1) j) (fun j : Nat => fv Po ((rv Po 2 t1.toInt.toNat) + 2) j) w ∧ ¬ w = 0) ∨ (WYf cC eC (fv Po (rv Po 2 t1.toInt.toNat) 0).toInt (fv Po (rv Po 2 t1.toInt.toNat) 1).toInt (fun j : Nat => fv Po ((rv Po 2 t1.toInt.toNat) + 1) j) (fun j : Nat => fv Po ((rv Po 2 t1.toInt.toNat) + 2) j) 0 ∧ 0 < ((smF (fun k : Nat => wpC Po (rv Po 2 k)) (fv Po 1 1).toInt.toNat) + wdF (fv Po (rv Po 2 t1.toInt.toNat) 0).toInt (fun j : Nat => fv Po ((rv Po 2 t1.toInt.toNat) + 1) j) (fv Po (rv Po 2 t1.toInt.toNat) 1).toInt.toNat - fv Po 1 2).toInt)) ∧ NCH Po P127) ∨ ((0 ≤ t1.toInt ∧ t1.toInt + 1 ≤ (fv Po 1 1).toInt ∧ t1.toInt ≤ 7) ∧ (fv Po (rv Po 2 t1.toInt.toNat) 2).toInt = 0 ∧ WYf cC eC (fv Po (rv Po 2 t1.toInt.toNat) 0).toInt (fv Po (rv Po 2 t1.toInt.toNat) 1).toInt (fun j : Nat => fv Po ((rv Po 2 t1.toInt.toNat) + 1) j) (fun j : Nat => fv Po ((rv Po 2 t1.toInt.toNat) + 2) j) 0 ∧ ((smF (fun k : Nat => wpC Po (rv Po 2 k)) (fv Po 1 1).toInt.toNat) + wdF (fv Po (rv Po 2 t1.toInt.toNat) 0).toInt (fun j : Nat => fv Po ((rv Po 2 t1.toInt.toNat) + 1) j) (fv Po (rv Po 2 t1.toInt.toNat) 1).toInt.toNat - fv Po 1 2).toInt ≤ 0 ∧ x129.toInt = (wdF (fv Po (rv Po 2 t1.toInt.toNat) 0).toInt (fun j : Nat => fv Po ((rv Po 2 t1.toInt.toNat) + 1) j) (fv Po (rv Po 2 t1.toInt.toNat) 1).toInt.toNat).toInt ∧ PSH Po P127 ∧ (fv P127 (rv Po 2 t1.toInt.toNat) 2).toInt = 1 ∧ fv P127 1 3 = fv Po 1 3 + 1 ∧ (∀ x j : Nat, 1 ≤ x → x < 27 → ¬ (x = (rv Po 2 t1.toInt.toNat) ∧ j = 2) → ¬ (x = 1 ∧ j = 3) → fv P127 x j = fv Po x j) ∧ ∀ k : Nat, rv P127 2 k = rv Po 2 k) from by rw [q6r.2.2.2]; exact Or.inr (Or.inl (⟨by omega, by omega, Or.inr (Or.inl ⟨_, g29.2.2, by omega⟩), ⟨fun x j h1 h2 => by rw [R133.2 x j (by omega), R32 x j (by omega)], fun k => by rw [k132.2.2 rfl k, k31.2.2 rfl k]⟩⟩)))⟩
          exact mp_iret ⟨⟨_, rfl, u137⟩, hT131, k134, J136, trivial⟩ dX6_fold_67 (Or.inl rfl)
      · have c23 : x18.toInt ≠ 0 := ti_eq_n c23
        refine mp_a (a_aload_n dX6_fold_38 rfl) (mpp 39 rfl ?_)
        refine mp_a (a_iconst (v := 4) dX6_fold_39 rfl) (mpp 40 rfl ?_)
        refine mp_a (a_aload_n dX6_fold_40 rfl) (mpp 41 rfl ?_)
        refine mt_callv (i := 163) (q' := q_43) (As := []) (rest := [.int 4, .ref 0]) hT dX6_fold_41 rfl qm_43 (by decide) rfl q6 (by decide) rfl (Nat.le_of_ble_eq_true rfl) rfl ⟨rfl, rfl⟩ ⟨Nat.le_of_ble_eq_true rfl, Nat.le_of_ble_eq_true rfl⟩ (EvP.mono (by decide) (c_CP_lowestUndecided_NPiece hT hX q6)) (fun r144 P145 g146 => mpp 44 rfl ?_)
        obtain ⟨⟨x147, rfl, g148⟩, e149⟩ := g146
        have e149 := e149.symm
        subst e149
        have wx147 := ti_full x147
        show MEvP _ none q_41 44 [(2, .ref b5), (0, .ref 0), (1, .int t1)] [.int x147, .int 4, .ref 0] _ _ _ _
        refine mt_callv (i := 68) (q' := q_14) (As := [.int 4, .int x147]) (rest := []) hT dX6_fold_44 rfl qm_14 (by decide) rfl rl_0 (by decide) rfl (Nat.le_of_ble_eq_true rfl) rfl ⟨rfl, rfl⟩ ⟨Nat.le_of_ble_eq_true rfl, Nat.le_of_ble_eq_true rfl⟩ (EvP.mono (by decide) (c_F_refuse hT hX )) (fun r150 P151 g152 => mpp 47 rfl ?_)
        obtain ⟨⟨x153, rfl, g154⟩, hT155, k156, R157⟩ := g152
        have k158 : KW [10, 11, 12, 65, 66, 67, 192, 193, 194, 256, 320, 385, 386, 640, 641, 704, 768, 1987, 2114] Po P151 := KW.trans KW.refl k156 rfl
        have J160 := Inj.kw hJ k156 rfl
        have wx153 := ti_full x153
        replace g154 : x153.toInt = -1003 := g154
        show MEvP _ none q_41 47 [(2, .ref b5), (0, .ref 0), (1, .int t1)] [.int x153] _ _ _ _
        have e162 : (fv P151 1 1).toInt = (fv Po 1 1).toInt := congrArg Int32.toInt (R157.2 1 1 (by omega))
        have e163 : (fv P151 1 2).toInt = (fv Po 1 2).toInt := congrArg Int32.toInt (R157.2 1 2 (by omega))
        have e164 : (fv P151 1 3).toInt = (fv Po 1 3).toInt := congrArg Int32.toInt (R157.2 1 3 (by omega))
        have u161 : KPX Po P151 ∧ foldC Po P151 x153.toInt t1.toInt := ⟨⟨by rw [R157.1], fun x j hx => by rw [R157.2 x j (by omega)]⟩, (show (x153.toInt = -1001 ∧ (t1.toInt < 0 ∨ (fv Po 1 1).toInt ≤ t1.toInt ∨ 8 ≤ t1.toInt) ∧ NCH Po P151) ∨ (x153.toInt = -1003 ∧ (0 ≤ t1.toInt ∧ t1.toInt + 1 ≤ (fv Po 1 1).toInt ∧ t1.toInt ≤ 7) ∧ ((fv Po (rv Po 2 t1.toInt.toNat) 2).toInt = 1 ∨ (∃ w : Int, WYf cC eC (fv Po (rv Po 2 t1.toInt.toNat) 0).toInt (fv Po (rv Po 2 t1.toInt.toNat) 1).toInt (fun j : Nat => fv Po ((rv Po 2 t1.toInt.toNat) + 1) j) (fun j : Nat => fv Po ((rv Po 2 t1.toInt.toNat) + 2) j) w ∧ ¬ w = 0) ∨ (WYf cC eC (fv Po (rv Po 2 t1.toInt.toNat) 0).toInt (fv Po (rv Po 2 t1.toInt.toNat) 1).toInt (fun j : Nat => fv Po ((rv Po 2 t1.toInt.toNat) + 1) j) (fun j : Nat => fv Po ((rv Po 2 t1.toInt.toNat) + 2) j) 0 ∧ 0 < ((smF (fun k : Nat => wpC Po (rv Po 2 k)) (fv Po 1 1).toInt.toNat) + wdF (fv Po (rv Po 2 t1.toInt.toNat) 0).toInt (fun j : Nat => fv Po ((rv Po 2 t1.toInt.toNat) + 1) j) (fv Po (rv Po 2 t1.toInt.toNat) 1).toInt.toNat - fv Po 1 2).toInt)) ∧ NCH Po P151) ∨ ((0 ≤ t1.toInt ∧ t1.toInt + 1 ≤ (fv Po 1 1).toInt ∧ t1.toInt ≤ 7) ∧ (fv Po (rv Po 2 t1.toInt.toNat) 2).toInt = 0 ∧ WYf cC eC (fv Po (rv Po 2 t1.toInt.toNat) 0).toInt (fv Po (rv Po 2 t1.toInt.toNat) 1).toInt (fun j : Nat => fv Po ((rv Po 2 t1.toInt.toNat) + 1) j) (fun j : Nat => fv Po ((rv Po 2 t1.toInt.toNat) + 2) j) 0 ∧ ((smF (fun k : Nat => wpC Po (rv Po 2 k)) (fv Po 1 1).toInt.toNat) + wdF (fv Po (rv Po 2 t1.toInt.toNat) 0).toInt (fun j : Nat => fv Po ((rv Po 2 t1.toInt.toNat) + 1) j) (fv Po (rv Po 2 t1.toInt.toNat) 1).toInt.toNat - fv Po 1 2).toInt ≤ 0 ∧ x153.toInt = (wdF (fv Po (rv Po 2 t1.toInt.toNat) 0).toInt (fun j : Nat => fv Po ((rv Po 2 t1.toInt.toNat) + 1) j) (fv Po (rv Po 2 t1.toInt.toNat) 1).toInt.toNat).toInt ∧ PSH Po P151 ∧ (fv P151 (rv Po 2 t1.toInt.toNat) 2).toInt = 1 ∧ fv P151 1 3 = fv Po 1 3 + 1 ∧ (∀ x j : Nat, 1 ≤ x → x < 27 → ¬ (x = (rv Po 2 t1.toInt.toNat) ∧ j = 2) → ¬ (x = 1 ∧ j = 3) → fv P151 x j = fv Po x j) ∧ ∀ k : Nat, rv P151 2 k = rv Po 2 k) from by rw [q6r.2.2.2]; exact Or.inr (Or.inl (⟨by omega, by omega, Or.inr (Or.inl ⟨4, Or.inl ⟨by omega, rfl⟩, by decide⟩), ⟨fun x j h1 h2 => by rw [R157.2 x j (by omega)], fun k => by rw [k156.2.2 rfl k]⟩⟩)))⟩
        exact mp_iret ⟨⟨_, rfl, u161⟩, hT155, k158, J160, trivial⟩ dX6_fold_47 (Or.inl rfl)
    · have c14 : (fv Po b5 2).toInt ≠ 0 := ti_eq_n c14
      refine mp_a (a_aload_n dX6_fold_24 rfl) (mpp 25 rfl ?_)
      refine mp_a (a_iconst (v := 2) dX6_fold_25 rfl) (mpp 26 rfl ?_)
      refine mp_a (a_iload_n dX6_fold_26 rfl) (mpp 27 rfl ?_)
      refine mt_callv (i := 68) (q' := q_14) (As := [.int 2, .int t1]) (rest := []) hT dX6_fold_27 rfl qm_14 (by decide) rfl rl_0 (by decide) rfl (Nat.le_of_ble_eq_true rfl) rfl ⟨rfl, rfl⟩ ⟨Nat.le_of_ble_eq_true rfl, Nat.le_of_ble_eq_true rfl⟩ (EvP.mono (by decide) (c_F_refuse hT hX )) (fun r165 P166 g167 => mpp 30 rfl ?_)
      obtain ⟨⟨x168, rfl, g169⟩, hT170, k171, R172⟩ := g167
      have k173 : KW [10, 11, 12, 65, 66, 67, 192, 193, 194, 256, 320, 385, 386, 640, 641, 704, 768, 1987, 2114] Po P166 := KW.trans KW.refl k171 rfl
      have J175 := Inj.kw hJ k171 rfl
      have wx168 := ti_full x168
      replace g169 : x168.toInt = -1003 := g169
      show MEvP _ none q_41 30 [(2, .ref b5), (0, .ref 0), (1, .int t1)] [.int x168] _ _ _ _
      have e177 : (fv P166 1 1).toInt = (fv Po 1 1).toInt := congrArg Int32.toInt (R172.2 1 1 (by omega))
      have e178 : (fv P166 1 2).toInt = (fv Po 1 2).toInt := congrArg Int32.toInt (R172.2 1 2 (by omega))
      have e179 : (fv P166 1 3).toInt = (fv Po 1 3).toInt := congrArg Int32.toInt (R172.2 1 3 (by omega))
      have u176 : KPX Po P166 ∧ foldC Po P166 x168.toInt t1.toInt := ⟨⟨by rw [R172.1], fun x j hx => by rw [R172.2 x j (by omega)]⟩, (show (x168.toInt = -1001 ∧ (t1.toInt < 0 ∨ (fv Po 1 1).toInt ≤ t1.toInt ∨ 8 ≤ t1.toInt) ∧ NCH Po P166) ∨ (x168.toInt = -1003 ∧ (0 ≤ t1.toInt ∧ t1.toInt + 1 ≤ (fv Po 1 1).toInt ∧ t1.toInt ≤ 7) ∧ ((fv Po (rv Po 2 t1.toInt.toNat) 2).toInt = 1 ∨ (∃ w : Int, WYf cC eC (fv Po (rv Po 2 t1.toInt.toNat) 0).toInt (fv Po (rv Po 2 t1.toInt.toNat) 1).toInt (fun j : Nat => fv Po ((rv Po 2 t1.toInt.toNat) + 1) j) (fun j : Nat => fv Po ((rv Po 2 t1.toInt.toNat) + 2) j) w ∧ ¬ w = 0) ∨ (WYf cC eC (fv Po (rv Po 2 t1.toInt.toNat) 0).toInt (fv Po (rv Po 2 t1.toInt.toNat) 1).toInt (fun j : Nat => fv Po ((rv Po 2 t1.toInt.toNat) + 1) j) (fun j : Nat => fv Po ((rv Po 2 t1.toInt.toNat) + 2) j) 0 ∧ 0 < ((smF (fun k : Nat => wpC Po (rv Po 2 k)) (fv Po 1 1).toInt.toNat) + wdF (fv Po (rv Po 2 t1.toInt.toNat) 0).toInt (fun j : Nat => fv Po ((rv Po 2 t1.toInt.toNat) + 1) j) (fv Po (rv Po 2 t1.toInt.toNat) 1).toInt.toNat - fv Po 1 2).toInt)) ∧ NCH Po P166) ∨ ((0 ≤ t1.toInt ∧ t1.toInt + 1 ≤ (fv Po 1 1).toInt ∧ t1.toInt ≤ 7) ∧ (fv Po (rv Po 2 t1.toInt.toNat) 2).toInt = 0 ∧ WYf cC eC (fv Po (rv Po 2 t1.toInt.toNat) 0).toInt (fv Po (rv Po 2 t1.toInt.toNat) 1).toInt (fun j : Nat => fv Po ((rv Po 2 t1.toInt.toNat) + 1) j) (fun j : Nat => fv Po ((rv Po 2 t1.toInt.toNat) + 2) j) 0 ∧ ((smF (fun k : Nat => wpC Po (rv Po 2 k)) (fv Po 1 1).toInt.toNat) + wdF (fv Po (rv Po 2 t1.toInt.toNat) 0).toInt (fun j : Nat => fv Po ((rv Po 2 t1.toInt.toNat) + 1) j) (fv Po (rv Po 2 t1.toInt.toNat) 1).toInt.toNat - fv Po 1 2).toInt ≤ 0 ∧ x168.toInt = (wdF (fv Po (rv Po 2 t1.toInt.toNat) 0).toInt (fun j : Nat => fv Po ((rv Po 2 t1.toInt.toNat) + 1) j) (fv Po (rv Po 2 t1.toInt.toNat) 1).toInt.toNat).toInt ∧ PSH Po P166 ∧ (fv P166 (rv Po 2 t1.toInt.toNat) 2).toInt = 1 ∧ fv P166 1 3 = fv Po 1 3 + 1 ∧ (∀ x j : Nat, 1 ≤ x → x < 27 → ¬ (x = (rv Po 2 t1.toInt.toNat) ∧ j = 2) → ¬ (x = 1 ∧ j = 3) → fv P166 x j = fv Po x j) ∧ ∀ k : Nat, rv P166 2 k = rv Po 2 k) from by rw [q6r.2.2.2]; exact Or.inr (Or.inl (⟨by omega, by omega, Or.inl (by omega), ⟨fun x j h1 h2 => by rw [R172.2 x j (by omega)], fun k => by rw [k171.2.2 rfl k]⟩⟩)))⟩
      exact mp_iret ⟨⟨_, rfl, u176⟩, hT170, k173, J175, trivial⟩ dX6_fold_30 (Or.inl rfl)

set_option maxHeartbeats 4000000 in
theorem c_F_unfold {Po : mP} {t1 : Int32} (hT : Typ Po) (hX : XR Po)  (hJ : Inj Po)  : EvP 5 56 [.ref 0, .int t1] Po (fun r P' => (∃ x : Int32, r = some (.int x) ∧ (KPX Po P' ∧ unfoldC Po P' x.toInt t1.toInt)) ∧ Typ P' ∧ KW [10, 11, 12, 65, 66, 67, 192, 193, 194, 256, 320, 385, 386, 2114] Po P' ∧ Inj P' ∧ True) := by
  refine EvP.of qm_56 (Nat.le_of_ble_eq_true rfl) rfl ?_
  show MEvP _ none q_56 0 [(0, .ref 0), (1, .int t1)] [] _ 0 0 _
  have w_t1 := ti_full t1
  refine mp_a (a_aload_n dX6_unfold_0 rfl) (mpp 1 rfl ?_)
  refine mt_getU (i := 10) (k := 0) (A := 1) hT dX6_unfold_1 rfl rl_0 (by decide) rfl (by decide) rfl un_31 (mpp 4 rfl ?_)
  refine mp_a (a_iload_n dX6_unfold_4 rfl) (mpp 5 rfl ?_)
  refine mt_callv (i := 94) (q' := q_9) (As := [.int t1]) (rest := []) hT dX6_unfold_5 rfl qm_9 (by decide) rfl rl_1 (by decide) rfl (Nat.le_of_ble_eq_true rfl) rfl ⟨rfl, rfl⟩ ⟨Nat.le_of_ble_eq_true rfl, Nat.le_of_ble_eq_true rfl⟩ (EvP.mono (by decide) (c_CS_pieceAt_NState hT hX )) (fun r1 P2 g3 => mpp 8 rfl ?_)
  obtain ⟨g3, e4⟩ := g3
  have e4 := e4.symm
  subst e4
  rcases g3 with ⟨rfl, q6n⟩ | ⟨b5, rfl, q6, q6r⟩
  · show MEvP _ none q_56 8 [(0, .ref 0), (1, .int t1)] [.null] _ _ _ _
    replace q6n : t1.toInt < 0 ∨ (fv Po 1 1).toInt ≤ t1.toInt ∨ 8 ≤ t1.toInt := q6n
    have g7 : (0 : Int) ≤ (fv Po 1 1).toInt ∧ (fv Po 1 1).toInt ≤ 8 := Typ.rng hT rl_1 (by decide) (by decide) rfl
    refine mp_a (a_astore_nN (L' := [(2, .null), (0, .ref 0), (1, .int t1)]) dX6_unfold_8 (by decide) rfl) (mpp 9 rfl ?_)
    refine mp_a (a_aload_nN dX6_unfold_9 rfl) (mpp 10 rfl ?_)
    refine mp_t (s_ifnonnullN dX6_unfold_10) (mpp 13 rfl ?_)
    refine mp_a (a_sipush (v := -1001) dX6_unfold_13 rfl) (mpp 16 rfl ?_)
    have u8 : KPX Po Po ∧ unfoldC Po Po (-1001 : Int) t1.toInt := ⟨⟨rfl, fun x j hx => rfl⟩, (show ((-1001 : Int) = -1001 ∧ (t1.toInt < 0 ∨ (fv Po 1 1).toInt ≤ t1.toInt ∨ 8 ≤ t1.toInt) ∧ NCH Po Po) ∨ ((-1001 : Int) = -1003 ∧ (0 ≤ t1.toInt ∧ t1.toInt + 1 ≤ (fv Po 1 1).toInt ∧ t1.toInt ≤ 7) ∧ (fv Po (rv Po 2 t1.toInt.toNat) 2).toInt = 0 ∧ NCH Po Po) ∨ ((0 ≤ t1.toInt ∧ t1.toInt + 1 ≤ (fv Po 1 1).toInt ∧ t1.toInt ≤ 7) ∧ (fv Po (rv Po 2 t1.toInt.toNat) 2).toInt = 1 ∧ (-1001 : Int) = (fv Po 1 2 - (smF (fun k : Nat => wpC Po (rv Po 2 k)) (fv Po 1 1).toInt.toNat)).toInt ∧ PSH Po Po ∧ (fv Po (rv Po 2 t1.toInt.toNat) 2).toInt = 0 ∧ (∀ x j : Nat, 1 ≤ x → x < 27 → ¬ (x = (rv Po 2 t1.toInt.toNat) ∧ j = 2) → fv Po x j = fv Po x j) ∧ ∀ k : Nat, rv Po 2 k = rv Po 2 k) from by exact Or.inl (⟨by omega, by omega, ⟨fun x j h1 h2 => rfl, fun k => rfl⟩⟩))⟩
    exact mp_iret ⟨⟨_, rfl, u8⟩, hT, KW.refl, hJ, trivial⟩ dX6_unfold_16 (Or.inl rfl)
  · show MEvP _ none q_56 8 [(0, .ref 0), (1, .int t1)] [.ref b5] _ _ _ _
    replace q6r : 0 ≤ t1.toInt ∧ t1.toInt ≤ 7 ∧ t1.toInt + 1 ≤ (fv Po 1 1).toInt ∧ rv Po 2 t1.toInt.toNat = b5 := q6r
    have g9 : (0 : Int) ≤ (fv Po 1 1).toInt ∧ (fv Po 1 1).toInt ≤ 8 := Typ.rng hT rl_1 (by decide) (by decide) rfl
    have w10 := np_ar q6
    refine mp_a (a_astore_n (L' := [(2, .ref b5), (0, .ref 0), (1, .int t1)]) dX6_unfold_8 (by decide) rfl) (mpp 9 rfl ?_)
    refine mp_a (a_aload_n dX6_unfold_9 rfl) (mpp 10 rfl ?_)
    refine mp_t (s_ifnonnullR (t := 17) dX6_unfold_10 (by decide)) ?_
    refine mp_a (a_aload_n dX6_unfold_17 rfl) (mpp 18 rfl ?_)
    have g11 : (0 : Int) ≤ (fv Po b5 2).toInt ∧ (fv Po b5 2).toInt ≤ 1 := Typ.rng hT q6 (by decide) (by decide) rfl
    refine mt_getI (i := 104) (k := 2) hT dX6_unfold_18 rfl q6 (by decide) rfl (by decide) rfl (fun g12 g13 => mpp 21 rfl ?_)
    refine mp_Tb (t := 31) (j_if_ne dX6_unfold_21) (by decide) (fun c14 => ?_) (fun c14 => mpp 24 rfl ?_)
    · have c14 : (fv Po b5 2).toInt ≠ 0 := ti_ne c14
      refine mp_a (a_aload_n dX6_unfold_31 rfl) (mpp 32 rfl ?_)
      refine mt_getU (i := 25) (k := 3) (A := 79) hT dX6_unfold_32 rfl rl_0 (by decide) rfl (by decide) rfl un_6 (mpp 35 rfl ?_)
      refine mp_a (a_aload_n dX6_unfold_35 rfl) (mpp 36 rfl ?_)
      refine mt_getU (i := 10) (k := 0) (A := 1) hT dX6_unfold_36 rfl rl_0 (by decide) rfl (by decide) rfl un_31 (mpp 39 rfl ?_)
      refine mt_callv (i := 72) (q' := q_15) (As := [.ref 1]) (rest := []) hT dX6_unfold_39 rfl qm_15 (by decide) rfl rl_79 (by decide) rfl (Nat.le_of_ble_eq_true rfl) rfl ⟨rfl, rfl⟩ ⟨Nat.le_of_ble_eq_true rfl, Nat.le_of_ble_eq_true rfl⟩ (EvP.mono (by decide) (c_CH_push_History_NState hT hX hJ )) (fun r15 P16 g17 => mpp 42 rfl ?_)
      obtain ⟨⟨rfl, g19⟩, hT20, k21, J24, R22⟩ := g17
      have k23 : KW [10, 11, 12, 65, 66, 67, 192, 193, 194, 256, 320, 385, 386, 2114] Po P16 := KW.trans KW.refl k21 rfl
      show MEvP _ none q_56 42 [(2, .ref b5), (0, .ref 0), (1, .int t1)] [] _ _ _ _
      refine mp_a (a_aload_n dX6_unfold_42 rfl) (mpp 43 rfl ?_)
      refine mp_a (a_iconst (v := 0) dX6_unfold_43 rfl) (mpp 44 rfl ?_)
      refine mt_putI (i := 104) (k := 2) (x := 0) hT20 dX6_unfold_44 rfl q6 (by decide) rfl (by decide) rfl (by decide) rfl rfl (fun P25 hT26 f27 f28 f29 => mpp 47 rfl ?_)
      have k30 : KW [10, 11, 12, 65, 66, 67, 192, 193, 194, 256, 320, 385, 386, 2114] Po P25 := KW.step k23 q6 rfl f28 f29
      have J31 := Inj.st J24 f29
      have e32 : (fv P25 b5 2).toInt = 0 := congrArg Int32.toInt f27
      refine mp_a (a_aload_n dX6_unfold_47 rfl) (mpp 48 rfl ?_)
      refine mt_getU (i := 10) (k := 0) (A := 1) hT26 dX6_unfold_48 rfl rl_0 (by decide) rfl (by decide) rfl un_31 (mpp 51 rfl ?_)
      have g33 := ti_full (fv P25 1 2)
      refine mt_getI (i := 76) (k := 2) hT26 dX6_unfold_51 rfl rl_1 (by decide) rfl (by decide) rfl (fun g34 g35 => mpp 54 rfl ?_)
      refine mp_a (a_aload_n dX6_unfold_54 rfl) (mpp 55 rfl ?_)
      refine mt_getU (i := 10) (k := 0) (A := 1) hT26 dX6_unfold_55 rfl rl_0 (by decide) rfl (by decide) rfl un_31 (mpp 58 rfl ?_)
      refine mt_callv (i := 64) (q' := q_8) (As := []) (rest := [.int (fv P25 1 2)]) hT26 dX6_unfold_58 rfl qm_8 (by decide) rfl rl_1 (by decide) rfl (Nat.le_of_ble_eq_true rfl) rfl ⟨rfl, rfl⟩ ⟨Nat.le_of_ble_eq_true rfl, Nat.le_of_ble_eq_true rfl⟩ (EvP.mono (by decide) (c_CS_occupied_NState hT26 (KW.xr k30 hX) )) (fun r36 P37 g38 => mpp 61 rfl ?_)
      obtain ⟨⟨x39, rfl, g40⟩, e41⟩ := g38
      have e41 := e41.symm
      subst e41
      have wx39 := ti_full x39
      replace g40 : x39.toInt = (smF (fun k : Nat => wpC P25 (rv P25 2 k)) (fv P25 1 1).toInt.toNat).toInt := g40
      have e42 : (fv P25 1 1).toInt = (fv Po 1 1).toInt := congrArg Int32.toInt ((f28 1 1 (ne_r rl_1 q6 rfl)).trans (KW.at k21 1 rl_1 rfl))
      show MEvP _ none q_56 61 [(2, .ref b5), (0, .ref 0), (1, .int t1)] [.int x39, .int (fv P25 1 2)] _ _ _ _
      obtain ⟨z43, h44⟩ := ti_ex ((fv P25 1 2) - x39 : Int32)
      have wz43 := ti_full z43
      refine mp_t (s_isub (v := z43) dX6_unfold_61 h44) (mpp 62 rfl ?_)
      try have e45 : z43.toInt = (fv P25 1 2).toInt - x39.toInt := ti_subz h44 rfl rfl (by omega) (by omega)
      have e47 : (fv P16 1 1).toInt = (fv Po 1 1).toInt := congrArg Int32.toInt (R22.2.2.2.2.2 1 1 (by omega))
      have e48 : (fv P16 1 2).toInt = (fv Po 1 2).toInt := congrArg Int32.toInt (R22.2.2.2.2.2 1 2 (by omega))
      have e49 : (fv P16 1 3).toInt = (fv Po 1 3).toInt := congrArg Int32.toInt (R22.2.2.2.2.2 1 3 (by omega))
      have e50 : (fv P25 1 1).toInt = (fv P16 1 1).toInt := congrArg Int32.toInt (f28 1 1 (by omega))
      have e51 : (fv P25 1 2).toInt = (fv P16 1 2).toInt := congrArg Int32.toInt (f28 1 2 (by omega))
      have e52 : (fv P25 1 3).toInt = (fv P16 1 3).toInt := congrArg Int32.toInt (f28 1 3 (by omega))
      have w54_ : fv P25 1 2 = fv Po 1 2 := by rw [f28 1 2 (by omega), R22.2.2.2.2.2 1 2 (by omega)]
      have w55_ : fv P25 1 1 = fv Po 1 1 := by rw [f28 1 1 (by omega), R22.2.2.2.2.2 1 1 (by omega)]
      have w56_ := Int32.toInt_inj.mp g40
      rw [w55_] at w56_
      have u46 : KPX Po P25 ∧ unfoldC Po P25 z43.toInt t1.toInt := ⟨⟨by rw [f28 0 8 (by omega), R22.2.2.2.2.2 0 8 (by omega)], fun x j hx => by rw [f28 x j (by omega), R22.2.2.2.2.2 x j (by omega)]⟩, (show (z43.toInt = -1001 ∧ (t1.toInt < 0 ∨ (fv Po 1 1).toInt ≤ t1.toInt ∨ 8 ≤ t1.toInt) ∧ NCH Po P25) ∨ (z43.toInt = -1003 ∧ (0 ≤ t1.toInt ∧ t1.toInt + 1 ≤ (fv Po 1 1).toInt ∧ t1.toInt ≤ 7) ∧ (fv Po (rv Po 2 t1.toInt.toNat) 2).toInt = 0 ∧ NCH Po P25) ∨ ((0 ≤ t1.toInt ∧ t1.toInt + 1 ≤ (fv Po 1 1).toInt ∧ t1.toInt ≤ 7) ∧ (fv Po (rv Po 2 t1.toInt.toNat) 2).toInt = 1 ∧ z43.toInt = (fv Po 1 2 - (smF (fun k : Nat => wpC P25 (rv P25 2 k)) (fv Po 1 1).toInt.toNat)).toInt ∧ PSH Po P25 ∧ (fv P25 (rv Po 2 t1.toInt.toNat) 2).toInt = 0 ∧ (∀ x j : Nat, 1 ≤ x → x < 27 → ¬ (x = (rv Po 2 t1.toInt.toNat) ∧ j = 2) → fv P25 x j = fv Po x j) ∧ ∀ k : Nat, rv P25 2 k = rv Po 2 k) from by rw [q6r.2.2.2]; exact Or.inr (Or.inr (⟨by omega, by omega, by rw [← w54_, ← w56_, h44], PSH.mk (P := Po) (Q := P16) hT R22.1 R22.2.1 R22.2.2.1 R22.2.2.2.1 R22.2.2.2.2.1 (fun x j h1 h2 => by rw [f28 x j (by omega)]) (fun x j hx => rfl) (fun k => rfl) (Typ.rng hT rl_79 (by decide) (by decide) rfl), by omega, fun x j h1 h2 h3 => by rw [f28 x j (by omega), R22.2.2.2.2.2 x j (by omega)], fun k => by rw [f29 2 k, k21.2.2 rfl k]⟩)))⟩
      exact mp_iret ⟨⟨_, rfl, u46⟩, hT26, k30, J31, trivial⟩ dX6_unfold_62 (Or.inl rfl)
    · have c14 : (fv Po b5 2).toInt = 0 := ti_ne_n c14
      refine mp_a (a_aload_n dX6_unfold_24 rfl) (mpp 25 rfl ?_)
      refine mp_a (a_iconst (v := 2) dX6_unfold_25 rfl) (mpp 26 rfl ?_)
      refine mp_a (a_iload_n dX6_unfold_26 rfl) (mpp 27 rfl ?_)
      refine mt_callv (i := 68) (q' := q_14) (As := [.int 2, .int t1]) (rest := []) hT dX6_unfold_27 rfl qm_14 (by decide) rfl rl_0 (by decide) rfl (Nat.le_of_ble_eq_true rfl) rfl ⟨rfl, rfl⟩ ⟨Nat.le_of_ble_eq_true rfl, Nat.le_of_ble_eq_true rfl⟩ (EvP.mono (by decide) (c_F_refuse hT hX )) (fun r57 P58 g59 => mpp 30 rfl ?_)
      obtain ⟨⟨x60, rfl, g61⟩, hT62, k63, R64⟩ := g59
      have k65 : KW [10, 11, 12, 65, 66, 67, 192, 193, 194, 256, 320, 385, 386, 2114] Po P58 := KW.trans KW.refl k63 rfl
      have J67 := Inj.kw hJ k63 rfl
      have wx60 := ti_full x60
      replace g61 : x60.toInt = -1003 := g61
      show MEvP _ none q_56 30 [(2, .ref b5), (0, .ref 0), (1, .int t1)] [.int x60] _ _ _ _
      have e69 : (fv P58 1 1).toInt = (fv Po 1 1).toInt := congrArg Int32.toInt (R64.2 1 1 (by omega))
      have e70 : (fv P58 1 2).toInt = (fv Po 1 2).toInt := congrArg Int32.toInt (R64.2 1 2 (by omega))
      have e71 : (fv P58 1 3).toInt = (fv Po 1 3).toInt := congrArg Int32.toInt (R64.2 1 3 (by omega))
      have u68 : KPX Po P58 ∧ unfoldC Po P58 x60.toInt t1.toInt := ⟨⟨by rw [R64.1], fun x j hx => by rw [R64.2 x j (by omega)]⟩, (show (x60.toInt = -1001 ∧ (t1.toInt < 0 ∨ (fv Po 1 1).toInt ≤ t1.toInt ∨ 8 ≤ t1.toInt) ∧ NCH Po P58) ∨ (x60.toInt = -1003 ∧ (0 ≤ t1.toInt ∧ t1.toInt + 1 ≤ (fv Po 1 1).toInt ∧ t1.toInt ≤ 7) ∧ (fv Po (rv Po 2 t1.toInt.toNat) 2).toInt = 0 ∧ NCH Po P58) ∨ ((0 ≤ t1.toInt ∧ t1.toInt + 1 ≤ (fv Po 1 1).toInt ∧ t1.toInt ≤ 7) ∧ (fv Po (rv Po 2 t1.toInt.toNat) 2).toInt = 1 ∧ x60.toInt = (fv Po 1 2 - (smF (fun k : Nat => wpC P58 (rv P58 2 k)) (fv Po 1 1).toInt.toNat)).toInt ∧ PSH Po P58 ∧ (fv P58 (rv Po 2 t1.toInt.toNat) 2).toInt = 0 ∧ (∀ x j : Nat, 1 ≤ x → x < 27 → ¬ (x = (rv Po 2 t1.toInt.toNat) ∧ j = 2) → fv P58 x j = fv Po x j) ∧ ∀ k : Nat, rv P58 2 k = rv Po 2 k) from by rw [q6r.2.2.2]; exact Or.inr (Or.inl (⟨by omega, by omega, by omega, ⟨fun x j h1 h2 => by rw [R64.2 x j (by omega)], fun k => by rw [k63.2.2 rfl k]⟩⟩)))⟩
      exact mp_iret ⟨⟨_, rfl, u68⟩, hT62, k65, J67, trivial⟩ dX6_unfold_30 (Or.inl rfl)

set_option maxHeartbeats 4000000 in
theorem c_F_drop {Po : mP} {t1 : Int32} (hT : Typ Po) (hX : XR Po)  (hJ : Inj Po)  : EvP 5 57 [.ref 0, .int t1] Po (fun r P' => (∃ x : Int32, r = some (.int x) ∧ (KPX Po P' ∧ dropC Po P' x.toInt t1.toInt)) ∧ Typ P' ∧ KW [65, 66, 67, 192, 193, 194, 256, 320, 385, 386, 1985, 2048] Po P' ∧ Inj P' ∧ True) := by
  refine EvP.of qm_57 (Nat.le_of_ble_eq_true rfl) rfl ?_
  show MEvP _ none q_57 0 [(0, .ref 0), (1, .int t1)] [] _ 0 0 _
  have w_t1 := ti_full t1
  refine mp_a (a_aload_n dX6_drop_0 rfl) (mpp 1 rfl ?_)
  refine mt_getU (i := 10) (k := 0) (A := 1) hT dX6_drop_1 rfl rl_0 (by decide) rfl (by decide) rfl un_31 (mpp 4 rfl ?_)
  refine mp_a (a_iload_n dX6_drop_4 rfl) (mpp 5 rfl ?_)
  refine mt_callv (i := 94) (q' := q_9) (As := [.int t1]) (rest := []) hT dX6_drop_5 rfl qm_9 (by decide) rfl rl_1 (by decide) rfl (Nat.le_of_ble_eq_true rfl) rfl ⟨rfl, rfl⟩ ⟨Nat.le_of_ble_eq_true rfl, Nat.le_of_ble_eq_true rfl⟩ (EvP.mono (by decide) (c_CS_pieceAt_NState hT hX )) (fun r1 P2 g3 => mpp 8 rfl ?_)
  obtain ⟨g3, e4⟩ := g3
  have e4 := e4.symm
  subst e4
  rcases g3 with ⟨rfl, q6n⟩ | ⟨b5, rfl, q6, q6r⟩
  · show MEvP _ none q_57 8 [(0, .ref 0), (1, .int t1)] [.null] _ _ _ _
    replace q6n : t1.toInt < 0 ∨ (fv Po 1 1).toInt ≤ t1.toInt ∨ 8 ≤ t1.toInt := q6n
    have g7 : (0 : Int) ≤ (fv Po 1 1).toInt ∧ (fv Po 1 1).toInt ≤ 8 := Typ.rng hT rl_1 (by decide) (by decide) rfl
    refine mp_t (s_ifnonnullN dX6_drop_8) (mpp 11 rfl ?_)
    refine mp_a (a_sipush (v := -1001) dX6_drop_11 rfl) (mpp 14 rfl ?_)
    have u8 : KPX Po Po ∧ dropC Po Po (-1001 : Int) t1.toInt := ⟨⟨rfl, fun x j hx => rfl⟩, (show ((-1001 : Int) = -1001 ∧ (t1.toInt < 0 ∨ (fv Po 1 1).toInt ≤ t1.toInt ∨ 8 ≤ t1.toInt) ∧ NCH Po Po) ∨ ((0 ≤ t1.toInt ∧ t1.toInt + 1 ≤ (fv Po 1 1).toInt ∧ t1.toInt ≤ 7) ∧ (-1001 : Int) = (fv Po 1 1).toInt - 1 ∧ PSH Po Po ∧ (fv Po 1 1).toInt = (fv Po 1 1).toInt - 1 ∧ RMf Po Po t1.toInt.toNat ((fv Po 1 1).toInt - 1).toNat ∧ (∀ x j : Nat, 1 ≤ x → x < 27 → ¬ (x = 1 ∧ j = 1) → fv Po x j = fv Po x j)) from by exact Or.inl (⟨by omega, by omega, ⟨fun x j h1 h2 => rfl, fun k => rfl⟩⟩))⟩
    exact mp_iret ⟨⟨_, rfl, u8⟩, hT, KW.refl, hJ, trivial⟩ dX6_drop_14 (Or.inl rfl)
  · show MEvP _ none q_57 8 [(0, .ref 0), (1, .int t1)] [.ref b5] _ _ _ _
    replace q6r : 0 ≤ t1.toInt ∧ t1.toInt ≤ 7 ∧ t1.toInt + 1 ≤ (fv Po 1 1).toInt ∧ rv Po 2 t1.toInt.toNat = b5 := q6r
    have g9 : (0 : Int) ≤ (fv Po 1 1).toInt ∧ (fv Po 1 1).toInt ≤ 8 := Typ.rng hT rl_1 (by decide) (by decide) rfl
    have w10 := np_ar q6
    refine mp_t (s_ifnonnullR (t := 15) dX6_drop_8 (by decide)) ?_
    refine mp_a (a_aload_n dX6_drop_15 rfl) (mpp 16 rfl ?_)
    refine mt_getU (i := 25) (k := 3) (A := 79) hT dX6_drop_16 rfl rl_0 (by decide) rfl (by decide) rfl un_6 (mpp 19 rfl ?_)
    refine mp_a (a_aload_n dX6_drop_19 rfl) (mpp 20 rfl ?_)
    refine mt_getU (i := 10) (k := 0) (A := 1) hT dX6_drop_20 rfl rl_0 (by decide) rfl (by decide) rfl un_31 (mpp 23 rfl ?_)
    refine mt_callv (i := 72) (q' := q_15) (As := [.ref 1]) (rest := []) hT dX6_drop_23 rfl qm_15 (by decide) rfl rl_79 (by decide) rfl (Nat.le_of_ble_eq_true rfl) rfl ⟨rfl, rfl⟩ ⟨Nat.le_of_ble_eq_true rfl, Nat.le_of_ble_eq_true rfl⟩ (EvP.mono (by decide) (c_CH_push_History_NState hT hX hJ )) (fun r11 P12 g13 => mpp 26 rfl ?_)
    obtain ⟨⟨rfl, g15⟩, hT16, k17, J20, R18⟩ := g13
    have k19 : KW [65, 66, 67, 192, 193, 194, 256, 320, 385, 386, 1985, 2048] Po P12 := KW.trans KW.refl k17 rfl
    show MEvP _ none q_57 26 [(0, .ref 0), (1, .int t1)] [] _ _ _ _
    refine mp_a (a_aload_n dX6_drop_26 rfl) (mpp 27 rfl ?_)
    refine mt_getU (i := 10) (k := 0) (A := 1) hT16 dX6_drop_27 rfl rl_0 (by decide) rfl (by decide) rfl un_31 (mpp 30 rfl ?_)
    refine mp_a (a_iload_n dX6_drop_30 rfl) (mpp 31 rfl ?_)
    refine mt_callv (i := 147) (q' := q_38) (As := [.int t1]) (rest := []) hT16 dX6_drop_31 rfl qm_38 (by decide) rfl rl_1 (by decide) rfl (Nat.le_of_ble_eq_true rfl) rfl ⟨rfl, rfl⟩ ⟨Nat.le_of_ble_eq_true rfl, Nat.le_of_ble_eq_true rfl⟩ (EvP.mono (by decide) (c_CS_removeAt_NState hT16 (KW.xr k19 hX) J20 )) (fun r21 P22 g23 => mpp 34 rfl ?_)
    obtain ⟨⟨rfl, g25⟩, hT26, k27, J30, R28⟩ := g23
    have k29 : KW [65, 66, 67, 192, 193, 194, 256, 320, 385, 386, 1985, 2048] Po P22 := KW.trans k19 k27 rfl
    show MEvP _ none q_57 34 [(0, .ref 0), (1, .int t1)] [] _ _ _ _
    refine mp_a (a_aload_n dX6_drop_34 rfl) (mpp 35 rfl ?_)
    refine mt_getU (i := 10) (k := 0) (A := 1) hT26 dX6_drop_35 rfl rl_0 (by decide) rfl (by decide) rfl un_31 (mpp 38 rfl ?_)
    have g31 : (0 : Int) ≤ (fv P22 1 1).toInt ∧ (fv P22 1 1).toInt ≤ 8 := Typ.rng hT26 rl_1 (by decide) (by decide) rfl
    refine mt_getI (i := 87) (k := 1) hT26 dX6_drop_38 rfl rl_1 (by decide) rfl (by decide) rfl (fun g32 g33 => mpp 41 rfl ?_)
    have e35 : (fv P12 1 1).toInt = (fv Po 1 1).toInt := congrArg Int32.toInt (R18.2.2.2.2.2 1 1 (by omega))
    have e36 : (fv P12 1 2).toInt = (fv Po 1 2).toInt := congrArg Int32.toInt (R18.2.2.2.2.2 1 2 (by omega))
    have e37 : (fv P12 1 3).toInt = (fv Po 1 3).toInt := congrArg Int32.toInt (R18.2.2.2.2.2 1 3 (by omega))
    have e38 : (fv P22 1 2).toInt = (fv P12 1 2).toInt := congrArg Int32.toInt (R28.2.2.1 1 2 (by omega))
    have e39 : (fv P22 1 3).toInt = (fv P12 1 3).toInt := congrArg Int32.toInt (R28.2.2.1 1 3 (by omega))
    have u34 : KPX Po P22 ∧ dropC Po P22 (fv P22 1 1).toInt t1.toInt := ⟨⟨by rw [R28.2.2.2 0 8 (by omega), R18.2.2.2.2.2 0 8 (by omega)], fun x j hx => by rw [R28.2.2.1 x j (by omega), R18.2.2.2.2.2 x j (by omega)]⟩, (show ((fv P22 1 1).toInt = -1001 ∧ (t1.toInt < 0 ∨ (fv Po 1 1).toInt ≤ t1.toInt ∨ 8 ≤ t1.toInt) ∧ NCH Po P22) ∨ ((0 ≤ t1.toInt ∧ t1.toInt + 1 ≤ (fv Po 1 1).toInt ∧ t1.toInt ≤ 7) ∧ (fv P22 1 1).toInt = (fv Po 1 1).toInt - 1 ∧ PSH Po P22 ∧ (fv P22 1 1).toInt = (fv Po 1 1).toInt - 1 ∧ RMf Po P22 t1.toInt.toNat ((fv Po 1 1).toInt - 1).toNat ∧ (∀ x j : Nat, 1 ≤ x → x < 27 → ¬ (x = 1 ∧ j = 1) → fv P22 x j = fv Po x j)) from by exact Or.inr (⟨by omega, by omega, PSH.mk (P := Po) (Q := P12) hT R18.1 R18.2.1 R18.2.2.1 R18.2.2.2.1 R18.2.2.2.2.1 (fun x j h1 h2 => by rw [R28.2.2.1 x j (by omega)]) (fun x j hx => rfl) (fun k => rfl) (Typ.rng hT rl_79 (by decide) (by decide) rfl), by omega, ((R28.2.1.resolve_left (by omega)).src (fun k => by rw [k17.2.2 rfl k])).eq (by omega), fun x j h1 h2 h3 => by rw [R28.2.2.1 x j (by omega), R18.2.2.2.2.2 x j (by omega)]⟩))⟩
    exact mp_iret ⟨⟨_, rfl, u34⟩, hT26, k29, J30, trivial⟩ dX6_drop_41 (Or.inl rfl)

