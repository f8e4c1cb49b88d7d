/-! methods on typed pools, 2 (written by a program) -/
set_option maxHeartbeats 4000000 in
theorem c_CP_takeCreases_Piece_l20 {Po : mP} {a0_ : Nat} {t1 : Int32} (ha0 : rl a0_ = 3) : ∀ (n : Nat) (v2 : Int32) (v3 : Int32) (v4 : Int32), ∀ (P : mP), Typ P → KW [320] Po P → (v4.toInt + 1).toNat = n → MEvP 1 none q_24 20 [(0, .ref a0_), (1, .int t1), (2, .int v2), (3, .int v3), (4, .int v4)] [] P 0 0 (fun r P' => (∃ x : Int32, r = some (.int x) ∧ (0 ≤ x.toInt ∧ x.toInt ≤ 1)) ∧ Typ P' ∧ KW [320] Po P' ∧ True) := by
  intro n
  induction n using Nat.strongRecOn with | _ n ih => ?_
  intro v2 v3 v4 P hT hK  hm
  have w_t1 := ti_full t1
  have w_v2 := ti_full v2
  have w_v3 := ti_full v3
  have w_v4 := ti_full v4
  refine mp_a (a_iload dX2_takeCreases_20 rfl) (mpp 22 rfl ?_)
  refine mp_Tb (t := 69) (j_if_lt dX2_takeCreases_22) (by decide) (fun c1 => ?_) (fun c1 => mpp 25 rfl ?_)
  · have c1 : v4.toInt < 0 := ti_lt c1
    refine mp_a (a_iload_n dX2_takeCreases_69 rfl) (mpp 70 rfl ?_)
    refine mp_Tb (t := 81) (j_if_eq dX2_takeCreases_70) (by decide) (fun c2 => ?_) (fun c2 => mpp 73 rfl ?_)
    · have c2 : v2.toInt = 0 := ti_eq c2
      refine mp_a (a_iconst (v := 0) dX2_takeCreases_81 rfl) (mpp 82 rfl ?_)
      have u3 : 0 ≤ (0 : Int) ∧ (0 : Int) ≤ 1 := by omega
      exact mp_iret ⟨⟨_, rfl, u3⟩, hT, hK, trivial⟩ dX2_takeCreases_82 (Or.inr ⟨rfl, by decide⟩)
    · have c2 : v2.toInt ≠ 0 := ti_eq_n c2
      refine mp_a (a_iload_n dX2_takeCreases_73 rfl) (mpp 74 rfl ?_)
      refine mp_Tb (t := 81) (j_if_ne dX2_takeCreases_74) (by decide) (fun c4 => ?_) (fun c4 => mpp 77 rfl ?_)
      · have c4 : v3.toInt ≠ 0 := ti_ne c4
        refine mp_a (a_iconst (v := 0) dX2_takeCreases_81 rfl) (mpp 82 rfl ?_)
        have u5 : 0 ≤ (0 : Int) ∧ (0 : Int) ≤ 1 := by omega
        exact mp_iret ⟨⟨_, rfl, u5⟩, hT, hK, trivial⟩ dX2_takeCreases_82 (Or.inr ⟨rfl, by decide⟩)
      · have c4 : v3.toInt = 0 := ti_ne_n c4
        refine mp_a (a_iconst (v := 1) dX2_takeCreases_77 rfl) (mpp 78 rfl ?_)
        refine mp_a (a_goto (t := 82) dX2_takeCreases_78 (by decide)) ?_
        have u6 : 0 ≤ (1 : Int) ∧ (1 : Int) ≤ 1 := by omega
        exact mp_iret ⟨⟨_, rfl, u6⟩, hT, hK, trivial⟩ dX2_takeCreases_82 (Or.inr ⟨rfl, by decide⟩)
  · have c1 : v4.toInt ≥ 0 := ti_lt_n c1
    refine mp_a (a_iload_n dX2_takeCreases_25 rfl) (mpp 26 rfl ?_)
    refine mp_Tb (t := 43) (j_if_eq dX2_takeCreases_26) (by decide) (fun c7 => ?_) (fun c7 => mpp 29 rfl ?_)
    · have c7 : v2.toInt = 0 := ti_eq c7
      refine mp_a (a_iconst (v := 0) dX2_takeCreases_43 rfl) (mpp 44 rfl ?_)
      refine mp_a (a_istore_n (L' := [(2, .int 0), (0, .ref a0_), (1, .int t1), (3, .int v3), (4, .int v4)]) dX2_takeCreases_44 (by decide) rfl) (mpp 45 rfl ?_)
      refine mp_a (a_aload_n dX2_takeCreases_45 rfl) (mpp 46 rfl ?_)
      refine mt_getR (i := 15) (k := 4) hT dX2_takeCreases_46 rfl ha0 (by decide) rfl (by decide) rfl (fun q8 => mpp 49 rfl ?_)
      generalize rv P a0_ 4 = b9 at q8 ⊢
      refine mp_a (a_iload dX2_takeCreases_49 rfl) (mpp 51 rfl ?_)
      refine mp_a (a_iload_n dX2_takeCreases_51 rfl) (mpp 52 rfl ?_)
      refine mp_a (a_bipush (v := 10) dX2_takeCreases_52 rfl) (mpp 54 rfl ?_)
      obtain ⟨z10, h11⟩ := ti_ex (v3 - v3 / 10 * 10 : Int32)
      have wz10 := ti_full z10
      try have e12 : 0 ≤ z10.toInt ∧ z10.toInt < 10 := ti_rem h11 (show (0 : Int) ≤ v3.toInt by omega) (show (0 : Int) < 10 by omega)
      refine mp_t (s_irem (v := z10) dX2_takeCreases_54 (by decide) h11) (mpp 55 rfl ?_)
      refine mp_calls (i := 29) (q' := q_22) (As := [.ref b9, .int v4, .int z10]) (rest := []) dX2_takeCreases_55 rfl qm_22 (by decide) rfl (Nat.le_of_ble_eq_true rfl) rfl ⟨rfl, rfl⟩ ⟨Nat.le_of_ble_eq_true rfl, Nat.le_of_ble_eq_true rfl⟩ (EvP.mono (by decide) (c_F_put_creases hT q8)) (fun r13 P14 g15 => mpp 58 rfl ?_)
      obtain ⟨⟨rfl, g17⟩, hT18, k19, R20⟩ := g15
      have k21 : KW [320] Po P14 := KW.trans hK k19 rfl
      show MEvP _ none q_24 58 [(2, .int 0), (0, .ref a0_), (1, .int t1), (3, .int v3), (4, .int v4)] [] _ _ _ _
      refine mp_a (a_iload_n dX2_takeCreases_58 rfl) (mpp 59 rfl ?_)
      refine mp_a (a_bipush (v := 10) dX2_takeCreases_59 rfl) (mpp 61 rfl ?_)
      obtain ⟨z22, h23⟩ := ti_ex (v3 / 10 : Int32)
      have wz22 := ti_full z22
      try have e24 : z22.toInt = v3.toInt / 10 := ti_div h23 (show (0 : Int) ≤ v3.toInt by omega) (show (0 : Int) < 10 by omega)
      refine mp_t (s_idiv (v := z22) dX2_takeCreases_61 (by decide) h23) (mpp 62 rfl ?_)
      refine mp_a (a_istore_n (L' := [(3, .int z22), (2, .int 0), (0, .ref a0_), (1, .int t1), (4, .int v4)]) dX2_takeCreases_62 (by decide) rfl) (mpp 63 rfl ?_)
      obtain ⟨z25, h26⟩ := ti_ex (v4 + (-1) : Int32)
      have wz25 := ti_full z25
      refine mp_a (a_iinc (v := z25) (L' := [(4, .int z25), (3, .int z22), (2, .int 0), (0, .ref a0_), (1, .int t1)]) dX2_takeCreases_63 (by decide) rfl h26 rfl) (mpp 66 rfl ?_)
      try have e27 : z25.toInt = v4.toInt + (-1) := ti_addz h26 rfl rfl (by omega) (by omega)
      refine mp_a (a_goto (t := 20) dX2_takeCreases_66 (by decide)) ?_
      refine MEvP.less (L := [(0, .ref a0_), (1, .int t1), (2, .int 0), (3, .int z22), (4, .int z25)]) rfl rfl ⟨rfl, rfl, rfl, rfl, rfl, trivial⟩ ?_
      exact ih _ (by omega) _ _ _ P14 hT18 k21 rfl
    · have c7 : v2.toInt ≠ 0 := ti_eq_n c7
      refine mp_a (a_iload_n dX2_takeCreases_29 rfl) (mpp 30 rfl ?_)
      refine mp_a (a_bipush (v := 10) dX2_takeCreases_30 rfl) (mpp 32 rfl ?_)
      obtain ⟨z28, h29⟩ := ti_ex (v3 - v3 / 10 * 10 : Int32)
      have wz28 := ti_full z28
      try have e30 : 0 ≤ z28.toInt ∧ z28.toInt < 10 := ti_rem h29 (show (0 : Int) ≤ v3.toInt by omega) (show (0 : Int) < 10 by omega)
      refine mp_t (s_irem (v := z28) dX2_takeCreases_32 (by decide) h29) (mpp 33 rfl ?_)
      refine mp_calls (i := 40) (q' := q_26) (As := [.int z28]) (rest := []) dX2_takeCreases_33 rfl qm_26 (by decide) rfl (Nat.le_of_ble_eq_true rfl) rfl ⟨rfl, rfl⟩ ⟨Nat.le_of_ble_eq_true rfl, Nat.le_of_ble_eq_true rfl⟩ (EvP.mono (by decide) (c_F_isCreaseKind hT )) (fun r31 P32 g33 => mpp 36 rfl ?_)
      obtain ⟨⟨x34, rfl, g35⟩, e36⟩ := g33
      have e36 := e36.symm
      subst e36
      have wx34 := ti_full x34
      have g35 : 0 ≤ x34.toInt ∧ x34.toInt ≤ 1 := g35
      show MEvP _ none q_24 36 [(0, .ref a0_), (1, .int t1), (2, .int v2), (3, .int v3), (4, .int v4)] [.int x34] _ _ _ _
      refine mp_Tb (t := 43) (j_if_eq dX2_takeCreases_36) (by decide) (fun c37 => ?_) (fun c37 => mpp 39 rfl ?_)
      · have c37 : x34.toInt = 0 := ti_eq c37
        refine mp_a (a_iconst (v := 0) dX2_takeCreases_43 rfl) (mpp 44 rfl ?_)
        refine mp_a (a_istore_n (L' := [(2, .int 0), (0, .ref a0_), (1, .int t1), (3, .int v3), (4, .int v4)]) dX2_takeCreases_44 (by decide) rfl) (mpp 45 rfl ?_)
        refine mp_a (a_aload_n dX2_takeCreases_45 rfl) (mpp 46 rfl ?_)
        refine mt_getR (i := 15) (k := 4) hT dX2_takeCreases_46 rfl ha0 (by decide) rfl (by decide) rfl (fun q38 => mpp 49 rfl ?_)
        generalize rv P a0_ 4 = b39 at q38 ⊢
        refine mp_a (a_iload dX2_takeCreases_49 rfl) (mpp 51 rfl ?_)
        refine mp_a (a_iload_n dX2_takeCreases_51 rfl) (mpp 52 rfl ?_)
        refine mp_a (a_bipush (v := 10) dX2_takeCreases_52 rfl) (mpp 54 rfl ?_)
        obtain ⟨z40, h41⟩ := ti_ex (v3 - v3 / 10 * 10 : Int32)
        have wz40 := ti_full z40
        try have e42 : 0 ≤ z40.toInt ∧ z40.toInt < 10 := ti_rem h41 (show (0 : Int) ≤ v3.toInt by omega) (show (0 : Int) < 10 by omega)
        refine mp_t (s_irem (v := z40) dX2_takeCreases_54 (by decide) h41) (mpp 55 rfl ?_)
        refine mp_calls (i := 29) (q' := q_22) (As := [.ref b39, .int v4, .int z40]) (rest := []) dX2_takeCreases_55 rfl qm_22 (by decide) rfl (Nat.le_of_ble_eq_true rfl) rfl ⟨rfl, rfl⟩ ⟨Nat.le_of_ble_eq_true rfl, Nat.le_of_ble_eq_true rfl⟩ (EvP.mono (by decide) (c_F_put_creases hT q38)) (fun r43 P44 g45 => mpp 58 rfl ?_)
        obtain ⟨⟨rfl, g47⟩, hT48, k49, R50⟩ := g45
        have k51 : KW [320] Po P44 := KW.trans hK k49 rfl
        show MEvP _ none q_24 58 [(2, .int 0), (0, .ref a0_), (1, .int t1), (3, .int v3), (4, .int v4)] [] _ _ _ _
        refine mp_a (a_iload_n dX2_takeCreases_58 rfl) (mpp 59 rfl ?_)
        refine mp_a (a_bipush (v := 10) dX2_takeCreases_59 rfl) (mpp 61 rfl ?_)
        obtain ⟨z52, h53⟩ := ti_ex (v3 / 10 : Int32)
        have wz52 := ti_full z52
        try have e54 : z52.toInt = v3.toInt / 10 := ti_div h53 (show (0 : Int) ≤ v3.toInt by omega) (show (0 : Int) < 10 by omega)
        refine mp_t (s_idiv (v := z52) dX2_takeCreases_61 (by decide) h53) (mpp 62 rfl ?_)
        refine mp_a (a_istore_n (L' := [(3, .int z52), (2, .int 0), (0, .ref a0_), (1, .int t1), (4, .int v4)]) dX2_takeCreases_62 (by decide) rfl) (mpp 63 rfl ?_)
        obtain ⟨z55, h56⟩ := ti_ex (v4 + (-1) : Int32)
        have wz55 := ti_full z55
        refine mp_a (a_iinc (v := z55) (L' := [(4, .int z55), (3, .int z52), (2, .int 0), (0, .ref a0_), (1, .int t1)]) dX2_takeCreases_63 (by decide) rfl h56 rfl) (mpp 66 rfl ?_)
        try have e57 : z55.toInt = v4.toInt + (-1) := ti_addz h56 rfl rfl (by omega) (by omega)
        refine mp_a (a_goto (t := 20) dX2_takeCreases_66 (by decide)) ?_
        refine MEvP.less (L := [(0, .ref a0_), (1, .int t1), (2, .int 0), (3, .int z52), (4, .int z55)]) rfl rfl ⟨rfl, rfl, rfl, rfl, rfl, trivial⟩ ?_
        exact ih _ (by omega) _ _ _ P44 hT48 k51 rfl
      · have c37 : x34.toInt ≠ 0 := ti_eq_n c37
        refine mp_a (a_iconst (v := 1) dX2_takeCreases_39 rfl) (mpp 40 rfl ?_)
        refine mp_a (a_goto (t := 44) dX2_takeCreases_40 (by decide)) ?_
        refine mp_a (a_istore_n (L' := [(2, .int 1), (0, .ref a0_), (1, .int t1), (3, .int v3), (4, .int v4)]) dX2_takeCreases_44 (by decide) rfl) (mpp 45 rfl ?_)
        refine mp_a (a_aload_n dX2_takeCreases_45 rfl) (mpp 46 rfl ?_)
        refine mt_getR (i := 15) (k := 4) hT dX2_takeCreases_46 rfl ha0 (by decide) rfl (by decide) rfl (fun q58 => mpp 49 rfl ?_)
        generalize rv P a0_ 4 = b59 at q58 ⊢
        refine mp_a (a_iload dX2_takeCreases_49 rfl) (mpp 51 rfl ?_)
        refine mp_a (a_iload_n dX2_takeCreases_51 rfl) (mpp 52 rfl ?_)
        refine mp_a (a_bipush (v := 10) dX2_takeCreases_52 rfl) (mpp 54 rfl ?_)
        obtain ⟨z60, h61⟩ := ti_ex (v3 - v3 / 10 * 10 : Int32)
        have wz60 := ti_full z60
        try have e62 : 0 ≤ z60.toInt ∧ z60.toInt < 10 := ti_rem h61 (show (0 : Int) ≤ v3.toInt by omega) (show (0 : Int) < 10 by omega)
        refine mp_t (s_irem (v := z60) dX2_takeCreases_54 (by decide) h61) (mpp 55 rfl ?_)
        refine mp_calls (i := 29) (q' := q_22) (As := [.ref b59, .int v4, .int z60]) (rest := []) dX2_takeCreases_55 rfl qm_22 (by decide) rfl (Nat.le_of_ble_eq_true rfl) rfl ⟨rfl, rfl⟩ ⟨Nat.le_of_ble_eq_true rfl, Nat.le_of_ble_eq_true rfl⟩ (EvP.mono (by decide) (c_F_put_creases hT q58)) (fun r63 P64 g65 => mpp 58 rfl ?_)
        obtain ⟨⟨rfl, g67⟩, hT68, k69, R70⟩ := g65
        have k71 : KW [320] Po P64 := KW.trans hK k69 rfl
        show MEvP _ none q_24 58 [(2, .int 1), (0, .ref a0_), (1, .int t1), (3, .int v3), (4, .int v4)] [] _ _ _ _
        refine mp_a (a_iload_n dX2_takeCreases_58 rfl) (mpp 59 rfl ?_)
        refine mp_a (a_bipush (v := 10) dX2_takeCreases_59 rfl) (mpp 61 rfl ?_)
        obtain ⟨z72, h73⟩ := ti_ex (v3 / 10 : Int32)
        have wz72 := ti_full z72
        try have e74 : z72.toInt = v3.toInt / 10 := ti_div h73 (show (0 : Int) ≤ v3.toInt by omega) (show (0 : Int) < 10 by omega)
        refine mp_t (s_idiv (v := z72) dX2_takeCreases_61 (by decide) h73) (mpp 62 rfl ?_)
        refine mp_a (a_istore_n (L' := [(3, .int z72), (2, .int 1), (0, .ref a0_), (1, .int t1), (4, .int v4)]) dX2_takeCreases_62 (by decide) rfl) (mpp 63 rfl ?_)
        obtain ⟨z75, h76⟩ := ti_ex (v4 + (-1) : Int32)
        have wz75 := ti_full z75
        refine mp_a (a_iinc (v := z75) (L' := [(4, .int z75), (3, .int z72), (2, .int 1), (0, .ref a0_), (1, .int t1)]) dX2_takeCreases_63 (by decide) rfl h76 rfl) (mpp 66 rfl ?_)
        try have e77 : z75.toInt = v4.toInt + (-1) := ti_addz h76 rfl rfl (by omega) (by omega)
        refine mp_a (a_goto (t := 20) dX2_takeCreases_66 (by decide)) ?_
        refine MEvP.less (L := [(0, .ref a0_), (1, .int t1), (2, .int 1), (3, .int z72), (4, .int z75)]) rfl rfl ⟨rfl, rfl, rfl, rfl, rfl, trivial⟩ ?_
        exact ih _ (by omega) _ _ _ P64 hT68 k71 rfl

set_option maxHeartbeats 4000000 in
theorem c_CP_takeCreases_Piece {Po : mP} {a0_ : Nat} {t1 : Int32} (hT : Typ Po)  (ha0 : rl a0_ = 3) : EvP 2 24 [.ref a0_, .int t1] Po (fun r P' => (∃ x : Int32, r = some (.int x) ∧ (0 ≤ x.toInt ∧ x.toInt ≤ 1)) ∧ Typ P' ∧ KW [320] Po P' ∧ True) := by
  refine EvP.of qm_24 (Nat.le_of_ble_eq_true rfl) rfl ?_
  show MEvP _ none q_24 0 [(0, .ref a0_), (1, .int t1)] [] _ 0 0 _
  refine mp_a (a_iload_n dX2_takeCreases_0 rfl) (mpp 1 rfl ?_)
  refine mp_Tb (t := 8) (j_if_lt dX2_takeCreases_1) (by decide) (fun c1 => ?_) (fun c1 => mpp 4 rfl ?_)
  · have c1 : t1.toInt < 0 := ti_lt c1
    refine mp_a (a_iconst (v := 0) dX2_takeCreases_8 rfl) (mpp 9 rfl ?_)
    refine mp_a (a_istore_n (L' := [(2, .int 0), (0, .ref a0_), (1, .int t1)]) dX2_takeCreases_9 (by decide) rfl) (mpp 10 rfl ?_)
    refine mp_a (a_iload_n dX2_takeCreases_10 rfl) (mpp 11 rfl ?_)
    refine mp_a (a_istore_n (L' := [(3, .int t1), (2, .int 0), (0, .ref a0_), (1, .int t1)]) dX2_takeCreases_11 (by decide) rfl) (mpp 12 rfl ?_)
    refine mp_a (a_aload_n dX2_takeCreases_12 rfl) (mpp 13 rfl ?_)
    refine mt_callv (i := 37) (q' := q_25) (As := []) (rest := []) hT dX2_takeCreases_13 rfl qm_25 (by decide) rfl ha0 (by decide) rfl (Nat.le_of_ble_eq_true rfl) rfl ⟨rfl, rfl⟩ ⟨Nat.le_of_ble_eq_true rfl, Nat.le_of_ble_eq_true rfl⟩ (EvP.mono (by decide) (c_CP_creaseCount_Piece hT ha0)) (fun r2 P3 g4 => mpp 16 rfl ?_)
    obtain ⟨⟨x5, rfl, g6⟩, e7⟩ := g4
    have e7 := e7.symm
    subst e7
    have wx5 := ti_full x5
    have g6 : -1 ≤ x5.toInt ∧ x5.toInt ≤ (fv Po a0_ 1).toInt := g6
    have g8 : (0 : Int) ≤ (fv Po a0_ 1).toInt ∧ (fv Po a0_ 1).toInt ≤ 8 := Typ.rng hT ha0 (by decide) (by decide) rfl
    show MEvP _ none q_24 16 [(3, .int t1), (2, .int 0), (0, .ref a0_), (1, .int t1)] [.int x5] _ _ _ _
    refine mp_a (a_iconst (v := 1) dX2_takeCreases_16 rfl) (mpp 17 rfl ?_)
    obtain ⟨z9, h10⟩ := ti_ex (x5 - 1 : Int32)
    have wz9 := ti_full z9
    refine mp_t (s_isub (v := z9) dX2_takeCreases_17 h10) (mpp 18 rfl ?_)
    try have e11 : z9.toInt = x5.toInt - 1 := ti_subz h10 rfl rfl (by omega) (by omega)
    refine mp_a (a_istore (L' := [(4, .int z9), (3, .int t1), (2, .int 0), (0, .ref a0_), (1, .int t1)]) dX2_takeCreases_18 (by decide) rfl) (mpp 20 rfl ?_)
    refine MEvP.less (L := [(0, .ref a0_), (1, .int t1), (2, .int 0), (3, .int t1), (4, .int z9)]) rfl rfl ⟨rfl, rfl, rfl, rfl, rfl, trivial⟩ ?_
    exact c_CP_takeCreases_Piece_l20  ha0 _ _ _ _ Po hT KW.refl rfl
  · have c1 : t1.toInt ≥ 0 := ti_lt_n c1
    refine mp_a (a_iconst (v := 1) dX2_takeCreases_4 rfl) (mpp 5 rfl ?_)
    refine mp_a (a_goto (t := 9) dX2_takeCreases_5 (by decide)) ?_
    refine mp_a (a_istore_n (L' := [(2, .int 1), (0, .ref a0_), (1, .int t1)]) dX2_takeCreases_9 (by decide) rfl) (mpp 10 rfl ?_)
    refine mp_a (a_iload_n dX2_takeCreases_10 rfl) (mpp 11 rfl ?_)
    refine mp_a (a_istore_n (L' := [(3, .int t1), (2, .int 1), (0, .ref a0_), (1, .int t1)]) dX2_takeCreases_11 (by decide) rfl) (mpp 12 rfl ?_)
    refine mp_a (a_aload_n dX2_takeCreases_12 rfl) (mpp 13 rfl ?_)
    refine mt_callv (i := 37) (q' := q_25) (As := []) (rest := []) hT dX2_takeCreases_13 rfl qm_25 (by decide) rfl ha0 (by decide) rfl (Nat.le_of_ble_eq_true rfl) rfl ⟨rfl, rfl⟩ ⟨Nat.le_of_ble_eq_true rfl, Nat.le_of_ble_eq_true rfl⟩ (EvP.mono (by decide) (c_CP_creaseCount_Piece hT ha0)) (fun r12 P13 g14 => mpp 16 rfl ?_)
    obtain ⟨⟨x15, rfl, g16⟩, e17⟩ := g14
    have e17 := e17.symm
    subst e17
    have wx15 := ti_full x15
    have g16 : -1 ≤ x15.toInt ∧ x15.toInt ≤ (fv Po a0_ 1).toInt := g16
    have g18 : (0 : Int) ≤ (fv Po a0_ 1).toInt ∧ (fv Po a0_ 1).toInt ≤ 8 := Typ.rng hT ha0 (by decide) (by decide) rfl
    show MEvP _ none q_24 16 [(3, .int t1), (2, .int 1), (0, .ref a0_), (1, .int t1)] [.int x15] _ _ _ _
    refine mp_a (a_iconst (v := 1) dX2_takeCreases_16 rfl) (mpp 17 rfl ?_)
    obtain ⟨z19, h20⟩ := ti_ex (x15 - 1 : Int32)
    have wz19 := ti_full z19
    refine mp_t (s_isub (v := z19) dX2_takeCreases_17 h20) (mpp 18 rfl ?_)
    try have e21 : z19.toInt = x15.toInt - 1 := ti_subz h20 rfl rfl (by omega) (by omega)
    refine mp_a (a_istore (L' := [(4, .int z19), (3, .int t1), (2, .int 1), (0, .ref a0_), (1, .int t1)]) dX2_takeCreases_18 (by decide) rfl) (mpp 20 rfl ?_)
    refine MEvP.less (L := [(0, .ref a0_), (1, .int t1), (2, .int 1), (3, .int t1), (4, .int z19)]) rfl rfl ⟨rfl, rfl, rfl, rfl, rfl, trivial⟩ ?_
    exact c_CP_takeCreases_Piece_l20  ha0 _ _ _ _ Po hT KW.refl rfl

set_option maxHeartbeats 4000000 in
theorem c_CP_copyFrom_NPiece_Piece {Po : mP} {a0_ : Nat} {a1_ : Nat} (hT : Typ Po)  (ha0 : rl a0_ = 33) (ha1 : rl a1_ = 3) : EvP 2 18 [.ref a0_, .ref a1_] Po (fun r P' => (r = none ∧ (True)) ∧ Typ P' ∧ KW [256, 320, 2112, 2113, 2114] Po P' ∧ True) := by
  refine EvP.of qm_18 (Nat.le_of_ble_eq_true rfl) rfl ?_
  show MEvP _ none q_18 0 [(0, .ref a0_), (1, .ref a1_)] [] _ 0 0 _
  refine mp_a (a_aload_n dX2_copyFrom_0 rfl) (mpp 1 rfl ?_)
  refine mp_a (a_aload_n dX2_copyFrom_1 rfl) (mpp 2 rfl ?_)
  have g1 := ti_full (fv Po a1_ 0)
  refine mt_getI (i := 18) (k := 0) hT dX2_copyFrom_2 rfl ha1 (by decide) rfl (by decide) rfl (fun g2 g3 => mpp 5 rfl ?_)
  refine mt_putI (i := 18) (k := 0) (x := (fv Po a1_ 0)) hT dX2_copyFrom_5 rfl ha0 (by decide) rfl (by decide) rfl (ti_full (fv Po a1_ 0)) rfl rfl (fun P4 hT5 f6 f7 => mpp 8 rfl ?_)
  have k8 : KW [256, 320, 2112, 2113, 2114] Po P4 := KW.step KW.refl ha0 rfl f7
  have e9 : (fv P4 a0_ 0).toInt = (fv Po a1_ 0).toInt := congrArg Int32.toInt f6
  refine mp_a (a_aload_n dX2_copyFrom_8 rfl) (mpp 9 rfl ?_)
  refine mp_a (a_aload_n dX2_copyFrom_9 rfl) (mpp 10 rfl ?_)
  have g10 : (0 : Int) ≤ (fv P4 a1_ 1).toInt ∧ (fv P4 a1_ 1).toInt ≤ 8 := Typ.rng hT5 ha1 (by decide) (by decide) rfl
  refine mt_getI (i := 26) (k := 1) hT5 dX2_copyFrom_10 rfl ha1 (by decide) rfl (by decide) rfl (fun g11 g12 => mpp 13 rfl ?_)
  refine mt_putI (i := 26) (k := 1) (x := (fv P4 a1_ 1)) hT5 dX2_copyFrom_13 rfl ha0 (by decide) rfl (by decide) rfl ⟨by omega, by omega⟩ rfl rfl (fun P13 hT14 f15 f16 => mpp 16 rfl ?_)
  have k17 : KW [256, 320, 2112, 2113, 2114] Po P13 := KW.step k8 ha0 rfl f16
  have e18 : (fv P13 a0_ 1).toInt = (fv P4 a1_ 1).toInt := congrArg Int32.toInt f15
  refine mp_a (a_aload_n dX2_copyFrom_16 rfl) (mpp 17 rfl ?_)
  refine mp_a (a_aload_n dX2_copyFrom_17 rfl) (mpp 18 rfl ?_)
  have g19 : (0 : Int) ≤ (fv P13 a1_ 2).toInt ∧ (fv P13 a1_ 2).toInt ≤ 1 := Typ.rng hT14 ha1 (by decide) (by decide) rfl
  refine mt_getI (i := 22) (k := 2) hT14 dX2_copyFrom_18 rfl ha1 (by decide) rfl (by decide) rfl (fun g20 g21 => mpp 21 rfl ?_)
  refine mt_putI (i := 22) (k := 2) (x := (fv P13 a1_ 2)) hT14 dX2_copyFrom_21 rfl ha0 (by decide) rfl (by decide) rfl ⟨by omega, by omega⟩ (ti_fit (by omega)) rfl (fun P22 hT23 f24 f25 => mpp 24 rfl ?_)
  have k26 : KW [256, 320, 2112, 2113, 2114] Po P22 := KW.step k17 ha0 rfl f25
  have e27 : (fv P22 a0_ 2).toInt = (fv P13 a1_ 2).toInt := congrArg Int32.toInt f24
  refine mp_a (a_aload_n dX2_copyFrom_24 rfl) (mpp 25 rfl ?_)
  refine mt_getR (i := 9) (k := 3) hT23 dX2_copyFrom_25 rfl ha1 (by decide) rfl (by decide) rfl (fun q28 => mpp 28 rfl ?_)
  generalize rv P22 a1_ 3 = b29 at q28 ⊢
  refine mp_a (a_aload_n dX2_copyFrom_28 rfl) (mpp 29 rfl ?_)
  refine mt_getR (i := 9) (k := 3) hT23 dX2_copyFrom_29 rfl ha0 (by decide) rfl (by decide) rfl (fun q30 => mpp 32 rfl ?_)
  generalize rv P22 a0_ 3 = b31 at q30 ⊢
  refine mp_calls (i := 44) (q' := q_19) (As := [.ref b29, .ref b31]) (rest := []) dX2_copyFrom_32 rfl qm_19 (by decide) rfl (Nat.le_of_ble_eq_true rfl) rfl ⟨rfl, rfl⟩ ⟨Nat.le_of_ble_eq_true rfl, Nat.le_of_ble_eq_true rfl⟩ (EvP.mono (by decide) (c_F_copyRow_sizes_sizes hT23 q28 q30)) (fun r32 P33 g34 => mpp 35 rfl ?_)
  obtain ⟨⟨rfl, g36⟩, hT37, k38, R39⟩ := g34
  have k40 : KW [256, 320, 2112, 2113, 2114] Po P33 := KW.trans k26 k38 rfl
  show MEvP _ none q_18 35 [(0, .ref a0_), (1, .ref a1_)] [] _ _ _ _
  refine mp_a (a_aload_n dX2_copyFrom_35 rfl) (mpp 36 rfl ?_)
  refine mt_getR (i := 15) (k := 4) hT37 dX2_copyFrom_36 rfl ha1 (by decide) rfl (by decide) rfl (fun q41 => mpp 39 rfl ?_)
  generalize rv P33 a1_ 4 = b42 at q41 ⊢
  refine mp_a (a_aload_n dX2_copyFrom_39 rfl) (mpp 40 rfl ?_)
  refine mt_getR (i := 15) (k := 4) hT37 dX2_copyFrom_40 rfl ha0 (by decide) rfl (by decide) rfl (fun q43 => mpp 43 rfl ?_)
  generalize rv P33 a0_ 4 = b44 at q43 ⊢
  refine mp_calls (i := 44) (q' := q_19) (As := [.ref b42, .ref b44]) (rest := []) dX2_copyFrom_43 rfl qm_19 (by decide) rfl (Nat.le_of_ble_eq_true rfl) rfl ⟨rfl, rfl⟩ ⟨Nat.le_of_ble_eq_true rfl, Nat.le_of_ble_eq_true rfl⟩ (EvP.mono (by decide) (c_F_copyRow_creases_creases hT37 q41 q43)) (fun r45 P46 g47 => mpp 46 rfl ?_)
  obtain ⟨⟨rfl, g49⟩, hT50, k51, R52⟩ := g47
  have k53 : KW [256, 320, 2112, 2113, 2114] Po P46 := KW.trans k40 k51 rfl
  show MEvP _ none q_18 46 [(0, .ref a0_), (1, .ref a1_)] [] _ _ _ _
  exact mp_ret ⟨⟨rfl, trivial⟩, hT50, k53, trivial⟩ dX2_copyFrom_46 rfl

set_option maxHeartbeats 4000000 in
theorem c_CS_addCopyOf_NState_Piece {Po : mP} {a1_ : Nat} (hT : Typ Po)  (ha1 : rl a1_ = 3) : EvP 3 27 [.ref 1, .ref a1_] Po (fun r P' => (r = none ∧ (True)) ∧ Typ P' ∧ KW [256, 320, 1985, 2112, 2113, 2114] Po P' ∧ True) := by
  refine EvP.of qm_27 (Nat.le_of_ble_eq_true rfl) rfl ?_
  show MEvP _ none q_27 0 [(0, .ref 1), (1, .ref a1_)] [] _ 0 0 _
  refine mp_a (a_aload_n dX5_addCopyOf_0 rfl) (mpp 1 rfl ?_)
  have g1 := ti_full (fv Po 1 1)
  refine mt_getI (i := 22) (k := 1) hT dX5_addCopyOf_1 rfl rl_1 (by decide) rfl (by decide) rfl (fun g2 g3 => mpp 4 rfl ?_)
  refine mp_a (a_aload_n dX5_addCopyOf_4 rfl) (mpp 5 rfl ?_)
  refine mt_getU (i := 11) (k := 0) (A := 2) hT dX5_addCopyOf_5 rfl rl_1 (by decide) rfl (by decide) rfl un_32 (mpp 8 rfl ?_)
  refine mt_len (n := 8) hT dX5_addCopyOf_8 rl_2 (by decide) (by decide) rfl (mpp 9 rfl ?_)
  refine mp_Tb (t := 13) (j_icmp_lt dX5_addCopyOf_9) (by decide) (fun c4 => ?_) (fun c4 => mpp 12 rfl ?_)
  · have c4 : (fv Po 1 1).toInt < 8 := ti_lt c4
    refine mp_a (a_aload_n dX5_addCopyOf_13 rfl) (mpp 14 rfl ?_)
    refine mp_t (s_dup dX5_addCopyOf_14 rfl) (mpp 15 rfl ?_)
    refine mt_getI (i := 22) (k := 1) hT dX5_addCopyOf_15 rfl rl_1 (by decide) rfl (by decide) rfl (fun g5 g6 => mpp 18 rfl ?_)
    refine mp_a (a_iconst (v := 1) dX5_addCopyOf_18 rfl) (mpp 19 rfl ?_)
    obtain ⟨z7, h8⟩ := ti_ex ((fv Po 1 1) + 1 : Int32)
    have wz7 := ti_full z7
    refine mp_t (s_iadd (v := z7) dX5_addCopyOf_19 h8) (mpp 20 rfl ?_)
    try have e9 : z7.toInt = (fv Po 1 1).toInt + 1 := ti_addz h8 rfl rfl (by omega) (by omega)
    refine mt_putI (i := 22) (k := 1) (x := z7) hT dX5_addCopyOf_20 rfl rl_1 (by decide) rfl (by decide) rfl (ti_full z7) rfl rfl (fun P10 hT11 f12 f13 => mpp 23 rfl ?_)
    have k14 : KW [256, 320, 1985, 2112, 2113, 2114] Po P10 := KW.step KW.refl rl_1 rfl f13
    have e15 : (fv P10 1 1).toInt = z7.toInt := congrArg Int32.toInt f12
    refine mp_a (a_aload_n dX5_addCopyOf_23 rfl) (mpp 24 rfl ?_)
    refine mp_a (a_aload_n dX5_addCopyOf_24 rfl) (mpp 25 rfl ?_)
    refine mt_getI (i := 22) (k := 1) hT11 dX5_addCopyOf_25 rfl rl_1 (by decide) rfl (by decide) rfl (fun g16 g17 => mpp 28 rfl ?_)
    refine mp_a (a_iconst (v := 1) dX5_addCopyOf_28 rfl) (mpp 29 rfl ?_)
    obtain ⟨z18, h19⟩ := ti_ex ((fv P10 1 1) - 1 : Int32)
    have wz18 := ti_full z18
    refine mp_t (s_isub (v := z18) dX5_addCopyOf_29 h19) (mpp 30 rfl ?_)
    try have e20 : z18.toInt = (fv P10 1 1).toInt - 1 := ti_subz h19 rfl rfl (by omega) (by omega)
    refine mt_callv (i := 28) (q' := q_9) (As := [.int z18]) (rest := []) hT11 dX5_addCopyOf_30 rfl qm_9 (by decide) rfl rl_1 (by decide) rfl (Nat.le_of_ble_eq_true rfl) rfl ⟨rfl, rfl⟩ ⟨Nat.le_of_ble_eq_true rfl, Nat.le_of_ble_eq_true rfl⟩ (EvP.mono (by decide) (c_CS_pieceAt_NState hT11 )) (fun r21 P22 g23 => mpp 33 rfl ?_)
    obtain ⟨g23, e24⟩ := g23
    have e24 := e24.symm
    subst e24
    rcases g23 with rfl | ⟨b25, rfl, q26, q26r⟩
    · show MEvP _ none q_27 33 [(0, .ref 1), (1, .ref a1_)] [.null] _ _ _ _
      refine mp_a (a_astore_nN (L' := [(2, .null), (0, .ref 1), (1, .ref a1_)]) dX5_addCopyOf_33 (by decide) rfl) (mpp 34 rfl ?_)
      refine mp_a (a_aload_nN dX5_addCopyOf_34 rfl) (mpp 35 rfl ?_)
      refine mp_t (s_ifnullN (t := 43) dX5_addCopyOf_35 (by decide)) ?_
      exact mp_ret ⟨⟨rfl, trivial⟩, hT11, k14, trivial⟩ dX5_addCopyOf_43 rfl
    · show MEvP _ none q_27 33 [(0, .ref 1), (1, .ref a1_)] [.ref b25] _ _ _ _
      refine mp_a (a_astore_n (L' := [(2, .ref b25), (0, .ref 1), (1, .ref a1_)]) dX5_addCopyOf_33 (by decide) rfl) (mpp 34 rfl ?_)
      refine mp_a (a_aload_n dX5_addCopyOf_34 rfl) (mpp 35 rfl ?_)
      refine mp_t (s_ifnullR dX5_addCopyOf_35) (mpp 38 rfl ?_)
      refine mp_a (a_aload_n dX5_addCopyOf_38 rfl) (mpp 39 rfl ?_)
      refine mp_a (a_aload_n dX5_addCopyOf_39 rfl) (mpp 40 rfl ?_)
      refine mt_callv (i := 32) (q' := q_18) (As := [.ref a1_]) (rest := []) hT11 dX5_addCopyOf_40 rfl qm_18 (by decide) rfl q26 (by decide) rfl (Nat.le_of_ble_eq_true rfl) rfl ⟨rfl, rfl⟩ ⟨Nat.le_of_ble_eq_true rfl, Nat.le_of_ble_eq_true rfl⟩ (EvP.mono (by decide) (c_CP_copyFrom_NPiece_Piece hT11 q26 ha1)) (fun r27 P28 g29 => mpp 43 rfl ?_)
      obtain ⟨⟨rfl, g31⟩, hT32, k33, R34⟩ := g29
      have k35 : KW [256, 320, 1985, 2112, 2113, 2114] Po P28 := KW.trans k14 k33 rfl
      show MEvP _ none q_27 43 [(2, .ref b25), (0, .ref 1), (1, .ref a1_)] [] _ _ _ _
      exact mp_ret ⟨⟨rfl, trivial⟩, hT32, k35, trivial⟩ dX5_addCopyOf_43 rfl
  · have c4 : (fv Po 1 1).toInt ≥ 8 := ti_lt_n c4
    exact mp_ret ⟨⟨rfl, trivial⟩, hT, KW.refl, trivial⟩ dX5_addCopyOf_12 rfl

set_option maxHeartbeats 4000000 in
theorem c_F_add {Po : mP} {t1 : Int32} {t2 : Int32} {t3 : Int32} (hT : Typ Po)   : EvP 5 20 [.ref 0, .int t1, .int t2, .int t3] Po (fun r P' => (∃ x : Int32, r = some (.int x) ∧ (True)) ∧ Typ P' ∧ KW [10, 11, 12, 65, 66, 67, 192, 193, 194, 256, 320, 385, 386, 1985, 2112, 2113, 2114] Po P' ∧ True) := by
  refine EvP.of qm_20 (Nat.le_of_ble_eq_true rfl) rfl ?_
  show MEvP _ none q_20 0 [(0, .ref 0), (1, .int t1), (2, .int t2), (3, .int t3)] [] _ 0 0 _
  refine mp_a (a_iload_n dX6_add_0 rfl) (mpp 1 rfl ?_)
  refine mp_Tb (t := 13) (j_if_eq dX6_add_1) (by decide) (fun c1 => ?_) (fun c1 => mpp 4 rfl ?_)
  · have c1 : t1.toInt = 0 := ti_eq c1
    refine mp_a (a_aload_n dX6_add_13 rfl) (mpp 14 rfl ?_)
    refine mt_getR (i := 53) (k := 7) hT dX6_add_14 rfl rl_0 (by decide) rfl (by decide) rfl (fun q2 => mpp 17 rfl ?_)
    generalize rv Po 0 7 = b3 at q2 ⊢
    refine mp_a (a_iload_n dX6_add_17 rfl) (mpp 18 rfl ?_)
    refine mp_a (a_iload_n dX6_add_18 rfl) (mpp 19 rfl ?_)
    refine mt_callv (i := 79) (q' := q_21) (As := [.int t1, .int t2]) (rest := []) hT dX6_add_19 rfl qm_21 (by decide) rfl q2 (by decide) rfl (Nat.le_of_ble_eq_true rfl) rfl ⟨rfl, rfl⟩ ⟨Nat.le_of_ble_eq_true rfl, Nat.le_of_ble_eq_true rfl⟩ (EvP.mono (by decide) (c_CP_takeSizes_Piece hT q2)) (fun r4 P5 g6 => mpp 22 rfl ?_)
    obtain ⟨⟨x7, rfl, g8⟩, hT9, k10, R11⟩ := g6
    have k12 : KW [10, 11, 12, 65, 66, 67, 192, 193, 194, 256, 320, 385, 386, 1985, 2112, 2113, 2114] Po P5 := KW.trans KW.refl k10 rfl
    have wx7 := ti_full x7
    have g8 : 0 ≤ x7.toInt ∧ x7.toInt ≤ 1 := g8
    show MEvP _ none q_20 22 [(0, .ref 0), (1, .int t1), (2, .int t2), (3, .int t3)] [.int x7] _ _ _ _
    refine mp_Tb (t := 36) (j_if_eq dX6_add_22) (by decide) (fun c13 => ?_) (fun c13 => mpp 25 rfl ?_)
    · have c13 : x7.toInt = 0 := ti_eq c13
      refine mp_a (a_sipush (v := -1002) dX6_add_36 rfl) (mpp 39 rfl ?_)
      exact mp_iret ⟨⟨_, rfl, trivial⟩, hT9, k12, trivial⟩ dX6_add_39 (Or.inl rfl)
    · have c13 : x7.toInt ≠ 0 := ti_eq_n c13
      refine mp_a (a_aload_n dX6_add_25 rfl) (mpp 26 rfl ?_)
      refine mt_getR (i := 53) (k := 7) hT9 dX6_add_26 rfl rl_0 (by decide) rfl (by decide) rfl (fun q14 => mpp 29 rfl ?_)
      generalize rv P5 0 7 = b15 at q14 ⊢
      refine mp_a (a_iload_n dX6_add_29 rfl) (mpp 30 rfl ?_)
      refine mt_callv (i := 83) (q' := q_24) (As := [.int t3]) (rest := []) hT9 dX6_add_30 rfl qm_24 (by decide) rfl q14 (by decide) rfl (Nat.le_of_ble_eq_true rfl) rfl ⟨rfl, rfl⟩ ⟨Nat.le_of_ble_eq_true rfl, Nat.le_of_ble_eq_true rfl⟩ (EvP.mono (by decide) (c_CP_takeCreases_Piece hT9 q14)) (fun r16 P17 g18 => mpp 33 rfl ?_)
      obtain ⟨⟨x19, rfl, g20⟩, hT21, k22, R23⟩ := g18
      have k24 : KW [10, 11, 12, 65, 66, 67, 192, 193, 194, 256, 320, 385, 386, 1985, 2112, 2113, 2114] Po P17 := KW.trans k12 k22 rfl
      have wx19 := ti_full x19
      have g20 : 0 ≤ x19.toInt ∧ x19.toInt ≤ 1 := g20
      show MEvP _ none q_20 33 [(0, .ref 0), (1, .int t1), (2, .int t2), (3, .int t3)] [.int x19] _ _ _ _
      refine mp_Tb (t := 40) (j_if_ne dX6_add_33) (by decide) (fun c25 => ?_) (fun c25 => mpp 36 rfl ?_)
      · have c25 : x19.toInt ≠ 0 := ti_ne c25
        refine mp_a (a_aload_n dX6_add_40 rfl) (mpp 41 rfl ?_)
        refine mt_getU (i := 10) (k := 0) (A := 1) hT21 dX6_add_41 rfl rl_0 (by decide) rfl (by decide) rfl un_31 (mpp 44 rfl ?_)
        have g26 := ti_full (fv P17 1 1)
        refine mt_getI (i := 87) (k := 1) hT21 dX6_add_44 rfl rl_1 (by decide) rfl (by decide) rfl (fun g27 g28 => mpp 47 rfl ?_)
        refine mp_a (a_bipush (v := 8) dX6_add_47 rfl) (mpp 49 rfl ?_)
        refine mp_Tb (t := 60) (j_icmp_lt dX6_add_49) (by decide) (fun c29 => ?_) (fun c29 => mpp 52 rfl ?_)
        · have c29 : (fv P17 1 1).toInt < 8 := ti_lt c29
          refine mp_a (a_aload_n dX6_add_60 rfl) (mpp 61 rfl ?_)
          refine mt_getU (i := 25) (k := 3) (A := 79) hT21 dX6_add_61 rfl rl_0 (by decide) rfl (by decide) rfl un_6 (mpp 64 rfl ?_)
          refine mp_a (a_aload_n dX6_add_64 rfl) (mpp 65 rfl ?_)
          refine mt_getU (i := 10) (k := 0) (A := 1) hT21 dX6_add_65 rfl rl_0 (by decide) rfl (by decide) rfl un_31 (mpp 68 rfl ?_)
          refine mt_callv (i := 72) (q' := q_15) (As := [.ref 1]) (rest := []) hT21 dX6_add_68 rfl qm_15 (by decide) rfl rl_79 (by decide) rfl (Nat.le_of_ble_eq_true rfl) rfl ⟨rfl, rfl⟩ ⟨Nat.le_of_ble_eq_true rfl, Nat.le_of_ble_eq_true rfl⟩ (EvP.mono (by decide) (c_CH_push_History_NState hT21 )) (fun r30 P31 g32 => mpp 71 rfl ?_)
          obtain ⟨⟨rfl, g34⟩, hT35, k36, R37⟩ := g32
          have k38 : KW [10, 11, 12, 65, 66, 67, 192, 193, 194, 256, 320, 385, 386, 1985, 2112, 2113, 2114] Po P31 := KW.trans k24 k36 rfl
          show MEvP _ none q_20 71 [(0, .ref 0), (1, .int t1), (2, .int t2), (3, .int t3)] [] _ _ _ _
          refine mp_a (a_aload_n dX6_add_71 rfl) (mpp 72 rfl ?_)
          refine mt_getU (i := 10) (k := 0) (A := 1) hT35 dX6_add_72 rfl rl_0 (by decide) rfl (by decide) rfl un_31 (mpp 75 rfl ?_)
          refine mp_a (a_aload_n dX6_add_75 rfl) (mpp 76 rfl ?_)
          refine mt_getR (i := 53) (k := 7) hT35 dX6_add_76 rfl rl_0 (by decide) rfl (by decide) rfl (fun q39 => mpp 79 rfl ?_)
          generalize rv P31 0 7 = b40 at q39 ⊢
          refine mt_callv (i := 90) (q' := q_27) (As := [.ref b40]) (rest := []) hT35 dX6_add_79 rfl qm_27 (by decide) rfl rl_1 (by decide) rfl (Nat.le_of_ble_eq_true rfl) rfl ⟨rfl, rfl⟩ ⟨Nat.le_of_ble_eq_true rfl, Nat.le_of_ble_eq_true rfl⟩ (EvP.mono (by decide) (c_CS_addCopyOf_NState_Piece hT35 q39)) (fun r41 P42 g43 => mpp 82 rfl ?_)
          obtain ⟨⟨rfl, g45⟩, hT46, k47, R48⟩ := g43
          have k49 : KW [10, 11, 12, 65, 66, 67, 192, 193, 194, 256, 320, 385, 386, 1985, 2112, 2113, 2114] Po P42 := KW.trans k38 k47 rfl
          show MEvP _ none q_20 82 [(0, .ref 0), (1, .int t1), (2, .int t2), (3, .int t3)] [] _ _ _ _
          refine mp_a (a_aload_n dX6_add_82 rfl) (mpp 83 rfl ?_)
          refine mt_getU (i := 10) (k := 0) (A := 1) hT46 dX6_add_83 rfl rl_0 (by decide) rfl (by decide) rfl un_31 (mpp 86 rfl ?_)
          have g50 := ti_full (fv P42 1 1)
          refine mt_getI (i := 87) (k := 1) hT46 dX6_add_86 rfl rl_1 (by decide) rfl (by decide) rfl (fun g51 g52 => mpp 89 rfl ?_)
          refine mp_a (a_iconst (v := 1) dX6_add_89 rfl) (mpp 90 rfl ?_)
          obtain ⟨z53, h54⟩ := ti_ex ((fv P42 1 1) - 1 : Int32)
          have wz53 := ti_full z53
          refine mp_t (s_isub (v := z53) dX6_add_90 h54) (mpp 91 rfl ?_)
          try have e55 : z53.toInt = (fv P42 1 1).toInt - 1 := ti_subz h54 rfl rfl (by omega) (by omega)
          exact mp_iret ⟨⟨_, rfl, trivial⟩, hT46, k49, trivial⟩ dX6_add_91 (Or.inl rfl)
        · have c29 : (fv P17 1 1).toInt ≥ 8 := ti_lt_n c29
          refine mp_a (a_aload_n dX6_add_52 rfl) (mpp 53 rfl ?_)
          refine mp_a (a_iconst (v := 1) dX6_add_53 rfl) (mpp 54 rfl ?_)
          refine mp_a (a_bipush (v := 8) dX6_add_54 rfl) (mpp 56 rfl ?_)
          refine mt_callv (i := 68) (q' := q_14) (As := [.int 1, .int 8]) (rest := []) hT21 dX6_add_56 rfl qm_14 (by decide) rfl rl_0 (by decide) rfl (Nat.le_of_ble_eq_true rfl) rfl ⟨rfl, rfl⟩ ⟨Nat.le_of_ble_eq_true rfl, Nat.le_of_ble_eq_true rfl⟩ (EvP.mono (by decide) (c_F_refuse hT21 )) (fun r56 P57 g58 => mpp 59 rfl ?_)
          obtain ⟨⟨x59, rfl, g60⟩, hT61, k62, R63⟩ := g58
          have k64 : KW [10, 11, 12, 65, 66, 67, 192, 193, 194, 256, 320, 385, 386, 1985, 2112, 2113, 2114] Po P57 := KW.trans k24 k62 rfl
          have wx59 := ti_full x59
          show MEvP _ none q_20 59 [(0, .ref 0), (1, .int t1), (2, .int t2), (3, .int t3)] [.int x59] _ _ _ _
          exact mp_iret ⟨⟨_, rfl, trivial⟩, hT61, k64, trivial⟩ dX6_add_59 (Or.inl rfl)
      · have c25 : x19.toInt = 0 := ti_ne_n c25
        refine mp_a (a_sipush (v := -1002) dX6_add_36 rfl) (mpp 39 rfl ?_)
        exact mp_iret ⟨⟨_, rfl, trivial⟩, hT21, k24, trivial⟩ dX6_add_39 (Or.inl rfl)
  · have c1 : t1.toInt ≠ 0 := ti_eq_n c1
    refine mp_a (a_iload_n dX6_add_4 rfl) (mpp 5 rfl ?_)
    refine mp_a (a_iconst (v := 1) dX6_add_5 rfl) (mpp 6 rfl ?_)
    refine mp_Tb (t := 13) (j_icmp_eq dX6_add_6) (by decide) (fun c65 => ?_) (fun c65 => mpp 9 rfl ?_)
    · have c65 : t1.toInt = 1 := ti_eq c65
      refine mp_a (a_aload_n dX6_add_13 rfl) (mpp 14 rfl ?_)
      refine mt_getR (i := 53) (k := 7) hT dX6_add_14 rfl rl_0 (by decide) rfl (by decide) rfl (fun q66 => mpp 17 rfl ?_)
      generalize rv Po 0 7 = b67 at q66 ⊢
      refine mp_a (a_iload_n dX6_add_17 rfl) (mpp 18 rfl ?_)
      refine mp_a (a_iload_n dX6_add_18 rfl) (mpp 19 rfl ?_)
      refine mt_callv (i := 79) (q' := q_21) (As := [.int t1, .int t2]) (rest := []) hT dX6_add_19 rfl qm_21 (by decide) rfl q66 (by decide) rfl (Nat.le_of_ble_eq_true rfl) rfl ⟨rfl, rfl⟩ ⟨Nat.le_of_ble_eq_true rfl, Nat.le_of_ble_eq_true rfl⟩ (EvP.mono (by decide) (c_CP_takeSizes_Piece hT q66)) (fun r68 P69 g70 => mpp 22 rfl ?_)
      obtain ⟨⟨x71, rfl, g72⟩, hT73, k74, R75⟩ := g70
      have k76 : KW [10, 11, 12, 65, 66, 67, 192, 193, 194, 256, 320, 385, 386, 1985, 2112, 2113, 2114] Po P69 := KW.trans KW.refl k74 rfl
      have wx71 := ti_full x71
      have g72 : 0 ≤ x71.toInt ∧ x71.toInt ≤ 1 := g72
      show MEvP _ none q_20 22 [(0, .ref 0), (1, .int t1), (2, .int t2), (3, .int t3)] [.int x71] _ _ _ _
      refine mp_Tb (t := 36) (j_if_eq dX6_add_22) (by decide) (fun c77 => ?_) (fun c77 => mpp 25 rfl ?_)
      · have c77 : x71.toInt = 0 := ti_eq c77
        refine mp_a (a_sipush (v := -1002) dX6_add_36 rfl) (mpp 39 rfl ?_)
        exact mp_iret ⟨⟨_, rfl, trivial⟩, hT73, k76, trivial⟩ dX6_add_39 (Or.inl rfl)
      · have c77 : x71.toInt ≠ 0 := ti_eq_n c77
        refine mp_a (a_aload_n dX6_add_25 rfl) (mpp 26 rfl ?_)
        refine mt_getR (i := 53) (k := 7) hT73 dX6_add_26 rfl rl_0 (by decide) rfl (by decide) rfl (fun q78 => mpp 29 rfl ?_)
        generalize rv P69 0 7 = b79 at q78 ⊢
        refine mp_a (a_iload_n dX6_add_29 rfl) (mpp 30 rfl ?_)
        refine mt_callv (i := 83) (q' := q_24) (As := [.int t3]) (rest := []) hT73 dX6_add_30 rfl qm_24 (by decide) rfl q78 (by decide) rfl (Nat.le_of_ble_eq_true rfl) rfl ⟨rfl, rfl⟩ ⟨Nat.le_of_ble_eq_true rfl, Nat.le_of_ble_eq_true rfl⟩ (EvP.mono (by decide) (c_CP_takeCreases_Piece hT73 q78)) (fun r80 P81 g82 => mpp 33 rfl ?_)
        obtain ⟨⟨x83, rfl, g84⟩, hT85, k86, R87⟩ := g82
        have k88 : KW [10, 11, 12, 65, 66, 67, 192, 193, 194, 256, 320, 385, 386, 1985, 2112, 2113, 2114] Po P81 := KW.trans k76 k86 rfl
        have wx83 := ti_full x83
        have g84 : 0 ≤ x83.toInt ∧ x83.toInt ≤ 1 := g84
        show MEvP _ none q_20 33 [(0, .ref 0), (1, .int t1), (2, .int t2), (3, .int t3)] [.int x83] _ _ _ _
        refine mp_Tb (t := 40) (j_if_ne dX6_add_33) (by decide) (fun c89 => ?_) (fun c89 => mpp 36 rfl ?_)
        · have c89 : x83.toInt ≠ 0 := ti_ne c89
          refine mp_a (a_aload_n dX6_add_40 rfl) (mpp 41 rfl ?_)
          refine mt_getU (i := 10) (k := 0) (A := 1) hT85 dX6_add_41 rfl rl_0 (by decide) rfl (by decide) rfl un_31 (mpp 44 rfl ?_)
          have g90 := ti_full (fv P81 1 1)
          refine mt_getI (i := 87) (k := 1) hT85 dX6_add_44 rfl rl_1 (by decide) rfl (by decide) rfl (fun g91 g92 => mpp 47 rfl ?_)
          refine mp_a (a_bipush (v := 8) dX6_add_47 rfl) (mpp 49 rfl ?_)
          refine mp_Tb (t := 60) (j_icmp_lt dX6_add_49) (by decide) (fun c93 => ?_) (fun c93 => mpp 52 rfl ?_)
          · have c93 : (fv P81 1 1).toInt < 8 := ti_lt c93
            refine mp_a (a_aload_n dX6_add_60 rfl) (mpp 61 rfl ?_)
            refine mt_getU (i := 25) (k := 3) (A := 79) hT85 dX6_add_61 rfl rl_0 (by decide) rfl (by decide) rfl un_6 (mpp 64 rfl ?_)
            refine mp_a (a_aload_n dX6_add_64 rfl) (mpp 65 rfl ?_)
            refine mt_getU (i := 10) (k := 0) (A := 1) hT85 dX6_add_65 rfl rl_0 (by decide) rfl (by decide) rfl un_31 (mpp 68 rfl ?_)
            refine mt_callv (i := 72) (q' := q_15) (As := [.ref 1]) (rest := []) hT85 dX6_add_68 rfl qm_15 (by decide) rfl rl_79 (by decide) rfl (Nat.le_of_ble_eq_true rfl) rfl ⟨rfl, rfl⟩ ⟨Nat.le_of_ble_eq_true rfl, Nat.le_of_ble_eq_true rfl⟩ (EvP.mono (by decide) (c_CH_push_History_NState hT85 )) (fun r94 P95 g96 => mpp 71 rfl ?_)
            obtain ⟨⟨rfl, g98⟩, hT99, k100, R101⟩ := g96
            have k102 : KW [10, 11, 12, 65, 66, 67, 192, 193, 194, 256, 320, 385, 386, 1985, 2112, 2113, 2114] Po P95 := KW.trans k88 k100 rfl
            show MEvP _ none q_20 71 [(0, .ref 0), (1, .int t1), (2, .int t2), (3, .int t3)] [] _ _ _ _
            refine mp_a (a_aload_n dX6_add_71 rfl) (mpp 72 rfl ?_)
            refine mt_getU (i := 10) (k := 0) (A := 1) hT99 dX6_add_72 rfl rl_0 (by decide) rfl (by decide) rfl un_31 (mpp 75 rfl ?_)
            refine mp_a (a_aload_n dX6_add_75 rfl) (mpp 76 rfl ?_)
            refine mt_getR (i := 53) (k := 7) hT99 dX6_add_76 rfl rl_0 (by decide) rfl (by decide) rfl (fun q103 => mpp 79 rfl ?_)
            generalize rv P95 0 7 = b104 at q103 ⊢
            refine mt_callv (i := 90) (q' := q_27) (As := [.ref b104]) (rest := []) hT99 dX6_add_79 rfl qm_27 (by decide) rfl rl_1 (by decide) rfl (Nat.le_of_ble_eq_true rfl) rfl ⟨rfl, rfl⟩ ⟨Nat.le_of_ble_eq_true rfl, Nat.le_of_ble_eq_true rfl⟩ (EvP.mono (by decide) (c_CS_addCopyOf_NState_Piece hT99 q103)) (fun r105 P106 g107 => mpp 82 rfl ?_)
            obtain ⟨⟨rfl, g109⟩, hT110, k111, R112⟩ := g107
            have k113 : KW [10, 11, 12, 65, 66, 67, 192, 193, 194, 256, 320, 385, 386, 1985, 2112, 2113, 2114] Po P106 := KW.trans k102 k111 rfl
            show MEvP _ none q_20 82 [(0, .ref 0), (1, .int t1), (2, .int t2), (3, .int t3)] [] _ _ _ _
            refine mp_a (a_aload_n dX6_add_82 rfl) (mpp 83 rfl ?_)
            refine mt_getU (i := 10) (k := 0) (A := 1) hT110 dX6_add_83 rfl rl_0 (by decide) rfl (by decide) rfl un_31 (mpp 86 rfl ?_)
            have g114 := ti_full (fv P106 1 1)
            refine mt_getI (i := 87) (k := 1) hT110 dX6_add_86 rfl rl_1 (by decide) rfl (by decide) rfl (fun g115 g116 => mpp 89 rfl ?_)
            refine mp_a (a_iconst (v := 1) dX6_add_89 rfl) (mpp 90 rfl ?_)
            obtain ⟨z117, h118⟩ := ti_ex ((fv P106 1 1) - 1 : Int32)
            have wz117 := ti_full z117
            refine mp_t (s_isub (v := z117) dX6_add_90 h118) (mpp 91 rfl ?_)
            try have e119 : z117.toInt = (fv P106 1 1).toInt - 1 := ti_subz h118 rfl rfl (by omega) (by omega)
            exact mp_iret ⟨⟨_, rfl, trivial⟩, hT110, k113, trivial⟩ dX6_add_91 (Or.inl rfl)
          · have c93 : (fv P81 1 1).toInt ≥ 8 := ti_lt_n c93
            refine mp_a (a_aload_n dX6_add_52 rfl) (mpp 53 rfl ?_)
            refine mp_a (a_iconst (v := 1) dX6_add_53 rfl) (mpp 54 rfl ?_)
            refine mp_a (a_bipush (v := 8) dX6_add_54 rfl) (mpp 56 rfl ?_)
            refine mt_callv (i := 68) (q' := q_14) (As := [.int 1, .int 8]) (rest := []) hT85 dX6_add_56 rfl qm_14 (by decide) rfl rl_0 (by decide) rfl (Nat.le_of_ble_eq_true rfl) rfl ⟨rfl, rfl⟩ ⟨Nat.le_of_ble_eq_true rfl, Nat.le_of_ble_eq_true rfl⟩ (EvP.mono (by decide) (c_F_refuse hT85 )) (fun r120 P121 g122 => mpp 59 rfl ?_)
            obtain ⟨⟨x123, rfl, g124⟩, hT125, k126, R127⟩ := g122
            have k128 : KW [10, 11, 12, 65, 66, 67, 192, 193, 194, 256, 320, 385, 386, 1985, 2112, 2113, 2114] Po P121 := KW.trans k88 k126 rfl
            have wx123 := ti_full x123
            show MEvP _ none q_20 59 [(0, .ref 0), (1, .int t1), (2, .int t2), (3, .int t3)] [.int x123] _ _ _ _
            exact mp_iret ⟨⟨_, rfl, trivial⟩, hT125, k128, trivial⟩ dX6_add_59 (Or.inl rfl)
        · have c89 : x83.toInt = 0 := ti_ne_n c89
          refine mp_a (a_sipush (v := -1002) dX6_add_36 rfl) (mpp 39 rfl ?_)
          exact mp_iret ⟨⟨_, rfl, trivial⟩, hT85, k88, trivial⟩ dX6_add_39 (Or.inl rfl)
    · have c65 : t1.toInt ≠ 1 := ti_eq_n c65
      refine mp_a (a_sipush (v := -1002) dX6_add_9 rfl) (mpp 12 rfl ?_)
      exact mp_iret ⟨⟨_, rfl, trivial⟩, hT, KW.refl, trivial⟩ dX6_add_12 (Or.inl rfl)

set_option maxHeartbeats 4000000 in
theorem c_CP_creaseCount_NPiece {Po : mP} {a0_ : Nat} (hT : Typ Po)  (ha0 : rl a0_ = 33) : EvP 1 25 [.ref a0_] Po (fun r P' => (∃ x : Int32, r = some (.int x) ∧ (-1 ≤ x.toInt ∧ x.toInt ≤ (fv Po a0_ 1).toInt)) ∧ P' = Po) := by
  refine EvP.of qm_25 (Nat.le_of_ble_eq_true rfl) rfl ?_
  show MEvP _ none q_25 0 [(0, .ref a0_)] [] _ 0 0 _
  have g1 : (0 : Int) ≤ (fv Po a0_ 1).toInt ∧ (fv Po a0_ 1).toInt ≤ 8 := Typ.rng hT ha0 (by decide) (by decide) rfl
  refine mp_a (a_aload_n dX2_creaseCount_0 rfl) (mpp 1 rfl ?_)
  have g2 := ti_full (fv Po a0_ 0)
  refine mt_getI (i := 18) (k := 0) hT dX2_creaseCount_1 rfl ha0 (by decide) rfl (by decide) rfl (fun g3 g4 => mpp 4 rfl ?_)
  refine mp_Tb (t := 16) (j_if_ne dX2_creaseCount_4) (by decide) (fun c5 => ?_) (fun c5 => mpp 7 rfl ?_)
  · have c5 : (fv Po a0_ 0).toInt ≠ 0 := ti_ne c5
    refine mp_a (a_aload_n dX2_creaseCount_16 rfl) (mpp 17 rfl ?_)
    refine mt_getI (i := 26) (k := 1) hT dX2_creaseCount_17 rfl ha0 (by decide) rfl (by decide) rfl (fun g6 g7 => mpp 20 rfl ?_)
    have u8 : -1 ≤ (fv Po a0_ 1).toInt ∧ (fv Po a0_ 1).toInt ≤ (fv Po a0_ 1).toInt := by omega
    exact mp_iret ⟨⟨_, rfl, u8⟩, rfl⟩ dX2_creaseCount_20 (Or.inl rfl)
  · have c5 : (fv Po a0_ 0).toInt = 0 := ti_ne_n c5
    refine mp_a (a_aload_n dX2_creaseCount_7 rfl) (mpp 8 rfl ?_)
    refine mt_getI (i := 26) (k := 1) hT dX2_creaseCount_8 rfl ha0 (by decide) rfl (by decide) rfl (fun g9 g10 => mpp 11 rfl ?_)
    refine mp_a (a_iconst (v := 1) dX2_creaseCount_11 rfl) (mpp 12 rfl ?_)
    obtain ⟨z11, h12⟩ := ti_ex ((fv Po a0_ 1) - 1 : Int32)
    have wz11 := ti_full z11
    refine mp_t (s_isub (v := z11) dX2_creaseCount_12 h12) (mpp 13 rfl ?_)
    try have e13 : z11.toInt = (fv Po a0_ 1).toInt - 1 := ti_subz h12 rfl rfl (by omega) (by omega)
    refine mp_a (a_goto (t := 20) dX2_creaseCount_13 (by decide)) ?_
    have u14 : -1 ≤ z11.toInt ∧ z11.toInt ≤ (fv Po a0_ 1).toInt := by omega
    exact mp_iret ⟨⟨_, rfl, u14⟩, rfl⟩ dX2_creaseCount_20 (Or.inl rfl)

set_option maxHeartbeats 4000000 in
theorem c_CP_hasCrease_NPiece {Po : mP} {a0_ : Nat} {t1 : Int32} (hT : Typ Po)  (ha0 : rl a0_ = 33) : EvP 2 29 [.ref a0_, .int t1] Po (fun r P' => (∃ x : Int32, r = some (.int x) ∧ (0 ≤ x.toInt ∧ x.toInt ≤ 1 ∧ (x.toInt = 0 ∨ (0 ≤ t1.toInt ∧ t1.toInt + 1 ≤ (fv Po a0_ 1).toInt)))) ∧ P' = Po) := by
  refine EvP.of qm_29 (Nat.le_of_ble_eq_true rfl) rfl ?_
  show MEvP _ none q_29 0 [(0, .ref a0_), (1, .int t1)] [] _ 0 0 _
  have g1 : (0 : Int) ≤ (fv Po a0_ 1).toInt ∧ (fv Po a0_ 1).toInt ≤ 8 := Typ.rng hT ha0 (by decide) (by decide) rfl
  refine mp_a (a_iload_n dX2_hasCrease_0 rfl) (mpp 1 rfl ?_)
  refine mp_Tb (t := 16) (j_if_lt dX2_hasCrease_1) (by decide) (fun c2 => ?_) (fun c2 => mpp 4 rfl ?_)
  · have c2 : t1.toInt < 0 := ti_lt c2
    refine mp_a (a_iconst (v := 0) dX2_hasCrease_16 rfl) (mpp 17 rfl ?_)
    have u3 : 0 ≤ (0 : Int) ∧ (0 : Int) ≤ 1 ∧ ((0 : Int) = 0 ∨ (0 ≤ t1.toInt ∧ t1.toInt + 1 ≤ (fv Po a0_ 1).toInt)) := by omega
    exact mp_iret ⟨⟨_, rfl, u3⟩, rfl⟩ dX2_hasCrease_17 (Or.inr ⟨rfl, by decide⟩)
  · have c2 : t1.toInt ≥ 0 := ti_lt_n c2
    refine mp_a (a_iload_n dX2_hasCrease_4 rfl) (mpp 5 rfl ?_)
    refine mp_a (a_aload_n dX2_hasCrease_5 rfl) (mpp 6 rfl ?_)
    refine mt_callv (i := 37) (q' := q_25) (As := []) (rest := [.int t1]) hT dX2_hasCrease_6 rfl qm_25 (by decide) rfl ha0 (by decide) rfl (Nat.le_of_ble_eq_true rfl) rfl ⟨rfl, rfl⟩ ⟨Nat.le_of_ble_eq_true rfl, Nat.le_of_ble_eq_true rfl⟩ (EvP.mono (by decide) (c_CP_creaseCount_NPiece hT ha0)) (fun r4 P5 g6 => mpp 9 rfl ?_)
    obtain ⟨⟨x7, rfl, g8⟩, e9⟩ := g6
    have e9 := e9.symm
    subst e9
    have wx7 := ti_full x7
    have g8 : -1 ≤ x7.toInt ∧ x7.toInt ≤ (fv Po a0_ 1).toInt := g8
    show MEvP _ none q_29 9 [(0, .ref a0_), (1, .int t1)] [.int x7, .int t1] _ _ _ _
    refine mp_Tb (t := 16) (j_icmp_ge dX2_hasCrease_9) (by decide) (fun c10 => ?_) (fun c10 => mpp 12 rfl ?_)
    · have c10 : t1.toInt ≥ x7.toInt := ti_ge c10
      refine mp_a (a_iconst (v := 0) dX2_hasCrease_16 rfl) (mpp 17 rfl ?_)
      have u11 : 0 ≤ (0 : Int) ∧ (0 : Int) ≤ 1 ∧ ((0 : Int) = 0 ∨ (0 ≤ t1.toInt ∧ t1.toInt + 1 ≤ (fv Po a0_ 1).toInt)) := by omega
      exact mp_iret ⟨⟨_, rfl, u11⟩, rfl⟩ dX2_hasCrease_17 (Or.inr ⟨rfl, by decide⟩)
    · have c10 : t1.toInt < x7.toInt := ti_ge_n c10
      refine mp_a (a_iconst (v := 1) dX2_hasCrease_12 rfl) (mpp 13 rfl ?_)
      refine mp_a (a_goto (t := 17) dX2_hasCrease_13 (by decide)) ?_
      have u12 : 0 ≤ (1 : Int) ∧ (1 : Int) ≤ 1 ∧ ((1 : Int) = 0 ∨ (0 ≤ t1.toInt ∧ t1.toInt + 1 ≤ (fv Po a0_ 1).toInt)) := by omega
      exact mp_iret ⟨⟨_, rfl, u12⟩, rfl⟩ dX2_hasCrease_17 (Or.inr ⟨rfl, by decide⟩)

set_option maxHeartbeats 4000000 in
theorem c_F_at_creases {Po : mP} {a0_ : Nat} {t1 : Int32} (hT : Typ Po)  (ha0 : rl a0_ = 5) : EvP 1 12 [.ref a0_, .int t1] Po (fun r P' => (∃ x : Int32, r = some (.int x) ∧ (True)) ∧ P' = Po) := by
  refine EvP.of qm_12 (Nat.le_of_ble_eq_true rfl) rfl ?_
  show MEvP _ none q_12 0 [(0, .ref a0_), (1, .int t1)] [] _ 0 0 _
  refine mp_a (a_iload_n dX6_at_0 rfl) (mpp 1 rfl ?_)
  refine mp_Tb (t := 16) (j_if_lt dX6_at_1) (by decide) (fun c1 => ?_) (fun c1 => mpp 4 rfl ?_)
  · have c1 : t1.toInt < 0 := ti_lt c1
    refine mp_a (a_iconst (v := 0) dX6_at_16 rfl) (mpp 17 rfl ?_)
    exact mp_iret ⟨⟨_, rfl, trivial⟩, rfl⟩ dX6_at_17 (Or.inl rfl)
  · have c1 : t1.toInt ≥ 0 := ti_lt_n c1
    refine mp_a (a_iload_n dX6_at_4 rfl) (mpp 5 rfl ?_)
    refine mp_a (a_aload_n dX6_at_5 rfl) (mpp 6 rfl ?_)
    refine mt_len (n := 8) hT dX6_at_6 ha0 (by decide) (by decide) rfl (mpp 7 rfl ?_)
    refine mp_Tb (t := 16) (j_icmp_ge dX6_at_7) (by decide) (fun c2 => ?_) (fun c2 => mpp 10 rfl ?_)
    · have c2 : t1.toInt ≥ 8 := ti_ge c2
      refine mp_a (a_iconst (v := 0) dX6_at_16 rfl) (mpp 17 rfl ?_)
      exact mp_iret ⟨⟨_, rfl, trivial⟩, rfl⟩ dX6_at_17 (Or.inl rfl)
    · have c2 : t1.toInt < 8 := ti_ge_n c2
      refine mp_a (a_aload_n dX6_at_10 rfl) (mpp 11 rfl ?_)
      refine mp_a (a_iload_n dX6_at_11 rfl) (mpp 12 rfl ?_)
      refine mt_ial (n := 8) hT dX6_at_12 ha0 (by decide) rfl rfl (by omega) (by omega) rfl (fun g3 g4 => mpp 13 rfl ?_)
      refine mp_a (a_goto (t := 17) dX6_at_13 (by decide)) ?_
      exact mp_iret ⟨⟨_, rfl, trivial⟩, rfl⟩ dX6_at_17 (Or.inl rfl)

set_option maxHeartbeats 4000000 in
theorem c_F_mark {Po : mP} {t1 : Int32} {t2 : Int32} {t3 : Int32} (hT : Typ Po)   : EvP 5 28 [.ref 0, .int t1, .int t2, .int t3] Po (fun r P' => (∃ x : Int32, r = some (.int x) ∧ (True)) ∧ Typ P' ∧ KW [10, 11, 12, 65, 66, 67, 192, 193, 194, 256, 320, 385, 386] Po P' ∧ True) := by
  refine EvP.of qm_28 (Nat.le_of_ble_eq_true rfl) rfl ?_
  show MEvP _ none q_28 0 [(0, .ref 0), (1, .int t1), (2, .int t2), (3, .int t3)] [] _ 0 0 _
  refine mp_a (a_aload_n dX6_mark_0 rfl) (mpp 1 rfl ?_)
  refine mt_getU (i := 10) (k := 0) (A := 1) hT dX6_mark_1 rfl rl_0 (by decide) rfl (by decide) rfl un_31 (mpp 4 rfl ?_)
  refine mp_a (a_iload_n dX6_mark_4 rfl) (mpp 5 rfl ?_)
  refine mt_callv (i := 94) (q' := q_9) (As := [.int t1]) (rest := []) hT dX6_mark_5 rfl qm_9 (by decide) rfl rl_1 (by decide) rfl (Nat.le_of_ble_eq_true rfl) rfl ⟨rfl, rfl⟩ ⟨Nat.le_of_ble_eq_true rfl, Nat.le_of_ble_eq_true rfl⟩ (EvP.mono (by decide) (c_CS_pieceAt_NState hT )) (fun r1 P2 g3 => mpp 8 rfl ?_)
  obtain ⟨g3, e4⟩ := g3
  have e4 := e4.symm
  subst e4
  rcases g3 with rfl | ⟨b5, rfl, q6, q6r⟩
  · show MEvP _ none q_28 8 [(0, .ref 0), (1, .int t1), (2, .int t2), (3, .int t3)] [.null] _ _ _ _
    refine mp_a (a_astoreN (L' := [(4, .null), (0, .ref 0), (1, .int t1), (2, .int t2), (3, .int t3)]) dX6_mark_8 (by decide) rfl) (mpp 10 rfl ?_)
    refine mp_a (a_aloadN dX6_mark_10 rfl) (mpp 12 rfl ?_)
    refine mp_t (s_ifnullN (t := 24) dX6_mark_12 (by decide)) ?_
    refine mp_a (a_sipush (v := -1001) dX6_mark_24 rfl) (mpp 27 rfl ?_)
    exact mp_iret ⟨⟨_, rfl, trivial⟩, hT, KW.refl, trivial⟩ dX6_mark_27 (Or.inl rfl)
  · show MEvP _ none q_28 8 [(0, .ref 0), (1, .int t1), (2, .int t2), (3, .int t3)] [.ref b5] _ _ _ _
    refine mp_a (a_astore (L' := [(4, .ref b5), (0, .ref 0), (1, .int t1), (2, .int t2), (3, .int t3)]) dX6_mark_8 (by decide) rfl) (mpp 10 rfl ?_)
    refine mp_a (a_aload dX6_mark_10 rfl) (mpp 12 rfl ?_)
    refine mp_t (s_ifnullR dX6_mark_12) (mpp 15 rfl ?_)
    refine mp_a (a_aload dX6_mark_15 rfl) (mpp 17 rfl ?_)
    refine mp_a (a_iload_n dX6_mark_17 rfl) (mpp 18 rfl ?_)
    refine mt_callv (i := 98) (q' := q_29) (As := [.int t2]) (rest := []) hT dX6_mark_18 rfl qm_29 (by decide) rfl q6 (by decide) rfl (Nat.le_of_ble_eq_true rfl) rfl ⟨rfl, rfl⟩ ⟨Nat.le_of_ble_eq_true rfl, Nat.le_of_ble_eq_true rfl⟩ (EvP.mono (by decide) (c_CP_hasCrease_NPiece hT q6)) (fun r7 P8 g9 => mpp 21 rfl ?_)
    obtain ⟨⟨x10, rfl, g11⟩, e12⟩ := g9
    have e12 := e12.symm
    subst e12
    have wx10 := ti_full x10
    have g11 : 0 ≤ x10.toInt ∧ x10.toInt ≤ 1 ∧ (x10.toInt = 0 ∨ (0 ≤ t2.toInt ∧ t2.toInt + 1 ≤ (fv Po b5 1).toInt)) := g11
    have g13 : (0 : Int) ≤ (fv Po b5 1).toInt ∧ (fv Po b5 1).toInt ≤ 8 := Typ.rng hT q6 (by decide) (by decide) rfl
    show MEvP _ none q_28 21 [(4, .ref b5), (0, .ref 0), (1, .int t1), (2, .int t2), (3, .int t3)] [.int x10] _ _ _ _
    refine mp_Tb (t := 28) (j_if_ne dX6_mark_21) (by decide) (fun c14 => ?_) (fun c14 => mpp 24 rfl ?_)
    · have c14 : x10.toInt ≠ 0 := ti_ne c14
      refine mp_a (a_iload_n dX6_mark_28 rfl) (mpp 29 rfl ?_)
      refine mp_calls (i := 101) (q' := q_26) (As := [.int t3]) (rest := []) dX6_mark_29 rfl qm_26 (by decide) rfl (Nat.le_of_ble_eq_true rfl) rfl ⟨rfl, rfl⟩ ⟨Nat.le_of_ble_eq_true rfl, Nat.le_of_ble_eq_true rfl⟩ (EvP.mono (by decide) (c_F_isCreaseKind hT )) (fun r15 P16 g17 => mpp 32 rfl ?_)
      obtain ⟨⟨x18, rfl, g19⟩, e20⟩ := g17
      have e20 := e20.symm
      subst e20
      have wx18 := ti_full x18
      have g19 : 0 ≤ x18.toInt ∧ x18.toInt ≤ 1 := g19
      show MEvP _ none q_28 32 [(4, .ref b5), (0, .ref 0), (1, .int t1), (2, .int t2), (3, .int t3)] [.int x18] _ _ _ _
      refine mp_Tb (t := 39) (j_if_ne dX6_mark_32) (by decide) (fun c21 => ?_) (fun c21 => mpp 35 rfl ?_)
      · have c21 : x18.toInt ≠ 0 := ti_ne c21
        refine mp_a (a_aload dX6_mark_39 rfl) (mpp 41 rfl ?_)
        have g22 : (0 : Int) ≤ (fv Po b5 2).toInt ∧ (fv Po b5 2).toInt ≤ 1 := Typ.rng hT q6 (by decide) (by decide) rfl
        refine mt_getI (i := 104) (k := 2) hT dX6_mark_41 rfl q6 (by decide) rfl (by decide) rfl (fun g23 g24 => mpp 44 rfl ?_)
        refine mp_Tb (t := 54) (j_if_eq dX6_mark_44) (by decide) (fun c25 => ?_) (fun c25 => mpp 47 rfl ?_)
        · have c25 : (fv Po b5 2).toInt = 0 := ti_eq c25
          refine mp_a (a_aload_n dX6_mark_54 rfl) (mpp 55 rfl ?_)
          refine mt_getU (i := 25) (k := 3) (A := 79) hT dX6_mark_55 rfl rl_0 (by decide) rfl (by decide) rfl un_6 (mpp 58 rfl ?_)
          refine mp_a (a_aload_n dX6_mark_58 rfl) (mpp 59 rfl ?_)
          refine mt_getU (i := 10) (k := 0) (A := 1) hT dX6_mark_59 rfl rl_0 (by decide) rfl (by decide) rfl un_31 (mpp 62 rfl ?_)
          refine mt_callv (i := 72) (q' := q_15) (As := [.ref 1]) (rest := []) hT dX6_mark_62 rfl qm_15 (by decide) rfl rl_79 (by decide) rfl (Nat.le_of_ble_eq_true rfl) rfl ⟨rfl, rfl⟩ ⟨Nat.le_of_ble_eq_true rfl, Nat.le_of_ble_eq_true rfl⟩ (EvP.mono (by decide) (c_CH_push_History_NState hT )) (fun r26 P27 g28 => mpp 65 rfl ?_)
          obtain ⟨⟨rfl, g30⟩, hT31, k32, R33⟩ := g28
          have k34 : KW [10, 11, 12, 65, 66, 67, 192, 193, 194, 256, 320, 385, 386] Po P27 := KW.trans KW.refl k32 rfl
          show MEvP _ none q_28 65 [(4, .ref b5), (0, .ref 0), (1, .int t1), (2, .int t2), (3, .int t3)] [] _ _ _ _
          refine mp_a (a_aload dX6_mark_65 rfl) (mpp 67 rfl ?_)
          refine mt_getR (i := 108) (k := 4) hT31 dX6_mark_67 rfl q6 (by decide) rfl (by decide) rfl (fun q35 => mpp 70 rfl ?_)
          generalize rv P27 b5 4 = b36 at q35 ⊢
          refine mp_a (a_iload_n dX6_mark_70 rfl) (mpp 71 rfl ?_)
          refine mp_calls (i := 112) (q' := q_12) (As := [.ref b36, .int t2]) (rest := []) dX6_mark_71 rfl qm_12 (by decide) rfl (Nat.le_of_ble_eq_true rfl) rfl ⟨rfl, rfl⟩ ⟨Nat.le_of_ble_eq_true rfl, Nat.le_of_ble_eq_true rfl⟩ (EvP.mono (by decide) (c_F_at_creases hT31 q35)) (fun r37 P38 g39 => mpp 74 rfl ?_)
          obtain ⟨⟨x40, rfl, g41⟩, e42⟩ := g39
          have e42 := e42.symm
          subst e42
          have wx40 := ti_full x40
          show MEvP _ none q_28 74 [(4, .ref b5), (0, .ref 0), (1, .int t1), (2, .int t2), (3, .int t3)] [.int x40] _ _ _ _
          refine mp_a (a_istore (L' := [(5, .int x40), (4, .ref b5), (0, .ref 0), (1, .int t1), (2, .int t2), (3, .int t3)]) dX6_mark_74 (by decide) rfl) (mpp 76 rfl ?_)
          refine mp_a (a_aload dX6_mark_76 rfl) (mpp 78 rfl ?_)
          refine mt_getR (i := 108) (k := 4) hT31 dX6_mark_78 rfl q6 (by decide) rfl (by decide) rfl (fun q43 => mpp 81 rfl ?_)
          generalize rv P27 b5 4 = b44 at q43 ⊢
          refine mp_a (a_iload_n dX6_mark_81 rfl) (mpp 82 rfl ?_)
          refine mp_a (a_iload_n dX6_mark_82 rfl) (mpp 83 rfl ?_)
          refine mp_calls (i := 116) (q' := q_22) (As := [.ref b44, .int t2, .int t3]) (rest := []) dX6_mark_83 rfl qm_22 (by decide) rfl (Nat.le_of_ble_eq_true rfl) rfl ⟨rfl, rfl⟩ ⟨Nat.le_of_ble_eq_true rfl, Nat.le_of_ble_eq_true rfl⟩ (EvP.mono (by decide) (c_F_put_creases hT31 q43)) (fun r45 P46 g47 => mpp 86 rfl ?_)
          obtain ⟨⟨rfl, g49⟩, hT50, k51, R52⟩ := g47
          have k53 : KW [10, 11, 12, 65, 66, 67, 192, 193, 194, 256, 320, 385, 386] Po P46 := KW.trans k34 k51 rfl
          show MEvP _ none q_28 86 [(5, .int x40), (4, .ref b5), (0, .ref 0), (1, .int t1), (2, .int t2), (3, .int t3)] [] _ _ _ _
          refine mp_a (a_iload dX6_mark_86 rfl) (mpp 88 rfl ?_)
          exact mp_iret ⟨⟨_, rfl, trivial⟩, hT50, k53, trivial⟩ dX6_mark_88 (Or.inl rfl)
        · have c25 : (fv Po b5 2).toInt ≠ 0 := ti_eq_n c25
          refine mp_a (a_aload_n dX6_mark_47 rfl) (mpp 48 rfl ?_)
          refine mp_a (a_iconst (v := 2) dX6_mark_48 rfl) (mpp 49 rfl ?_)
          refine mp_a (a_iload_n dX6_mark_49 rfl) (mpp 50 rfl ?_)
          refine mt_callv (i := 68) (q' := q_14) (As := [.int 2, .int t1]) (rest := []) hT dX6_mark_50 rfl qm_14 (by decide) rfl rl_0 (by decide) rfl (Nat.le_of_ble_eq_true rfl) rfl ⟨rfl, rfl⟩ ⟨Nat.le_of_ble_eq_true rfl, Nat.le_of_ble_eq_true rfl⟩ (EvP.mono (by decide) (c_F_refuse hT )) (fun r54 P55 g56 => mpp 53 rfl ?_)
          obtain ⟨⟨x57, rfl, g58⟩, hT59, k60, R61⟩ := g56
          have k62 : KW [10, 11, 12, 65, 66, 67, 192, 193, 194, 256, 320, 385, 386] Po P55 := KW.trans KW.refl k60 rfl
          have wx57 := ti_full x57
          show MEvP _ none q_28 53 [(4, .ref b5), (0, .ref 0), (1, .int t1), (2, .int t2), (3, .int t3)] [.int x57] _ _ _ _
          exact mp_iret ⟨⟨_, rfl, trivial⟩, hT59, k62, trivial⟩ dX6_mark_53 (Or.inl rfl)
      · have c21 : x18.toInt = 0 := ti_ne_n c21
        refine mp_a (a_sipush (v := -1002) dX6_mark_35 rfl) (mpp 38 rfl ?_)
        exact mp_iret ⟨⟨_, rfl, trivial⟩, hT, KW.refl, trivial⟩ dX6_mark_38 (Or.inl rfl)
    · have c14 : x10.toInt = 0 := ti_ne_n c14
      refine mp_a (a_sipush (v := -1001) dX6_mark_24 rfl) (mpp 27 rfl ?_)
      exact mp_iret ⟨⟨_, rfl, trivial⟩, hT, KW.refl, trivial⟩ dX6_mark_27 (Or.inl rfl)

