/-! methods on typed pools, 1 (written by a program) -/
set_option maxHeartbeats 4000000 in
theorem c_CS_copyFrom_State_NState_l26 {Po : mP} {a0_ : Nat} (hTo : Typ Po) (hX : XR Po) (hJo : Inj Po) (ha0 : rl a0_ = 1) : ∀ (n : Nat) (v2 : Int32), ∀ (P : mP), Typ P → KW [65, 66, 67, 192, 193, 194, 256, 320] Po P → Inj P → ((fv P a0_ 1 = fv Po 1 1 ∧ fv P a0_ 2 = fv Po 1 2 ∧ fv P a0_ 3 = fv Po 1 3)) → (∀ k : Nat, k < 8 → (k : Int) < v2.toInt → PE P (a0_ + 2 + 3 * k) Po (rv Po 2 k)) → (KI a0_ (a0_ + 26) Po P) → ((fv P a0_ 1).toInt = (fv Po 1 1).toInt) → (0 ≤ v2.toInt) → (0 ≤ v2.toInt) → (2147483647 - v2.toInt).toNat = n → MEvP 2 none q_17 26 [(0, .ref a0_), (1, .ref 1), (2, .int v2)] [] P 0 0 (fun r P' => (r = none ∧ (True)) ∧ Typ P' ∧ KW [65, 66, 67, 192, 193, 194, 256, 320] Po P' ∧ Inj P' ∧ fv P' a0_ 1 = fv Po 1 1 ∧ fv P' a0_ 2 = fv Po 1 2 ∧ fv P' a0_ 3 = fv Po 1 3 ∧ (∀ k : Nat, k < 8 → (k : Int) < (fv Po 1 1).toInt → PE P' (a0_ + 2 + 3 * k) Po (rv Po 2 k)) ∧ KI a0_ (a0_ + 26) Po P') := by
  intro n
  induction n using Nat.strongRecOn with | _ n ih => ?_
  intro v2 P hT hK hJ i_0 i_1 i_2 i_3 i_4 i_5 hm
  have w1 := st_ar ha0
  have w_v2 := ti_full v2
  have g2 : (0 : Int) ≤ (fv P a0_ 1).toInt ∧ (fv P a0_ 1).toInt ≤ 8 := Typ.rng hT ha0 (by decide) (by decide) rfl
  have g3 : (0 : Int) ≤ (fv P a0_ 1).toInt ∧ (fv P a0_ 1).toInt ≤ 8 := Typ.rng hT ha0 (by decide) (by decide) rfl
  have eB : (fv P 1 1).toInt = (fv Po 1 1).toInt := congrArg Int32.toInt (i_2 _ _ (by omega))
  refine mp_a (a_iload_n dX5_copyFrom_26 rfl) (mpp 27 rfl ?_)
  refine mp_a (a_aload_n dX5_copyFrom_27 rfl) (mpp 28 rfl ?_)
  refine mt_getI (i := 22) (k := 1) hT dX5_copyFrom_28 rfl ha0 (by decide) rfl (by decide) rfl (fun g4 g5 => mpp 31 rfl ?_)
  refine mp_Tb (t := 68) (j_icmp_ge dX5_copyFrom_31) (by decide) (fun c6 => ?_) (fun c6 => mpp 34 rfl ?_)
  · have c6 : v2.toInt ≥ (fv P a0_ 1).toInt := ti_ge c6
    have u7 : fv P a0_ 1 = fv Po 1 1 ∧ fv P a0_ 2 = fv Po 1 2 ∧ fv P a0_ 3 = fv Po 1 3 ∧ (∀ k : Nat, k < 8 → (k : Int) < (fv Po 1 1).toInt → PE P (a0_ + 2 + 3 * k) Po (rv Po 2 k)) ∧ KI a0_ (a0_ + 26) Po P := ⟨i_0.1, i_0.2.1, i_0.2.2, fun k hk h => i_1 k hk (by omega), i_2⟩
    exact mp_ret ⟨⟨rfl, trivial⟩, hT, hK, hJ, u7⟩ dX5_copyFrom_68 rfl
  · have c6 : v2.toInt < (fv P a0_ 1).toInt := ti_ge_n c6
    refine mp_a (a_aload_n dX5_copyFrom_34 rfl) (mpp 35 rfl ?_)
    refine mp_a (a_iload_n dX5_copyFrom_35 rfl) (mpp 36 rfl ?_)
    refine mt_callv (i := 28) (q' := q_9) (As := [.int v2]) (rest := []) hT dX5_copyFrom_36 rfl qm_9 (by decide) rfl ha0 (by decide) rfl (Nat.le_of_ble_eq_true rfl) rfl ⟨rfl, rfl⟩ ⟨Nat.le_of_ble_eq_true rfl, Nat.le_of_ble_eq_true rfl⟩ (EvP.mono (by decide) (c_CS_pieceAt_State hT (KW.xr hK hX) ha0)) (fun r8 P9 g10 => mpp 39 rfl ?_)
    obtain ⟨g10, e11⟩ := g10
    have e11 := e11.symm
    subst e11
    rcases g10 with ⟨rfl, q13n⟩ | ⟨b12, rfl, q13, q13r⟩
    · show MEvP _ none q_17 39 [(0, .ref a0_), (1, .ref 1), (2, .int v2)] [.null] _ _ _ _
      replace q13n : v2.toInt < 0 ∨ (fv P a0_ 1).toInt ≤ v2.toInt ∨ 8 ≤ v2.toInt := q13n
      refine mp_a (a_astore_nN (L' := [(3, .null), (0, .ref a0_), (1, .ref 1), (2, .int v2)]) dX5_copyFrom_39 (by decide) rfl) (mpp 40 rfl ?_)
      refine mp_a (a_aload_n dX5_copyFrom_40 rfl) (mpp 41 rfl ?_)
      refine mp_a (a_iload_n dX5_copyFrom_41 rfl) (mpp 42 rfl ?_)
      refine mt_callv (i := 28) (q' := q_9) (As := [.int v2]) (rest := []) hT dX5_copyFrom_42 rfl qm_9 (by decide) rfl rl_1 (by decide) rfl (Nat.le_of_ble_eq_true rfl) rfl ⟨rfl, rfl⟩ ⟨Nat.le_of_ble_eq_true rfl, Nat.le_of_ble_eq_true rfl⟩ (EvP.mono (by decide) (c_CS_pieceAt_NState hT (KW.xr hK hX) )) (fun r14 P15 g16 => mpp 45 rfl ?_)
      obtain ⟨g16, e17⟩ := g16
      have e17 := e17.symm
      subst e17
      rcases g16 with ⟨rfl, q19n⟩ | ⟨b18, rfl, q19, q19r⟩
      · show MEvP _ none q_17 45 [(3, .null), (0, .ref a0_), (1, .ref 1), (2, .int v2)] [.null] _ _ _ _
        replace q19n : v2.toInt < 0 ∨ (fv P 1 1).toInt ≤ v2.toInt ∨ 8 ≤ v2.toInt := q19n
        have e20 : (fv P 1 1).toInt = (fv Po 1 1).toInt := congrArg Int32.toInt (KW.at hK 1 rl_1 rfl)
        refine mp_a (a_astoreN (L' := [(4, .null), (3, .null), (0, .ref a0_), (1, .ref 1), (2, .int v2)]) dX5_copyFrom_45 (by decide) rfl) (mpp 47 rfl ?_)
        refine mp_a (a_aload_nN dX5_copyFrom_47 rfl) (mpp 48 rfl ?_)
        refine mp_t (s_ifnullN (t := 62) dX5_copyFrom_48 (by decide)) ?_
        obtain ⟨z21, h22⟩ := ti_ex (v2 + 1 : Int32)
        have wz21 := ti_full z21
        refine mp_a (a_iinc (v := z21) (L' := [(2, .int z21), (4, .null), (3, .null), (0, .ref a0_), (1, .ref 1)]) dX5_copyFrom_62 (by decide) rfl h22 rfl) (mpp 65 rfl ?_)
        try have e23 : z21.toInt = v2.toInt + 1 := ti_addz h22 rfl rfl (by omega) (by omega)
        refine mp_a (a_goto (t := 26) dX5_copyFrom_65 (by decide)) ?_
        refine MEvP.less (L := [(0, .ref a0_), (1, .ref 1), (2, .int z21)]) rfl rfl ⟨rfl, rfl, rfl, trivial⟩ ?_
        have i24 : (fv P a0_ 1 = fv Po 1 1 ∧ fv P a0_ 2 = fv Po 1 2 ∧ fv P a0_ 3 = fv Po 1 3) := ⟨i_0.1, i_0.2.1, i_0.2.2⟩
        have i25 : ∀ k : Nat, k < 8 → (k : Int) < z21.toInt → PE P (a0_ + 2 + 3 * k) Po (rv Po 2 k) := fun k hk h => i_1 k hk (by omega)
        have i26 : KI a0_ (a0_ + 26) Po P := i_2
        have i27 : (fv P a0_ 1).toInt = (fv Po 1 1).toInt := by omega
        have i28 : 0 ≤ z21.toInt := by omega
        have i29 : 0 ≤ z21.toInt := by omega
        exact ih _ (by omega) _ P hT hK hJ i24 i25 i26 i27 i28 i29 rfl
      · show MEvP _ none q_17 45 [(3, .null), (0, .ref a0_), (1, .ref 1), (2, .int v2)] [.ref b18] _ _ _ _
        replace q19r : 0 ≤ v2.toInt ∧ v2.toInt ≤ 7 ∧ v2.toInt + 1 ≤ (fv P 1 1).toInt ∧ rv P 2 v2.toInt.toNat = b18 := q19r
        have e30 : (fv P 1 1).toInt = (fv Po 1 1).toInt := congrArg Int32.toInt (KW.at hK 1 rl_1 rfl)
        have w31 := np_ar q19
        refine mp_a (a_astore (L' := [(4, .ref b18), (3, .null), (0, .ref a0_), (1, .ref 1), (2, .int v2)]) dX5_copyFrom_45 (by decide) rfl) (mpp 47 rfl ?_)
        refine mp_a (a_aload_nN dX5_copyFrom_47 rfl) (mpp 48 rfl ?_)
        refine mp_t (s_ifnullN (t := 62) dX5_copyFrom_48 (by decide)) ?_
        obtain ⟨z32, h33⟩ := ti_ex (v2 + 1 : Int32)
        have wz32 := ti_full z32
        refine mp_a (a_iinc (v := z32) (L' := [(2, .int z32), (4, .ref b18), (3, .null), (0, .ref a0_), (1, .ref 1)]) dX5_copyFrom_62 (by decide) rfl h33 rfl) (mpp 65 rfl ?_)
        try have e34 : z32.toInt = v2.toInt + 1 := ti_addz h33 rfl rfl (by omega) (by omega)
        refine mp_a (a_goto (t := 26) dX5_copyFrom_65 (by decide)) ?_
        refine MEvP.less (L := [(0, .ref a0_), (1, .ref 1), (2, .int z32)]) rfl rfl ⟨rfl, rfl, rfl, trivial⟩ ?_
        have i35 : (fv P a0_ 1 = fv Po 1 1 ∧ fv P a0_ 2 = fv Po 1 2 ∧ fv P a0_ 3 = fv Po 1 3) := ⟨i_0.1, i_0.2.1, i_0.2.2⟩
        have i36 : ∀ k : Nat, k < 8 → (k : Int) < z32.toInt → PE P (a0_ + 2 + 3 * k) Po (rv Po 2 k) := fun k hk h => i_1 k hk (by omega)
        have i37 : KI a0_ (a0_ + 26) Po P := i_2
        have i38 : (fv P a0_ 1).toInt = (fv Po 1 1).toInt := by omega
        have i39 : 0 ≤ z32.toInt := by omega
        have i40 : 0 ≤ z32.toInt := by omega
        exact ih _ (by omega) _ P hT hK hJ i35 i36 i37 i38 i39 i40 rfl
    · show MEvP _ none q_17 39 [(0, .ref a0_), (1, .ref 1), (2, .int v2)] [.ref b12] _ _ _ _
      replace q13r : 0 ≤ v2.toInt ∧ v2.toInt ≤ 7 ∧ v2.toInt + 1 ≤ (fv P a0_ 1).toInt ∧ b12 = a0_ + 2 + 3 * v2.toInt.toNat := q13r
      have w41 := pc_ar q13
      refine mp_a (a_astore_n (L' := [(3, .ref b12), (0, .ref a0_), (1, .ref 1), (2, .int v2)]) dX5_copyFrom_39 (by decide) rfl) (mpp 40 rfl ?_)
      refine mp_a (a_aload_n dX5_copyFrom_40 rfl) (mpp 41 rfl ?_)
      refine mp_a (a_iload_n dX5_copyFrom_41 rfl) (mpp 42 rfl ?_)
      refine mt_callv (i := 28) (q' := q_9) (As := [.int v2]) (rest := []) hT dX5_copyFrom_42 rfl qm_9 (by decide) rfl rl_1 (by decide) rfl (Nat.le_of_ble_eq_true rfl) rfl ⟨rfl, rfl⟩ ⟨Nat.le_of_ble_eq_true rfl, Nat.le_of_ble_eq_true rfl⟩ (EvP.mono (by decide) (c_CS_pieceAt_NState hT (KW.xr hK hX) )) (fun r42 P43 g44 => mpp 45 rfl ?_)
      obtain ⟨g44, e45⟩ := g44
      have e45 := e45.symm
      subst e45
      rcases g44 with ⟨rfl, q47n⟩ | ⟨b46, rfl, q47, q47r⟩
      · show MEvP _ none q_17 45 [(3, .ref b12), (0, .ref a0_), (1, .ref 1), (2, .int v2)] [.null] _ _ _ _
        replace q47n : v2.toInt < 0 ∨ (fv P 1 1).toInt ≤ v2.toInt ∨ 8 ≤ v2.toInt := q47n
        have e48 : (fv P 1 1).toInt = (fv Po 1 1).toInt := congrArg Int32.toInt (KW.at hK 1 rl_1 rfl)
        refine mp_a (a_astoreN (L' := [(4, .null), (3, .ref b12), (0, .ref a0_), (1, .ref 1), (2, .int v2)]) dX5_copyFrom_45 (by decide) rfl) (mpp 47 rfl ?_)
        refine mp_a (a_aload_n dX5_copyFrom_47 rfl) (mpp 48 rfl ?_)
        refine mp_t (s_ifnullR dX5_copyFrom_48) (mpp 51 rfl ?_)
        refine mp_a (a_aloadN dX5_copyFrom_51 rfl) (mpp 53 rfl ?_)
        refine mp_t (s_ifnullN (t := 62) dX5_copyFrom_53 (by decide)) ?_
        obtain ⟨z49, h50⟩ := ti_ex (v2 + 1 : Int32)
        have wz49 := ti_full z49
        refine mp_a (a_iinc (v := z49) (L' := [(2, .int z49), (4, .null), (3, .ref b12), (0, .ref a0_), (1, .ref 1)]) dX5_copyFrom_62 (by decide) rfl h50 rfl) (mpp 65 rfl ?_)
        try have e51 : z49.toInt = v2.toInt + 1 := ti_addz h50 rfl rfl (by omega) (by omega)
        refine mp_a (a_goto (t := 26) dX5_copyFrom_65 (by decide)) ?_
        refine MEvP.less (L := [(0, .ref a0_), (1, .ref 1), (2, .int z49)]) rfl rfl ⟨rfl, rfl, rfl, trivial⟩ ?_
        have i52 : (fv P a0_ 1 = fv Po 1 1 ∧ fv P a0_ 2 = fv Po 1 2 ∧ fv P a0_ 3 = fv Po 1 3) := ⟨i_0.1, i_0.2.1, i_0.2.2⟩
        have i53 : ∀ k : Nat, k < 8 → (k : Int) < z49.toInt → PE P (a0_ + 2 + 3 * k) Po (rv Po 2 k) := fun k hk h => i_1 k hk (by omega)
        have i54 : KI a0_ (a0_ + 26) Po P := i_2
        have i55 : (fv P a0_ 1).toInt = (fv Po 1 1).toInt := by omega
        have i56 : 0 ≤ z49.toInt := by omega
        have i57 : 0 ≤ z49.toInt := by omega
        exact ih _ (by omega) _ P hT hK hJ i52 i53 i54 i55 i56 i57 rfl
      · show MEvP _ none q_17 45 [(3, .ref b12), (0, .ref a0_), (1, .ref 1), (2, .int v2)] [.ref b46] _ _ _ _
        replace q47r : 0 ≤ v2.toInt ∧ v2.toInt ≤ 7 ∧ v2.toInt + 1 ≤ (fv P 1 1).toInt ∧ rv P 2 v2.toInt.toNat = b46 := q47r
        have e58 : (fv P 1 1).toInt = (fv Po 1 1).toInt := congrArg Int32.toInt (KW.at hK 1 rl_1 rfl)
        have w59 := np_ar q47
        refine mp_a (a_astore (L' := [(4, .ref b46), (3, .ref b12), (0, .ref a0_), (1, .ref 1), (2, .int v2)]) dX5_copyFrom_45 (by decide) rfl) (mpp 47 rfl ?_)
        refine mp_a (a_aload_n dX5_copyFrom_47 rfl) (mpp 48 rfl ?_)
        refine mp_t (s_ifnullR dX5_copyFrom_48) (mpp 51 rfl ?_)
        refine mp_a (a_aload dX5_copyFrom_51 rfl) (mpp 53 rfl ?_)
        refine mp_t (s_ifnullR dX5_copyFrom_53) (mpp 56 rfl ?_)
        refine mp_a (a_aload_n dX5_copyFrom_56 rfl) (mpp 57 rfl ?_)
        refine mp_a (a_aload dX5_copyFrom_57 rfl) (mpp 59 rfl ?_)
        have p60 : b12 + 3 ≤ b46 ∨ b46 + 3 ≤ b12 := by omega
        refine mt_callv (i := 32) (q' := q_18) (As := [.ref b46]) (rest := []) hT dX5_copyFrom_59 rfl qm_18 (by decide) rfl q13 (by decide) rfl (Nat.le_of_ble_eq_true rfl) rfl ⟨rfl, rfl⟩ ⟨Nat.le_of_ble_eq_true rfl, Nat.le_of_ble_eq_true rfl⟩ (EvP.mono (by decide) (c_CP_copyFrom_Piece_NPiece hT (KW.xr hK hX) p60 q13 q47)) (fun r61 P62 g63 => mpp 62 rfl ?_)
        obtain ⟨⟨rfl, g65⟩, hT66, k67, R68⟩ := g63
        have k69 : KW [65, 66, 67, 192, 193, 194, 256, 320] Po P62 := KW.trans hK k67 rfl
        have J71 := Inj.kw hJ k67 rfl
        show MEvP _ none q_17 62 [(4, .ref b46), (3, .ref b12), (0, .ref a0_), (1, .ref 1), (2, .int v2)] [] _ _ _ _
        obtain ⟨z72, h73⟩ := ti_ex (v2 + 1 : Int32)
        have wz72 := ti_full z72
        refine mp_a (a_iinc (v := z72) (L' := [(2, .int z72), (4, .ref b46), (3, .ref b12), (0, .ref a0_), (1, .ref 1)]) dX5_copyFrom_62 (by decide) rfl h73 rfl) (mpp 65 rfl ?_)
        try have e74 : z72.toInt = v2.toInt + 1 := ti_addz h73 rfl rfl (by omega) (by omega)
        refine mp_a (a_goto (t := 26) dX5_copyFrom_65 (by decide)) ?_
        refine MEvP.less (L := [(0, .ref a0_), (1, .ref 1), (2, .int z72)]) rfl rfl ⟨rfl, rfl, rfl, trivial⟩ ?_
        have i75 : (fv P62 a0_ 1 = fv Po 1 1 ∧ fv P62 a0_ 2 = fv Po 1 2 ∧ fv P62 a0_ 3 = fv Po 1 3) := ⟨by rw [R68.2.2.2.2.2 a0_ 1 (by omega)]; exact i_0.1, by rw [R68.2.2.2.2.2 a0_ 2 (by omega)]; exact i_0.2.1, by rw [R68.2.2.2.2.2 a0_ 3 (by omega)]; exact i_0.2.2⟩
        have i76 : ∀ k : Nat, k < 8 → (k : Int) < z72.toInt → PE P62 (a0_ + 2 + 3 * k) Po (rv Po 2 k) := pe_back (fun k => a0_ + 2 + 3 * k) (fun k => rv Po 2 k) (v := v2.toInt) i_1 (by omega) (by omega) q13r.2.2.2.symm ((hK.2.2 rfl _).symm.trans q47r.2.2.2) ⟨R68.1, R68.2.1, R68.2.2.1, R68.2.2.2.1, R68.2.2.2.2.1⟩ i_2 (by omega) R68.2.2.2.2.2 (fun k hk hn => by omega)
        have i77 : KI a0_ (a0_ + 26) Po P62 := i_2.trans R68.2.2.2.2.2 (by omega)
        have e78 : (fv P62 a0_ 1).toInt = (fv P a0_ 1).toInt := congrArg Int32.toInt (KW.at k67 1 ha0 rfl)
        have i79 : (fv P62 a0_ 1).toInt = (fv Po 1 1).toInt := by omega
        have i80 : 0 ≤ z72.toInt := by omega
        have i81 : 0 ≤ z72.toInt := by omega
        exact ih _ (by omega) _ P62 hT66 k69 J71 i75 i76 i77 i79 i80 i81 rfl

set_option maxHeartbeats 4000000 in
theorem c_CS_copyFrom_State_NState {Po : mP} {a0_ : Nat} (hT : Typ Po) (hX : XR Po)  (hJ : Inj Po) (ha0 : rl a0_ = 1) : EvP 3 17 [.ref a0_, .ref 1] Po (fun r P' => (r = none ∧ (True)) ∧ Typ P' ∧ KW [65, 66, 67, 192, 193, 194, 256, 320] Po P' ∧ Inj P' ∧ fv P' a0_ 1 = fv Po 1 1 ∧ fv P' a0_ 2 = fv Po 1 2 ∧ fv P' a0_ 3 = fv Po 1 3 ∧ (∀ k : Nat, k < 8 → (k : Int) < (fv Po 1 1).toInt → PE P' (a0_ + 2 + 3 * k) Po (rv Po 2 k)) ∧ KI a0_ (a0_ + 26) Po P') := by
  refine EvP.of qm_17 (Nat.le_of_ble_eq_true rfl) rfl ?_
  show MEvP _ none q_17 0 [(0, .ref a0_), (1, .ref 1)] [] _ 0 0 _
  have w1 := st_ar ha0
  have g2 : (0 : Int) ≤ (fv Po 1 1).toInt ∧ (fv Po 1 1).toInt ≤ 8 := Typ.rng hT rl_1 (by decide) (by decide) rfl
  refine mp_a (a_aload_n dX5_copyFrom_0 rfl) (mpp 1 rfl ?_)
  refine mp_a (a_aload_n dX5_copyFrom_1 rfl) (mpp 2 rfl ?_)
  refine mt_getI (i := 22) (k := 1) hT dX5_copyFrom_2 rfl rl_1 (by decide) rfl (by decide) rfl (fun g3 g4 => mpp 5 rfl ?_)
  refine mt_putI (i := 22) (k := 1) (x := (fv Po 1 1)) hT dX5_copyFrom_5 rfl ha0 (by decide) rfl (by decide) rfl ⟨by omega, by omega⟩ rfl rfl (fun P5 hT6 f7 f8 f9 => mpp 8 rfl ?_)
  have k10 : KW [65, 66, 67, 192, 193, 194, 256, 320] Po P5 := KW.step KW.refl ha0 rfl f8 f9
  have J11 := Inj.st hJ f9
  have e12 : (fv P5 a0_ 1).toInt = (fv Po 1 1).toInt := congrArg Int32.toInt f7
  refine mp_a (a_aload_n dX5_copyFrom_8 rfl) (mpp 9 rfl ?_)
  refine mp_a (a_aload_n dX5_copyFrom_9 rfl) (mpp 10 rfl ?_)
  have g13 := ti_full (fv P5 1 2)
  refine mt_getI (i := 17) (k := 2) hT6 dX5_copyFrom_10 rfl rl_1 (by decide) rfl (by decide) rfl (fun g14 g15 => mpp 13 rfl ?_)
  refine mt_putI (i := 17) (k := 2) (x := (fv P5 1 2)) hT6 dX5_copyFrom_13 rfl ha0 (by decide) rfl (by decide) rfl (ti_full (fv P5 1 2)) rfl rfl (fun P16 hT17 f18 f19 f20 => mpp 16 rfl ?_)
  have k21 : KW [65, 66, 67, 192, 193, 194, 256, 320] Po P16 := KW.step k10 ha0 rfl f19 f20
  have J22 := Inj.st J11 f20
  have e23 : (fv P16 a0_ 2).toInt = (fv P5 1 2).toInt := congrArg Int32.toInt f18
  refine mp_a (a_aload_n dX5_copyFrom_16 rfl) (mpp 17 rfl ?_)
  refine mp_a (a_aload_n dX5_copyFrom_17 rfl) (mpp 18 rfl ?_)
  have g24 := ti_full (fv P16 1 3)
  refine mt_getI (i := 25) (k := 3) hT17 dX5_copyFrom_18 rfl rl_1 (by decide) rfl (by decide) rfl (fun g25 g26 => mpp 21 rfl ?_)
  refine mt_putI (i := 25) (k := 3) (x := (fv P16 1 3)) hT17 dX5_copyFrom_21 rfl ha0 (by decide) rfl (by decide) rfl (ti_full (fv P16 1 3)) rfl rfl (fun P27 hT28 f29 f30 f31 => mpp 24 rfl ?_)
  have k32 : KW [65, 66, 67, 192, 193, 194, 256, 320] Po P27 := KW.step k21 ha0 rfl f30 f31
  have J33 := Inj.st J22 f31
  have e34 : (fv P27 a0_ 3).toInt = (fv P16 1 3).toInt := congrArg Int32.toInt f29
  refine mp_a (a_iconst (v := 0) dX5_copyFrom_24 rfl) (mpp 25 rfl ?_)
  refine mp_a (a_istore_n (L' := [(2, .int 0), (0, .ref a0_), (1, .ref 1)]) dX5_copyFrom_25 (by decide) rfl) (mpp 26 rfl ?_)
  refine MEvP.less (L := [(0, .ref a0_), (1, .ref 1), (2, .int 0)]) rfl rfl ⟨rfl, rfl, rfl, trivial⟩ ?_
  have i35 : (fv P27 a0_ 1 = fv Po 1 1 ∧ fv P27 a0_ 2 = fv Po 1 2 ∧ fv P27 a0_ 3 = fv Po 1 3) := ⟨by rw [f30 a0_ 1 (by omega), f19 a0_ 1 (by omega), f7], by rw [f30 a0_ 2 (by omega), f18, f8 1 2 (by omega)], by rw [f29, f19 1 3 (by omega), f8 1 3 (by omega)]⟩
  have i36 : ∀ k : Nat, k < 8 → (k : Int) < (0 : Int) → PE P27 (a0_ + 2 + 3 * k) Po (rv Po 2 k) := fun k hk h => absurd h (by omega)
  have i37 : KI a0_ (a0_ + 26) Po P27 := by intro x j hx; rw [f30 x j (by omega), f19 x j (by omega), f8 x j (by omega)]
  have e38 : (fv P27 a0_ 1).toInt = (fv P5 a0_ 1).toInt := congrArg Int32.toInt ((f30 a0_ 1 (ne_k rfl)).trans (f19 a0_ 1 (ne_k rfl)))
  have i39 : (fv P27 a0_ 1).toInt = (fv Po 1 1).toInt := by omega
  have i40 : 0 ≤ (0 : Int) := by omega
  have i41 : 0 ≤ (0 : Int) := by omega
  exact c_CS_copyFrom_State_NState_l26 hT hX hJ ha0 _ _ P27 hT28 k32 J33 i35 i36 i37 i39 i40 i41 rfl

set_option maxHeartbeats 4000000 in
theorem c_CH_push_History_NState {Po : mP}  (hT : Typ Po) (hX : XR Po)  (hJ : Inj Po)  : EvP 4 15 [.ref 79, .ref 1] Po (fun r P' => (r = none ∧ (True)) ∧ Typ P' ∧ KW [65, 66, 67, 192, 193, 194, 256, 320, 385, 386] Po P' ∧ Inj P' ∧ (((fv Po 79 3).toInt = 1 ∧ (fv P' 79 1).toInt = (fv Po 79 1).toInt ∧ (fv P' 79 2).toInt = (fv Po 79 2).toInt) ∨ ((fv Po 79 3).toInt = 0 ∧ (((fv Po 79 1).toInt < 7 ∧ (fv P' 79 1).toInt = (fv Po 79 1).toInt + 1) ∨ ((fv Po 79 1).toInt = 7 ∧ (fv P' 79 1).toInt = 0)) ∧ (((fv Po 79 2).toInt < 8 ∧ (fv P' 79 2).toInt = (fv Po 79 2).toInt + 1) ∨ ((fv Po 79 2).toInt = 8 ∧ (fv P' 79 2).toInt = 8)))) ∧ ((fv Po 79 3).toInt = 1 ∨ SCn P' (81 + 26 * (fv Po 79 1).toInt.toNat) Po) ∧ (∀ x j : Nat, ¬ x = 79 → (x < (81 + 26 * (fv Po 79 1).toInt.toNat) ∨ (81 + 26 * (fv Po 79 1).toInt.toNat) + 26 ≤ x) → fv P' x j = fv Po x j) ∧ ((fv Po 79 3).toInt = 0 ∨ ∀ x j : Nat, fv P' x j = fv Po x j) ∧ fv P' 79 3 = fv Po 79 3 ∧ KI 79 289 Po P') := by
  refine EvP.of qm_15 (Nat.le_of_ble_eq_true rfl) rfl ?_
  show MEvP _ none q_15 0 [(0, .ref 79), (1, .ref 1)] [] _ 0 0 _
  have g1 : (0 : Int) ≤ (fv Po 79 3).toInt ∧ (fv Po 79 3).toInt ≤ 1 := Typ.rng hT rl_79 (by decide) (by decide) rfl
  have g2 : (0 : Int) ≤ (fv Po 79 1).toInt ∧ (fv Po 79 1).toInt ≤ 7 := Typ.rng hT rl_79 (by decide) (by decide) rfl
  have g3 : (0 : Int) ≤ (fv Po 79 2).toInt ∧ (fv Po 79 2).toInt ≤ 8 := Typ.rng hT rl_79 (by decide) (by decide) rfl
  refine mp_a (a_aload_n dX0_push_0 rfl) (mpp 1 rfl ?_)
  refine mp_a (a_aload_n dX0_push_1 rfl) (mpp 2 rfl ?_)
  refine mt_getI (i := 18) (k := 1) hT dX0_push_2 rfl rl_79 (by decide) rfl (by decide) rfl (fun g4 g5 => mpp 5 rfl ?_)
  refine mt_callv (i := 22) (q' := q_16) (As := [.int (fv Po 79 1)]) (rest := []) hT dX0_push_5 rfl qm_16 (by decide) rfl rl_79 (by decide) rfl (Nat.le_of_ble_eq_true rfl) rfl ⟨rfl, rfl⟩ ⟨Nat.le_of_ble_eq_true rfl, Nat.le_of_ble_eq_true rfl⟩ (EvP.mono (by decide) (c_CH_stateAt_History hT hX )) (fun r6 P7 g8 => mpp 8 rfl ?_)
  obtain ⟨g8, e9⟩ := g8
  have e9 := e9.symm
  subst e9
  rcases g8 with ⟨rfl, q11n⟩ | ⟨b10, rfl, q11, q11r⟩
  · show MEvP _ none q_15 8 [(0, .ref 79), (1, .ref 1)] [.null] _ _ _ _
    replace q11n : (fv Po 79 1).toInt < 0 ∨ 8 ≤ (fv Po 79 1).toInt := q11n
    refine mp_a (a_astore_nN (L' := [(2, .null), (0, .ref 79), (1, .ref 1)]) dX0_push_8 (by decide) rfl) (mpp 9 rfl ?_)
    refine mp_a (a_aload_nN dX0_push_9 rfl) (mpp 10 rfl ?_)
    exfalso
    omega
  · show MEvP _ none q_15 8 [(0, .ref 79), (1, .ref 1)] [.ref b10] _ _ _ _
    replace q11r : 0 ≤ (fv Po 79 1).toInt ∧ (fv Po 79 1).toInt ≤ 7 ∧ b10 = 81 + 26 * (fv Po 79 1).toInt.toNat := q11r
    have w12 := st_ar q11
    refine mp_a (a_astore_n (L' := [(2, .ref b10), (0, .ref 79), (1, .ref 1)]) dX0_push_8 (by decide) rfl) (mpp 9 rfl ?_)
    refine mp_a (a_aload_n dX0_push_9 rfl) (mpp 10 rfl ?_)
    refine mp_t (s_ifnullR dX0_push_10) (mpp 13 rfl ?_)
    refine mp_a (a_aload_n dX0_push_13 rfl) (mpp 14 rfl ?_)
    refine mt_getI (i := 26) (k := 3) hT dX0_push_14 rfl rl_79 (by decide) rfl (by decide) rfl (fun g13 g14 => mpp 17 rfl ?_)
    refine mp_Tb (t := 63) (j_if_ne dX0_push_17) (by decide) (fun c15 => ?_) (fun c15 => mpp 20 rfl ?_)
    · have c15 : (fv Po 79 3).toInt ≠ 0 := ti_ne c15
      have u16 : (((fv Po 79 3).toInt = 1 ∧ (fv Po 79 1).toInt = (fv Po 79 1).toInt ∧ (fv Po 79 2).toInt = (fv Po 79 2).toInt) ∨ ((fv Po 79 3).toInt = 0 ∧ (((fv Po 79 1).toInt < 7 ∧ (fv Po 79 1).toInt = (fv Po 79 1).toInt + 1) ∨ ((fv Po 79 1).toInt = 7 ∧ (fv Po 79 1).toInt = 0)) ∧ (((fv Po 79 2).toInt < 8 ∧ (fv Po 79 2).toInt = (fv Po 79 2).toInt + 1) ∨ ((fv Po 79 2).toInt = 8 ∧ (fv Po 79 2).toInt = 8)))) := by omega
      have u17 : ((fv Po 79 3).toInt = 1 ∨ SCn Po (81 + 26 * (fv Po 79 1).toInt.toNat) Po) := Or.inl (by omega)
      have u18 : (∀ x j : Nat, ¬ x = 79 → (x < (81 + 26 * (fv Po 79 1).toInt.toNat) ∨ (81 + 26 * (fv Po 79 1).toInt.toNat) + 26 ≤ x) → fv Po x j = fv Po x j) := fun _ _ _ _ => rfl
      have u19 : ((fv Po 79 3).toInt = 0 ∨ ∀ x j : Nat, fv Po x j = fv Po x j) := Or.inr (fun _ _ => rfl)
      have u20 : fv Po 79 3 = fv Po 79 3 := by rw []
      have u21 : KI 79 289 Po Po := fun _ _ _ => rfl
      exact mp_ret ⟨⟨rfl, trivial⟩, hT, KW.refl, hJ, ⟨u16, u17, u18, u19, u20, u21⟩⟩ dX0_push_63 rfl
    · have c15 : (fv Po 79 3).toInt = 0 := ti_ne_n c15
      refine mp_a (a_aload_n dX0_push_20 rfl) (mpp 21 rfl ?_)
      refine mp_a (a_aload_n dX0_push_21 rfl) (mpp 22 rfl ?_)
      refine mt_callv (i := 30) (q' := q_17) (As := [.ref 1]) (rest := []) hT dX0_push_22 rfl qm_17 (by decide) rfl q11 (by decide) rfl (Nat.le_of_ble_eq_true rfl) rfl ⟨rfl, rfl⟩ ⟨Nat.le_of_ble_eq_true rfl, Nat.le_of_ble_eq_true rfl⟩ (EvP.mono (by decide) (c_CS_copyFrom_State_NState hT hX hJ q11)) (fun r22 P23 g24 => mpp 25 rfl ?_)
      obtain ⟨⟨rfl, g26⟩, hT27, k28, J31, R29⟩ := g24
      have k30 : KW [65, 66, 67, 192, 193, 194, 256, 320, 385, 386] Po P23 := KW.trans KW.refl k28 rfl
      show MEvP _ none q_15 25 [(2, .ref b10), (0, .ref 79), (1, .ref 1)] [] _ _ _ _
      refine mp_a (a_aload_n dX0_push_25 rfl) (mpp 26 rfl ?_)
      refine mp_a (a_aload_n dX0_push_26 rfl) (mpp 27 rfl ?_)
      have e32 : (fv P23 79 1).toInt = (fv Po 79 1).toInt := congrArg Int32.toInt (KW.at k28 1 rl_79 rfl)
      refine mt_getI (i := 18) (k := 1) hT27 dX0_push_27 rfl rl_79 (by decide) rfl (by decide) rfl (fun g33 g34 => mpp 30 rfl ?_)
      refine mp_a (a_bipush (v := 7) dX0_push_30 rfl) (mpp 32 rfl ?_)
      refine mp_Tb (t := 44) (j_icmp_ge dX0_push_32) (by decide) (fun c35 => ?_) (fun c35 => mpp 35 rfl ?_)
      · have c35 : (fv P23 79 1).toInt ≥ 7 := ti_ge c35
        refine mp_a (a_iconst (v := 0) dX0_push_44 rfl) (mpp 45 rfl ?_)
        refine mt_putI (i := 18) (k := 1) (x := 0) hT27 dX0_push_45 rfl rl_79 (by decide) rfl (by decide) rfl (by decide) rfl rfl (fun P36 hT37 f38 f39 f40 => mpp 48 rfl ?_)
        have k41 : KW [65, 66, 67, 192, 193, 194, 256, 320, 385, 386] Po P36 := KW.step k30 rl_79 rfl f39 f40
        have J42 := Inj.st J31 f40
        have e43 : (fv P36 79 1).toInt = 0 := congrArg Int32.toInt f38
        refine mp_a (a_aload_n dX0_push_48 rfl) (mpp 49 rfl ?_)
        refine mp_a (a_aload_n dX0_push_49 rfl) (mpp 50 rfl ?_)
        have e44 : (fv P36 79 2).toInt = (fv Po 79 2).toInt := congrArg Int32.toInt ((f39 79 2 (ne_k rfl)).trans (KW.at k28 2 rl_79 rfl))
        refine mt_getI (i := 34) (k := 2) hT37 dX0_push_50 rfl rl_79 (by decide) rfl (by decide) rfl (fun g45 g46 => mpp 53 rfl ?_)
        refine mp_a (a_iconst (v := 1) dX0_push_53 rfl) (mpp 54 rfl ?_)
        obtain ⟨z47, h48⟩ := ti_ex ((fv P36 79 2) + 1 : Int32)
        have wz47 := ti_full z47
        refine mp_t (s_iadd (v := z47) dX0_push_54 h48) (mpp 55 rfl ?_)
        try have e49 : z47.toInt = (fv P36 79 2).toInt + 1 := ti_addz h48 rfl rfl (by omega) (by omega)
        refine mp_a (a_bipush (v := 8) dX0_push_55 rfl) (mpp 57 rfl ?_)
        obtain ⟨z50, h51⟩ := ti_ex (if (8 : Nat) = 7 then (if z47 < 8 then 8 else z47) else (if 8 < z47 then 8 else z47) : Int32)
        have e52 : z50.toInt = min z47.toInt 8 := ti_mm8 h51
        refine mp_math (i := 37) (k := 0) (v := z50) dX0_push_57 rfl (by decide) (Nat.le_of_ble_eq_true rfl) h51 ⟨Nat.le_of_ble_eq_true rfl, Nat.le_of_ble_eq_true rfl⟩ (mpp 60 rfl ?_)
        refine mt_putI (i := 34) (k := 2) (x := z50) hT37 dX0_push_60 rfl rl_79 (by decide) rfl (by decide) rfl ⟨by omega, by omega⟩ rfl rfl (fun P53 hT54 f55 f56 f57 => mpp 63 rfl ?_)
        have k58 : KW [65, 66, 67, 192, 193, 194, 256, 320, 385, 386] Po P53 := KW.step k41 rl_79 rfl f56 f57
        have J59 := Inj.st J42 f57
        have e60 : (fv P53 79 2).toInt = z50.toInt := congrArg Int32.toInt f55
        have e62 : (fv P53 79 1).toInt = (fv P36 79 1).toInt := congrArg Int32.toInt (f56 79 1 (ne_k rfl))
        have u61 : (((fv Po 79 3).toInt = 1 ∧ (fv P53 79 1).toInt = (fv Po 79 1).toInt ∧ (fv P53 79 2).toInt = (fv Po 79 2).toInt) ∨ ((fv Po 79 3).toInt = 0 ∧ (((fv Po 79 1).toInt < 7 ∧ (fv P53 79 1).toInt = (fv Po 79 1).toInt + 1) ∨ ((fv Po 79 1).toInt = 7 ∧ (fv P53 79 1).toInt = 0)) ∧ (((fv Po 79 2).toInt < 8 ∧ (fv P53 79 2).toInt = (fv Po 79 2).toInt + 1) ∨ ((fv Po 79 2).toInt = 8 ∧ (fv P53 79 2).toInt = 8)))) := by omega
        have ka : KI 79 80 P23 P53 := fun x j hx => by rw [f56 x j (by omega), f39 x j (by omega)]
        have eb := q11r.2.2
        have u63 : ((fv Po 79 3).toInt = 1 ∨ SCn P53 (81 + 26 * (fv Po 79 1).toInt.toNat) Po) := Or.inr (eb ▸ SCn.keep (show SCn P23 b10 Po from ⟨R29.1, R29.2.1, R29.2.2.1, R29.2.2.2.1⟩) ka (by omega))
        have u64 : (∀ x j : Nat, ¬ x = 79 → (x < (81 + 26 * (fv Po 79 1).toInt.toNat) ∨ (81 + 26 * (fv Po 79 1).toInt.toNat) + 26 ≤ x) → fv P53 x j = fv Po x j) := fun x j h1 h2 => by rw [f56 x j (by omega), f39 x j (by omega), R29.2.2.2.2 x j (by omega)]
        have u65 : ((fv Po 79 3).toInt = 0 ∨ ∀ x j : Nat, fv P53 x j = fv Po x j) := Or.inl (by omega)
        have u66 : fv P53 79 3 = fv Po 79 3 := by rw [f56 79 3 (by omega), f39 79 3 (by omega), R29.2.2.2.2 79 3 (by omega)]
        have u67 : KI 79 289 Po P53 := by
          intro x j hx
          rw [f56 x j (by omega), f39 x j (by omega), R29.2.2.2.2 x j (by omega)]
        exact mp_ret ⟨⟨rfl, trivial⟩, hT54, k58, J59, ⟨u61, u63, u64, u65, u66, u67⟩⟩ dX0_push_63 rfl
      · have c35 : (fv P23 79 1).toInt < 7 := ti_ge_n c35
        refine mp_a (a_aload_n dX0_push_35 rfl) (mpp 36 rfl ?_)
        refine mt_getI (i := 18) (k := 1) hT27 dX0_push_36 rfl rl_79 (by decide) rfl (by decide) rfl (fun g68 g69 => mpp 39 rfl ?_)
        refine mp_a (a_iconst (v := 1) dX0_push_39 rfl) (mpp 40 rfl ?_)
        obtain ⟨z70, h71⟩ := ti_ex ((fv P23 79 1) + 1 : Int32)
        have wz70 := ti_full z70
        refine mp_t (s_iadd (v := z70) dX0_push_40 h71) (mpp 41 rfl ?_)
        try have e72 : z70.toInt = (fv P23 79 1).toInt + 1 := ti_addz h71 rfl rfl (by omega) (by omega)
        refine mp_a (a_goto (t := 45) dX0_push_41 (by decide)) ?_
        refine mt_putI (i := 18) (k := 1) (x := z70) hT27 dX0_push_45 rfl rl_79 (by decide) rfl (by decide) rfl ⟨by omega, by omega⟩ rfl rfl (fun P73 hT74 f75 f76 f77 => mpp 48 rfl ?_)
        have k78 : KW [65, 66, 67, 192, 193, 194, 256, 320, 385, 386] Po P73 := KW.step k30 rl_79 rfl f76 f77
        have J79 := Inj.st J31 f77
        have e80 : (fv P73 79 1).toInt = z70.toInt := congrArg Int32.toInt f75
        refine mp_a (a_aload_n dX0_push_48 rfl) (mpp 49 rfl ?_)
        refine mp_a (a_aload_n dX0_push_49 rfl) (mpp 50 rfl ?_)
        have e81 : (fv P73 79 2).toInt = (fv Po 79 2).toInt := congrArg Int32.toInt ((f76 79 2 (ne_k rfl)).trans (KW.at k28 2 rl_79 rfl))
        refine mt_getI (i := 34) (k := 2) hT74 dX0_push_50 rfl rl_79 (by decide) rfl (by decide) rfl (fun g82 g83 => mpp 53 rfl ?_)
        refine mp_a (a_iconst (v := 1) dX0_push_53 rfl) (mpp 54 rfl ?_)
        obtain ⟨z84, h85⟩ := ti_ex ((fv P73 79 2) + 1 : Int32)
        have wz84 := ti_full z84
        refine mp_t (s_iadd (v := z84) dX0_push_54 h85) (mpp 55 rfl ?_)
        try have e86 : z84.toInt = (fv P73 79 2).toInt + 1 := ti_addz h85 rfl rfl (by omega) (by omega)
        refine mp_a (a_bipush (v := 8) dX0_push_55 rfl) (mpp 57 rfl ?_)
        obtain ⟨z87, h88⟩ := ti_ex (if (8 : Nat) = 7 then (if z84 < 8 then 8 else z84) else (if 8 < z84 then 8 else z84) : Int32)
        have e89 : z87.toInt = min z84.toInt 8 := ti_mm8 h88
        refine mp_math (i := 37) (k := 0) (v := z87) dX0_push_57 rfl (by decide) (Nat.le_of_ble_eq_true rfl) h88 ⟨Nat.le_of_ble_eq_true rfl, Nat.le_of_ble_eq_true rfl⟩ (mpp 60 rfl ?_)
        refine mt_putI (i := 34) (k := 2) (x := z87) hT74 dX0_push_60 rfl rl_79 (by decide) rfl (by decide) rfl ⟨by omega, by omega⟩ rfl rfl (fun P90 hT91 f92 f93 f94 => mpp 63 rfl ?_)
        have k95 : KW [65, 66, 67, 192, 193, 194, 256, 320, 385, 386] Po P90 := KW.step k78 rl_79 rfl f93 f94
        have J96 := Inj.st J79 f94
        have e97 : (fv P90 79 2).toInt = z87.toInt := congrArg Int32.toInt f92
        have e99 : (fv P90 79 1).toInt = (fv P73 79 1).toInt := congrArg Int32.toInt (f93 79 1 (ne_k rfl))
        have u98 : (((fv Po 79 3).toInt = 1 ∧ (fv P90 79 1).toInt = (fv Po 79 1).toInt ∧ (fv P90 79 2).toInt = (fv Po 79 2).toInt) ∨ ((fv Po 79 3).toInt = 0 ∧ (((fv Po 79 1).toInt < 7 ∧ (fv P90 79 1).toInt = (fv Po 79 1).toInt + 1) ∨ ((fv Po 79 1).toInt = 7 ∧ (fv P90 79 1).toInt = 0)) ∧ (((fv Po 79 2).toInt < 8 ∧ (fv P90 79 2).toInt = (fv Po 79 2).toInt + 1) ∨ ((fv Po 79 2).toInt = 8 ∧ (fv P90 79 2).toInt = 8)))) := by omega
        have ka : KI 79 80 P23 P90 := fun x j hx => by rw [f93 x j (by omega), f76 x j (by omega)]
        have eb := q11r.2.2
        have u100 : ((fv Po 79 3).toInt = 1 ∨ SCn P90 (81 + 26 * (fv Po 79 1).toInt.toNat) Po) := Or.inr (eb ▸ SCn.keep (show SCn P23 b10 Po from ⟨R29.1, R29.2.1, R29.2.2.1, R29.2.2.2.1⟩) ka (by omega))
        have u101 : (∀ x j : Nat, ¬ x = 79 → (x < (81 + 26 * (fv Po 79 1).toInt.toNat) ∨ (81 + 26 * (fv Po 79 1).toInt.toNat) + 26 ≤ x) → fv P90 x j = fv Po x j) := fun x j h1 h2 => by rw [f93 x j (by omega), f76 x j (by omega), R29.2.2.2.2 x j (by omega)]
        have u102 : ((fv Po 79 3).toInt = 0 ∨ ∀ x j : Nat, fv P90 x j = fv Po x j) := Or.inl (by omega)
        have u103 : fv P90 79 3 = fv Po 79 3 := by rw [f93 79 3 (by omega), f76 79 3 (by omega), R29.2.2.2.2 79 3 (by omega)]
        have u104 : KI 79 289 Po P90 := by
          intro x j hx
          rw [f93 x j (by omega), f76 x j (by omega), R29.2.2.2.2 x j (by omega)]
        exact mp_ret ⟨⟨rfl, trivial⟩, hT91, k95, J96, ⟨u98, u100, u101, u102, u103, u104⟩⟩ dX0_push_63 rfl

set_option maxHeartbeats 4000000 in
theorem c_F_refuse {Po : mP} {t1 : Int32} {t2 : Int32} (hT : Typ Po) (hX : XR Po)   : EvP 1 14 [.ref 0, .int t1, .int t2] Po (fun r P' => (∃ x : Int32, r = some (.int x) ∧ (x.toInt = -1003)) ∧ Typ P' ∧ KW [10, 11, 12] Po P' ∧ fv P' 0 8 = fv Po 0 8 ∧ KI 0 1 Po P') := by
  refine EvP.of qm_14 (Nat.le_of_ble_eq_true rfl) rfl ?_
  show MEvP _ none q_14 0 [(0, .ref 0), (1, .int t1), (2, .int t2)] [] _ 0 0 _
  have w_t1 := ti_full t1
  have w_t2 := ti_full t2
  refine mp_a (a_aload_n dX6_refuse_0 rfl) (mpp 1 rfl ?_)
  refine mp_a (a_iload_n dX6_refuse_1 rfl) (mpp 2 rfl ?_)
  refine mt_putI (i := 246) (k := 10) (x := t1) hT dX6_refuse_2 rfl rl_0 (by decide) rfl (by decide) rfl (ti_full t1) rfl rfl (fun P1 hT2 f3 f4 f5 => mpp 5 rfl ?_)
  have k6 : KW [10, 11, 12] Po P1 := KW.step KW.refl rl_0 rfl f4 f5
  have e7 : (fv P1 0 10).toInt = t1.toInt := congrArg Int32.toInt f3
  refine mp_a (a_aload_n dX6_refuse_5 rfl) (mpp 6 rfl ?_)
  refine mp_a (a_iload_n dX6_refuse_6 rfl) (mpp 7 rfl ?_)
  refine mt_putI (i := 249) (k := 11) (x := t2) hT2 dX6_refuse_7 rfl rl_0 (by decide) rfl (by decide) rfl (ti_full t2) rfl rfl (fun P8 hT9 f10 f11 f12 => mpp 10 rfl ?_)
  have k13 : KW [10, 11, 12] Po P8 := KW.step k6 rl_0 rfl f11 f12
  have e14 : (fv P8 0 11).toInt = t2.toInt := congrArg Int32.toInt f10
  refine mp_a (a_aload_n dX6_refuse_10 rfl) (mpp 11 rfl ?_)
  refine mp_a (a_aload_n dX6_refuse_11 rfl) (mpp 12 rfl ?_)
  have g15 := ti_full (fv P8 0 9)
  refine mt_getI (i := 57) (k := 9) hT9 dX6_refuse_12 rfl rl_0 (by decide) rfl (by decide) rfl (fun g16 g17 => mpp 15 rfl ?_)
  refine mt_putI (i := 61) (k := 12) (x := (fv P8 0 9)) hT9 dX6_refuse_15 rfl rl_0 (by decide) rfl (by decide) rfl (ti_full (fv P8 0 9)) rfl rfl (fun P18 hT19 f20 f21 f22 => mpp 18 rfl ?_)
  have k23 : KW [10, 11, 12] Po P18 := KW.step k13 rl_0 rfl f21 f22
  have e24 : (fv P18 0 12).toInt = (fv P8 0 9).toInt := congrArg Int32.toInt f20
  refine mp_a (a_sipush (v := -1003) dX6_refuse_18 rfl) (mpp 21 rfl ?_)
  have u25 : (-1003 : Int) = -1003 := by omega
  have u26 : fv P18 0 8 = fv Po 0 8 := by rw [f21 0 8 (by omega), f11 0 8 (by omega), f4 0 8 (by omega)]
  have u27 : KI 0 1 Po P18 := by
    intro x j hx
    rw [f21 x j (by omega), f11 x j (by omega), f4 x j (by omega)]
  exact mp_iret ⟨⟨_, rfl, u25⟩, hT19, k23, ⟨u26, u27⟩⟩ dX6_refuse_21 (Or.inl rfl)

set_option maxHeartbeats 4000000 in
theorem c_F_stage {Po : mP} {t1 : Int32} (hT : Typ Po) (hX : XR Po)  (hJ : Inj Po)  : EvP 5 7 [.ref 0, .int t1] Po (fun r P' => (∃ x : Int32, r = some (.int x) ∧ (KPX Po P' ∧ stageC Po P' x.toInt t1.toInt t1)) ∧ Typ P' ∧ KW [10, 11, 12, 65, 66, 67, 192, 193, 194, 256, 320, 385, 386, 1986] Po P' ∧ Inj P' ∧ True) := by
  refine EvP.of qm_7 (Nat.le_of_ble_eq_true rfl) rfl ?_
  show MEvP _ none q_7 0 [(0, .ref 0), (1, .int t1)] [] _ 0 0 _
  have w_t1 := ti_full t1
  refine mp_a (a_iload_n dX6_stage_0 rfl) (mpp 1 rfl ?_)
  refine mp_a (a_iconst (v := 1) dX6_stage_1 rfl) (mpp 2 rfl ?_)
  refine mp_Tb (t := 11) (j_icmp_lt dX6_stage_2) (by decide) (fun c1 => ?_) (fun c1 => mpp 5 rfl ?_)
  · have c1 : t1.toInt < 1 := ti_lt c1
    refine mp_a (a_sipush (v := -1002) dX6_stage_11 rfl) (mpp 14 rfl ?_)
    have u2 : KPX Po Po ∧ stageC Po Po (-1002 : Int) t1.toInt t1 := ⟨⟨rfl, fun x j hx => rfl⟩, (show ((-1002 : Int) = -1002 ∧ (t1.toInt < 1 ∨ 99 < t1.toInt) ∧ NCH Po Po) ∨ ((-1002 : Int) = -1003 ∧ (1 ≤ t1.toInt ∧ t1.toInt ≤ 99) ∧ 0 < ((smF (fun k : Nat => wpC Po (rv Po 2 k)) (fv Po 1 1).toInt.toNat) - t1).toInt ∧ NCH Po Po) ∨ ((1 ≤ t1.toInt ∧ t1.toInt ≤ 99) ∧ ((smF (fun k : Nat => wpC Po (rv Po 2 k)) (fv Po 1 1).toInt.toNat) - t1).toInt ≤ 0 ∧ (-1002 : Int) = (fv Po 1 2).toInt ∧ PSH Po Po ∧ (fv Po 1 2).toInt = t1.toInt ∧ (∀ x j : Nat, 1 ≤ x → x < 27 → ¬ (x = 1 ∧ j = 2) → fv Po x j = fv Po x j) ∧ ∀ k : Nat, rv Po 2 k = rv Po 2 k) from by exact Or.inl (⟨by omega, by omega, ⟨fun x j h1 h2 => rfl, fun k => rfl⟩⟩))⟩
    exact mp_iret ⟨⟨_, rfl, u2⟩, hT, KW.refl, hJ, trivial⟩ dX6_stage_14 (Or.inl rfl)
  · have c1 : t1.toInt ≥ 1 := ti_lt_n c1
    refine mp_a (a_iload_n dX6_stage_5 rfl) (mpp 6 rfl ?_)
    refine mp_a (a_bipush (v := 99) dX6_stage_6 rfl) (mpp 8 rfl ?_)
    refine mp_Tb (t := 15) (j_icmp_le dX6_stage_8) (by decide) (fun c3 => ?_) (fun c3 => mpp 11 rfl ?_)
    · have c3 : t1.toInt ≤ 99 := ti_le c3
      refine mp_a (a_aload_n dX6_stage_15 rfl) (mpp 16 rfl ?_)
      refine mt_getU (i := 10) (k := 0) (A := 1) hT dX6_stage_16 rfl rl_0 (by decide) rfl (by decide) rfl un_31 (mpp 19 rfl ?_)
      refine mt_callv (i := 64) (q' := q_8) (As := []) (rest := []) hT dX6_stage_19 rfl qm_8 (by decide) rfl rl_1 (by decide) rfl (Nat.le_of_ble_eq_true rfl) rfl ⟨rfl, rfl⟩ ⟨Nat.le_of_ble_eq_true rfl, Nat.le_of_ble_eq_true rfl⟩ (EvP.mono (by decide) (c_CS_occupied_NState hT hX )) (fun r4 P5 g6 => mpp 22 rfl ?_)
      obtain ⟨⟨x7, rfl, g8⟩, e9⟩ := g6
      have e9 := e9.symm
      subst e9
      have wx7 := ti_full x7
      replace g8 : x7.toInt = (smF (fun k : Nat => wpC Po (rv Po 2 k)) (fv Po 1 1).toInt.toNat).toInt := g8
      have g10 : (0 : Int) ≤ (fv Po 1 1).toInt ∧ (fv Po 1 1).toInt ≤ 8 := Typ.rng hT rl_1 (by decide) (by decide) rfl
      show MEvP _ none q_7 22 [(0, .ref 0), (1, .int t1)] [.int x7] _ _ _ _
      refine mp_a (a_iload_n dX6_stage_22 rfl) (mpp 23 rfl ?_)
      obtain ⟨z11, h12⟩ := ti_ex (x7 - t1 : Int32)
      have wz11 := ti_full z11
      refine mp_t (s_isub (v := z11) dX6_stage_23 h12) (mpp 24 rfl ?_)
      try have e13 : z11.toInt = x7.toInt - t1.toInt := ti_subz h12 rfl rfl (by omega) (by omega)
      refine mp_a (a_istore_n (L' := [(2, .int z11), (0, .ref 0), (1, .int t1)]) dX6_stage_24 (by decide) rfl) (mpp 25 rfl ?_)
      refine mp_a (a_iload_n dX6_stage_25 rfl) (mpp 26 rfl ?_)
      refine mp_Tb (t := 37) (j_if_le dX6_stage_26) (by decide) (fun c14 => ?_) (fun c14 => mpp 29 rfl ?_)
      · have c14 : z11.toInt ≤ 0 := ti_le c14
        refine mp_a (a_aload_n dX6_stage_37 rfl) (mpp 38 rfl ?_)
        refine mt_getU (i := 25) (k := 3) (A := 79) hT dX6_stage_38 rfl rl_0 (by decide) rfl (by decide) rfl un_6 (mpp 41 rfl ?_)
        refine mp_a (a_aload_n dX6_stage_41 rfl) (mpp 42 rfl ?_)
        refine mt_getU (i := 10) (k := 0) (A := 1) hT dX6_stage_42 rfl rl_0 (by decide) rfl (by decide) rfl un_31 (mpp 45 rfl ?_)
        refine mt_callv (i := 72) (q' := q_15) (As := [.ref 1]) (rest := []) hT dX6_stage_45 rfl qm_15 (by decide) rfl rl_79 (by decide) rfl (Nat.le_of_ble_eq_true rfl) rfl ⟨rfl, rfl⟩ ⟨Nat.le_of_ble_eq_true rfl, Nat.le_of_ble_eq_true rfl⟩ (EvP.mono (by decide) (c_CH_push_History_NState hT hX hJ )) (fun r15 P16 g17 => mpp 48 rfl ?_)
        obtain ⟨⟨rfl, g19⟩, hT20, k21, J24, R22⟩ := g17
        have k23 : KW [10, 11, 12, 65, 66, 67, 192, 193, 194, 256, 320, 385, 386, 1986] Po P16 := KW.trans KW.refl k21 rfl
        show MEvP _ none q_7 48 [(2, .int z11), (0, .ref 0), (1, .int t1)] [] _ _ _ _
        refine mp_a (a_aload_n dX6_stage_48 rfl) (mpp 49 rfl ?_)
        refine mt_getU (i := 10) (k := 0) (A := 1) hT20 dX6_stage_49 rfl rl_0 (by decide) rfl (by decide) rfl un_31 (mpp 52 rfl ?_)
        have g25 := ti_full (fv P16 1 2)
        refine mt_getI (i := 76) (k := 2) hT20 dX6_stage_52 rfl rl_1 (by decide) rfl (by decide) rfl (fun g26 g27 => mpp 55 rfl ?_)
        refine mp_a (a_istore_n (L' := [(3, .int (fv P16 1 2)), (2, .int z11), (0, .ref 0), (1, .int t1)]) dX6_stage_55 (by decide) rfl) (mpp 56 rfl ?_)
        refine mp_a (a_aload_n dX6_stage_56 rfl) (mpp 57 rfl ?_)
        refine mt_getU (i := 10) (k := 0) (A := 1) hT20 dX6_stage_57 rfl rl_0 (by decide) rfl (by decide) rfl un_31 (mpp 60 rfl ?_)
        refine mp_a (a_iload_n dX6_stage_60 rfl) (mpp 61 rfl ?_)
        refine mt_putI (i := 76) (k := 2) (x := t1) hT20 dX6_stage_61 rfl rl_1 (by decide) rfl (by decide) rfl (ti_full t1) rfl rfl (fun P28 hT29 f30 f31 f32 => mpp 64 rfl ?_)
        have k33 : KW [10, 11, 12, 65, 66, 67, 192, 193, 194, 256, 320, 385, 386, 1986] Po P28 := KW.step k23 rl_1 rfl f31 f32
        have J34 := Inj.st J24 f32
        have e35 : (fv P28 1 2).toInt = t1.toInt := congrArg Int32.toInt f30
        refine mp_a (a_iload_n dX6_stage_64 rfl) (mpp 65 rfl ?_)
        have e37 : (fv P16 1 1).toInt = (fv Po 1 1).toInt := congrArg Int32.toInt (R22.2.2.2.2.2 1 1 (by omega))
        have e38 : (fv P16 1 2).toInt = (fv Po 1 2).toInt := congrArg Int32.toInt (R22.2.2.2.2.2 1 2 (by omega))
        have e39 : (fv P16 1 3).toInt = (fv Po 1 3).toInt := congrArg Int32.toInt (R22.2.2.2.2.2 1 3 (by omega))
        have e40 : (fv P28 1 1).toInt = (fv P16 1 1).toInt := congrArg Int32.toInt (f31 1 1 (by omega))
        have e41 : (fv P28 1 3).toInt = (fv P16 1 3).toInt := congrArg Int32.toInt (f31 1 3 (by omega))
        have u36 : KPX Po P28 ∧ stageC Po P28 (fv P16 1 2).toInt t1.toInt t1 := ⟨⟨by rw [f31 0 8 (by omega), R22.2.2.2.2.2 0 8 (by omega)], fun x j hx => by rw [f31 x j (by omega), R22.2.2.2.2.2 x j (by omega)]⟩, (show ((fv P16 1 2).toInt = -1002 ∧ (t1.toInt < 1 ∨ 99 < t1.toInt) ∧ NCH Po P28) ∨ ((fv P16 1 2).toInt = -1003 ∧ (1 ≤ t1.toInt ∧ t1.toInt ≤ 99) ∧ 0 < ((smF (fun k : Nat => wpC Po (rv Po 2 k)) (fv Po 1 1).toInt.toNat) - t1).toInt ∧ NCH Po P28) ∨ ((1 ≤ t1.toInt ∧ t1.toInt ≤ 99) ∧ ((smF (fun k : Nat => wpC Po (rv Po 2 k)) (fv Po 1 1).toInt.toNat) - t1).toInt ≤ 0 ∧ (fv P16 1 2).toInt = (fv Po 1 2).toInt ∧ PSH Po P28 ∧ (fv P28 1 2).toInt = t1.toInt ∧ (∀ x j : Nat, 1 ≤ x → x < 27 → ¬ (x = 1 ∧ j = 2) → fv P28 x j = fv Po x j) ∧ ∀ k : Nat, rv P28 2 k = rv Po 2 k) from by exact Or.inr (Or.inr (⟨by omega, by rw [← Int32.toInt_inj.mp g8, h12]; omega, by omega, PSH.mk (P := Po) (Q := P16) hT R22.1 R22.2.1 R22.2.2.1 R22.2.2.2.1 R22.2.2.2.2.1 (fun x j h1 h2 => by rw [f31 x j (by omega)]) (fun x j hx => rfl) (fun k => rfl) (Typ.rng hT rl_79 (by decide) (by decide) rfl), by omega, fun x j h1 h2 h3 => by rw [f31 x j (by omega), R22.2.2.2.2.2 x j (by omega)], fun k => by rw [f32 2 k, k21.2.2 rfl k]⟩)))⟩
        exact mp_iret ⟨⟨_, rfl, u36⟩, hT29, k33, J34, trivial⟩ dX6_stage_65 (Or.inl rfl)
      · have c14 : z11.toInt > 0 := ti_le_n c14
        refine mp_a (a_aload_n dX6_stage_29 rfl) (mpp 30 rfl ?_)
        refine mp_a (a_bipush (v := 7) dX6_stage_30 rfl) (mpp 32 rfl ?_)
        refine mp_a (a_iload_n dX6_stage_32 rfl) (mpp 33 rfl ?_)
        refine mt_callv (i := 68) (q' := q_14) (As := [.int 7, .int z11]) (rest := []) hT dX6_stage_33 rfl qm_14 (by decide) rfl rl_0 (by decide) rfl (Nat.le_of_ble_eq_true rfl) rfl ⟨rfl, rfl⟩ ⟨Nat.le_of_ble_eq_true rfl, Nat.le_of_ble_eq_true rfl⟩ (EvP.mono (by decide) (c_F_refuse hT hX )) (fun r42 P43 g44 => mpp 36 rfl ?_)
        obtain ⟨⟨x45, rfl, g46⟩, hT47, k48, R49⟩ := g44
        have k50 : KW [10, 11, 12, 65, 66, 67, 192, 193, 194, 256, 320, 385, 386, 1986] Po P43 := KW.trans KW.refl k48 rfl
        have J52 := Inj.kw hJ k48 rfl
        have wx45 := ti_full x45
        replace g46 : x45.toInt = -1003 := g46
        show MEvP _ none q_7 36 [(2, .int z11), (0, .ref 0), (1, .int t1)] [.int x45] _ _ _ _
        have e54 : (fv P43 1 1).toInt = (fv Po 1 1).toInt := congrArg Int32.toInt (R49.2 1 1 (by omega))
        have e55 : (fv P43 1 2).toInt = (fv Po 1 2).toInt := congrArg Int32.toInt (R49.2 1 2 (by omega))
        have e56 : (fv P43 1 3).toInt = (fv Po 1 3).toInt := congrArg Int32.toInt (R49.2 1 3 (by omega))
        have u53 : KPX Po P43 ∧ stageC Po P43 x45.toInt t1.toInt t1 := ⟨⟨by rw [R49.1], fun x j hx => by rw [R49.2 x j (by omega)]⟩, (show (x45.toInt = -1002 ∧ (t1.toInt < 1 ∨ 99 < t1.toInt) ∧ NCH Po P43) ∨ (x45.toInt = -1003 ∧ (1 ≤ t1.toInt ∧ t1.toInt ≤ 99) ∧ 0 < ((smF (fun k : Nat => wpC Po (rv Po 2 k)) (fv Po 1 1).toInt.toNat) - t1).toInt ∧ NCH Po P43) ∨ ((1 ≤ t1.toInt ∧ t1.toInt ≤ 99) ∧ ((smF (fun k : Nat => wpC Po (rv Po 2 k)) (fv Po 1 1).toInt.toNat) - t1).toInt ≤ 0 ∧ x45.toInt = (fv Po 1 2).toInt ∧ PSH Po P43 ∧ (fv P43 1 2).toInt = t1.toInt ∧ (∀ x j : Nat, 1 ≤ x → x < 27 → ¬ (x = 1 ∧ j = 2) → fv P43 x j = fv Po x j) ∧ ∀ k : Nat, rv P43 2 k = rv Po 2 k) from by exact Or.inr (Or.inl (⟨by omega, by omega, by rw [← Int32.toInt_inj.mp g8, h12]; omega, ⟨fun x j h1 h2 => by rw [R49.2 x j (by omega)], fun k => by rw [k48.2.2 rfl k]⟩⟩)))⟩
        exact mp_iret ⟨⟨_, rfl, u53⟩, hT47, k50, J52, trivial⟩ dX6_stage_36 (Or.inl rfl)
    · have c3 : t1.toInt > 99 := ti_le_n c3
      refine mp_a (a_sipush (v := -1002) dX6_stage_11 rfl) (mpp 14 rfl ?_)
      have u57 : KPX Po Po ∧ stageC Po Po (-1002 : Int) t1.toInt t1 := ⟨⟨rfl, fun x j hx => rfl⟩, (show ((-1002 : Int) = -1002 ∧ (t1.toInt < 1 ∨ 99 < t1.toInt) ∧ NCH Po Po) ∨ ((-1002 : Int) = -1003 ∧ (1 ≤ t1.toInt ∧ t1.toInt ≤ 99) ∧ 0 < ((smF (fun k : Nat => wpC Po (rv Po 2 k)) (fv Po 1 1).toInt.toNat) - t1).toInt ∧ NCH Po Po) ∨ ((1 ≤ t1.toInt ∧ t1.toInt ≤ 99) ∧ ((smF (fun k : Nat => wpC Po (rv Po 2 k)) (fv Po 1 1).toInt.toNat) - t1).toInt ≤ 0 ∧ (-1002 : Int) = (fv Po 1 2).toInt ∧ PSH Po Po ∧ (fv Po 1 2).toInt = t1.toInt ∧ (∀ x j : Nat, 1 ≤ x → x < 27 → ¬ (x = 1 ∧ j = 2) → fv Po x j = fv Po x j) ∧ ∀ k : Nat, rv Po 2 k = rv Po 2 k) from by exact Or.inl (⟨by omega, by omega, ⟨fun x j h1 h2 => rfl, fun k => rfl⟩⟩))⟩
      exact mp_iret ⟨⟨_, rfl, u57⟩, hT, KW.refl, hJ, trivial⟩ dX6_stage_14 (Or.inl rfl)

set_option maxHeartbeats 4000000 in
theorem c_CP_sum_Piece_l4 {Po : mP} {a0_ : Nat} (hT : Typ Po) (hX : XR Po)  (ha0 : rl a0_ = 3) : ∀ (n : Nat) (v1 : Int32) (v2 : Int32), (v1 = smF (fun j : Nat => fv Po (a0_ + 1) j) v2.toInt.toNat) → (v2.toInt ≤ (fv Po a0_ 1).toInt) → (0 ≤ v2.toInt) → (2147483647 - v2.toInt).toNat = n → MEvP 1 none q_23 4 [(0, .ref a0_), (1, .int v1), (2, .int v2)] [] Po 0 0 (fun r P' => (∃ x : Int32, r = some (.int x) ∧ (x.toInt = (smF (fun j : Nat => fv Po (a0_ + 1) j) (fv Po a0_ 1).toInt.toNat).toInt)) ∧ P' = Po) := by
  intro n
  induction n using Nat.strongRecOn with | _ n ih => ?_
  intro v1 v2 i_0 i_1 i_2 hm
  have w1 := pc_ar ha0
  have w_v1 := ti_full v1
  have w_v2 := ti_full v2
  have g2 : (0 : Int) ≤ (fv Po a0_ 1).toInt ∧ (fv Po a0_ 1).toInt ≤ 8 := Typ.rng hT ha0 (by decide) (by decide) rfl
  refine mp_a (a_iload_n dX2_sum_4 rfl) (mpp 5 rfl ?_)
  refine mp_a (a_aload_n dX2_sum_5 rfl) (mpp 6 rfl ?_)
  refine mt_getI (i := 26) (k := 1) hT dX2_sum_6 rfl ha0 (by decide) rfl (by decide) rfl (fun g3 g4 => mpp 9 rfl ?_)
  refine mp_Tb (t := 29) (j_icmp_ge dX2_sum_9) (by decide) (fun c5 => ?_) (fun c5 => mpp 12 rfl ?_)
  · have c5 : v2.toInt ≥ (fv Po a0_ 1).toInt := ti_ge c5
    refine mp_a (a_iload_n dX2_sum_29 rfl) (mpp 30 rfl ?_)
    have u6 : v1.toInt = (smF (fun j : Nat => fv Po (a0_ + 1) j) (fv Po a0_ 1).toInt.toNat).toInt := congrArg Int32.toInt (i_0.trans (congrArg (smF _) (by omega)))
    exact mp_iret ⟨⟨_, rfl, u6⟩, rfl⟩ dX2_sum_30 (Or.inl rfl)
  · have c5 : v2.toInt < (fv Po a0_ 1).toInt := ti_ge_n c5
    refine mp_a (a_iload_n dX2_sum_12 rfl) (mpp 13 rfl ?_)
    refine mp_a (a_aload_n dX2_sum_13 rfl) (mpp 14 rfl ?_)
    refine mt_getE (i := 9) (k := 3) hT dX2_sum_14 rfl ha0 (by decide) rfl (by decide) rfl (hX.1 a0_ (Or.inl ha0)).1 (fun q7 => mpp 17 rfl ?_)
    refine mp_a (a_iload_n dX2_sum_17 rfl) (mpp 18 rfl ?_)
    refine mp_calls (i := 48) (q' := q_12) (As := [.ref (a0_ + 1), .int v2]) (rest := [.int v1]) dX2_sum_18 rfl qm_12 (by decide) rfl (Nat.le_of_ble_eq_true rfl) rfl ⟨rfl, rfl⟩ ⟨Nat.le_of_ble_eq_true rfl, Nat.le_of_ble_eq_true rfl⟩ (EvP.mono (by decide) (c_F_at_sizes hT hX q7)) (fun r8 P9 g10 => mpp 21 rfl ?_)
    obtain ⟨⟨x11, rfl, g12⟩, e13⟩ := g10
    have e13 := e13.symm
    subst e13
    have wx11 := ti_full x11
    replace g12 : (0 ≤ v2.toInt ∧ v2.toInt ≤ 7 ∧ x11.toInt = (fv Po (a0_ + 1) v2.toInt.toNat).toInt) ∨ ((v2.toInt < 0 ∨ 8 ≤ v2.toInt) ∧ x11.toInt = 0) := g12
    try replace g12 : x11.toInt = (fv Po (a0_ + 1) v2.toInt.toNat).toInt := (g12.resolve_right (by omega)).2.2
    show MEvP _ none q_23 21 [(0, .ref a0_), (1, .int v1), (2, .int v2)] [.int x11, .int v1] _ _ _ _
    obtain ⟨z14, h15⟩ := ti_ex (v1 + x11 : Int32)
    have wz14 := ti_full z14
    refine mp_t (s_iadd (v := z14) dX2_sum_21 h15) (mpp 22 rfl ?_)
    try have e16 : z14.toInt = v1.toInt + x11.toInt := ti_addz h15 rfl rfl (by omega) (by omega)
    refine mp_a (a_istore_n (L' := [(1, .int z14), (0, .ref a0_), (2, .int v2)]) dX2_sum_22 (by decide) rfl) (mpp 23 rfl ?_)
    obtain ⟨z17, h18⟩ := ti_ex (v2 + 1 : Int32)
    have wz17 := ti_full z17
    refine mp_a (a_iinc (v := z17) (L' := [(2, .int z17), (1, .int z14), (0, .ref a0_)]) dX2_sum_23 (by decide) rfl h18 rfl) (mpp 26 rfl ?_)
    try have e19 : z17.toInt = v2.toInt + 1 := ti_addz h18 rfl rfl (by omega) (by omega)
    refine mp_a (a_goto (t := 4) dX2_sum_26 (by decide)) ?_
    refine MEvP.less (L := [(0, .ref a0_), (1, .int z14), (2, .int z17)]) rfl rfl ⟨rfl, rfl, rfl, trivial⟩ ?_
    have i20 : z14 = smF (fun j : Nat => fv Po (a0_ + 1) j) z17.toInt.toNat := smF.step i_0 (by omega) (by show _ = (fv Po (a0_ + 1) v2.toInt.toNat).toInt; omega) h15
    have i21 : z17.toInt ≤ (fv Po a0_ 1).toInt := by omega
    have i22 : 0 ≤ z17.toInt := by omega
    exact ih _ (by omega) _ _ i20 i21 i22 rfl

set_option maxHeartbeats 4000000 in
theorem c_CP_sum_Piece {Po : mP} {a0_ : Nat} (hT : Typ Po) (hX : XR Po)  (ha0 : rl a0_ = 3) : EvP 2 23 [.ref a0_] Po (fun r P' => (∃ x : Int32, r = some (.int x) ∧ (x.toInt = (smF (fun j : Nat => fv Po (a0_ + 1) j) (fv Po a0_ 1).toInt.toNat).toInt)) ∧ P' = Po) := by
  refine EvP.of qm_23 (Nat.le_of_ble_eq_true rfl) rfl ?_
  show MEvP _ none q_23 0 [(0, .ref a0_)] [] _ 0 0 _
  have w1 := pc_ar ha0
  have g2 : (0 : Int) ≤ (fv Po a0_ 1).toInt ∧ (fv Po a0_ 1).toInt ≤ 8 := Typ.rng hT ha0 (by decide) (by decide) rfl
  refine mp_a (a_iconst (v := 0) dX2_sum_0 rfl) (mpp 1 rfl ?_)
  refine mp_a (a_istore_n (L' := [(1, .int 0), (0, .ref a0_)]) dX2_sum_1 (by decide) rfl) (mpp 2 rfl ?_)
  refine mp_a (a_iconst (v := 0) dX2_sum_2 rfl) (mpp 3 rfl ?_)
  refine mp_a (a_istore_n (L' := [(2, .int 0), (1, .int 0), (0, .ref a0_)]) dX2_sum_3 (by decide) rfl) (mpp 4 rfl ?_)
  refine MEvP.less (L := [(0, .ref a0_), (1, .int 0), (2, .int 0)]) rfl rfl ⟨rfl, rfl, rfl, trivial⟩ ?_
  have i3 : 0 = smF (fun j : Nat => fv Po (a0_ + 1) j) (0 : Int).toNat := rfl
  have i4 : (0 : Int) ≤ (fv Po a0_ 1).toInt := by omega
  have i5 : 0 ≤ (0 : Int) := by omega
  exact c_CP_sum_Piece_l4 hT hX  ha0 _ _ _ i3 i4 i5 rfl

set_option maxHeartbeats 4000000 in
theorem c_F_put_sizes {Po : mP} {a0_ : Nat} {t1 : Int32} {t2 : Int32} (hT : Typ Po) (hX : XR Po)  (ha0 : rl a0_ = 4) : EvP 1 22 [.ref a0_, .int t1, .int t2] Po (fun r P' => (r = none ∧ (True)) ∧ Typ P' ∧ KW [256] Po P' ∧ ((t1.toInt < 0 ∨ 8 ≤ t1.toInt) ∨ (fv P' a0_ t1.toInt.toNat).toInt = t2.toInt) ∧ (∀ x j : Nat, ¬ (x = a0_ ∧ j = t1.toInt.toNat) → fv P' x j = fv Po x j) ∧ KI a0_ (a0_ + 1) Po P') := by
  refine EvP.of qm_22 (Nat.le_of_ble_eq_true rfl) rfl ?_
  show MEvP _ none q_22 0 [(0, .ref a0_), (1, .int t1), (2, .int t2)] [] _ 0 0 _
  have w_t1 := ti_full t1
  have w_t2 := ti_full t2
  refine mp_a (a_iload_n dX6_put_0 rfl) (mpp 1 rfl ?_)
  refine mp_Tb (t := 14) (j_if_lt dX6_put_1) (by decide) (fun c1 => ?_) (fun c1 => mpp 4 rfl ?_)
  · have c1 : t1.toInt < 0 := ti_lt c1
    have u2 : ((t1.toInt < 0 ∨ 8 ≤ t1.toInt) ∨ (fv Po a0_ t1.toInt.toNat).toInt = t2.toInt) := Or.inl (by omega)
    have u3 : (∀ x j : Nat, ¬ (x = a0_ ∧ j = t1.toInt.toNat) → fv Po x j = fv Po x j) := fun _ _ _ => rfl
    have u4 : KI a0_ (a0_ + 1) Po Po := fun _ _ _ => rfl
    exact mp_ret ⟨⟨rfl, trivial⟩, hT, KW.refl, ⟨u2, u3, u4⟩⟩ dX6_put_14 rfl
  · have c1 : t1.toInt ≥ 0 := ti_lt_n c1
    refine mp_a (a_iload_n dX6_put_4 rfl) (mpp 5 rfl ?_)
    refine mp_a (a_aload_n dX6_put_5 rfl) (mpp 6 rfl ?_)
    refine mt_len (n := 8) hT dX6_put_6 ha0 (by decide) (by decide) rfl (mpp 7 rfl ?_)
    refine mp_Tb (t := 14) (j_icmp_ge dX6_put_7) (by decide) (fun c5 => ?_) (fun c5 => mpp 10 rfl ?_)
    · have c5 : t1.toInt ≥ 8 := ti_ge c5
      have u6 : ((t1.toInt < 0 ∨ 8 ≤ t1.toInt) ∨ (fv Po a0_ t1.toInt.toNat).toInt = t2.toInt) := Or.inl (by omega)
      have u7 : (∀ x j : Nat, ¬ (x = a0_ ∧ j = t1.toInt.toNat) → fv Po x j = fv Po x j) := fun _ _ _ => rfl
      have u8 : KI a0_ (a0_ + 1) Po Po := fun _ _ _ => rfl
      exact mp_ret ⟨⟨rfl, trivial⟩, hT, KW.refl, ⟨u6, u7, u8⟩⟩ dX6_put_14 rfl
    · have c5 : t1.toInt < 8 := ti_ge_n c5
      refine mp_a (a_aload_n dX6_put_10 rfl) (mpp 11 rfl ?_)
      refine mp_a (a_iload_n dX6_put_11 rfl) (mpp 12 rfl ?_)
      refine mp_a (a_iload_n dX6_put_12 rfl) (mpp 13 rfl ?_)
      refine mt_ias (n := 8) hT dX6_put_13 ha0 (by decide) rfl rfl (by omega) (by omega) rfl (ti_full t2) (fun P9 hT10 f11 f12 f13 => mpp 14 rfl ?_)
      have k14 : KW [256] Po P9 := KW.step KW.refl ha0 rfl f12 f13
      have u15 : ((t1.toInt < 0 ∨ 8 ≤ t1.toInt) ∨ (fv P9 a0_ t1.toInt.toNat).toInt = t2.toInt) := Or.inr (congrArg Int32.toInt f11)
      have u16 : (∀ x j : Nat, ¬ (x = a0_ ∧ j = t1.toInt.toNat) → fv P9 x j = fv Po x j) := f12
      have u17 : KI a0_ (a0_ + 1) Po P9 := by
        intro x j hx
        rw [f12 x j (by omega)]
      exact mp_ret ⟨⟨rfl, trivial⟩, hT10, k14, ⟨u15, u16, u17⟩⟩ dX6_put_14 rfl

