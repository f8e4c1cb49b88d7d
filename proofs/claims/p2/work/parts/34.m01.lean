/-! methods on typed pools, 1 (written by a program) -/
set_option maxHeartbeats 4000000 in
theorem c_CS_copyFrom_State_NState_l26 {Po : mP} {a0_ : Nat} (hTo : Typ Po) (hX : XR Po) (hJo : Inj Po) (ha0 : rl a0_ = 1) : ∀ (n : Nat) (v2 : Int32), ∀ (P : mP), Typ P → KW [65, 66, 67, 192, 193, 194, 256, 320] Po P → Inj P → ((fv P a0_ 1 = fv Po 1 1 ∧ fv P a0_ 2 = fv Po 1 2 ∧ fv P a0_ 3 = fv Po 1 3)) → (∀ k : Nat, k < 8 → (k : Int) < v2.toInt → PE P (a0_ + 2 + 3 * k) Po (rv Po 2 k)) → (KI a0_ (a0_ + 26) Po P) → ((fv P a0_ 1).toInt = (fv Po 1 1).toInt) → (0 ≤ v2.toInt) → (0 ≤ v2.toInt) → (2147483647 - v2.toInt).toNat = n → MEvP 2 none q_17 26 [(0, .ref a0_), (1, .ref 1), (2, .int v2)] [] P 0 0 (fun r P' => (r = none ∧ (True)) ∧ Typ P' ∧ KW [65, 66, 67, 192, 193, 194, 256, 320] Po P' ∧ Inj P' ∧ fv P' a0_ 1 = fv Po 1 1 ∧ fv P' a0_ 2 = fv Po 1 2 ∧ fv P' a0_ 3 = fv Po 1 3 ∧ (∀ k : Nat, k < 8 → (k : Int) < (fv Po 1 1).toInt → PE P' (a0_ + 2 + 3 * k) Po (rv Po 2 k)) ∧ KI a0_ (a0_ + 26) Po P') := by
  intro n
  induction n using Nat.strongRecOn with | _ n ih => ?_
  intro v2 P hT hK hJ i_0 i_1 i_2 i_3 i_4 i_5 hm
  have w1 := st_ar ha0
  have w_v2 := ti_full v2
  have g2 : (0 : Int) ≤ (fv P a0_ 1).toInt ∧ (fv P a0_ 1).toInt ≤ 8 := Typ.rng hT ha0 (by decide) (by decide) rfl
  have g3 : (0 : Int) ≤ (fv P a0_ 1).toInt ∧ (fv P a0_ 1).toInt ≤ 8 := Typ.rng hT ha0 (by decide) (by decide) rfl
  have eB : (fv P 1 1).toInt = (fv Po 1 1).toInt := congrArg Int32.toInt (i_2 _ _ (by omega))
  refine mp_a (a_iload_n dX5_copyFrom_26 rfl) (mpp 27 rfl ?_)
  refine mp_a (a_aload_n dX5_copyFrom_27 rfl) (mpp 28 rfl ?_)
  refine mt_getI (i := 22) (k := 1) hT dX5_copyFrom_28 rfl ha0 (by decide) rfl (by decide) rfl (fun g4 g5 => mpp 31 rfl ?_)
  refine mp_Tb (t := 68) (j_icmp_ge dX5_copyFrom_31) (by decide) (fun c6 => ?_) (fun c6 => mpp 34 rfl ?_)
  · have c6 : v2.toInt ≥ (fv P a0_ 1).toInt := ti_ge c6
    have u7 : fv P a0_ 1 = fv Po 1 1 ∧ fv P a0_ 2 = fv Po 1 2 ∧ fv P a0_ 3 = fv Po 1 3 ∧ (∀ k : Nat, k < 8 → (k : Int) < (fv Po 1 1).toInt → PE P (a0_ + 2 + 3 * k) Po (rv Po 2 k)) ∧ KI a0_ (a0_ + 26) Po P := ⟨i_0.1, i_0.2.1, i_0.2.2, fun k hk h => i_1 k hk (by omega), i_2⟩
    exact mp_ret ⟨⟨rfl, trivial⟩, hT, hK, hJ, u7⟩ dX5_copyFrom_68 rfl
  · have c6 : v2.toInt < (fv P a0_ 1).toInt := ti_ge_n c6
    refine mp_a (a_aload_n dX5_copyFrom_34 rfl) (mpp 35 rfl ?_)
    refine mp_a (a_iload_n dX5_copyFrom_35 rfl) (mpp 36 rfl ?_)
    refine mt_callv (i := 28) (q' := q_9) (As := [.int v2]) (rest := []) hT dX5_copyFrom_36 rfl qm_9 (by decide) rfl ha0 (by decide) rfl (Nat.le_of_ble_eq_true rfl) rfl ⟨rfl, rfl⟩ ⟨Nat.le_of_ble_eq_true rfl, Nat.le_of_ble_eq_true rfl⟩ (EvP.mono (by decide) (c_CS_pieceAt_State hT (KW.xr hK hX) ha0)) (fun r8 P9 g10 => mpp 39 rfl ?_)
    obtain ⟨g10, e11⟩ := g10
    have e11 := e11.symm
    subst e11
    rcases g10 with ⟨rfl, q13n⟩ | ⟨b12, rfl, q13, q13r⟩
    · show MEvP _ none q_17 39 [(0, .ref a0_), (1, .ref 1), (2, .int v2)] [.null] _ _ _ _
      have q13n : v2.toInt < 0 ∨ (fv P a0_ 1).toInt ≤ v2.toInt ∨ 8 ≤ v2.toInt := q13n
      refine mp_a (a_astore_nN (L' := [(3, .null), (0, .ref a0_), (1, .ref 1), (2, .int v2)]) dX5_copyFrom_39 (by decide) rfl) (mpp 40 rfl ?_)
      refine mp_a (a_aload_n dX5_copyFrom_40 rfl) (mpp 41 rfl ?_)
      refine mp_a (a_iload_n dX5_copyFrom_41 rfl) (mpp 42 rfl ?_)
      refine mt_callv (i := 28) (q' := q_9) (As := [.int v2]) (rest := []) hT dX5_copyFrom_42 rfl qm_9 (by decide) rfl rl_1 (by decide) rfl (Nat.le_of_ble_eq_true rfl) rfl ⟨rfl, rfl⟩ ⟨Nat.le_of_ble_eq_true rfl, Nat.le_of_ble_eq_true rfl⟩ (EvP.mono (by decide) (c_CS_pieceAt_NState hT (KW.xr hK hX) )) (fun r14 P15 g16 => mpp 45 rfl ?_)
      obtain ⟨g16, e17⟩ := g16
      have e17 := e17.symm
      subst e17
      rcases g16 with ⟨rfl, q19n⟩ | ⟨b18, rfl, q19, q19r⟩
      · show MEvP _ none q_17 45 [(3, .null), (0, .ref a0_), (1, .ref 1), (2, .int v2)] [.null] _ _ _ _
        have q19n : v2.toInt < 0 ∨ (fv P 1 1).toInt ≤ v2.toInt ∨ 8 ≤ v2.toInt := q19n
        have e20 : (fv P 1 1).toInt = (fv Po 1 1).toInt := congrArg Int32.toInt (KW.at hK 1 rl_1 rfl)
        refine mp_a (a_astoreN (L' := [(4, .null), (3, .null), (0, .ref a0_), (1, .ref 1), (2, .int v2)]) dX5_copyFrom_45 (by decide) rfl) (mpp 47 rfl ?_)
        refine mp_a (a_aload_nN dX5_copyFrom_47 rfl) (mpp 48 rfl ?_)
        refine mp_t (s_ifnullN (t := 62) dX5_copyFrom_48 (by decide)) ?_
        obtain ⟨z21, h22⟩ := ti_ex (v2 + 1 : Int32)
        have wz21 := ti_full z21
        refine mp_a (a_iinc (v := z21) (L' := [(2, .int z21), (4, .null), (3, .null), (0, .ref a0_), (1, .ref 1)]) dX5_copyFrom_62 (by decide) rfl h22 rfl) (mpp 65 rfl ?_)
        try have e23 : z21.toInt = v2.toInt + 1 := ti_addz h22 rfl rfl (by omega) (by omega)
        refine mp_a (a_goto (t := 26) dX5_copyFrom_65 (by decide)) ?_
        refine MEvP.less (L := [(0, .ref a0_), (1, .ref 1), (2, .int z21)]) rfl rfl ⟨rfl, rfl, rfl, trivial⟩ ?_
        have i24 : (fv P a0_ 1 = fv Po 1 1 ∧ fv P a0_ 2 = fv Po 1 2 ∧ fv P a0_ 3 = fv Po 1 3) := ⟨i_0.1, i_0.2.1, i_0.2.2⟩
        have i25 : ∀ k : Nat, k < 8 → (k : Int) < z21.toInt → PE P (a0_ + 2 + 3 * k) Po (rv Po 2 k) := fun k hk h => i_1 k hk (by omega)
        have i26 : KI a0_ (a0_ + 26) Po P := i_2
        have i27 : (fv P a0_ 1).toInt = (fv Po 1 1).toInt := by omega
        have i28 : 0 ≤ z21.toInt := by omega
        have i29 : 0 ≤ z21.toInt := by omega
        exact ih _ (by omega) _ P hT hK hJ i24 i25 i26 i27 i28 i29 rfl
      · show MEvP _ none q_17 45 [(3, .null), (0, .ref a0_), (1, .ref 1), (2, .int v2)] [.ref b18] _ _ _ _
        have q19r : 0 ≤ v2.toInt ∧ v2.toInt ≤ 7 ∧ v2.toInt + 1 ≤ (fv P 1 1).toInt ∧ rv P 2 v2.toInt.toNat = b18 := q19r
        have e30 : (fv P 1 1).toInt = (fv Po 1 1).toInt := congrArg Int32.toInt (KW.at hK 1 rl_1 rfl)
        have w31 := np_ar q19
        refine mp_a (a_astore (L' := [(4, .ref b18), (3, .null), (0, .ref a0_), (1, .ref 1), (2, .int v2)]) dX5_copyFrom_45 (by decide) rfl) (mpp 47 rfl ?_)
        refine mp_a (a_aload_nN dX5_copyFrom_47 rfl) (mpp 48 rfl ?_)
        refine mp_t (s_ifnullN (t := 62) dX5_copyFrom_48 (by decide)) ?_
        obtain ⟨z32, h33⟩ := ti_ex (v2 + 1 : Int32)
        have wz32 := ti_full z32
        refine mp_a (a_iinc (v := z32) (L' := [(2, .int z32), (4, .ref b18), (3, .null), (0, .ref a0_), (1, .ref 1)]) dX5_copyFrom_62 (by decide) rfl h33 rfl) (mpp 65 rfl ?_)
        try have e34 : z32.toInt = v2.toInt + 1 := ti_addz h33 rfl rfl (by omega) (by omega)
        refine mp_a (a_goto (t := 26) dX5_copyFrom_65 (by decide)) ?_
        refine MEvP.less (L := [(0, .ref a0_), (1, .ref 1), (2, .int z32)]) rfl rfl ⟨rfl, rfl, rfl, trivial⟩ ?_
        have i35 : (fv P a0_ 1 = fv Po 1 1 ∧ fv P a0_ 2 = fv Po 1 2 ∧ fv P a0_ 3 = fv Po 1 3) := ⟨i_0.1, i_0.2.1, i_0.2.2⟩
        have i36 : ∀ k : Nat, k < 8 → (k : Int) < z32.toInt → PE P (a0_ + 2 + 3 * k) Po (rv Po 2 k) := fun k hk h => i_1 k hk (by omega)
        have i37 : KI a0_ (a0_ + 26) Po P := i_2
        have i38 : (fv P a0_ 1).toInt = (fv Po 1 1).toInt := by omega
        have i39 : 0 ≤ z32.toInt := by omega
        have i40 : 0 ≤ z32.toInt := by omega
        exact ih _ (by omega) _ P hT hK hJ i35 i36 i37 i38 i39 i40 rfl
    · show MEvP _ none q_17 39 [(0, .ref a0_), (1, .ref 1), (2, .int v2)] [.ref b12] _ _ _ _
      have q13r : 0 ≤ v2.toInt ∧ v2.toInt ≤ 7 ∧ v2.toInt + 1 ≤ (fv P a0_ 1).toInt ∧ b12 = a0_ + 2 + 3 * v2.toInt.toNat := q13r
      have w41 := pc_ar q13
      refine mp_a (a_astore_n (L' := [(3, .ref b12), (0, .ref a0_), (1, .ref 1), (2, .int v2)]) dX5_copyFrom_39 (by decide) rfl) (mpp 40 rfl ?_)
      refine mp_a (a_aload_n dX5_copyFrom_40 rfl) (mpp 41 rfl ?_)
      refine mp_a (a_iload_n dX5_copyFrom_41 rfl) (mpp 42 rfl ?_)
      refine mt_callv (i := 28) (q' := q_9) (As := [.int v2]) (rest := []) hT dX5_copyFrom_42 rfl qm_9 (by decide) rfl rl_1 (by decide) rfl (Nat.le_of_ble_eq_true rfl) rfl ⟨rfl, rfl⟩ ⟨Nat.le_of_ble_eq_true rfl, Nat.le_of_ble_eq_true rfl⟩ (EvP.mono (by decide) (c_CS_pieceAt_NState hT (KW.xr hK hX) )) (fun r42 P43 g44 => mpp 45 rfl ?_)
      obtain ⟨g44, e45⟩ := g44
      have e45 := e45.symm
      subst e45
      rcases g44 with ⟨rfl, q47n⟩ | ⟨b46, rfl, q47, q47r⟩
      · show MEvP _ none q_17 45 [(3, .ref b12), (0, .ref a0_), (1, .ref 1), (2, .int v2)] [.null] _ _ _ _
        have q47n : v2.toInt < 0 ∨ (fv P 1 1).toInt ≤ v2.toInt ∨ 8 ≤ v2.toInt := q47n
        have e48 : (fv P 1 1).toInt = (fv Po 1 1).toInt := congrArg Int32.toInt (KW.at hK 1 rl_1 rfl)
        refine mp_a (a_astoreN (L' := [(4, .null), (3, .ref b12), (0, .ref a0_), (1, .ref 1), (2, .int v2)]) dX5_copyFrom_45 (by decide) rfl) (mpp 47 rfl ?_)
        refine mp_a (a_aload_n dX5_copyFrom_47 rfl) (mpp 48 rfl ?_)
        refine mp_t (s_ifnullR dX5_copyFrom_48) (mpp 51 rfl ?_)
        refine mp_a (a_aloadN dX5_copyFrom_51 rfl) (mpp 53 rfl ?_)
        refine mp_t (s_ifnullN (t := 62) dX5_copyFrom_53 (by decide)) ?_
        obtain ⟨z49, h50⟩ := ti_ex (v2 + 1 : Int32)
        have wz49 := ti_full z49
        refine mp_a (a_iinc (v := z49) (L' := [(2, .int z49), (4, .null), (3, .ref b12), (0, .ref a0_), (1, .ref 1)]) dX5_copyFrom_62 (by decide) rfl h50 rfl) (mpp 65 rfl ?_)
        try have e51 : z49.toInt = v2.toInt + 1 := ti_addz h50 rfl rfl (by omega) (by omega)
        refine mp_a (a_goto (t := 26) dX5_copyFrom_65 (by decide)) ?_
        refine MEvP.less (L := [(0, .ref a0_), (1, .ref 1), (2, .int z49)]) rfl rfl ⟨rfl, rfl, rfl, trivial⟩ ?_
        have i52 : (fv P a0_ 1 = fv Po 1 1 ∧ fv P a0_ 2 = fv Po 1 2 ∧ fv P a0_ 3 = fv Po 1 3) := ⟨i_0.1, i_0.2.1, i_0.2.2⟩
        have i53 : ∀ k : Nat, k < 8 → (k : Int) < z49.toInt → PE P (a0_ + 2 + 3 * k) Po (rv Po 2 k) := fun k hk h => i_1 k hk (by omega)
        have i54 : KI a0_ (a0_ + 26) Po P := i_2
        have i55 : (fv P a0_ 1).toInt = (fv Po 1 1).toInt := by omega
        have i56 : 0 ≤ z49.toInt := by omega
        have i57 : 0 ≤ z49.toInt := by omega
        exact ih _ (by omega) _ P hT hK hJ i52 i53 i54 i55 i56 i57 rfl
      · show MEvP _ none q_17 45 [(3, .ref b12), (0, .ref a0_), (1, .ref 1), (2, .int v2)] [.ref b46] _ _ _ _
        have q47r : 0 ≤ v2.toInt ∧ v2.toInt ≤ 7 ∧ v2.toInt + 1 ≤ (fv P 1 1).toInt ∧ rv P 2 v2.toInt.toNat = b46 := q47r
        have e58 : (fv P 1 1).toInt = (fv Po 1 1).toInt := congrArg Int32.toInt (KW.at hK 1 rl_1 rfl)
        have w59 := np_ar q47
        refine mp_a (a_astore (L' := [(4, .ref b46), (3, .ref b12), (0, .ref a0_), (1, .ref 1), (2, .int v2)]) dX5_copyFrom_45 (by decide) rfl) (mpp 47 rfl ?_)
        refine mp_a (a_aload_n dX5_copyFrom_47 rfl) (mpp 48 rfl ?_)
        refine mp_t (s_ifnullR dX5_copyFrom_48) (mpp 51 rfl ?_)
        refine mp_a (a_aload dX5_copyFrom_51 rfl) (mpp 53 rfl ?_)
        refine mp_t (s_ifnullR dX5_copyFrom_53) (mpp 56 rfl ?_)
        refine mp_a (a_aload_n dX5_copyFrom_56 rfl) (mpp 57 rfl ?_)
        refine mp_a (a_aload dX5_copyFrom_57 rfl) (mpp 59 rfl ?_)
        have p60 : b12 + 3 ≤ b46 ∨ b46 + 3 ≤ b12 := by omega
        refine mt_callv (i := 32) (q' := q_18) (As := [.ref b46]) (rest := []) hT dX5_copyFrom_59 rfl qm_18 (by decide) rfl q13 (by decide) rfl (Nat.le_of_ble_eq_true rfl) rfl ⟨rfl, rfl⟩ ⟨Nat.le_of_ble_eq_true rfl, Nat.le_of_ble_eq_true rfl⟩ (EvP.mono (by decide) (c_CP_copyFrom_Piece_NPiece hT (KW.xr hK hX) p60 q13 q47)) (fun r61 P62 g63 => mpp 62 rfl ?_)
        obtain ⟨⟨rfl, g65⟩, hT66, k67, R68⟩ := g63
        have k69 : KW [65, 66, 67, 192, 193, 194, 256, 320] Po P62 := KW.trans hK k67 rfl
        have J71 := Inj.kw hJ k67 rfl
        show MEvP _ none q_17 62 [(4, .ref b46), (3, .ref b12), (0, .ref a0_), (1, .ref 1), (2, .int v2)] [] _ _ _ _
        obtain ⟨z72, h73⟩ := ti_ex (v2 + 1 : Int32)
        have wz72 := ti_full z72
        refine mp_a (a_iinc (v := z72) (L' := [(2, .int z72), (4, .ref b46), (3, .ref b12), (0, .ref a0_), (1, .ref 1)]) dX5_copyFrom_62 (by decide) rfl h73 rfl) (mpp 65 rfl ?_)
        try have e74 : z72.toInt = v2.toInt + 1 := ti_addz h73 rfl rfl (by omega) (by omega)
        refine mp_a (a_goto (t := 26) dX5_copyFrom_65 (by decide)) ?_
        refine MEvP.less (L := [(0, .ref a0_), (1, .ref 1), (2, .int z72)]) rfl rfl ⟨rfl, rfl, rfl, trivial⟩ ?_
        have i75 : (fv P62 a0_ 1 = fv Po 1 1 ∧ fv P62 a0_ 2 = fv Po 1 2 ∧ fv P62 a0_ 3 = fv Po 1 3) := ⟨by rw [R68.2.2.2.2.2 a0_ 1 (by omega)]; exact i_0.1, by rw [R68.2.2.2.2.2 a0_ 2 (by omega)]; exact i_0.2.1, by rw [R68.2.2.2.2.2 a0_ 3 (by omega)]; exact i_0.2.2⟩
        have i76 : ∀ k : Nat, k < 8 → (k : Int) < z72.toInt → PE P62 (a0_ + 2 + 3 * k) Po (rv Po 2 k) := pe_back (fun k => a0_ + 2 + 3 * k) (fun k => rv Po 2 k) (v := v2.toInt) i_1 (by omega) (by omega) q13r.2.2.2.symm ((hK.2.2 rfl _).symm.trans q47r.2.2.2) ⟨R68.1, R68.2.1, R68.2.2.1, R68.2.2.2.1, R68.2.2.2.2.1⟩ i_2 (by omega) R68.2.2.2.2.2 (fun k hk hn => by omega)
        have i77 : KI a0_ (a0_ + 26) Po P62 := i_2.trans R68.2.2.2.2.2 (by omega)
        have e78 : (fv P62 a0_ 1).toInt = (fv P a0_ 1).toInt := congrArg Int32.toInt (KW.at k67 1 ha0 rfl)
        have i79 : (fv P62 a0_ 1).toInt = (fv Po 1 1).toInt := by omega
        have i80 : 0 ≤ z72.toInt := by omega
        have i81 : 0 ≤ z72.toInt := by omega
        exact ih _ (by omega) _ P62 hT66 k69 J71 i75 i76 i77 i79 i80 i81 rfl

set_option maxHeartbeats 4000000 in
theorem c_CS_copyFrom_State_NState {Po : mP} {a0_ : Nat} (hT : Typ Po) (hX : XR Po)  (hJ : Inj Po) (ha0 : rl a0_ = 1) : EvP 3 17 [.ref a0_, .ref 1] Po (fun r P' => (r = none ∧ (True)) ∧ Typ P' ∧ KW [65, 66, 67, 192, 193, 194, 256, 320] Po P' ∧ Inj P' ∧ fv P' a0_ 1 = fv Po 1 1 ∧ fv P' a0_ 2 = fv Po 1 2 ∧ fv P' a0_ 3 = fv Po 1 3 ∧ (∀ k : Nat, k < 8 → (k : Int) < (fv Po 1 1).toInt → PE P' (a0_ + 2 + 3 * k) Po (rv Po 2 k)) ∧ KI a0_ (a0_ + 26) Po P') := by
  refine EvP.of qm_17 (Nat.le_of_ble_eq_true rfl) rfl ?_
  show MEvP _ none q_17 0 [(0, .ref a0_), (1, .ref 1)] [] _ 0 0 _
  have w1 := st_ar ha0
  have g2 : (0 : Int) ≤ (fv Po 1 1).toInt ∧ (fv Po 1 1).toInt ≤ 8 := Typ.rng hT rl_1 (by decide) (by decide) rfl
  refine mp_a (a_aload_n dX5_copyFrom_0 rfl) (mpp 1 rfl ?_)
  refine mp_a (a_aload_n dX5_copyFrom_1 rfl) (mpp 2 rfl ?_)
  refine mt_getI (i := 22) (k := 1) hT dX5_copyFrom_2 rfl rl_1 (by decide) rfl (by decide) rfl (fun g3 g4 => mpp 5 rfl ?_)
  refine mt_putI (i := 22) (k := 1) (x := (fv Po 1 1)) hT dX5_copyFrom_5 rfl ha0 (by decide) rfl (by decide) rfl ⟨by omega, by omega⟩ rfl rfl (fun P5 hT6 f7 f8 f9 => mpp 8 rfl ?_)
  have k10 : KW [65, 66, 67, 192, 193, 194, 256, 320] Po P5 := KW.step KW.refl ha0 rfl f8 f9
  have J11 := Inj.st hJ f9
  have e12 : (fv P5 a0_ 1).toInt = (fv Po 1 1).toInt := congrArg Int32.toInt f7
  refine mp_a (a_aload_n dX5_copyFrom_8 rfl) (mpp 9 rfl ?_)
  refine mp_a (a_aload_n dX5_copyFrom_9 rfl) (mpp 10 rfl ?_)
  have g13 := ti_full (fv P5 1 2)
  refine mt_getI (i := 17) (k := 2) hT6 dX5_copyFrom_10 rfl rl_1 (by decide) rfl (by decide) rfl (fun g14 g15 => mpp 13 rfl ?_)
  refine mt_putI (i := 17) (k := 2) (x := (fv P5 1 2)) hT6 dX5_copyFrom_13 rfl ha0 (by decide) rfl (by decide) rfl (ti_full (fv P5 1 2)) rfl rfl (fun P16 hT17 f18 f19 f20 => mpp 16 rfl ?_)
  have k21 : KW [65, 66, 67, 192, 193, 194, 256, 320] Po P16 := KW.step k10 ha0 rfl f19 f20
  have J22 := Inj.st J11 f20
  have e23 : (fv P16 a0_ 2).toInt = (fv P5 1 2).toInt := congrArg Int32.toInt f18
  refine mp_a (a_aload_n dX5_copyFrom_16 rfl) (mpp 17 rfl ?_)
  refine mp_a (a_aload_n dX5_copyFrom_17 rfl) (mpp 18 rfl ?_)
  have g24 := ti_full (fv P16 1 3)
  refine mt_getI (i := 25) (k := 3) hT17 dX5_copyFrom_18 rfl rl_1 (by decide) rfl (by decide) rfl (fun g25 g26 => mpp 21 rfl ?_)
  refine mt_putI (i := 25) (k := 3) (x := (fv P16 1 3)) hT17 dX5_copyFrom_21 rfl ha0 (by decide) rfl (by decide) rfl (ti_full (fv P16 1 3)) rfl rfl (fun P27 hT28 f29 f30 f31 => mpp 24 rfl ?_)
  have k32 : KW [65, 66, 67, 192, 193, 194, 256, 320] Po P27 := KW.step k21 ha0 rfl f30 f31
  have J33 := Inj.st J22 f31
  have e34 : (fv P27 a0_ 3).toInt = (fv P16 1 3).toInt := congrArg Int32.toInt f29
  refine mp_a (a_iconst (v := 0) dX5_copyFrom_24 rfl) (mpp 25 rfl ?_)
  refine mp_a (a_istore_n (L' := [(2, .int 0), (0, .ref a0_), (1, .ref 1)]) dX5_copyFrom_25 (by decide) rfl) (mpp 26 rfl ?_)
  refine MEvP.less (L := [(0, .ref a0_), (1, .ref 1), (2, .int 0)]) rfl rfl ⟨rfl, rfl, rfl, trivial⟩ ?_
  have i35 : (fv P27 a0_ 1 = fv Po 1 1 ∧ fv P27 a0_ 2 = fv Po 1 2 ∧ fv P27 a0_ 3 = fv Po 1 3) := ⟨by rw [f30 a0_ 1 (by omega), f19 a0_ 1 (by omega), f7], by rw [f30 a0_ 2 (by omega), f18, f8 1 2 (by omega)], by rw [f29, f19 1 3 (by omega), f8 1 3 (by omega)]⟩
  have i36 : ∀ k : Nat, k < 8 → (k : Int) < (0 : Int) → PE P27 (a0_ + 2 + 3 * k) Po (rv Po 2 k) := fun k hk h => absurd h (by omega)
  have i37 : KI a0_ (a0_ + 26) Po P27 := by intro x j hx; rw [f30 x j (by omega), f19 x j (by omega), f8 x j (by omega)]
  have e38 : (fv P27 a0_ 1).toInt = (fv P5 a0_ 1).toInt := congrArg Int32.toInt ((f30 a0_ 1 (ne_k rfl)).trans (f19 a0_ 1 (ne_k rfl)))
  have i39 : (fv P27 a0_ 1).toInt = (fv Po 1 1).toInt := by omega
  have i40 : 0 ≤ (0 : Int) := by omega
  have i41 : 0 ≤ (0 : Int) := by omega
  exact c_CS_copyFrom_State_NState_l26 hT hX hJ ha0 _ _ P27 hT28 k32 J33 i35 i36 i37 i39 i40 i41 rfl

set_option maxHeartbeats 4000000 in
theorem c_CH_push_History_NState {Po : mP}  (hT : Typ Po) (hX : XR Po)  (hJ : Inj Po)  : EvP 4 15 [.ref 79, .ref 1] Po (fun r P' => (r = none ∧ (True)) ∧ Typ P' ∧ KW [65, 66, 67, 192, 193, 194, 256, 320, 385, 386] Po P' ∧ Inj P' ∧ (((fv Po 79 3).toInt = 1 ∧ (fv P' 79 1).toInt = (fv Po 79 1).toInt ∧ (fv P' 79 2).toInt = (fv Po 79 2).toInt) ∨ ((fv Po 79 3).toInt = 0 ∧ (((fv Po 79 1).toInt < 7 ∧ (fv P' 79 1).toInt = (fv Po 79 1).toInt + 1) ∨ ((fv Po 79 1).toInt = 7 ∧ (fv P' 79 1).toInt = 0)) ∧ (((fv Po 79 2).toInt < 8 ∧ (fv P' 79 2).toInt = (fv Po 79 2).toInt + 1) ∨ ((fv Po 79 2).toInt = 8 ∧ (fv P' 79 2).toInt = 8)))) ∧ ((fv Po 79 3).toInt = 1 ∨ SCn P' (81 + 26 * (fv Po 79 1).toInt.toNat) Po) ∧ (∀ x j : Nat, ¬ x = 79 → (x < (81 + 26 * (fv Po 79 1).toInt.toNat) ∨ (81 + 26 * (fv Po 79 1).toInt.toNat) + 26 ≤ x) → fv P' x j = fv Po x j) ∧ ((fv Po 79 3).toInt = 0 ∨ ∀ x j : Nat, fv P' x j = fv Po x j) ∧ KI 79 289 Po P') := by
  refine EvP.of qm_15 (Nat.le_of_ble_eq_true rfl) rfl ?_
  show MEvP _ none q_15 0 [(0, .ref 79), (1, .ref 1)] [] _ 0 0 _
  have g1 : (0 : Int) ≤ (fv Po 79 3).toInt ∧ (fv Po 79 3).toInt ≤ 1 := Typ.rng hT rl_79 (by decide) (by decide) rfl
  have g2 : (0 : Int) ≤ (fv Po 79 1).toInt ∧ (fv Po 79 1).toInt ≤ 7 := Typ.rng hT rl_79 (by decide) (by decide) rfl
  have g3 : (0 : Int) ≤ (fv Po 79 2).toInt ∧ (fv Po 79 2).toInt ≤ 8 := Typ.rng hT rl_79 (by decide) (by decide) rfl
  refine mp_a (a_aload_n dX0_push_0 rfl) (mpp 1 rfl ?_)
  refine mp_a (a_aload_n dX0_push_1 rfl) (mpp 2 rfl ?_)
  refine mt_getI (i := 18) (k := 1) hT dX0_push_2 rfl rl_79 (by decide) rfl (by decide) rfl (fun g4 g5 => mpp 5 rfl ?_)
  refine mt_callv (i := 22) (q' := q_16) (As := [.int (fv Po 79 1)]) (rest := []) hT dX0_push_5 rfl qm_16 (by decide) rfl rl_79 (by decide) rfl (Nat.le_of_ble_eq_true rfl) rfl ⟨rfl, rfl⟩ ⟨Nat.le_of_ble_eq_true rfl, Nat.le_of_ble_eq_true rfl⟩ (EvP.mono (by decide) (c_CH_stateAt_History hT hX )) (fun r6 P7 g8 => mpp 8 rfl ?_)
  obtain ⟨g8, e9⟩ := g8
  have e9 := e9.symm
  subst e9
  rcases g8 with ⟨rfl, q11n⟩ | ⟨b10, rfl, q11, q11r⟩
  · show MEvP _ none q_15 8 [(0, .ref 79), (1, .ref 1)] [.null] _ _ _ _
    have q11n : (fv Po 79 1).toInt < 0 ∨ 8 ≤ (fv Po 79 1).toInt := q11n
    refine mp_a (a_astore_nN (L' := [(2, .null), (0, .ref 79), (1, .ref 1)]) dX0_push_8 (by decide) rfl) (mpp 9 rfl ?_)
    refine mp_a (a_aload_nN dX0_push_9 rfl) (mpp 10 rfl ?_)
    exfalso
    omega
  · show MEvP _ none q_15 8 [(0, .ref 79), (1, .ref 1)] [.ref b10] _ _ _ _
    have q11r : 0 ≤ (fv Po 79 1).toInt ∧ (fv Po 79 1).toInt ≤ 7 ∧ b10 = 81 + 26 * (fv Po 79 1).toInt.toNat := q11r
    have w12 := st_ar q11
    refine mp_a (a_astore_n (L' := [(2, .ref b10), (0, .ref 79), (1, .ref 1)]) dX0_push_8 (by decide) rfl) (mpp 9 rfl ?_)
    refine mp_a (a_aload_n dX0_push_9 rfl) (mpp 10 rfl ?_)
    refine mp_t (s_ifnullR dX0_push_10) (mpp 13 rfl ?_)
    refine mp_a (a_aload_n dX0_push_13 rfl) (mpp 14 rfl ?_)
    refine mt_getI (i := 26) (k := 3) hT dX0_push_14 rfl rl_79 (by decide) rfl (by decide) rfl (fun g13 g14 => mpp 17 rfl ?_)
    refine mp_Tb (t := 63) (j_if_ne dX0_push_17) (by decide) (fun c15 => ?_) (fun c15 => mpp 20 rfl ?_)
    · have c15 : (fv Po 79 3).toInt ≠ 0 := ti_ne c15
      have u16 : (((fv Po 79 3).toInt = 1 ∧ (fv Po 79 1).toInt = (fv Po 79 1).toInt ∧ (fv Po 79 2).toInt = (fv Po 79 2).toInt) ∨ ((fv Po 79 3).toInt = 0 ∧ (((fv Po 79 1).toInt < 7 ∧ (fv Po 79 1).toInt = (fv Po 79 1).toInt + 1) ∨ ((fv Po 79 1).toInt = 7 ∧ (fv Po 79 1).toInt = 0)) ∧ (((fv Po 79 2).toInt < 8 ∧ (fv Po 79 2).toInt = (fv Po 79 2).toInt + 1) ∨ ((fv Po 79 2).toInt = 8 ∧ (fv Po 79 2).toInt = 8)))) := by omega
      have u17 : ((fv Po 79 3).toInt = 1 ∨ SCn Po (81 + 26 * (fv Po 79 1).toInt.toNat) Po) := Or.inl (by omega)
      have u18 : (∀ x j : Nat, ¬ x = 79 → (x < (81 + 26 * (fv Po 79 1).toInt.toNat) ∨ (81 + 26 * (fv Po 79 1).toInt.toNat) + 26 ≤ x) → fv Po x j = fv Po x j) := fun _ _ _ _ => rfl
      have u19 : ((fv Po 79 3).toInt = 0 ∨ ∀ x j : Nat, fv Po x j = fv Po x j) := Or.inr (fun _ _ => rfl)
      have u20 : KI 79 289 Po Po := fun _ _ _ => rfl
      exact mp_ret ⟨⟨rfl, trivial⟩, hT, KW.refl, hJ, ⟨u16, u17, u18, u19, u20⟩⟩ dX0_push_63 rfl
    · have c15 : (fv Po 79 3).toInt = 0 := ti_ne_n c15
      refine mp_a (a_aload_n dX0_push_20 rfl) (mpp 21 rfl ?_)
      refine mp_a (a_aload_n dX0_push_21 rfl) (mpp 22 rfl ?_)
      refine mt_callv (i := 30) (q' := q_17) (As := [.ref 1]) (rest := []) hT dX0_push_22 rfl qm_17 (by decide) rfl q11 (by decide) rfl (Nat.le_of_ble_eq_true rfl) rfl ⟨rfl, rfl⟩ ⟨Nat.le_of_ble_eq_true rfl, Nat.le_of_ble_eq_true rfl⟩ (EvP.mono (by decide) (c_CS_copyFrom_State_NState hT hX hJ q11)) (fun r21 P22 g23 => mpp 25 rfl ?_)
      obtain ⟨⟨rfl, g25⟩, hT26, k27, J30, R28⟩ := g23
      have k29 : KW [65, 66, 67, 192, 193, 194, 256, 320, 385, 386] Po P22 := KW.trans KW.refl k27 rfl
      show MEvP _ none q_15 25 [(2, .ref b10), (0, .ref 79), (1, .ref 1)] [] _ _ _ _
      refine mp_a (a_aload_n dX0_push_25 rfl) (mpp 26 rfl ?_)
      refine mp_a (a_aload_n dX0_push_26 rfl) (mpp 27 rfl ?_)
      have e31 : (fv P22 79 1).toInt = (fv Po 79 1).toInt := congrArg Int32.toInt (KW.at k27 1 rl_79 rfl)
      refine mt_getI (i := 18) (k := 1) hT26 dX0_push_27 rfl rl_79 (by decide) rfl (by decide) rfl (fun g32 g33 => mpp 30 rfl ?_)
      refine mp_a (a_bipush (v := 7) dX0_push_30 rfl) (mpp 32 rfl ?_)
      refine mp_Tb (t := 44) (j_icmp_ge dX0_push_32) (by decide) (fun c34 => ?_) (fun c34 => mpp 35 rfl ?_)
      · have c34 : (fv P22 79 1).toInt ≥ 7 := ti_ge c34
        refine mp_a (a_iconst (v := 0) dX0_push_44 rfl) (mpp 45 rfl ?_)
        refine mt_putI (i := 18) (k := 1) (x := 0) hT26 dX0_push_45 rfl rl_79 (by decide) rfl (by decide) rfl (by decide) rfl rfl (fun P35 hT36 f37 f38 f39 => mpp 48 rfl ?_)
        have k40 : KW [65, 66, 67, 192, 193, 194, 256, 320, 385, 386] Po P35 := KW.step k29 rl_79 rfl f38 f39
        have J41 := Inj.st J30 f39
        have e42 : (fv P35 79 1).toInt = 0 := congrArg Int32.toInt f37
        refine mp_a (a_aload_n dX0_push_48 rfl) (mpp 49 rfl ?_)
        refine mp_a (a_aload_n dX0_push_49 rfl) (mpp 50 rfl ?_)
        have e43 : (fv P35 79 2).toInt = (fv Po 79 2).toInt := congrArg Int32.toInt ((f38 79 2 (ne_k rfl)).trans (KW.at k27 2 rl_79 rfl))
        refine mt_getI (i := 34) (k := 2) hT36 dX0_push_50 rfl rl_79 (by decide) rfl (by decide) rfl (fun g44 g45 => mpp 53 rfl ?_)
        refine mp_a (a_iconst (v := 1) dX0_push_53 rfl) (mpp 54 rfl ?_)
        obtain ⟨z46, h47⟩ := ti_ex ((fv P35 79 2) + 1 : Int32)
        have wz46 := ti_full z46
        refine mp_t (s_iadd (v := z46) dX0_push_54 h47) (mpp 55 rfl ?_)
        try have e48 : z46.toInt = (fv P35 79 2).toInt + 1 := ti_addz h47 rfl rfl (by omega) (by omega)
        refine mp_a (a_bipush (v := 8) dX0_push_55 rfl) (mpp 57 rfl ?_)
        obtain ⟨z49, h50⟩ := ti_ex (if (8 : Nat) = 7 then (if z46 < 8 then 8 else z46) else (if 8 < z46 then 8 else z46) : Int32)
        have e51 : z49.toInt = min z46.toInt 8 := ti_mm8 h50
        refine mp_math (i := 37) (k := 0) (v := z49) dX0_push_57 rfl (by decide) (Nat.le_of_ble_eq_true rfl) h50 ⟨Nat.le_of_ble_eq_true rfl, Nat.le_of_ble_eq_true rfl⟩ (mpp 60 rfl ?_)
        refine mt_putI (i := 34) (k := 2) (x := z49) hT36 dX0_push_60 rfl rl_79 (by decide) rfl (by decide) rfl ⟨by omega, by omega⟩ rfl rfl (fun P52 hT53 f54 f55 f56 => mpp 63 rfl ?_)
        have k57 : KW [65, 66, 67, 192, 193, 194, 256, 320, 385, 386] Po P52 := KW.step k40 rl_79 rfl f55 f56
        have J58 := Inj.st J41 f56
        have e59 : (fv P52 79 2).toInt = z49.toInt := congrArg Int32.toInt f54
        have e61 : (fv P52 79 1).toInt = (fv P35 79 1).toInt := congrArg Int32.toInt (f55 79 1 (ne_k rfl))
        have u60 : (((fv Po 79 3).toInt = 1 ∧ (fv P52 79 1).toInt = (fv Po 79 1).toInt ∧ (fv P52 79 2).toInt = (fv Po 79 2).toInt) ∨ ((fv Po 79 3).toInt = 0 ∧ (((fv Po 79 1).toInt < 7 ∧ (fv P52 79 1).toInt = (fv Po 79 1).toInt + 1) ∨ ((fv Po 79 1).toInt = 7 ∧ (fv P52 79 1).toInt = 0)) ∧ (((fv Po 79 2).toInt < 8 ∧ (fv P52 79 2).toInt = (fv Po 79 2).toInt + 1) ∨ ((fv Po 79 2).toInt = 8 ∧ (fv P52 79 2).toInt = 8)))) := by omega
        have ka : KI 79 80 P22 P52 := fun x j hx => by rw [f55 x j (by omega), f38 x j (by omega)]
        have eb := q11r.2.2
        have u62 : ((fv Po 79 3).toInt = 1 ∨ SCn P52 (81 + 26 * (fv Po 79 1).toInt.toNat) Po) := Or.inr (eb ▸ SCn.keep (show SCn P22 b10 Po from ⟨R28.1, R28.2.1, R28.2.2.1, R28.2.2.2.1⟩) ka (by omega))
        have u63 : (∀ x j : Nat, ¬ x = 79 → (x < (81 + 26 * (fv Po 79 1).toInt.toNat) ∨ (81 + 26 * (fv Po 79 1).toInt.toNat) + 26 ≤ x) → fv P52 x j = fv Po x j) := fun x j h1 h2 => by rw [f55 x j (by omega), f38 x j (by omega), R28.2.2.2.2 x j (by omega)]
        have u64 : ((fv Po 79 3).toInt = 0 ∨ ∀ x j : Nat, fv P52 x j = fv Po x j) := Or.inl (by omega)
        have u65 : KI 79 289 Po P52 := by
          intro x j hx
          rw [f55 x j (by omega), f38 x j (by omega), R28.2.2.2.2 x j (by omega)]
        exact mp_ret ⟨⟨rfl, trivial⟩, hT53, k57, J58, ⟨u60, u62, u63, u64, u65⟩⟩ dX0_push_63 rfl
      · have c34 : (fv P22 79 1).toInt < 7 := ti_ge_n c34
        refine mp_a (a_aload_n dX0_push_35 rfl) (mpp 36 rfl ?_)
        refine mt_getI (i := 18) (k := 1) hT26 dX0_push_36 rfl rl_79 (by decide) rfl (by decide) rfl (fun g66 g67 => mpp 39 rfl ?_)
        refine mp_a (a_iconst (v := 1) dX0_push_39 rfl) (mpp 40 rfl ?_)
        obtain ⟨z68, h69⟩ := ti_ex ((fv P22 79 1) + 1 : Int32)
        have wz68 := ti_full z68
        refine mp_t (s_iadd (v := z68) dX0_push_40 h69) (mpp 41 rfl ?_)
        try have e70 : z68.toInt = (fv P22 79 1).toInt + 1 := ti_addz h69 rfl rfl (by omega) (by omega)
        refine mp_a (a_goto (t := 45) dX0_push_41 (by decide)) ?_
        refine mt_putI (i := 18) (k := 1) (x := z68) hT26 dX0_push_45 rfl rl_79 (by decide) rfl (by decide) rfl ⟨by omega, by omega⟩ rfl rfl (fun P71 hT72 f73 f74 f75 => mpp 48 rfl ?_)
        have k76 : KW [65, 66, 67, 192, 193, 194, 256, 320, 385, 386] Po P71 := KW.step k29 rl_79 rfl f74 f75
        have J77 := Inj.st J30 f75
        have e78 : (fv P71 79 1).toInt = z68.toInt := congrArg Int32.toInt f73
        refine mp_a (a_aload_n dX0_push_48 rfl) (mpp 49 rfl ?_)
        refine mp_a (a_aload_n dX0_push_49 rfl) (mpp 50 rfl ?_)
        have e79 : (fv P71 79 2).toInt = (fv Po 79 2).toInt := congrArg Int32.toInt ((f74 79 2 (ne_k rfl)).trans (KW.at k27 2 rl_79 rfl))
        refine mt_getI (i := 34) (k := 2) hT72 dX0_push_50 rfl rl_79 (by decide) rfl (by decide) rfl (fun g80 g81 => mpp 53 rfl ?_)
        refine mp_a (a_iconst (v := 1) dX0_push_53 rfl) (mpp 54 rfl ?_)
        obtain ⟨z82, h83⟩ := ti_ex ((fv P71 79 2) + 1 : Int32)
        have wz82 := ti_full z82
        refine mp_t (s_iadd (v := z82) dX0_push_54 h83) (mpp 55 rfl ?_)
        try have e84 : z82.toInt = (fv P71 79 2).toInt + 1 := ti_addz h83 rfl rfl (by omega) (by omega)
        refine mp_a (a_bipush (v := 8) dX0_push_55 rfl) (mpp 57 rfl ?_)
        obtain ⟨z85, h86⟩ := ti_ex (if (8 : Nat) = 7 then (if z82 < 8 then 8 else z82) else (if 8 < z82 then 8 else z82) : Int32)
        have e87 : z85.toInt = min z82.toInt 8 := ti_mm8 h86
        refine mp_math (i := 37) (k := 0) (v := z85) dX0_push_57 rfl (by decide) (Nat.le_of_ble_eq_true rfl) h86 ⟨Nat.le_of_ble_eq_true rfl, Nat.le_of_ble_eq_true rfl⟩ (mpp 60 rfl ?_)
        refine mt_putI (i := 34) (k := 2) (x := z85) hT72 dX0_push_60 rfl rl_79 (by decide) rfl (by decide) rfl ⟨by omega, by omega⟩ rfl rfl (fun P88 hT89 f90 f91 f92 => mpp 63 rfl ?_)
        have k93 : KW [65, 66, 67, 192, 193, 194, 256, 320, 385, 386] Po P88 := KW.step k76 rl_79 rfl f91 f92
        have J94 := Inj.st J77 f92
        have e95 : (fv P88 79 2).toInt = z85.toInt := congrArg Int32.toInt f90
        have e97 : (fv P88 79 1).toInt = (fv P71 79 1).toInt := congrArg Int32.toInt (f91 79 1 (ne_k rfl))
        have u96 : (((fv Po 79 3).toInt = 1 ∧ (fv P88 79 1).toInt = (fv Po 79 1).toInt ∧ (fv P88 79 2).toInt = (fv Po 79 2).toInt) ∨ ((fv Po 79 3).toInt = 0 ∧ (((fv Po 79 1).toInt < 7 ∧ (fv P88 79 1).toInt = (fv Po 79 1).toInt + 1) ∨ ((fv Po 79 1).toInt = 7 ∧ (fv P88 79 1).toInt = 0)) ∧ (((fv Po 79 2).toInt < 8 ∧ (fv P88 79 2).toInt = (fv Po 79 2).toInt + 1) ∨ ((fv Po 79 2).toInt = 8 ∧ (fv P88 79 2).toInt = 8)))) := by omega
        have ka : KI 79 80 P22 P88 := fun x j hx => by rw [f91 x j (by omega), f74 x j (by omega)]
        have eb := q11r.2.2
        have u98 : ((fv Po 79 3).toInt = 1 ∨ SCn P88 (81 + 26 * (fv Po 79 1).toInt.toNat) Po) := Or.inr (eb ▸ SCn.keep (show SCn P22 b10 Po from ⟨R28.1, R28.2.1, R28.2.2.1, R28.2.2.2.1⟩) ka (by omega))
        have u99 : (∀ x j : Nat, ¬ x = 79 → (x < (81 + 26 * (fv Po 79 1).toInt.toNat) ∨ (81 + 26 * (fv Po 79 1).toInt.toNat) + 26 ≤ x) → fv P88 x j = fv Po x j) := fun x j h1 h2 => by rw [f91 x j (by omega), f74 x j (by omega), R28.2.2.2.2 x j (by omega)]
        have u100 : ((fv Po 79 3).toInt = 0 ∨ ∀ x j : Nat, fv P88 x j = fv Po x j) := Or.inl (by omega)
        have u101 : KI 79 289 Po P88 := by
          intro x j hx
          rw [f91 x j (by omega), f74 x j (by omega), R28.2.2.2.2 x j (by omega)]
        exact mp_ret ⟨⟨rfl, trivial⟩, hT89, k93, J94, ⟨u96, u98, u99, u100, u101⟩⟩ dX0_push_63 rfl

set_option maxHeartbeats 4000000 in
theorem c_F_refuse {Po : mP} {t1 : Int32} {t2 : Int32} (hT : Typ Po) (hX : XR Po)   : EvP 1 14 [.ref 0, .int t1, .int t2] Po (fun r P' => (∃ x : Int32, r = some (.int x) ∧ (True)) ∧ Typ P' ∧ KW [10, 11, 12] Po P' ∧ True) := by
  refine EvP.of qm_14 (Nat.le_of_ble_eq_true rfl) rfl ?_
  show MEvP _ none q_14 0 [(0, .ref 0), (1, .int t1), (2, .int t2)] [] _ 0 0 _
  refine mp_a (a_aload_n dX6_refuse_0 rfl) (mpp 1 rfl ?_)
  refine mp_a (a_iload_n dX6_refuse_1 rfl) (mpp 2 rfl ?_)
  refine mt_putI (i := 246) (k := 10) (x := t1) hT dX6_refuse_2 rfl rl_0 (by decide) rfl (by decide) rfl (ti_full t1) rfl rfl (fun P1 hT2 f3 f4 f5 => mpp 5 rfl ?_)
  have k6 : KW [10, 11, 12] Po P1 := KW.step KW.refl rl_0 rfl f4 f5
  have e7 : (fv P1 0 10).toInt = t1.toInt := congrArg Int32.toInt f3
  refine mp_a (a_aload_n dX6_refuse_5 rfl) (mpp 6 rfl ?_)
  refine mp_a (a_iload_n dX6_refuse_6 rfl) (mpp 7 rfl ?_)
  refine mt_putI (i := 249) (k := 11) (x := t2) hT2 dX6_refuse_7 rfl rl_0 (by decide) rfl (by decide) rfl (ti_full t2) rfl rfl (fun P8 hT9 f10 f11 f12 => mpp 10 rfl ?_)
  have k13 : KW [10, 11, 12] Po P8 := KW.step k6 rl_0 rfl f11 f12
  have e14 : (fv P8 0 11).toInt = t2.toInt := congrArg Int32.toInt f10
  refine mp_a (a_aload_n dX6_refuse_10 rfl) (mpp 11 rfl ?_)
  refine mp_a (a_aload_n dX6_refuse_11 rfl) (mpp 12 rfl ?_)
  have g15 := ti_full (fv P8 0 9)
  refine mt_getI (i := 57) (k := 9) hT9 dX6_refuse_12 rfl rl_0 (by decide) rfl (by decide) rfl (fun g16 g17 => mpp 15 rfl ?_)
  refine mt_putI (i := 61) (k := 12) (x := (fv P8 0 9)) hT9 dX6_refuse_15 rfl rl_0 (by decide) rfl (by decide) rfl (ti_full (fv P8 0 9)) rfl rfl (fun P18 hT19 f20 f21 f22 => mpp 18 rfl ?_)
  have k23 : KW [10, 11, 12] Po P18 := KW.step k13 rl_0 rfl f21 f22
  have e24 : (fv P18 0 12).toInt = (fv P8 0 9).toInt := congrArg Int32.toInt f20
  refine mp_a (a_sipush (v := -1003) dX6_refuse_18 rfl) (mpp 21 rfl ?_)
  exact mp_iret ⟨⟨_, rfl, trivial⟩, hT19, k23, trivial⟩ dX6_refuse_21 (Or.inl rfl)

set_option maxHeartbeats 4000000 in
theorem c_F_stage {Po : mP} {t1 : Int32} (hT : Typ Po) (hX : XR Po)  (hJ : Inj Po)  : EvP 5 7 [.ref 0, .int t1] Po (fun r P' => (∃ x : Int32, r = some (.int x) ∧ (True)) ∧ Typ P' ∧ KW [10, 11, 12, 65, 66, 67, 192, 193, 194, 256, 320, 385, 386, 1986] Po P' ∧ Inj P' ∧ True) := by
  refine EvP.of qm_7 (Nat.le_of_ble_eq_true rfl) rfl ?_
  show MEvP _ none q_7 0 [(0, .ref 0), (1, .int t1)] [] _ 0 0 _
  refine mp_a (a_iload_n dX6_stage_0 rfl) (mpp 1 rfl ?_)
  refine mp_a (a_iconst (v := 1) dX6_stage_1 rfl) (mpp 2 rfl ?_)
  refine mp_Tb (t := 11) (j_icmp_lt dX6_stage_2) (by decide) (fun c1 => ?_) (fun c1 => mpp 5 rfl ?_)
  · have c1 : t1.toInt < 1 := ti_lt c1
    refine mp_a (a_sipush (v := -1002) dX6_stage_11 rfl) (mpp 14 rfl ?_)
    exact mp_iret ⟨⟨_, rfl, trivial⟩, hT, KW.refl, hJ, trivial⟩ dX6_stage_14 (Or.inl rfl)
  · have c1 : t1.toInt ≥ 1 := ti_lt_n c1
    refine mp_a (a_iload_n dX6_stage_5 rfl) (mpp 6 rfl ?_)
    refine mp_a (a_bipush (v := 99) dX6_stage_6 rfl) (mpp 8 rfl ?_)
    refine mp_Tb (t := 15) (j_icmp_le dX6_stage_8) (by decide) (fun c2 => ?_) (fun c2 => mpp 11 rfl ?_)
    · have c2 : t1.toInt ≤ 99 := ti_le c2
      refine mp_a (a_aload_n dX6_stage_15 rfl) (mpp 16 rfl ?_)
      refine mt_getU (i := 10) (k := 0) (A := 1) hT dX6_stage_16 rfl rl_0 (by decide) rfl (by decide) rfl un_31 (mpp 19 rfl ?_)
      refine mt_callv (i := 64) (q' := q_8) (As := []) (rest := []) hT dX6_stage_19 rfl qm_8 (by decide) rfl rl_1 (by decide) rfl (Nat.le_of_ble_eq_true rfl) rfl ⟨rfl, rfl⟩ ⟨Nat.le_of_ble_eq_true rfl, Nat.le_of_ble_eq_true rfl⟩ (EvP.mono (by decide) (c_CS_occupied_NState hT hX )) (fun r3 P4 g5 => mpp 22 rfl ?_)
      obtain ⟨⟨x6, rfl, g7⟩, e8⟩ := g5
      have e8 := e8.symm
      subst e8
      have wx6 := ti_full x6
      show MEvP _ none q_7 22 [(0, .ref 0), (1, .int t1)] [.int x6] _ _ _ _
      refine mp_a (a_iload_n dX6_stage_22 rfl) (mpp 23 rfl ?_)
      obtain ⟨z9, h10⟩ := ti_ex (x6 - t1 : Int32)
      have wz9 := ti_full z9
      refine mp_t (s_isub (v := z9) dX6_stage_23 h10) (mpp 24 rfl ?_)
      try have e11 : z9.toInt = x6.toInt - t1.toInt := ti_subz h10 rfl rfl (by omega) (by omega)
      refine mp_a (a_istore_n (L' := [(2, .int z9), (0, .ref 0), (1, .int t1)]) dX6_stage_24 (by decide) rfl) (mpp 25 rfl ?_)
      refine mp_a (a_iload_n dX6_stage_25 rfl) (mpp 26 rfl ?_)
      refine mp_Tb (t := 37) (j_if_le dX6_stage_26) (by decide) (fun c12 => ?_) (fun c12 => mpp 29 rfl ?_)
      · have c12 : z9.toInt ≤ 0 := ti_le c12
        refine mp_a (a_aload_n dX6_stage_37 rfl) (mpp 38 rfl ?_)
        refine mt_getU (i := 25) (k := 3) (A := 79) hT dX6_stage_38 rfl rl_0 (by decide) rfl (by decide) rfl un_6 (mpp 41 rfl ?_)
        refine mp_a (a_aload_n dX6_stage_41 rfl) (mpp 42 rfl ?_)
        refine mt_getU (i := 10) (k := 0) (A := 1) hT dX6_stage_42 rfl rl_0 (by decide) rfl (by decide) rfl un_31 (mpp 45 rfl ?_)
        refine mt_callv (i := 72) (q' := q_15) (As := [.ref 1]) (rest := []) hT dX6_stage_45 rfl qm_15 (by decide) rfl rl_79 (by decide) rfl (Nat.le_of_ble_eq_true rfl) rfl ⟨rfl, rfl⟩ ⟨Nat.le_of_ble_eq_true rfl, Nat.le_of_ble_eq_true rfl⟩ (EvP.mono (by decide) (c_CH_push_History_NState hT hX hJ )) (fun r13 P14 g15 => mpp 48 rfl ?_)
        obtain ⟨⟨rfl, g17⟩, hT18, k19, J22, R20⟩ := g15
        have k21 : KW [10, 11, 12, 65, 66, 67, 192, 193, 194, 256, 320, 385, 386, 1986] Po P14 := KW.trans KW.refl k19 rfl
        show MEvP _ none q_7 48 [(2, .int z9), (0, .ref 0), (1, .int t1)] [] _ _ _ _
        refine mp_a (a_aload_n dX6_stage_48 rfl) (mpp 49 rfl ?_)
        refine mt_getU (i := 10) (k := 0) (A := 1) hT18 dX6_stage_49 rfl rl_0 (by decide) rfl (by decide) rfl un_31 (mpp 52 rfl ?_)
        have g23 := ti_full (fv P14 1 2)
        refine mt_getI (i := 76) (k := 2) hT18 dX6_stage_52 rfl rl_1 (by decide) rfl (by decide) rfl (fun g24 g25 => mpp 55 rfl ?_)
        refine mp_a (a_istore_n (L' := [(3, .int (fv P14 1 2)), (2, .int z9), (0, .ref 0), (1, .int t1)]) dX6_stage_55 (by decide) rfl) (mpp 56 rfl ?_)
        refine mp_a (a_aload_n dX6_stage_56 rfl) (mpp 57 rfl ?_)
        refine mt_getU (i := 10) (k := 0) (A := 1) hT18 dX6_stage_57 rfl rl_0 (by decide) rfl (by decide) rfl un_31 (mpp 60 rfl ?_)
        refine mp_a (a_iload_n dX6_stage_60 rfl) (mpp 61 rfl ?_)
        refine mt_putI (i := 76) (k := 2) (x := t1) hT18 dX6_stage_61 rfl rl_1 (by decide) rfl (by decide) rfl (ti_full t1) rfl rfl (fun P26 hT27 f28 f29 f30 => mpp 64 rfl ?_)
        have k31 : KW [10, 11, 12, 65, 66, 67, 192, 193, 194, 256, 320, 385, 386, 1986] Po P26 := KW.step k21 rl_1 rfl f29 f30
        have J32 := Inj.st J22 f30
        have e33 : (fv P26 1 2).toInt = t1.toInt := congrArg Int32.toInt f28
        refine mp_a (a_iload_n dX6_stage_64 rfl) (mpp 65 rfl ?_)
        exact mp_iret ⟨⟨_, rfl, trivial⟩, hT27, k31, J32, trivial⟩ dX6_stage_65 (Or.inl rfl)
      · have c12 : z9.toInt > 0 := ti_le_n c12
        refine mp_a (a_aload_n dX6_stage_29 rfl) (mpp 30 rfl ?_)
        refine mp_a (a_bipush (v := 7) dX6_stage_30 rfl) (mpp 32 rfl ?_)
        refine mp_a (a_iload_n dX6_stage_32 rfl) (mpp 33 rfl ?_)
        refine mt_callv (i := 68) (q' := q_14) (As := [.int 7, .int z9]) (rest := []) hT dX6_stage_33 rfl qm_14 (by decide) rfl rl_0 (by decide) rfl (Nat.le_of_ble_eq_true rfl) rfl ⟨rfl, rfl⟩ ⟨Nat.le_of_ble_eq_true rfl, Nat.le_of_ble_eq_true rfl⟩ (EvP.mono (by decide) (c_F_refuse hT hX )) (fun r34 P35 g36 => mpp 36 rfl ?_)
        obtain ⟨⟨x37, rfl, g38⟩, hT39, k40, R41⟩ := g36
        have k42 : KW [10, 11, 12, 65, 66, 67, 192, 193, 194, 256, 320, 385, 386, 1986] Po P35 := KW.trans KW.refl k40 rfl
        have J44 := Inj.kw hJ k40 rfl
        have wx37 := ti_full x37
        show MEvP _ none q_7 36 [(2, .int z9), (0, .ref 0), (1, .int t1)] [.int x37] _ _ _ _
        exact mp_iret ⟨⟨_, rfl, trivial⟩, hT39, k42, J44, trivial⟩ dX6_stage_36 (Or.inl rfl)
    · have c2 : t1.toInt > 99 := ti_le_n c2
      refine mp_a (a_sipush (v := -1002) dX6_stage_11 rfl) (mpp 14 rfl ?_)
      exact mp_iret ⟨⟨_, rfl, trivial⟩, hT, KW.refl, hJ, trivial⟩ dX6_stage_14 (Or.inl rfl)

set_option maxHeartbeats 4000000 in
theorem c_CP_sum_Piece_l4 {Po : mP} {a0_ : Nat} (hT : Typ Po) (hX : XR Po)  (ha0 : rl a0_ = 3) : ∀ (n : Nat) (v1 : Int32) (v2 : Int32), (0 ≤ v2.toInt) → (2147483647 - v2.toInt).toNat = n → MEvP 1 none q_23 4 [(0, .ref a0_), (1, .int v1), (2, .int v2)] [] Po 0 0 (fun r P' => (∃ x : Int32, r = some (.int x) ∧ (True)) ∧ P' = Po) := by
  intro n
  induction n using Nat.strongRecOn with | _ n ih => ?_
  intro v1 v2 i_0 hm
  have w1 := pc_ar ha0
  have w_v1 := ti_full v1
  have w_v2 := ti_full v2
  refine mp_a (a_iload_n dX2_sum_4 rfl) (mpp 5 rfl ?_)
  refine mp_a (a_aload_n dX2_sum_5 rfl) (mpp 6 rfl ?_)
  have g2 : (0 : Int) ≤ (fv Po a0_ 1).toInt ∧ (fv Po a0_ 1).toInt ≤ 8 := Typ.rng hT ha0 (by decide) (by decide) rfl
  refine mt_getI (i := 26) (k := 1) hT dX2_sum_6 rfl ha0 (by decide) rfl (by decide) rfl (fun g3 g4 => mpp 9 rfl ?_)
  refine mp_Tb (t := 29) (j_icmp_ge dX2_sum_9) (by decide) (fun c5 => ?_) (fun c5 => mpp 12 rfl ?_)
  · have c5 : v2.toInt ≥ (fv Po a0_ 1).toInt := ti_ge c5
    refine mp_a (a_iload_n dX2_sum_29 rfl) (mpp 30 rfl ?_)
    exact mp_iret ⟨⟨_, rfl, trivial⟩, rfl⟩ dX2_sum_30 (Or.inl rfl)
  · have c5 : v2.toInt < (fv Po a0_ 1).toInt := ti_ge_n c5
    refine mp_a (a_iload_n dX2_sum_12 rfl) (mpp 13 rfl ?_)
    refine mp_a (a_aload_n dX2_sum_13 rfl) (mpp 14 rfl ?_)
    refine mt_getE (i := 9) (k := 3) hT dX2_sum_14 rfl ha0 (by decide) rfl (by decide) rfl (hX.1 a0_ (Or.inl ha0)).1 (fun q6 => mpp 17 rfl ?_)
    refine mp_a (a_iload_n dX2_sum_17 rfl) (mpp 18 rfl ?_)
    refine mp_calls (i := 48) (q' := q_12) (As := [.ref (a0_ + 1), .int v2]) (rest := [.int v1]) dX2_sum_18 rfl qm_12 (by decide) rfl (Nat.le_of_ble_eq_true rfl) rfl ⟨rfl, rfl⟩ ⟨Nat.le_of_ble_eq_true rfl, Nat.le_of_ble_eq_true rfl⟩ (EvP.mono (by decide) (c_F_at_sizes hT hX q6)) (fun r7 P8 g9 => mpp 21 rfl ?_)
    obtain ⟨⟨x10, rfl, g11⟩, e12⟩ := g9
    have e12 := e12.symm
    subst e12
    have wx10 := ti_full x10
    show MEvP _ none q_23 21 [(0, .ref a0_), (1, .int v1), (2, .int v2)] [.int x10, .int v1] _ _ _ _
    obtain ⟨z13, h14⟩ := ti_ex (v1 + x10 : Int32)
    have wz13 := ti_full z13
    refine mp_t (s_iadd (v := z13) dX2_sum_21 h14) (mpp 22 rfl ?_)
    try have e15 : z13.toInt = v1.toInt + x10.toInt := ti_addz h14 rfl rfl (by omega) (by omega)
    refine mp_a (a_istore_n (L' := [(1, .int z13), (0, .ref a0_), (2, .int v2)]) dX2_sum_22 (by decide) rfl) (mpp 23 rfl ?_)
    obtain ⟨z16, h17⟩ := ti_ex (v2 + 1 : Int32)
    have wz16 := ti_full z16
    refine mp_a (a_iinc (v := z16) (L' := [(2, .int z16), (1, .int z13), (0, .ref a0_)]) dX2_sum_23 (by decide) rfl h17 rfl) (mpp 26 rfl ?_)
    try have e18 : z16.toInt = v2.toInt + 1 := ti_addz h17 rfl rfl (by omega) (by omega)
    refine mp_a (a_goto (t := 4) dX2_sum_26 (by decide)) ?_
    refine MEvP.less (L := [(0, .ref a0_), (1, .int z13), (2, .int z16)]) rfl rfl ⟨rfl, rfl, rfl, trivial⟩ ?_
    have i19 : 0 ≤ z16.toInt := by omega
    exact ih _ (by omega) _ _ i19 rfl

set_option maxHeartbeats 4000000 in
theorem c_CP_sum_Piece {Po : mP} {a0_ : Nat} (hT : Typ Po) (hX : XR Po)  (ha0 : rl a0_ = 3) : EvP 2 23 [.ref a0_] Po (fun r P' => (∃ x : Int32, r = some (.int x) ∧ (True)) ∧ P' = Po) := by
  refine EvP.of qm_23 (Nat.le_of_ble_eq_true rfl) rfl ?_
  show MEvP _ none q_23 0 [(0, .ref a0_)] [] _ 0 0 _
  have w1 := pc_ar ha0
  refine mp_a (a_iconst (v := 0) dX2_sum_0 rfl) (mpp 1 rfl ?_)
  refine mp_a (a_istore_n (L' := [(1, .int 0), (0, .ref a0_)]) dX2_sum_1 (by decide) rfl) (mpp 2 rfl ?_)
  refine mp_a (a_iconst (v := 0) dX2_sum_2 rfl) (mpp 3 rfl ?_)
  refine mp_a (a_istore_n (L' := [(2, .int 0), (1, .int 0), (0, .ref a0_)]) dX2_sum_3 (by decide) rfl) (mpp 4 rfl ?_)
  refine MEvP.less (L := [(0, .ref a0_), (1, .int 0), (2, .int 0)]) rfl rfl ⟨rfl, rfl, rfl, trivial⟩ ?_
  have i2 : 0 ≤ (0 : Int) := by omega
  exact c_CP_sum_Piece_l4 hT hX  ha0 _ _ _ i2 rfl

set_option maxHeartbeats 4000000 in
theorem c_F_put_sizes {Po : mP} {a0_ : Nat} {t1 : Int32} {t2 : Int32} (hT : Typ Po) (hX : XR Po)  (ha0 : rl a0_ = 4) : EvP 1 22 [.ref a0_, .int t1, .int t2] Po (fun r P' => (r = none ∧ (True)) ∧ Typ P' ∧ KW [256] Po P' ∧ True) := by
  refine EvP.of qm_22 (Nat.le_of_ble_eq_true rfl) rfl ?_
  show MEvP _ none q_22 0 [(0, .ref a0_), (1, .int t1), (2, .int t2)] [] _ 0 0 _
  refine mp_a (a_iload_n dX6_put_0 rfl) (mpp 1 rfl ?_)
  refine mp_Tb (t := 14) (j_if_lt dX6_put_1) (by decide) (fun c1 => ?_) (fun c1 => mpp 4 rfl ?_)
  · have c1 : t1.toInt < 0 := ti_lt c1
    exact mp_ret ⟨⟨rfl, trivial⟩, hT, KW.refl, trivial⟩ dX6_put_14 rfl
  · have c1 : t1.toInt ≥ 0 := ti_lt_n c1
    refine mp_a (a_iload_n dX6_put_4 rfl) (mpp 5 rfl ?_)
    refine mp_a (a_aload_n dX6_put_5 rfl) (mpp 6 rfl ?_)
    refine mt_len (n := 8) hT dX6_put_6 ha0 (by decide) (by decide) rfl (mpp 7 rfl ?_)
    refine mp_Tb (t := 14) (j_icmp_ge dX6_put_7) (by decide) (fun c2 => ?_) (fun c2 => mpp 10 rfl ?_)
    · have c2 : t1.toInt ≥ 8 := ti_ge c2
      exact mp_ret ⟨⟨rfl, trivial⟩, hT, KW.refl, trivial⟩ dX6_put_14 rfl
    · have c2 : t1.toInt < 8 := ti_ge_n c2
      refine mp_a (a_aload_n dX6_put_10 rfl) (mpp 11 rfl ?_)
      refine mp_a (a_iload_n dX6_put_11 rfl) (mpp 12 rfl ?_)
      refine mp_a (a_iload_n dX6_put_12 rfl) (mpp 13 rfl ?_)
      refine mt_ias (n := 8) hT dX6_put_13 ha0 (by decide) rfl rfl (by omega) (by omega) rfl (ti_full t2) (fun P3 hT4 f5 f6 f7 => mpp 14 rfl ?_)
      have k8 : KW [256] Po P3 := KW.step KW.refl ha0 rfl f6 f7
      exact mp_ret ⟨⟨rfl, trivial⟩, hT4, k8, trivial⟩ dX6_put_14 rfl

set_option maxHeartbeats 4000000 in
theorem c_CP_takeSizes_Piece_l68 {Po : mP} {a0_ : Nat} {t1 : Int32} {t2 : Int32} (hTo : Typ Po) (hX : XR Po) (ha0 : rl a0_ = 3) : ∀ (n : Nat) (v3 : Int32) (v4 : Int32), ∀ (P : mP), Typ P → KW [192, 193, 194, 256] Po P → (v4.toInt + 1).toNat = n → MEvP 2 none q_21 68 [(0, .ref a0_), (1, .int t1), (2, .int t2), (3, .int v3), (4, .int v4)] [] P 0 0 (fun r P' => (∃ x : Int32, r = some (.int x) ∧ (0 ≤ x.toInt ∧ x.toInt ≤ 1)) ∧ Typ P' ∧ KW [192, 193, 194, 256] Po P' ∧ True) := by
  intro n
  induction n using Nat.strongRecOn with | _ n ih => ?_
  intro v3 v4 P hT hK  hm
  have w1 := pc_ar ha0
  have w_t1 := ti_full t1
  have w_t2 := ti_full t2
  have w_v3 := ti_full v3
  have w_v4 := ti_full v4
  refine mp_a (a_iload dX2_takeSizes_68 rfl) (mpp 70 rfl ?_)
  refine mp_Tb (t := 106) (j_if_lt dX2_takeSizes_70) (by decide) (fun c2 => ?_) (fun c2 => mpp 73 rfl ?_)
  · have c2 : v4.toInt < 0 := ti_lt c2
    refine mp_a (a_aload_n dX2_takeSizes_106 rfl) (mpp 107 rfl ?_)
    have g3 := ti_full (fv P a0_ 0)
    refine mt_getI (i := 18) (k := 0) hT dX2_takeSizes_107 rfl ha0 (by decide) rfl (by decide) rfl (fun g4 g5 => mpp 110 rfl ?_)
    refine mp_Tb (t := 136) (j_if_ne dX2_takeSizes_110) (by decide) (fun c6 => ?_) (fun c6 => mpp 113 rfl ?_)
    · have c6 : (fv P a0_ 0).toInt ≠ 0 := ti_ne c6
      refine mp_a (a_aload_n dX2_takeSizes_136 rfl) (mpp 137 rfl ?_)
      have g7 : (0 : Int) ≤ (fv P a0_ 1).toInt ∧ (fv P a0_ 1).toInt ≤ 8 := Typ.rng hT ha0 (by decide) (by decide) rfl
      refine mt_getI (i := 26) (k := 1) hT dX2_takeSizes_137 rfl ha0 (by decide) rfl (by decide) rfl (fun g8 g9 => mpp 140 rfl ?_)
      refine mp_a (a_iconst (v := 4) dX2_takeSizes_140 rfl) (mpp 141 rfl ?_)
      refine mp_Tb (t := 162) (j_icmp_eq dX2_takeSizes_141) (by decide) (fun c10 => ?_) (fun c10 => mpp 144 rfl ?_)
      · have c10 : (fv P a0_ 1).toInt = 4 := ti_eq c10
        refine mp_a (a_aload_n dX2_takeSizes_162 rfl) (mpp 163 rfl ?_)
        refine mt_callv (i := 33) (q' := q_23) (As := []) (rest := []) hT dX2_takeSizes_163 rfl qm_23 (by decide) rfl ha0 (by decide) rfl (Nat.le_of_ble_eq_true rfl) rfl ⟨rfl, rfl⟩ ⟨Nat.le_of_ble_eq_true rfl, Nat.le_of_ble_eq_true rfl⟩ (EvP.mono (by decide) (c_CP_sum_Piece hT (KW.xr hK hX) ha0)) (fun r11 P12 g13 => mpp 166 rfl ?_)
        obtain ⟨⟨x14, rfl, g15⟩, e16⟩ := g13
        have e16 := e16.symm
        subst e16
        have wx14 := ti_full x14
        show MEvP _ none q_21 166 [(0, .ref a0_), (1, .int t1), (2, .int t2), (3, .int v3), (4, .int v4)] [.int x14] _ _ _ _
        refine mp_a (a_bipush (v := 24) dX2_takeSizes_166 rfl) (mpp 168 rfl ?_)
        refine mp_Tb (t := 175) (j_icmp_ne dX2_takeSizes_168) (by decide) (fun c17 => ?_) (fun c17 => mpp 171 rfl ?_)
        · have c17 : x14.toInt ≠ 24 := ti_ne c17
          refine mp_a (a_iconst (v := 0) dX2_takeSizes_175 rfl) (mpp 176 rfl ?_)
          have u18 : 0 ≤ (0 : Int) ∧ (0 : Int) ≤ 1 := by omega
          exact mp_iret ⟨⟨_, rfl, u18⟩, hT, hK, trivial⟩ dX2_takeSizes_176 (Or.inr ⟨rfl, by decide⟩)
        · have c17 : x14.toInt = 24 := ti_ne_n c17
          refine mp_a (a_iconst (v := 1) dX2_takeSizes_171 rfl) (mpp 172 rfl ?_)
          refine mp_a (a_goto (t := 176) dX2_takeSizes_172 (by decide)) ?_
          have u19 : 0 ≤ (1 : Int) ∧ (1 : Int) ≤ 1 := by omega
          exact mp_iret ⟨⟨_, rfl, u19⟩, hT, hK, trivial⟩ dX2_takeSizes_176 (Or.inr ⟨rfl, by decide⟩)
      · have c10 : (fv P a0_ 1).toInt ≠ 4 := ti_eq_n c10
        refine mp_a (a_aload_n dX2_takeSizes_144 rfl) (mpp 145 rfl ?_)
        refine mt_getI (i := 26) (k := 1) hT dX2_takeSizes_145 rfl ha0 (by decide) rfl (by decide) rfl (fun g20 g21 => mpp 148 rfl ?_)
        refine mp_a (a_bipush (v := 6) dX2_takeSizes_148 rfl) (mpp 150 rfl ?_)
        refine mp_Tb (t := 162) (j_icmp_eq dX2_takeSizes_150) (by decide) (fun c22 => ?_) (fun c22 => mpp 153 rfl ?_)
        · have c22 : (fv P a0_ 1).toInt = 6 := ti_eq c22
          refine mp_a (a_aload_n dX2_takeSizes_162 rfl) (mpp 163 rfl ?_)
          refine mt_callv (i := 33) (q' := q_23) (As := []) (rest := []) hT dX2_takeSizes_163 rfl qm_23 (by decide) rfl ha0 (by decide) rfl (Nat.le_of_ble_eq_true rfl) rfl ⟨rfl, rfl⟩ ⟨Nat.le_of_ble_eq_true rfl, Nat.le_of_ble_eq_true rfl⟩ (EvP.mono (by decide) (c_CP_sum_Piece hT (KW.xr hK hX) ha0)) (fun r23 P24 g25 => mpp 166 rfl ?_)
          obtain ⟨⟨x26, rfl, g27⟩, e28⟩ := g25
          have e28 := e28.symm
          subst e28
          have wx26 := ti_full x26
          show MEvP _ none q_21 166 [(0, .ref a0_), (1, .int t1), (2, .int t2), (3, .int v3), (4, .int v4)] [.int x26] _ _ _ _
          refine mp_a (a_bipush (v := 24) dX2_takeSizes_166 rfl) (mpp 168 rfl ?_)
          refine mp_Tb (t := 175) (j_icmp_ne dX2_takeSizes_168) (by decide) (fun c29 => ?_) (fun c29 => mpp 171 rfl ?_)
          · have c29 : x26.toInt ≠ 24 := ti_ne c29
            refine mp_a (a_iconst (v := 0) dX2_takeSizes_175 rfl) (mpp 176 rfl ?_)
            have u30 : 0 ≤ (0 : Int) ∧ (0 : Int) ≤ 1 := by omega
            exact mp_iret ⟨⟨_, rfl, u30⟩, hT, hK, trivial⟩ dX2_takeSizes_176 (Or.inr ⟨rfl, by decide⟩)
          · have c29 : x26.toInt = 24 := ti_ne_n c29
            refine mp_a (a_iconst (v := 1) dX2_takeSizes_171 rfl) (mpp 172 rfl ?_)
            refine mp_a (a_goto (t := 176) dX2_takeSizes_172 (by decide)) ?_
            have u31 : 0 ≤ (1 : Int) ∧ (1 : Int) ≤ 1 := by omega
            exact mp_iret ⟨⟨_, rfl, u31⟩, hT, hK, trivial⟩ dX2_takeSizes_176 (Or.inr ⟨rfl, by decide⟩)
        · have c22 : (fv P a0_ 1).toInt ≠ 6 := ti_eq_n c22
          refine mp_a (a_aload_n dX2_takeSizes_153 rfl) (mpp 154 rfl ?_)
          refine mt_getI (i := 26) (k := 1) hT dX2_takeSizes_154 rfl ha0 (by decide) rfl (by decide) rfl (fun g32 g33 => mpp 157 rfl ?_)
          refine mp_a (a_bipush (v := 8) dX2_takeSizes_157 rfl) (mpp 159 rfl ?_)
          refine mp_Tb (t := 175) (j_icmp_ne dX2_takeSizes_159) (by decide) (fun c34 => ?_) (fun c34 => mpp 162 rfl ?_)
          · have c34 : (fv P a0_ 1).toInt ≠ 8 := ti_ne c34
            refine mp_a (a_iconst (v := 0) dX2_takeSizes_175 rfl) (mpp 176 rfl ?_)
            have u35 : 0 ≤ (0 : Int) ∧ (0 : Int) ≤ 1 := by omega
            exact mp_iret ⟨⟨_, rfl, u35⟩, hT, hK, trivial⟩ dX2_takeSizes_176 (Or.inr ⟨rfl, by decide⟩)
          · have c34 : (fv P a0_ 1).toInt = 8 := ti_ne_n c34
            refine mp_a (a_aload_n dX2_takeSizes_162 rfl) (mpp 163 rfl ?_)
            refine mt_callv (i := 33) (q' := q_23) (As := []) (rest := []) hT dX2_takeSizes_163 rfl qm_23 (by decide) rfl ha0 (by decide) rfl (Nat.le_of_ble_eq_true rfl) rfl ⟨rfl, rfl⟩ ⟨Nat.le_of_ble_eq_true rfl, Nat.le_of_ble_eq_true rfl⟩ (EvP.mono (by decide) (c_CP_sum_Piece hT (KW.xr hK hX) ha0)) (fun r36 P37 g38 => mpp 166 rfl ?_)
            obtain ⟨⟨x39, rfl, g40⟩, e41⟩ := g38
            have e41 := e41.symm
            subst e41
            have wx39 := ti_full x39
            show MEvP _ none q_21 166 [(0, .ref a0_), (1, .int t1), (2, .int t2), (3, .int v3), (4, .int v4)] [.int x39] _ _ _ _
            refine mp_a (a_bipush (v := 24) dX2_takeSizes_166 rfl) (mpp 168 rfl ?_)
            refine mp_Tb (t := 175) (j_icmp_ne dX2_takeSizes_168) (by decide) (fun c42 => ?_) (fun c42 => mpp 171 rfl ?_)
            · have c42 : x39.toInt ≠ 24 := ti_ne c42
              refine mp_a (a_iconst (v := 0) dX2_takeSizes_175 rfl) (mpp 176 rfl ?_)
              have u43 : 0 ≤ (0 : Int) ∧ (0 : Int) ≤ 1 := by omega
              exact mp_iret ⟨⟨_, rfl, u43⟩, hT, hK, trivial⟩ dX2_takeSizes_176 (Or.inr ⟨rfl, by decide⟩)
            · have c42 : x39.toInt = 24 := ti_ne_n c42
              refine mp_a (a_iconst (v := 1) dX2_takeSizes_171 rfl) (mpp 172 rfl ?_)
              refine mp_a (a_goto (t := 176) dX2_takeSizes_172 (by decide)) ?_
              have u44 : 0 ≤ (1 : Int) ∧ (1 : Int) ≤ 1 := by omega
              exact mp_iret ⟨⟨_, rfl, u44⟩, hT, hK, trivial⟩ dX2_takeSizes_176 (Or.inr ⟨rfl, by decide⟩)
    · have c6 : (fv P a0_ 0).toInt = 0 := ti_ne_n c6
      refine mp_a (a_aload_n dX2_takeSizes_113 rfl) (mpp 114 rfl ?_)
      have g45 : (0 : Int) ≤ (fv P a0_ 1).toInt ∧ (fv P a0_ 1).toInt ≤ 8 := Typ.rng hT ha0 (by decide) (by decide) rfl
      refine mt_getI (i := 26) (k := 1) hT dX2_takeSizes_114 rfl ha0 (by decide) rfl (by decide) rfl (fun g46 g47 => mpp 117 rfl ?_)
      refine mp_a (a_iconst (v := 2) dX2_takeSizes_117 rfl) (mpp 118 rfl ?_)
      refine mp_Tb (t := 134) (j_icmp_lt dX2_takeSizes_118) (by decide) (fun c48 => ?_) (fun c48 => mpp 121 rfl ?_)
      · have c48 : (fv P a0_ 1).toInt < 2 := ti_lt c48
        refine mp_a (a_iconst (v := 0) dX2_takeSizes_134 rfl) (mpp 135 rfl ?_)
        have u49 : 0 ≤ (0 : Int) ∧ (0 : Int) ≤ 1 := by omega
        exact mp_iret ⟨⟨_, rfl, u49⟩, hT, hK, trivial⟩ dX2_takeSizes_135 (Or.inr ⟨rfl, by decide⟩)
      · have c48 : (fv P a0_ 1).toInt ≥ 2 := ti_lt_n c48
        refine mp_a (a_aload_n dX2_takeSizes_121 rfl) (mpp 122 rfl ?_)
        refine mt_getI (i := 26) (k := 1) hT dX2_takeSizes_122 rfl ha0 (by decide) rfl (by decide) rfl (fun g50 g51 => mpp 125 rfl ?_)
        refine mp_a (a_bipush (v := 7) dX2_takeSizes_125 rfl) (mpp 127 rfl ?_)
        refine mp_Tb (t := 134) (j_icmp_gt dX2_takeSizes_127) (by decide) (fun c52 => ?_) (fun c52 => mpp 130 rfl ?_)
        · have c52 : (fv P a0_ 1).toInt > 7 := ti_gt c52
          refine mp_a (a_iconst (v := 0) dX2_takeSizes_134 rfl) (mpp 135 rfl ?_)
          have u53 : 0 ≤ (0 : Int) ∧ (0 : Int) ≤ 1 := by omega
          exact mp_iret ⟨⟨_, rfl, u53⟩, hT, hK, trivial⟩ dX2_takeSizes_135 (Or.inr ⟨rfl, by decide⟩)
        · have c52 : (fv P a0_ 1).toInt ≤ 7 := ti_gt_n c52
          refine mp_a (a_iconst (v := 1) dX2_takeSizes_130 rfl) (mpp 131 rfl ?_)
          refine mp_a (a_goto (t := 135) dX2_takeSizes_131 (by decide)) ?_
          have u54 : 0 ≤ (1 : Int) ∧ (1 : Int) ≤ 1 := by omega
          exact mp_iret ⟨⟨_, rfl, u54⟩, hT, hK, trivial⟩ dX2_takeSizes_135 (Or.inr ⟨rfl, by decide⟩)
  · have c2 : v4.toInt ≥ 0 := ti_lt_n c2
    refine mp_a (a_iload_n dX2_takeSizes_73 rfl) (mpp 74 rfl ?_)
    refine mp_a (a_bipush (v := 10) dX2_takeSizes_74 rfl) (mpp 76 rfl ?_)
    obtain ⟨z55, h56⟩ := ti_ex (v3 - v3 / 10 * 10 : Int32)
    have wz55 := ti_full z55
    try have e57 : 0 ≤ z55.toInt ∧ z55.toInt < 10 := ti_rem h56 (show (0 : Int) ≤ v3.toInt by omega) (show (0 : Int) < 10 by omega)
    refine mp_t (s_irem (v := z55) dX2_takeSizes_76 (by decide) h56) (mpp 77 rfl ?_)
    refine mp_Tb (t := 82) (j_if_ne dX2_takeSizes_77) (by decide) (fun c58 => ?_) (fun c58 => mpp 80 rfl ?_)
    · have c58 : z55.toInt ≠ 0 := ti_ne c58
      refine mp_a (a_aload_n dX2_takeSizes_82 rfl) (mpp 83 rfl ?_)
      refine mt_getE (i := 9) (k := 3) hT dX2_takeSizes_83 rfl ha0 (by decide) rfl (by decide) rfl ((KW.xr hK hX).1 a0_ (Or.inl ha0)).1 (fun q59 => mpp 86 rfl ?_)
      refine mp_a (a_iload dX2_takeSizes_86 rfl) (mpp 88 rfl ?_)
      refine mp_a (a_iload_n dX2_takeSizes_88 rfl) (mpp 89 rfl ?_)
      refine mp_a (a_bipush (v := 10) dX2_takeSizes_89 rfl) (mpp 91 rfl ?_)
      obtain ⟨z60, h61⟩ := ti_ex (v3 - v3 / 10 * 10 : Int32)
      have wz60 := ti_full z60
      try have e62 : 0 ≤ z60.toInt ∧ z60.toInt < 10 := ti_rem h61 (show (0 : Int) ≤ v3.toInt by omega) (show (0 : Int) < 10 by omega)
      refine mp_t (s_irem (v := z60) dX2_takeSizes_91 (by decide) h61) (mpp 92 rfl ?_)
      refine mp_calls (i := 29) (q' := q_22) (As := [.ref (a0_ + 1), .int v4, .int z60]) (rest := []) dX2_takeSizes_92 rfl qm_22 (by decide) rfl (Nat.le_of_ble_eq_true rfl) rfl ⟨rfl, rfl⟩ ⟨Nat.le_of_ble_eq_true rfl, Nat.le_of_ble_eq_true rfl⟩ (EvP.mono (by decide) (c_F_put_sizes hT (KW.xr hK hX) q59)) (fun r63 P64 g65 => mpp 95 rfl ?_)
      obtain ⟨⟨rfl, g67⟩, hT68, k69, R70⟩ := g65
      have k71 : KW [192, 193, 194, 256] Po P64 := KW.trans hK k69 rfl
      show MEvP _ none q_21 95 [(0, .ref a0_), (1, .int t1), (2, .int t2), (3, .int v3), (4, .int v4)] [] _ _ _ _
      refine mp_a (a_iload_n dX2_takeSizes_95 rfl) (mpp 96 rfl ?_)
      refine mp_a (a_bipush (v := 10) dX2_takeSizes_96 rfl) (mpp 98 rfl ?_)
      obtain ⟨z73, h74⟩ := ti_ex (v3 / 10 : Int32)
      have wz73 := ti_full z73
      try have e75 : z73.toInt = v3.toInt / 10 := ti_div h74 (show (0 : Int) ≤ v3.toInt by omega) (show (0 : Int) < 10 by omega)
      refine mp_t (s_idiv (v := z73) dX2_takeSizes_98 (by decide) h74) (mpp 99 rfl ?_)
      refine mp_a (a_istore_n (L' := [(3, .int z73), (0, .ref a0_), (1, .int t1), (2, .int t2), (4, .int v4)]) dX2_takeSizes_99 (by decide) rfl) (mpp 100 rfl ?_)
      obtain ⟨z76, h77⟩ := ti_ex (v4 + (-1) : Int32)
      have wz76 := ti_full z76
      refine mp_a (a_iinc (v := z76) (L' := [(4, .int z76), (3, .int z73), (0, .ref a0_), (1, .int t1), (2, .int t2)]) dX2_takeSizes_100 (by decide) rfl h77 rfl) (mpp 103 rfl ?_)
      try have e78 : z76.toInt = v4.toInt + (-1) := ti_addz h77 rfl rfl (by omega) (by omega)
      refine mp_a (a_goto (t := 68) dX2_takeSizes_103 (by decide)) ?_
      refine MEvP.less (L := [(0, .ref a0_), (1, .int t1), (2, .int t2), (3, .int z73), (4, .int z76)]) rfl rfl ⟨rfl, rfl, rfl, rfl, rfl, trivial⟩ ?_
      exact ih _ (by omega) _ _ P64 hT68 k71 rfl
    · have c58 : z55.toInt = 0 := ti_ne_n c58
      refine mp_a (a_iconst (v := 0) dX2_takeSizes_80 rfl) (mpp 81 rfl ?_)
      have u79 : 0 ≤ (0 : Int) ∧ (0 : Int) ≤ 1 := by omega
      exact mp_iret ⟨⟨_, rfl, u79⟩, hT, hK, trivial⟩ dX2_takeSizes_81 (Or.inr ⟨rfl, by decide⟩)

