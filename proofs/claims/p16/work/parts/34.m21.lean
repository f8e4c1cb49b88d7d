/-! methods on typed pools, 21 (written by a program) -/
set_option maxHeartbeats 4000000 in
theorem c_CS_copyFrom_NState_State_l26 {Po : mP} {a1_ : Nat} (hTo : Typ Po) (hX : XR Po) (hJo : Inj Po) (ha1 : rl a1_ = 1) : ∀ (n : Nat) (v2 : Int32), ∀ (P : mP), Typ P → KW [256, 320, 1985, 1986, 1987, 2112, 2113, 2114] Po P → Inj P → ((fv P 1 1 = fv Po a1_ 1 ∧ fv P 1 2 = fv Po a1_ 2 ∧ fv P 1 3 = fv Po a1_ 3)) → (∀ k : Nat, k < 8 → (k : Int) < v2.toInt → PE P (rv Po 2 k) Po (a1_ + 2 + 3 * k)) → (KI 1 (1 + 26) Po P) → ((fv P 1 1).toInt = (fv Po a1_ 1).toInt) → (0 ≤ v2.toInt) → (0 ≤ v2.toInt) → (2147483647 - v2.toInt).toNat = n → MEvP 2 none q_17 26 [(0, .ref 1), (1, .ref a1_), (2, .int v2)] [] P 0 0 (fun r P' => (r = none ∧ (True)) ∧ Typ P' ∧ KW [256, 320, 1985, 1986, 1987, 2112, 2113, 2114] Po P' ∧ Inj P' ∧ fv P' 1 1 = fv Po a1_ 1 ∧ fv P' 1 2 = fv Po a1_ 2 ∧ fv P' 1 3 = fv Po a1_ 3 ∧ (∀ k : Nat, k < 8 → (k : Int) < (fv Po a1_ 1).toInt → PE P' (rv P' 2 k) Po (a1_ + 2 + 3 * k)) ∧ KI 1 (1 + 26) Po P') := by
  intro n
  induction n using Nat.strongRecOn with | _ n ih => ?_
  intro v2 P hT hK hJ i_0 i_1 i_2 i_3 i_4 i_5 hm
  have w1 := st_ar ha1
  have w_v2 := ti_full v2
  have g2 : (0 : Int) ≤ (fv P 1 1).toInt ∧ (fv P 1 1).toInt ≤ 8 := Typ.rng hT rl_1 (by decide) (by decide) rfl
  have g3 : (0 : Int) ≤ (fv P 1 1).toInt ∧ (fv P 1 1).toInt ≤ 8 := Typ.rng hT rl_1 (by decide) (by decide) rfl
  have eB : (fv P a1_ 1).toInt = (fv Po a1_ 1).toInt := congrArg Int32.toInt (i_2 _ _ (by omega))
  refine mp_a (a_iload_n dX5_copyFrom_26 rfl) (mpp 27 rfl ?_)
  refine mp_a (a_aload_n dX5_copyFrom_27 rfl) (mpp 28 rfl ?_)
  refine mt_getI (i := 22) (k := 1) hT dX5_copyFrom_28 rfl rl_1 (by decide) rfl (by decide) rfl (fun g4 g5 => mpp 31 rfl ?_)
  refine mp_Tb (t := 68) (j_icmp_ge dX5_copyFrom_31) (by decide) (fun c6 => ?_) (fun c6 => mpp 34 rfl ?_)
  · have c6 : v2.toInt ≥ (fv P 1 1).toInt := ti_ge c6
    have u7 : fv P 1 1 = fv Po a1_ 1 ∧ fv P 1 2 = fv Po a1_ 2 ∧ fv P 1 3 = fv Po a1_ 3 ∧ (∀ k : Nat, k < 8 → (k : Int) < (fv Po a1_ 1).toInt → PE P (rv P 2 k) Po (a1_ + 2 + 3 * k)) ∧ KI 1 (1 + 26) Po P := ⟨i_0.1, i_0.2.1, i_0.2.2, fun k hk h => by rw [hK.2.2 rfl k]; exact i_1 k hk (by omega), i_2⟩
    exact mp_ret ⟨⟨rfl, trivial⟩, hT, hK, hJ, u7⟩ dX5_copyFrom_68 rfl
  · have c6 : v2.toInt < (fv P 1 1).toInt := ti_ge_n c6
    refine mp_a (a_aload_n dX5_copyFrom_34 rfl) (mpp 35 rfl ?_)
    refine mp_a (a_iload_n dX5_copyFrom_35 rfl) (mpp 36 rfl ?_)
    refine mt_callv (i := 28) (q' := q_9) (As := [.int v2]) (rest := []) hT dX5_copyFrom_36 rfl qm_9 (by decide) rfl rl_1 (by decide) rfl (Nat.le_of_ble_eq_true rfl) rfl ⟨rfl, rfl⟩ ⟨Nat.le_of_ble_eq_true rfl, Nat.le_of_ble_eq_true rfl⟩ (EvP.mono (by decide) (c_CS_pieceAt_NState hT (KW.xr hK hX) )) (fun r8 P9 g10 => mpp 39 rfl ?_)
    obtain ⟨g10, e11⟩ := g10
    have e11 := e11.symm
    subst e11
    rcases g10 with ⟨rfl, q13n⟩ | ⟨b12, rfl, q13, q13r⟩
    · show MEvP _ none q_17 39 [(0, .ref 1), (1, .ref a1_), (2, .int v2)] [.null] _ _ _ _
      replace q13n : v2.toInt < 0 ∨ (fv P 1 1).toInt ≤ v2.toInt ∨ 8 ≤ v2.toInt := q13n
      refine mp_a (a_astore_nN (L' := [(3, .null), (0, .ref 1), (1, .ref a1_), (2, .int v2)]) dX5_copyFrom_39 (by decide) rfl) (mpp 40 rfl ?_)
      refine mp_a (a_aload_n dX5_copyFrom_40 rfl) (mpp 41 rfl ?_)
      refine mp_a (a_iload_n dX5_copyFrom_41 rfl) (mpp 42 rfl ?_)
      refine mt_callv (i := 28) (q' := q_9) (As := [.int v2]) (rest := []) hT dX5_copyFrom_42 rfl qm_9 (by decide) rfl ha1 (by decide) rfl (Nat.le_of_ble_eq_true rfl) rfl ⟨rfl, rfl⟩ ⟨Nat.le_of_ble_eq_true rfl, Nat.le_of_ble_eq_true rfl⟩ (EvP.mono (by decide) (c_CS_pieceAt_State hT (KW.xr hK hX) ha1)) (fun r14 P15 g16 => mpp 45 rfl ?_)
      obtain ⟨g16, e17⟩ := g16
      have e17 := e17.symm
      subst e17
      rcases g16 with ⟨rfl, q19n⟩ | ⟨b18, rfl, q19, q19r⟩
      · show MEvP _ none q_17 45 [(3, .null), (0, .ref 1), (1, .ref a1_), (2, .int v2)] [.null] _ _ _ _
        replace q19n : v2.toInt < 0 ∨ (fv P a1_ 1).toInt ≤ v2.toInt ∨ 8 ≤ v2.toInt := q19n
        have e20 : (fv P a1_ 1).toInt = (fv Po a1_ 1).toInt := congrArg Int32.toInt (KW.at hK 1 ha1 rfl)
        refine mp_a (a_astoreN (L' := [(4, .null), (3, .null), (0, .ref 1), (1, .ref a1_), (2, .int v2)]) dX5_copyFrom_45 (by decide) rfl) (mpp 47 rfl ?_)
        refine mp_a (a_aload_nN dX5_copyFrom_47 rfl) (mpp 48 rfl ?_)
        refine mp_t (s_ifnullN (t := 62) dX5_copyFrom_48 (by decide)) ?_
        obtain ⟨z21, h22⟩ := ti_ex (v2 + 1 : Int32)
        have wz21 := ti_full z21
        refine mp_a (a_iinc (v := z21) (L' := [(2, .int z21), (4, .null), (3, .null), (0, .ref 1), (1, .ref a1_)]) dX5_copyFrom_62 (by decide) rfl h22 rfl) (mpp 65 rfl ?_)
        try have e23 : z21.toInt = v2.toInt + 1 := ti_addz h22 rfl rfl (by omega) (by omega)
        refine mp_a (a_goto (t := 26) dX5_copyFrom_65 (by decide)) ?_
        refine MEvP.less (L := [(0, .ref 1), (1, .ref a1_), (2, .int z21)]) rfl rfl ⟨rfl, rfl, rfl, trivial⟩ ?_
        have i24 : (fv P 1 1 = fv Po a1_ 1 ∧ fv P 1 2 = fv Po a1_ 2 ∧ fv P 1 3 = fv Po a1_ 3) := ⟨i_0.1, i_0.2.1, i_0.2.2⟩
        have i25 : ∀ k : Nat, k < 8 → (k : Int) < z21.toInt → PE P (rv Po 2 k) Po (a1_ + 2 + 3 * k) := fun k hk h => i_1 k hk (by omega)
        have i26 : KI 1 (1 + 26) Po P := i_2
        have i27 : (fv P 1 1).toInt = (fv Po a1_ 1).toInt := by omega
        have i28 : 0 ≤ z21.toInt := by omega
        have i29 : 0 ≤ z21.toInt := by omega
        exact ih _ (by omega) _ P hT hK hJ i24 i25 i26 i27 i28 i29 rfl
      · show MEvP _ none q_17 45 [(3, .null), (0, .ref 1), (1, .ref a1_), (2, .int v2)] [.ref b18] _ _ _ _
        replace q19r : 0 ≤ v2.toInt ∧ v2.toInt ≤ 7 ∧ v2.toInt + 1 ≤ (fv P a1_ 1).toInt ∧ b18 = a1_ + 2 + 3 * v2.toInt.toNat := q19r
        have e30 : (fv P a1_ 1).toInt = (fv Po a1_ 1).toInt := congrArg Int32.toInt (KW.at hK 1 ha1 rfl)
        have w31 := pc_ar q19
        refine mp_a (a_astore (L' := [(4, .ref b18), (3, .null), (0, .ref 1), (1, .ref a1_), (2, .int v2)]) dX5_copyFrom_45 (by decide) rfl) (mpp 47 rfl ?_)
        refine mp_a (a_aload_nN dX5_copyFrom_47 rfl) (mpp 48 rfl ?_)
        refine mp_t (s_ifnullN (t := 62) dX5_copyFrom_48 (by decide)) ?_
        obtain ⟨z32, h33⟩ := ti_ex (v2 + 1 : Int32)
        have wz32 := ti_full z32
        refine mp_a (a_iinc (v := z32) (L' := [(2, .int z32), (4, .ref b18), (3, .null), (0, .ref 1), (1, .ref a1_)]) dX5_copyFrom_62 (by decide) rfl h33 rfl) (mpp 65 rfl ?_)
        try have e34 : z32.toInt = v2.toInt + 1 := ti_addz h33 rfl rfl (by omega) (by omega)
        refine mp_a (a_goto (t := 26) dX5_copyFrom_65 (by decide)) ?_
        refine MEvP.less (L := [(0, .ref 1), (1, .ref a1_), (2, .int z32)]) rfl rfl ⟨rfl, rfl, rfl, trivial⟩ ?_
        have i35 : (fv P 1 1 = fv Po a1_ 1 ∧ fv P 1 2 = fv Po a1_ 2 ∧ fv P 1 3 = fv Po a1_ 3) := ⟨i_0.1, i_0.2.1, i_0.2.2⟩
        have i36 : ∀ k : Nat, k < 8 → (k : Int) < z32.toInt → PE P (rv Po 2 k) Po (a1_ + 2 + 3 * k) := fun k hk h => i_1 k hk (by omega)
        have i37 : KI 1 (1 + 26) Po P := i_2
        have i38 : (fv P 1 1).toInt = (fv Po a1_ 1).toInt := by omega
        have i39 : 0 ≤ z32.toInt := by omega
        have i40 : 0 ≤ z32.toInt := by omega
        exact ih _ (by omega) _ P hT hK hJ i35 i36 i37 i38 i39 i40 rfl
    · show MEvP _ none q_17 39 [(0, .ref 1), (1, .ref a1_), (2, .int v2)] [.ref b12] _ _ _ _
      replace q13r : 0 ≤ v2.toInt ∧ v2.toInt ≤ 7 ∧ v2.toInt + 1 ≤ (fv P 1 1).toInt ∧ rv P 2 v2.toInt.toNat = b12 := q13r
      have w41 := np_ar q13
      refine mp_a (a_astore_n (L' := [(3, .ref b12), (0, .ref 1), (1, .ref a1_), (2, .int v2)]) dX5_copyFrom_39 (by decide) rfl) (mpp 40 rfl ?_)
      refine mp_a (a_aload_n dX5_copyFrom_40 rfl) (mpp 41 rfl ?_)
      refine mp_a (a_iload_n dX5_copyFrom_41 rfl) (mpp 42 rfl ?_)
      refine mt_callv (i := 28) (q' := q_9) (As := [.int v2]) (rest := []) hT dX5_copyFrom_42 rfl qm_9 (by decide) rfl ha1 (by decide) rfl (Nat.le_of_ble_eq_true rfl) rfl ⟨rfl, rfl⟩ ⟨Nat.le_of_ble_eq_true rfl, Nat.le_of_ble_eq_true rfl⟩ (EvP.mono (by decide) (c_CS_pieceAt_State hT (KW.xr hK hX) ha1)) (fun r42 P43 g44 => mpp 45 rfl ?_)
      obtain ⟨g44, e45⟩ := g44
      have e45 := e45.symm
      subst e45
      rcases g44 with ⟨rfl, q47n⟩ | ⟨b46, rfl, q47, q47r⟩
      · show MEvP _ none q_17 45 [(3, .ref b12), (0, .ref 1), (1, .ref a1_), (2, .int v2)] [.null] _ _ _ _
        replace q47n : v2.toInt < 0 ∨ (fv P a1_ 1).toInt ≤ v2.toInt ∨ 8 ≤ v2.toInt := q47n
        have e48 : (fv P a1_ 1).toInt = (fv Po a1_ 1).toInt := congrArg Int32.toInt (KW.at hK 1 ha1 rfl)
        refine mp_a (a_astoreN (L' := [(4, .null), (3, .ref b12), (0, .ref 1), (1, .ref a1_), (2, .int v2)]) dX5_copyFrom_45 (by decide) rfl) (mpp 47 rfl ?_)
        refine mp_a (a_aload_n dX5_copyFrom_47 rfl) (mpp 48 rfl ?_)
        refine mp_t (s_ifnullR dX5_copyFrom_48) (mpp 51 rfl ?_)
        refine mp_a (a_aloadN dX5_copyFrom_51 rfl) (mpp 53 rfl ?_)
        refine mp_t (s_ifnullN (t := 62) dX5_copyFrom_53 (by decide)) ?_
        obtain ⟨z49, h50⟩ := ti_ex (v2 + 1 : Int32)
        have wz49 := ti_full z49
        refine mp_a (a_iinc (v := z49) (L' := [(2, .int z49), (4, .null), (3, .ref b12), (0, .ref 1), (1, .ref a1_)]) dX5_copyFrom_62 (by decide) rfl h50 rfl) (mpp 65 rfl ?_)
        try have e51 : z49.toInt = v2.toInt + 1 := ti_addz h50 rfl rfl (by omega) (by omega)
        refine mp_a (a_goto (t := 26) dX5_copyFrom_65 (by decide)) ?_
        refine MEvP.less (L := [(0, .ref 1), (1, .ref a1_), (2, .int z49)]) rfl rfl ⟨rfl, rfl, rfl, trivial⟩ ?_
        have i52 : (fv P 1 1 = fv Po a1_ 1 ∧ fv P 1 2 = fv Po a1_ 2 ∧ fv P 1 3 = fv Po a1_ 3) := ⟨i_0.1, i_0.2.1, i_0.2.2⟩
        have i53 : ∀ k : Nat, k < 8 → (k : Int) < z49.toInt → PE P (rv Po 2 k) Po (a1_ + 2 + 3 * k) := fun k hk h => i_1 k hk (by omega)
        have i54 : KI 1 (1 + 26) Po P := i_2
        have i55 : (fv P 1 1).toInt = (fv Po a1_ 1).toInt := by omega
        have i56 : 0 ≤ z49.toInt := by omega
        have i57 : 0 ≤ z49.toInt := by omega
        exact ih _ (by omega) _ P hT hK hJ i52 i53 i54 i55 i56 i57 rfl
      · show MEvP _ none q_17 45 [(3, .ref b12), (0, .ref 1), (1, .ref a1_), (2, .int v2)] [.ref b46] _ _ _ _
        replace q47r : 0 ≤ v2.toInt ∧ v2.toInt ≤ 7 ∧ v2.toInt + 1 ≤ (fv P a1_ 1).toInt ∧ b46 = a1_ + 2 + 3 * v2.toInt.toNat := q47r
        have e58 : (fv P a1_ 1).toInt = (fv Po a1_ 1).toInt := congrArg Int32.toInt (KW.at hK 1 ha1 rfl)
        have w59 := pc_ar q47
        refine mp_a (a_astore (L' := [(4, .ref b46), (3, .ref b12), (0, .ref 1), (1, .ref a1_), (2, .int v2)]) dX5_copyFrom_45 (by decide) rfl) (mpp 47 rfl ?_)
        refine mp_a (a_aload_n dX5_copyFrom_47 rfl) (mpp 48 rfl ?_)
        refine mp_t (s_ifnullR dX5_copyFrom_48) (mpp 51 rfl ?_)
        refine mp_a (a_aload dX5_copyFrom_51 rfl) (mpp 53 rfl ?_)
        refine mp_t (s_ifnullR dX5_copyFrom_53) (mpp 56 rfl ?_)
        refine mp_a (a_aload_n dX5_copyFrom_56 rfl) (mpp 57 rfl ?_)
        refine mp_a (a_aload dX5_copyFrom_57 rfl) (mpp 59 rfl ?_)
        have p60 : b12 + 3 ≤ b46 ∨ b46 + 3 ≤ b12 := by omega
        refine mt_callv (i := 32) (q' := q_18) (As := [.ref b46]) (rest := []) hT dX5_copyFrom_59 rfl qm_18 (by decide) rfl q13 (by decide) rfl (Nat.le_of_ble_eq_true rfl) rfl ⟨rfl, rfl⟩ ⟨Nat.le_of_ble_eq_true rfl, Nat.le_of_ble_eq_true rfl⟩ (EvP.mono (by decide) (c_CP_copyFrom_NPiece_Piece hT (KW.xr hK hX) p60 q13 q47)) (fun r61 P62 g63 => mpp 62 rfl ?_)
        obtain ⟨⟨rfl, g65⟩, hT66, k67, R68⟩ := g63
        have k69 : KW [256, 320, 1985, 1986, 1987, 2112, 2113, 2114] Po P62 := KW.trans hK k67 rfl
        have J71 := Inj.kw hJ k67 rfl
        show MEvP _ none q_17 62 [(4, .ref b46), (3, .ref b12), (0, .ref 1), (1, .ref a1_), (2, .int v2)] [] _ _ _ _
        obtain ⟨z72, h73⟩ := ti_ex (v2 + 1 : Int32)
        have wz72 := ti_full z72
        refine mp_a (a_iinc (v := z72) (L' := [(2, .int z72), (4, .ref b46), (3, .ref b12), (0, .ref 1), (1, .ref a1_)]) dX5_copyFrom_62 (by decide) rfl h73 rfl) (mpp 65 rfl ?_)
        try have e74 : z72.toInt = v2.toInt + 1 := ti_addz h73 rfl rfl (by omega) (by omega)
        refine mp_a (a_goto (t := 26) dX5_copyFrom_65 (by decide)) ?_
        refine MEvP.less (L := [(0, .ref 1), (1, .ref a1_), (2, .int z72)]) rfl rfl ⟨rfl, rfl, rfl, trivial⟩ ?_
        have i75 : (fv P62 1 1 = fv Po a1_ 1 ∧ fv P62 1 2 = fv Po a1_ 2 ∧ fv P62 1 3 = fv Po a1_ 3) := ⟨by rw [R68.2.2.2.2.2 1 1 (by omega)]; exact i_0.1, by rw [R68.2.2.2.2.2 1 2 (by omega)]; exact i_0.2.1, by rw [R68.2.2.2.2.2 1 3 (by omega)]; exact i_0.2.2⟩
        have i76 : ∀ k : Nat, k < 8 → (k : Int) < z72.toInt → PE P62 (rv Po 2 k) Po (a1_ + 2 + 3 * k) := pe_back (fun k => rv Po 2 k) (fun k => a1_ + 2 + 3 * k) (v := v2.toInt) i_1 (by omega) (by omega) ((hK.2.2 rfl _).symm.trans q13r.2.2.2) q47r.2.2.2.symm ⟨R68.1, R68.2.1, R68.2.2.1, R68.2.2.2.1, R68.2.2.2.2.1⟩ i_2 (by omega) R68.2.2.2.2.2 (fun k hk hn => np_dis hJo hTo hk (by omega) hn ((hK.2.2 rfl _).symm.trans q13r.2.2.2))
        have i77 : KI 1 (1 + 26) Po P62 := i_2.trans R68.2.2.2.2.2 (by omega)
        have e78 : (fv P62 1 1).toInt = (fv P 1 1).toInt := congrArg Int32.toInt (KW.at k67 1 rl_1 rfl)
        have i79 : (fv P62 1 1).toInt = (fv Po a1_ 1).toInt := by omega
        have i80 : 0 ≤ z72.toInt := by omega
        have i81 : 0 ≤ z72.toInt := by omega
        exact ih _ (by omega) _ P62 hT66 k69 J71 i75 i76 i77 i79 i80 i81 rfl

set_option maxHeartbeats 4000000 in
theorem c_CS_copyFrom_NState_State {Po : mP} {a1_ : Nat} (hT : Typ Po) (hX : XR Po)  (hJ : Inj Po) (ha1 : rl a1_ = 1) : EvP 3 17 [.ref 1, .ref a1_] Po (fun r P' => (r = none ∧ (True)) ∧ Typ P' ∧ KW [256, 320, 1985, 1986, 1987, 2112, 2113, 2114] Po P' ∧ Inj P' ∧ fv P' 1 1 = fv Po a1_ 1 ∧ fv P' 1 2 = fv Po a1_ 2 ∧ fv P' 1 3 = fv Po a1_ 3 ∧ (∀ k : Nat, k < 8 → (k : Int) < (fv Po a1_ 1).toInt → PE P' (rv P' 2 k) Po (a1_ + 2 + 3 * k)) ∧ KI 1 (1 + 26) Po P') := by
  refine EvP.of qm_17 (Nat.le_of_ble_eq_true rfl) rfl ?_
  show MEvP _ none q_17 0 [(0, .ref 1), (1, .ref a1_)] [] _ 0 0 _
  have w1 := st_ar ha1
  have g2 : (0 : Int) ≤ (fv Po a1_ 1).toInt ∧ (fv Po a1_ 1).toInt ≤ 8 := Typ.rng hT ha1 (by decide) (by decide) rfl
  refine mp_a (a_aload_n dX5_copyFrom_0 rfl) (mpp 1 rfl ?_)
  refine mp_a (a_aload_n dX5_copyFrom_1 rfl) (mpp 2 rfl ?_)
  refine mt_getI (i := 22) (k := 1) hT dX5_copyFrom_2 rfl ha1 (by decide) rfl (by decide) rfl (fun g3 g4 => mpp 5 rfl ?_)
  refine mt_putI (i := 22) (k := 1) (x := (fv Po a1_ 1)) hT dX5_copyFrom_5 rfl rl_1 (by decide) rfl (by decide) rfl ⟨by omega, by omega⟩ rfl rfl (fun P5 hT6 f7 f8 f9 => mpp 8 rfl ?_)
  have k10 : KW [256, 320, 1985, 1986, 1987, 2112, 2113, 2114] Po P5 := KW.step KW.refl rl_1 rfl f8 f9
  have J11 := Inj.st hJ f9
  have e12 : (fv P5 1 1).toInt = (fv Po a1_ 1).toInt := congrArg Int32.toInt f7
  refine mp_a (a_aload_n dX5_copyFrom_8 rfl) (mpp 9 rfl ?_)
  refine mp_a (a_aload_n dX5_copyFrom_9 rfl) (mpp 10 rfl ?_)
  have g13 := ti_full (fv P5 a1_ 2)
  refine mt_getI (i := 17) (k := 2) hT6 dX5_copyFrom_10 rfl ha1 (by decide) rfl (by decide) rfl (fun g14 g15 => mpp 13 rfl ?_)
  refine mt_putI (i := 17) (k := 2) (x := (fv P5 a1_ 2)) hT6 dX5_copyFrom_13 rfl rl_1 (by decide) rfl (by decide) rfl (ti_full (fv P5 a1_ 2)) rfl rfl (fun P16 hT17 f18 f19 f20 => mpp 16 rfl ?_)
  have k21 : KW [256, 320, 1985, 1986, 1987, 2112, 2113, 2114] Po P16 := KW.step k10 rl_1 rfl f19 f20
  have J22 := Inj.st J11 f20
  have e23 : (fv P16 1 2).toInt = (fv P5 a1_ 2).toInt := congrArg Int32.toInt f18
  refine mp_a (a_aload_n dX5_copyFrom_16 rfl) (mpp 17 rfl ?_)
  refine mp_a (a_aload_n dX5_copyFrom_17 rfl) (mpp 18 rfl ?_)
  have g24 := ti_full (fv P16 a1_ 3)
  refine mt_getI (i := 25) (k := 3) hT17 dX5_copyFrom_18 rfl ha1 (by decide) rfl (by decide) rfl (fun g25 g26 => mpp 21 rfl ?_)
  refine mt_putI (i := 25) (k := 3) (x := (fv P16 a1_ 3)) hT17 dX5_copyFrom_21 rfl rl_1 (by decide) rfl (by decide) rfl (ti_full (fv P16 a1_ 3)) rfl rfl (fun P27 hT28 f29 f30 f31 => mpp 24 rfl ?_)
  have k32 : KW [256, 320, 1985, 1986, 1987, 2112, 2113, 2114] Po P27 := KW.step k21 rl_1 rfl f30 f31
  have J33 := Inj.st J22 f31
  have e34 : (fv P27 1 3).toInt = (fv P16 a1_ 3).toInt := congrArg Int32.toInt f29
  refine mp_a (a_iconst (v := 0) dX5_copyFrom_24 rfl) (mpp 25 rfl ?_)
  refine mp_a (a_istore_n (L' := [(2, .int 0), (0, .ref 1), (1, .ref a1_)]) dX5_copyFrom_25 (by decide) rfl) (mpp 26 rfl ?_)
  refine MEvP.less (L := [(0, .ref 1), (1, .ref a1_), (2, .int 0)]) rfl rfl ⟨rfl, rfl, rfl, trivial⟩ ?_
  have i35 : (fv P27 1 1 = fv Po a1_ 1 ∧ fv P27 1 2 = fv Po a1_ 2 ∧ fv P27 1 3 = fv Po a1_ 3) := ⟨by rw [f30 1 1 (by omega), f19 1 1 (by omega), f7], by rw [f30 1 2 (by omega), f18, f8 a1_ 2 (by omega)], by rw [f29, f19 a1_ 3 (by omega), f8 a1_ 3 (by omega)]⟩
  have i36 : ∀ k : Nat, k < 8 → (k : Int) < (0 : Int) → PE P27 (rv Po 2 k) Po (a1_ + 2 + 3 * k) := fun k hk h => absurd h (by omega)
  have i37 : KI 1 (1 + 26) Po P27 := by intro x j hx; rw [f30 x j (by omega), f19 x j (by omega), f8 x j (by omega)]
  have e38 : (fv P27 1 1).toInt = (fv P5 1 1).toInt := congrArg Int32.toInt ((f30 1 1 (ne_k rfl)).trans (f19 1 1 (ne_k rfl)))
  have i39 : (fv P27 1 1).toInt = (fv Po a1_ 1).toInt := by omega
  have i40 : 0 ≤ (0 : Int) := by omega
  have i41 : 0 ≤ (0 : Int) := by omega
  exact c_CS_copyFrom_NState_State_l26 hT hX hJ ha1 _ _ P27 hT28 k32 J33 i35 i36 i37 i39 i40 i41 rfl

set_option maxHeartbeats 4000000 in
theorem c_F_withCreasesAsTold {Po : mP} {t1 : Int32} (hT : Typ Po) (hX : XR Po)   : EvP 2 108 [.ref 0, .int t1] Po (fun r P' => (∃ x : Int32, r = some (.int x) ∧ (((t1.toInt < 0 ∨ (fv Po 1 1).toInt ≤ t1.toInt ∨ 8 ≤ t1.toInt) ∧ x.toInt = t1.toInt) ∨ ((0 ≤ t1.toInt ∧ t1.toInt + 1 ≤ (fv Po 1 1).toInt ∧ t1.toInt ≤ 7) ∧ ccQ Po (rv Po 2 t1.toInt.toNat) = (fv Po 289 6).toInt ∧ x.toInt = t1.toInt) ∨ ((0 ≤ t1.toInt ∧ t1.toInt + 1 ≤ (fv Po 1 1).toInt ∧ t1.toInt ≤ 7) ∧ ¬ ccQ Po (rv Po 2 t1.toInt.toNat) = (fv Po 289 6).toInt ∧ x.toInt = -1002))) ∧ P' = Po) := by
  refine EvP.of qm_108 (Nat.le_of_ble_eq_true rfl) rfl ?_
  show MEvP _ none q_108 0 [(0, .ref 0), (1, .int t1)] [] _ 0 0 _
  have w_t1 := ti_full t1
  have g1 : (0 : Int) ≤ (fv Po 1 1).toInt ∧ (fv Po 1 1).toInt ≤ 8 := Typ.rng hT rl_1 (by decide) (by decide) rfl
  have g2 := ti_full (fv Po 289 6)
  refine mp_a (a_aload_n dX6_withCreasesAsTold_0 rfl) (mpp 1 rfl ?_)
  refine mt_getU (i := 10) (k := 0) (A := 1) hT dX6_withCreasesAsTold_1 rfl rl_0 (by decide) rfl (by decide) rfl un_31 (mpp 4 rfl ?_)
  refine mp_a (a_iload_n dX6_withCreasesAsTold_4 rfl) (mpp 5 rfl ?_)
  refine mt_callv (i := 94) (q' := q_9) (As := [.int t1]) (rest := []) hT dX6_withCreasesAsTold_5 rfl qm_9 (by decide) rfl rl_1 (by decide) rfl (Nat.le_of_ble_eq_true rfl) rfl ⟨rfl, rfl⟩ ⟨Nat.le_of_ble_eq_true rfl, Nat.le_of_ble_eq_true rfl⟩ (EvP.mono (by decide) (c_CS_pieceAt_NState hT hX )) (fun r3 P4 g5 => mpp 8 rfl ?_)
  obtain ⟨g5, e6⟩ := g5
  have e6 := e6.symm
  subst e6
  rcases g5 with ⟨rfl, q8n⟩ | ⟨b7, rfl, q8, q8r⟩
  · show MEvP _ none q_108 8 [(0, .ref 0), (1, .int t1)] [.null] _ _ _ _
    replace q8n : t1.toInt < 0 ∨ (fv Po 1 1).toInt ≤ t1.toInt ∨ 8 ≤ t1.toInt := q8n
    refine mp_a (a_astore_nN (L' := [(2, .null), (0, .ref 0), (1, .int t1)]) dX6_withCreasesAsTold_8 (by decide) rfl) (mpp 9 rfl ?_)
    refine mp_a (a_aload_nN dX6_withCreasesAsTold_9 rfl) (mpp 10 rfl ?_)
    refine mp_t (s_ifnonnullN dX6_withCreasesAsTold_10) (mpp 13 rfl ?_)
    refine mp_a (a_iload_n dX6_withCreasesAsTold_13 rfl) (mpp 14 rfl ?_)
    have u9 : ((t1.toInt < 0 ∨ (fv Po 1 1).toInt ≤ t1.toInt ∨ 8 ≤ t1.toInt) ∧ t1.toInt = t1.toInt) ∨ ((0 ≤ t1.toInt ∧ t1.toInt + 1 ≤ (fv Po 1 1).toInt ∧ t1.toInt ≤ 7) ∧ ccQ Po (rv Po 2 t1.toInt.toNat) = (fv Po 289 6).toInt ∧ t1.toInt = t1.toInt) ∨ ((0 ≤ t1.toInt ∧ t1.toInt + 1 ≤ (fv Po 1 1).toInt ∧ t1.toInt ≤ 7) ∧ ¬ ccQ Po (rv Po 2 t1.toInt.toNat) = (fv Po 289 6).toInt ∧ t1.toInt = -1002) := Or.inl ⟨by omega, rfl⟩
    exact mp_iret ⟨⟨_, rfl, u9⟩, rfl⟩ dX6_withCreasesAsTold_14 (Or.inl rfl)
  · show MEvP _ none q_108 8 [(0, .ref 0), (1, .int t1)] [.ref b7] _ _ _ _
    replace q8r : 0 ≤ t1.toInt ∧ t1.toInt ≤ 7 ∧ t1.toInt + 1 ≤ (fv Po 1 1).toInt ∧ rv Po 2 t1.toInt.toNat = b7 := q8r
    have w10 := np_ar q8
    refine mp_a (a_astore_n (L' := [(2, .ref b7), (0, .ref 0), (1, .int t1)]) dX6_withCreasesAsTold_8 (by decide) rfl) (mpp 9 rfl ?_)
    refine mp_a (a_aload_n dX6_withCreasesAsTold_9 rfl) (mpp 10 rfl ?_)
    refine mp_t (s_ifnonnullR (t := 15) dX6_withCreasesAsTold_10 (by decide)) ?_
    refine mp_a (a_aload_n dX6_withCreasesAsTold_15 rfl) (mpp 16 rfl ?_)
    refine mt_callv (i := 123) (q' := q_25) (As := []) (rest := []) hT dX6_withCreasesAsTold_16 rfl qm_25 (by decide) rfl q8 (by decide) rfl (Nat.le_of_ble_eq_true rfl) rfl ⟨rfl, rfl⟩ ⟨Nat.le_of_ble_eq_true rfl, Nat.le_of_ble_eq_true rfl⟩ (EvP.mono (by decide) (c_CP_creaseCount_NPiece hT hX q8)) (fun r11 P12 g13 => mpp 19 rfl ?_)
    obtain ⟨⟨x14, rfl, g15⟩, e16⟩ := g13
    have e16 := e16.symm
    subst e16
    have wx14 := ti_full x14
    replace g15 : -1 ≤ x14.toInt ∧ x14.toInt ≤ (fv Po b7 1).toInt ∧ (((fv Po b7 0).toInt = 0 ∧ x14.toInt = (fv Po b7 1).toInt - 1) ∨ ((fv Po b7 0).toInt ≠ 0 ∧ x14.toInt = (fv Po b7 1).toInt)) := g15
    have g17 : (0 : Int) ≤ (fv Po b7 1).toInt ∧ (fv Po b7 1).toInt ≤ 8 := Typ.rng hT q8 (by decide) (by decide) rfl
    have g18 := ti_full (fv Po b7 0)
    show MEvP _ none q_108 19 [(2, .ref b7), (0, .ref 0), (1, .int t1)] [.int x14] _ _ _ _
    refine mp_a (a_aload_n dX6_withCreasesAsTold_19 rfl) (mpp 20 rfl ?_)
    refine mt_getU (i := 32) (k := 4) (A := 289) hT dX6_withCreasesAsTold_20 rfl rl_0 (by decide) rfl (by decide) rfl un_8 (mpp 23 rfl ?_)
    refine mt_getI (i := 309) (k := 6) hT dX6_withCreasesAsTold_23 rfl rl_289 (by decide) rfl (by decide) rfl (fun g19 g20 => mpp 26 rfl ?_)
    refine mp_Tb (t := 33) (j_icmp_ne dX6_withCreasesAsTold_26) (by decide) (fun c21 => ?_) (fun c21 => mpp 29 rfl ?_)
    · have c21 : x14.toInt ≠ (fv Po 289 6).toInt := ti_ne c21
      refine mp_a (a_sipush (v := -1002) dX6_withCreasesAsTold_33 rfl) (mpp 36 rfl ?_)
      have w23_ : ccQ Po b7 = x14.toInt := by unfold ccQ; split <;> omega
      have u22 : ((t1.toInt < 0 ∨ (fv Po 1 1).toInt ≤ t1.toInt ∨ 8 ≤ t1.toInt) ∧ (-1002 : Int) = t1.toInt) ∨ ((0 ≤ t1.toInt ∧ t1.toInt + 1 ≤ (fv Po 1 1).toInt ∧ t1.toInt ≤ 7) ∧ ccQ Po (rv Po 2 t1.toInt.toNat) = (fv Po 289 6).toInt ∧ (-1002 : Int) = t1.toInt) ∨ ((0 ≤ t1.toInt ∧ t1.toInt + 1 ≤ (fv Po 1 1).toInt ∧ t1.toInt ≤ 7) ∧ ¬ ccQ Po (rv Po 2 t1.toInt.toNat) = (fv Po 289 6).toInt ∧ (-1002 : Int) = -1002) := by rw [q8r.2.2.2, w23_]; exact Or.inr (Or.inr ⟨by omega, by omega, by omega⟩)
      exact mp_iret ⟨⟨_, rfl, u22⟩, rfl⟩ dX6_withCreasesAsTold_36 (Or.inl rfl)
    · have c21 : x14.toInt = (fv Po 289 6).toInt := ti_ne_n c21
      refine mp_a (a_iload_n dX6_withCreasesAsTold_29 rfl) (mpp 30 rfl ?_)
      refine mp_a (a_goto (t := 36) dX6_withCreasesAsTold_30 (by decide)) ?_
      have w25_ : ccQ Po b7 = x14.toInt := by unfold ccQ; split <;> omega
      have u24 : ((t1.toInt < 0 ∨ (fv Po 1 1).toInt ≤ t1.toInt ∨ 8 ≤ t1.toInt) ∧ t1.toInt = t1.toInt) ∨ ((0 ≤ t1.toInt ∧ t1.toInt + 1 ≤ (fv Po 1 1).toInt ∧ t1.toInt ≤ 7) ∧ ccQ Po (rv Po 2 t1.toInt.toNat) = (fv Po 289 6).toInt ∧ t1.toInt = t1.toInt) ∨ ((0 ≤ t1.toInt ∧ t1.toInt + 1 ≤ (fv Po 1 1).toInt ∧ t1.toInt ≤ 7) ∧ ¬ ccQ Po (rv Po 2 t1.toInt.toNat) = (fv Po 289 6).toInt ∧ t1.toInt = -1002) := by rw [q8r.2.2.2, w25_]; exact Or.inr (Or.inl ⟨by omega, by omega, by omega⟩)
      exact mp_iret ⟨⟨_, rfl, u24⟩, rfl⟩ dX6_withCreasesAsTold_36 (Or.inl rfl)

set_option maxHeartbeats 4000000 in
theorem c_F_perform {Po : mP}  (hT : Typ Po) (hX : XR Po)  (hJ : Inj Po)  : EvP 6 107 [.ref 0] Po (fun r P' => (∃ x : Int32, r = some (.int x) ∧ (KPX Po P' ∧ PFC Po P' x.toInt (fv Po 289 3).toInt (fv Po 289 4).toInt (fv Po 289 5).toInt (fv Po 289 6).toInt (fv Po 289 7).toInt)) ∧ Typ P' ∧ KW [10, 11, 12, 65, 66, 67, 192, 193, 194, 256, 320, 385, 386, 640, 641, 704, 768, 1985, 1987, 2048, 2112, 2113, 2114] Po P' ∧ Inj P' ∧ True) := by
  refine EvP.of qm_107 (Nat.le_of_ble_eq_true rfl) rfl ?_
  show MEvP _ none q_107 0 [(0, .ref 0)] [] _ 0 0 _
  have g1 := ti_full (fv Po 289 3)
  have g2 := ti_full (fv Po 289 4)
  have g3 := ti_full (fv Po 289 5)
  have g4 := ti_full (fv Po 289 6)
  have g5 := ti_full (fv Po 289 7)
  refine mp_a (a_aload_n dX6_perform_0 rfl) (mpp 1 rfl ?_)
  refine mt_getU (i := 32) (k := 4) (A := 289) hT dX6_perform_1 rfl rl_0 (by decide) rfl (by decide) rfl un_8 (mpp 4 rfl ?_)
  refine mt_getI (i := 276) (k := 3) hT dX6_perform_4 rfl rl_289 (by decide) rfl (by decide) rfl (fun g6 g7 => mpp 7 rfl ?_)
  have c8 : ((fv Po 289 3).toInt < 99 ∨ 120 < (fv Po 289 3).toInt) ∨ (fv Po 289 3).toInt = 99 ∨ (fv Po 289 3).toInt = 100 ∨ (fv Po 289 3).toInt = 101 ∨ (fv Po 289 3).toInt = 102 ∨ (fv Po 289 3).toInt = 103 ∨ (fv Po 289 3).toInt = 104 ∨ (fv Po 289 3).toInt = 105 ∨ (fv Po 289 3).toInt = 106 ∨ (fv Po 289 3).toInt = 107 ∨ (fv Po 289 3).toInt = 108 ∨ (fv Po 289 3).toInt = 109 ∨ (fv Po 289 3).toInt = 110 ∨ (fv Po 289 3).toInt = 111 ∨ (fv Po 289 3).toInt = 112 ∨ (fv Po 289 3).toInt = 113 ∨ (fv Po 289 3).toInt = 114 ∨ (fv Po 289 3).toInt = 115 ∨ (fv Po 289 3).toInt = 116 ∨ (fv Po 289 3).toInt = 117 ∨ (fv Po 289 3).toInt = 118 ∨ (fv Po 289 3).toInt = 119 ∨ (fv Po 289 3).toInt = 120 := by omega
  rcases c8 with c8 | c8 | c8 | c8 | c8 | c8 | c8 | c8 | c8 | c8 | c8 | c8 | c8 | c8 | c8 | c8 | c8 | c8 | c8 | c8 | c8 | c8 | c8
  · refine mp_t (s_tabOut (t := 230) dX6_perform_7 c8 (by decide)) ?_
    refine mp_a (a_sipush (v := -1002) dX6_perform_230 rfl) (mpp 233 rfl ?_)
    have u9 : KPX Po Po ∧ PFC Po Po (-1002 : Int) (fv Po 289 3).toInt (fv Po 289 4).toInt (fv Po 289 5).toInt (fv Po 289 6).toInt (fv Po 289 7).toInt := ⟨⟨rfl, fun _ _ _ => rfl⟩, Or.inr (Or.inr (Or.inr (Or.inr (Or.inr (Or.inr (Or.inr (⟨by omega, rfl⟩)))))))⟩
    exact mp_iret ⟨⟨_, rfl, u9⟩, hT, KW.refl, hJ, trivial⟩ dX6_perform_233 (Or.inl rfl)
  · refine mp_t (s_tabIn (t := 132) (off := 125) dX6_perform_7 (by omega) (by rw [c8]; rfl) (by decide)) ?_
    refine mp_a (a_aload_n dX6_perform_132 rfl) (mpp 133 rfl ?_)
    refine mp_a (a_aload_n dX6_perform_133 rfl) (mpp 134 rfl ?_)
    refine mp_a (a_iconst (v := 1) dX6_perform_134 rfl) (mpp 135 rfl ?_)
    refine mp_a (a_aload_n dX6_perform_135 rfl) (mpp 136 rfl ?_)
    refine mt_getU (i := 32) (k := 4) (A := 289) hT dX6_perform_136 rfl rl_0 (by decide) rfl (by decide) rfl un_8 (mpp 139 rfl ?_)
    refine mt_getI (i := 279) (k := 4) hT dX6_perform_139 rfl rl_289 (by decide) rfl (by decide) rfl (fun g11 g12 => mpp 142 rfl ?_)
    refine mp_a (a_aload_n dX6_perform_142 rfl) (mpp 143 rfl ?_)
    refine mt_getU (i := 32) (k := 4) (A := 289) hT dX6_perform_143 rfl rl_0 (by decide) rfl (by decide) rfl un_8 (mpp 146 rfl ?_)
    refine mt_getI (i := 282) (k := 5) hT dX6_perform_146 rfl rl_289 (by decide) rfl (by decide) rfl (fun g13 g14 => mpp 149 rfl ?_)
    refine mt_callv (i := 284) (q' := q_20) (As := [.int 1, .int (fv Po 289 4), .int (fv Po 289 5)]) (rest := [.ref 0]) hT dX6_perform_149 rfl qm_20 (by decide) rfl rl_0 (by decide) rfl (Nat.le_of_ble_eq_true rfl) rfl ⟨rfl, rfl⟩ ⟨Nat.le_of_ble_eq_true rfl, Nat.le_of_ble_eq_true rfl⟩ (EvP.mono (by decide) (c_F_add hT hX hJ )) (fun r15 P16 g17 => mpp 152 rfl ?_)
    obtain ⟨⟨x18, rfl, g19⟩, hT20, k21, J24, R22⟩ := g17
    have k23 : KW [10, 11, 12, 65, 66, 67, 192, 193, 194, 256, 320, 385, 386, 640, 641, 704, 768, 1985, 1987, 2048, 2112, 2113, 2114] Po P16 := KW.trans KW.refl k21 rfl
    have wx18 := ti_full x18
    replace g19 : KPX Po P16 ∧ addC Po P16 x18.toInt (1 : Int) (fv Po 289 4).toInt (fv Po 289 5).toInt := g19
    show MEvP _ none q_107 152 [(0, .ref 0)] [.int x18, .ref 0] _ _ _ _
    refine mt_callv (i := 288) (q' := q_108) (As := [.int x18]) (rest := []) hT20 dX6_perform_152 rfl qm_108 (by decide) rfl rl_0 (by decide) rfl (Nat.le_of_ble_eq_true rfl) rfl ⟨rfl, rfl⟩ ⟨Nat.le_of_ble_eq_true rfl, Nat.le_of_ble_eq_true rfl⟩ (EvP.mono (by decide) (c_F_withCreasesAsTold hT20 (KW.xr k23 hX) )) (fun r25 P26 g27 => mpp 155 rfl ?_)
    obtain ⟨⟨x28, rfl, g29⟩, e30⟩ := g27
    have e30 := e30.symm
    subst e30
    have wx28 := ti_full x28
    replace g29 : ((x18.toInt < 0 ∨ (fv P16 1 1).toInt ≤ x18.toInt ∨ 8 ≤ x18.toInt) ∧ x28.toInt = x18.toInt) ∨ ((0 ≤ x18.toInt ∧ x18.toInt + 1 ≤ (fv P16 1 1).toInt ∧ x18.toInt ≤ 7) ∧ ccQ P16 (rv P16 2 x18.toInt.toNat) = (fv P16 289 6).toInt ∧ x28.toInt = x18.toInt) ∨ ((0 ≤ x18.toInt ∧ x18.toInt + 1 ≤ (fv P16 1 1).toInt ∧ x18.toInt ≤ 7) ∧ ¬ ccQ P16 (rv P16 2 x18.toInt.toNat) = (fv P16 289 6).toInt ∧ x28.toInt = -1002) := g29
    have g31 : (0 : Int) ≤ (fv P16 1 1).toInt ∧ (fv P16 1 1).toInt ≤ 8 := Typ.rng hT20 rl_1 (by decide) (by decide) rfl
    have e32 : (fv P16 289 6).toInt = (fv Po 289 6).toInt := congrArg Int32.toInt (KW.at k21 6 rl_289 rfl)
    show MEvP _ none q_107 155 [(0, .ref 0)] [.int x28] _ _ _ _
    have w34_ := g29
    have w34_s : (fv P16 289 6).toInt = (fv Po 289 6).toInt := congrArg Int32.toInt (g19.1.2 289 6 (by omega))
    rw [w34_s] at w34_
    have u33 : KPX Po P16 ∧ PFC Po P16 x28.toInt (fv Po 289 3).toInt (fv Po 289 4).toInt (fv Po 289 5).toInt (fv Po 289 6).toInt (fv Po 289 7).toInt := ⟨g19.1, Or.inr (Or.inl (⟨by omega, _, g19.2, w34_⟩))⟩
    exact mp_iret ⟨⟨_, rfl, u33⟩, hT20, k23, J24, trivial⟩ dX6_perform_155 (Or.inl rfl)
  · refine mp_t (s_tabIn (t := 230) (off := 223) dX6_perform_7 (by omega) (by rw [c8]; rfl) (by decide)) ?_
    refine mp_a (a_sipush (v := -1002) dX6_perform_230 rfl) (mpp 233 rfl ?_)
    have u35 : KPX Po Po ∧ PFC Po Po (-1002 : Int) (fv Po 289 3).toInt (fv Po 289 4).toInt (fv Po 289 5).toInt (fv Po 289 6).toInt (fv Po 289 7).toInt := ⟨⟨rfl, fun _ _ _ => rfl⟩, Or.inr (Or.inr (Or.inr (Or.inr (Or.inr (Or.inr (Or.inr (⟨by omega, rfl⟩)))))))⟩
    exact mp_iret ⟨⟨_, rfl, u35⟩, hT, KW.refl, hJ, trivial⟩ dX6_perform_233 (Or.inl rfl)
  · refine mp_t (s_tabIn (t := 230) (off := 223) dX6_perform_7 (by omega) (by rw [c8]; rfl) (by decide)) ?_
    refine mp_a (a_sipush (v := -1002) dX6_perform_230 rfl) (mpp 233 rfl ?_)
    have u37 : KPX Po Po ∧ PFC Po Po (-1002 : Int) (fv Po 289 3).toInt (fv Po 289 4).toInt (fv Po 289 5).toInt (fv Po 289 6).toInt (fv Po 289 7).toInt := ⟨⟨rfl, fun _ _ _ => rfl⟩, Or.inr (Or.inr (Or.inr (Or.inr (Or.inr (Or.inr (Or.inr (⟨by omega, rfl⟩)))))))⟩
    exact mp_iret ⟨⟨_, rfl, u37⟩, hT, KW.refl, hJ, trivial⟩ dX6_perform_233 (Or.inl rfl)
  · refine mp_t (s_tabIn (t := 194) (off := 187) dX6_perform_7 (by omega) (by rw [c8]; rfl) (by decide)) ?_
    refine mp_a (a_aload_n dX6_perform_194 rfl) (mpp 195 rfl ?_)
    refine mp_a (a_aload_n dX6_perform_195 rfl) (mpp 196 rfl ?_)
    refine mt_getU (i := 32) (k := 4) (A := 289) hT dX6_perform_196 rfl rl_0 (by decide) rfl (by decide) rfl un_8 (mpp 199 rfl ?_)
    refine mt_getI (i := 279) (k := 4) hT dX6_perform_199 rfl rl_289 (by decide) rfl (by decide) rfl (fun g39 g40 => mpp 202 rfl ?_)
    refine mt_callv (i := 300) (q' := q_41) (As := [.int (fv Po 289 4)]) (rest := []) hT dX6_perform_202 rfl qm_41 (by decide) rfl rl_0 (by decide) rfl (Nat.le_of_ble_eq_true rfl) rfl ⟨rfl, rfl⟩ ⟨Nat.le_of_ble_eq_true rfl, Nat.le_of_ble_eq_true rfl⟩ (EvP.mono (by decide) (c_F_fold hT hX hJ )) (fun r41 P42 g43 => mpp 205 rfl ?_)
    obtain ⟨⟨x44, rfl, g45⟩, hT46, k47, J50, R48⟩ := g43
    have k49 : KW [10, 11, 12, 65, 66, 67, 192, 193, 194, 256, 320, 385, 386, 640, 641, 704, 768, 1985, 1987, 2048, 2112, 2113, 2114] Po P42 := KW.trans KW.refl k47 rfl
    have wx44 := ti_full x44
    replace g45 : KPX Po P42 ∧ foldC Po P42 x44.toInt (fv Po 289 4).toInt := g45
    show MEvP _ none q_107 205 [(0, .ref 0)] [.int x44] _ _ _ _
    have u51 : KPX Po P42 ∧ PFC Po P42 x44.toInt (fv Po 289 3).toInt (fv Po 289 4).toInt (fv Po 289 5).toInt (fv Po 289 6).toInt (fv Po 289 7).toInt := ⟨g45.1, Or.inr (Or.inr (Or.inr (Or.inr (Or.inl (⟨by omega, g45.2⟩)))))⟩
    exact mp_iret ⟨⟨_, rfl, u51⟩, hT46, k49, J50, trivial⟩ dX6_perform_205 (Or.inl rfl)
  · refine mp_t (s_tabIn (t := 230) (off := 223) dX6_perform_7 (by omega) (by rw [c8]; rfl) (by decide)) ?_
    refine mp_a (a_sipush (v := -1002) dX6_perform_230 rfl) (mpp 233 rfl ?_)
    have u53 : KPX Po Po ∧ PFC Po Po (-1002 : Int) (fv Po 289 3).toInt (fv Po 289 4).toInt (fv Po 289 5).toInt (fv Po 289 6).toInt (fv Po 289 7).toInt := ⟨⟨rfl, fun _ _ _ => rfl⟩, Or.inr (Or.inr (Or.inr (Or.inr (Or.inr (Or.inr (Or.inr (⟨by omega, rfl⟩)))))))⟩
    exact mp_iret ⟨⟨_, rfl, u53⟩, hT, KW.refl, hJ, trivial⟩ dX6_perform_233 (Or.inl rfl)
  · refine mp_t (s_tabIn (t := 230) (off := 223) dX6_perform_7 (by omega) (by rw [c8]; rfl) (by decide)) ?_
    refine mp_a (a_sipush (v := -1002) dX6_perform_230 rfl) (mpp 233 rfl ?_)
    have u55 : KPX Po Po ∧ PFC Po Po (-1002 : Int) (fv Po 289 3).toInt (fv Po 289 4).toInt (fv Po 289 5).toInt (fv Po 289 6).toInt (fv Po 289 7).toInt := ⟨⟨rfl, fun _ _ _ => rfl⟩, Or.inr (Or.inr (Or.inr (Or.inr (Or.inr (Or.inr (Or.inr (⟨by omega, rfl⟩)))))))⟩
    exact mp_iret ⟨⟨_, rfl, u55⟩, hT, KW.refl, hJ, trivial⟩ dX6_perform_233 (Or.inl rfl)
  · refine mp_t (s_tabIn (t := 230) (off := 223) dX6_perform_7 (by omega) (by rw [c8]; rfl) (by decide)) ?_
    refine mp_a (a_sipush (v := -1002) dX6_perform_230 rfl) (mpp 233 rfl ?_)
    have u57 : KPX Po Po ∧ PFC Po Po (-1002 : Int) (fv Po 289 3).toInt (fv Po 289 4).toInt (fv Po 289 5).toInt (fv Po 289 6).toInt (fv Po 289 7).toInt := ⟨⟨rfl, fun _ _ _ => rfl⟩, Or.inr (Or.inr (Or.inr (Or.inr (Or.inr (Or.inr (Or.inr (⟨by omega, rfl⟩)))))))⟩
    exact mp_iret ⟨⟨_, rfl, u57⟩, hT, KW.refl, hJ, trivial⟩ dX6_perform_233 (Or.inl rfl)
  · refine mp_t (s_tabIn (t := 230) (off := 223) dX6_perform_7 (by omega) (by rw [c8]; rfl) (by decide)) ?_
    refine mp_a (a_sipush (v := -1002) dX6_perform_230 rfl) (mpp 233 rfl ?_)
    have u59 : KPX Po Po ∧ PFC Po Po (-1002 : Int) (fv Po 289 3).toInt (fv Po 289 4).toInt (fv Po 289 5).toInt (fv Po 289 6).toInt (fv Po 289 7).toInt := ⟨⟨rfl, fun _ _ _ => rfl⟩, Or.inr (Or.inr (Or.inr (Or.inr (Or.inr (Or.inr (Or.inr (⟨by omega, rfl⟩)))))))⟩
    exact mp_iret ⟨⟨_, rfl, u59⟩, hT, KW.refl, hJ, trivial⟩ dX6_perform_233 (Or.inl rfl)
  · refine mp_t (s_tabIn (t := 230) (off := 223) dX6_perform_7 (by omega) (by rw [c8]; rfl) (by decide)) ?_
    refine mp_a (a_sipush (v := -1002) dX6_perform_230 rfl) (mpp 233 rfl ?_)
    have u61 : KPX Po Po ∧ PFC Po Po (-1002 : Int) (fv Po 289 3).toInt (fv Po 289 4).toInt (fv Po 289 5).toInt (fv Po 289 6).toInt (fv Po 289 7).toInt := ⟨⟨rfl, fun _ _ _ => rfl⟩, Or.inr (Or.inr (Or.inr (Or.inr (Or.inr (Or.inr (Or.inr (⟨by omega, rfl⟩)))))))⟩
    exact mp_iret ⟨⟨_, rfl, u61⟩, hT, KW.refl, hJ, trivial⟩ dX6_perform_233 (Or.inl rfl)
  · refine mp_t (s_tabIn (t := 230) (off := 223) dX6_perform_7 (by omega) (by rw [c8]; rfl) (by decide)) ?_
    refine mp_a (a_sipush (v := -1002) dX6_perform_230 rfl) (mpp 233 rfl ?_)
    have u63 : KPX Po Po ∧ PFC Po Po (-1002 : Int) (fv Po 289 3).toInt (fv Po 289 4).toInt (fv Po 289 5).toInt (fv Po 289 6).toInt (fv Po 289 7).toInt := ⟨⟨rfl, fun _ _ _ => rfl⟩, Or.inr (Or.inr (Or.inr (Or.inr (Or.inr (Or.inr (Or.inr (⟨by omega, rfl⟩)))))))⟩
    exact mp_iret ⟨⟨_, rfl, u63⟩, hT, KW.refl, hJ, trivial⟩ dX6_perform_233 (Or.inl rfl)
  · refine mp_t (s_tabIn (t := 156) (off := 149) dX6_perform_7 (by omega) (by rw [c8]; rfl) (by decide)) ?_
    refine mp_a (a_aload_n dX6_perform_156 rfl) (mpp 157 rfl ?_)
    refine mp_a (a_aload_n dX6_perform_157 rfl) (mpp 158 rfl ?_)
    refine mt_getU (i := 32) (k := 4) (A := 289) hT dX6_perform_158 rfl rl_0 (by decide) rfl (by decide) rfl un_8 (mpp 161 rfl ?_)
    refine mt_getI (i := 279) (k := 4) hT dX6_perform_161 rfl rl_289 (by decide) rfl (by decide) rfl (fun g65 g66 => mpp 164 rfl ?_)
    refine mp_a (a_aload_n dX6_perform_164 rfl) (mpp 165 rfl ?_)
    refine mt_getU (i := 32) (k := 4) (A := 289) hT dX6_perform_165 rfl rl_0 (by decide) rfl (by decide) rfl un_8 (mpp 168 rfl ?_)
    refine mt_getI (i := 282) (k := 5) hT dX6_perform_168 rfl rl_289 (by decide) rfl (by decide) rfl (fun g67 g68 => mpp 171 rfl ?_)
    refine mp_a (a_aload_n dX6_perform_171 rfl) (mpp 172 rfl ?_)
    refine mt_getU (i := 32) (k := 4) (A := 289) hT dX6_perform_172 rfl rl_0 (by decide) rfl (by decide) rfl un_8 (mpp 175 rfl ?_)
    refine mt_getI (i := 291) (k := 7) hT dX6_perform_175 rfl rl_289 (by decide) rfl (by decide) rfl (fun g69 g70 => mpp 178 rfl ?_)
    refine mt_callv (i := 294) (q' := q_28) (As := [.int (fv Po 289 4), .int (fv Po 289 5), .int (fv Po 289 7)]) (rest := []) hT dX6_perform_178 rfl qm_28 (by decide) rfl rl_0 (by decide) rfl (Nat.le_of_ble_eq_true rfl) rfl ⟨rfl, rfl⟩ ⟨Nat.le_of_ble_eq_true rfl, Nat.le_of_ble_eq_true rfl⟩ (EvP.mono (by decide) (c_F_mark hT hX hJ )) (fun r71 P72 g73 => mpp 181 rfl ?_)
    obtain ⟨⟨x74, rfl, g75⟩, hT76, k77, J80, R78⟩ := g73
    have k79 : KW [10, 11, 12, 65, 66, 67, 192, 193, 194, 256, 320, 385, 386, 640, 641, 704, 768, 1985, 1987, 2048, 2112, 2113, 2114] Po P72 := KW.trans KW.refl k77 rfl
    have wx74 := ti_full x74
    replace g75 : KPX Po P72 ∧ markC Po P72 x74.toInt (fv Po 289 4).toInt (fv Po 289 5).toInt (fv Po 289 7).toInt := g75
    show MEvP _ none q_107 181 [(0, .ref 0)] [.int x74] _ _ _ _
    have u81 : KPX Po P72 ∧ PFC Po P72 x74.toInt (fv Po 289 3).toInt (fv Po 289 4).toInt (fv Po 289 5).toInt (fv Po 289 6).toInt (fv Po 289 7).toInt := ⟨g75.1, Or.inr (Or.inr (Or.inl (⟨by omega, g75.2⟩)))⟩
    exact mp_iret ⟨⟨_, rfl, u81⟩, hT76, k79, J80, trivial⟩ dX6_perform_181 (Or.inl rfl)
  · refine mp_t (s_tabIn (t := 230) (off := 223) dX6_perform_7 (by omega) (by rw [c8]; rfl) (by decide)) ?_
    refine mp_a (a_sipush (v := -1002) dX6_perform_230 rfl) (mpp 233 rfl ?_)
    have u83 : KPX Po Po ∧ PFC Po Po (-1002 : Int) (fv Po 289 3).toInt (fv Po 289 4).toInt (fv Po 289 5).toInt (fv Po 289 6).toInt (fv Po 289 7).toInt := ⟨⟨rfl, fun _ _ _ => rfl⟩, Or.inr (Or.inr (Or.inr (Or.inr (Or.inr (Or.inr (Or.inr (⟨by omega, rfl⟩)))))))⟩
    exact mp_iret ⟨⟨_, rfl, u83⟩, hT, KW.refl, hJ, trivial⟩ dX6_perform_233 (Or.inl rfl)
  · refine mp_t (s_tabIn (t := 230) (off := 223) dX6_perform_7 (by omega) (by rw [c8]; rfl) (by decide)) ?_
    refine mp_a (a_sipush (v := -1002) dX6_perform_230 rfl) (mpp 233 rfl ?_)
    have u85 : KPX Po Po ∧ PFC Po Po (-1002 : Int) (fv Po 289 3).toInt (fv Po 289 4).toInt (fv Po 289 5).toInt (fv Po 289 6).toInt (fv Po 289 7).toInt := ⟨⟨rfl, fun _ _ _ => rfl⟩, Or.inr (Or.inr (Or.inr (Or.inr (Or.inr (Or.inr (Or.inr (⟨by omega, rfl⟩)))))))⟩
    exact mp_iret ⟨⟨_, rfl, u85⟩, hT, KW.refl, hJ, trivial⟩ dX6_perform_233 (Or.inl rfl)
  · refine mp_t (s_tabIn (t := 230) (off := 223) dX6_perform_7 (by omega) (by rw [c8]; rfl) (by decide)) ?_
    refine mp_a (a_sipush (v := -1002) dX6_perform_230 rfl) (mpp 233 rfl ?_)
    have u87 : KPX Po Po ∧ PFC Po Po (-1002 : Int) (fv Po 289 3).toInt (fv Po 289 4).toInt (fv Po 289 5).toInt (fv Po 289 6).toInt (fv Po 289 7).toInt := ⟨⟨rfl, fun _ _ _ => rfl⟩, Or.inr (Or.inr (Or.inr (Or.inr (Or.inr (Or.inr (Or.inr (⟨by omega, rfl⟩)))))))⟩
    exact mp_iret ⟨⟨_, rfl, u87⟩, hT, KW.refl, hJ, trivial⟩ dX6_perform_233 (Or.inl rfl)
  · refine mp_t (s_tabIn (t := 230) (off := 223) dX6_perform_7 (by omega) (by rw [c8]; rfl) (by decide)) ?_
    refine mp_a (a_sipush (v := -1002) dX6_perform_230 rfl) (mpp 233 rfl ?_)
    have u89 : KPX Po Po ∧ PFC Po Po (-1002 : Int) (fv Po 289 3).toInt (fv Po 289 4).toInt (fv Po 289 5).toInt (fv Po 289 6).toInt (fv Po 289 7).toInt := ⟨⟨rfl, fun _ _ _ => rfl⟩, Or.inr (Or.inr (Or.inr (Or.inr (Or.inr (Or.inr (Or.inr (⟨by omega, rfl⟩)))))))⟩
    exact mp_iret ⟨⟨_, rfl, u89⟩, hT, KW.refl, hJ, trivial⟩ dX6_perform_233 (Or.inl rfl)
  · refine mp_t (s_tabIn (t := 230) (off := 223) dX6_perform_7 (by omega) (by rw [c8]; rfl) (by decide)) ?_
    refine mp_a (a_sipush (v := -1002) dX6_perform_230 rfl) (mpp 233 rfl ?_)
    have u91 : KPX Po Po ∧ PFC Po Po (-1002 : Int) (fv Po 289 3).toInt (fv Po 289 4).toInt (fv Po 289 5).toInt (fv Po 289 6).toInt (fv Po 289 7).toInt := ⟨⟨rfl, fun _ _ _ => rfl⟩, Or.inr (Or.inr (Or.inr (Or.inr (Or.inr (Or.inr (Or.inr (⟨by omega, rfl⟩)))))))⟩
    exact mp_iret ⟨⟨_, rfl, u91⟩, hT, KW.refl, hJ, trivial⟩ dX6_perform_233 (Or.inl rfl)
  · refine mp_t (s_tabIn (t := 108) (off := 101) dX6_perform_7 (by omega) (by rw [c8]; rfl) (by decide)) ?_
    refine mp_a (a_aload_n dX6_perform_108 rfl) (mpp 109 rfl ?_)
    refine mp_a (a_aload_n dX6_perform_109 rfl) (mpp 110 rfl ?_)
    refine mp_a (a_iconst (v := 0) dX6_perform_110 rfl) (mpp 111 rfl ?_)
    refine mp_a (a_aload_n dX6_perform_111 rfl) (mpp 112 rfl ?_)
    refine mt_getU (i := 32) (k := 4) (A := 289) hT dX6_perform_112 rfl rl_0 (by decide) rfl (by decide) rfl un_8 (mpp 115 rfl ?_)
    refine mt_getI (i := 279) (k := 4) hT dX6_perform_115 rfl rl_289 (by decide) rfl (by decide) rfl (fun g93 g94 => mpp 118 rfl ?_)
    refine mp_a (a_aload_n dX6_perform_118 rfl) (mpp 119 rfl ?_)
    refine mt_getU (i := 32) (k := 4) (A := 289) hT dX6_perform_119 rfl rl_0 (by decide) rfl (by decide) rfl un_8 (mpp 122 rfl ?_)
    refine mt_getI (i := 282) (k := 5) hT dX6_perform_122 rfl rl_289 (by decide) rfl (by decide) rfl (fun g95 g96 => mpp 125 rfl ?_)
    refine mt_callv (i := 284) (q' := q_20) (As := [.int 0, .int (fv Po 289 4), .int (fv Po 289 5)]) (rest := [.ref 0]) hT dX6_perform_125 rfl qm_20 (by decide) rfl rl_0 (by decide) rfl (Nat.le_of_ble_eq_true rfl) rfl ⟨rfl, rfl⟩ ⟨Nat.le_of_ble_eq_true rfl, Nat.le_of_ble_eq_true rfl⟩ (EvP.mono (by decide) (c_F_add hT hX hJ )) (fun r97 P98 g99 => mpp 128 rfl ?_)
    obtain ⟨⟨x100, rfl, g101⟩, hT102, k103, J106, R104⟩ := g99
    have k105 : KW [10, 11, 12, 65, 66, 67, 192, 193, 194, 256, 320, 385, 386, 640, 641, 704, 768, 1985, 1987, 2048, 2112, 2113, 2114] Po P98 := KW.trans KW.refl k103 rfl
    have wx100 := ti_full x100
    replace g101 : KPX Po P98 ∧ addC Po P98 x100.toInt (0 : Int) (fv Po 289 4).toInt (fv Po 289 5).toInt := g101
    show MEvP _ none q_107 128 [(0, .ref 0)] [.int x100, .ref 0] _ _ _ _
    refine mt_callv (i := 288) (q' := q_108) (As := [.int x100]) (rest := []) hT102 dX6_perform_128 rfl qm_108 (by decide) rfl rl_0 (by decide) rfl (Nat.le_of_ble_eq_true rfl) rfl ⟨rfl, rfl⟩ ⟨Nat.le_of_ble_eq_true rfl, Nat.le_of_ble_eq_true rfl⟩ (EvP.mono (by decide) (c_F_withCreasesAsTold hT102 (KW.xr k105 hX) )) (fun r107 P108 g109 => mpp 131 rfl ?_)
    obtain ⟨⟨x110, rfl, g111⟩, e112⟩ := g109
    have e112 := e112.symm
    subst e112
    have wx110 := ti_full x110
    replace g111 : ((x100.toInt < 0 ∨ (fv P98 1 1).toInt ≤ x100.toInt ∨ 8 ≤ x100.toInt) ∧ x110.toInt = x100.toInt) ∨ ((0 ≤ x100.toInt ∧ x100.toInt + 1 ≤ (fv P98 1 1).toInt ∧ x100.toInt ≤ 7) ∧ ccQ P98 (rv P98 2 x100.toInt.toNat) = (fv P98 289 6).toInt ∧ x110.toInt = x100.toInt) ∨ ((0 ≤ x100.toInt ∧ x100.toInt + 1 ≤ (fv P98 1 1).toInt ∧ x100.toInt ≤ 7) ∧ ¬ ccQ P98 (rv P98 2 x100.toInt.toNat) = (fv P98 289 6).toInt ∧ x110.toInt = -1002) := g111
    have g113 : (0 : Int) ≤ (fv P98 1 1).toInt ∧ (fv P98 1 1).toInt ≤ 8 := Typ.rng hT102 rl_1 (by decide) (by decide) rfl
    have e114 : (fv P98 289 6).toInt = (fv Po 289 6).toInt := congrArg Int32.toInt (KW.at k103 6 rl_289 rfl)
    show MEvP _ none q_107 131 [(0, .ref 0)] [.int x110] _ _ _ _
    have w116_ := g111
    have w116_s : (fv P98 289 6).toInt = (fv Po 289 6).toInt := congrArg Int32.toInt (g101.1.2 289 6 (by omega))
    rw [w116_s] at w116_
    have u115 : KPX Po P98 ∧ PFC Po P98 x110.toInt (fv Po 289 3).toInt (fv Po 289 4).toInt (fv Po 289 5).toInt (fv Po 289 6).toInt (fv Po 289 7).toInt := ⟨g101.1, Or.inl (⟨by omega, _, g101.2, w116_⟩)⟩
    exact mp_iret ⟨⟨_, rfl, u115⟩, hT102, k105, J106, trivial⟩ dX6_perform_131 (Or.inl rfl)
  · refine mp_t (s_tabIn (t := 182) (off := 175) dX6_perform_7 (by omega) (by rw [c8]; rfl) (by decide)) ?_
    refine mp_a (a_aload_n dX6_perform_182 rfl) (mpp 183 rfl ?_)
    refine mp_a (a_aload_n dX6_perform_183 rfl) (mpp 184 rfl ?_)
    refine mt_getU (i := 32) (k := 4) (A := 289) hT dX6_perform_184 rfl rl_0 (by decide) rfl (by decide) rfl un_8 (mpp 187 rfl ?_)
    refine mt_getI (i := 279) (k := 4) hT dX6_perform_187 rfl rl_289 (by decide) rfl (by decide) rfl (fun g117 g118 => mpp 190 rfl ?_)
    refine mt_callv (i := 297) (q' := q_30) (As := [.int (fv Po 289 4)]) (rest := []) hT dX6_perform_190 rfl qm_30 (by decide) rfl rl_0 (by decide) rfl (Nat.le_of_ble_eq_true rfl) rfl ⟨rfl, rfl⟩ ⟨Nat.le_of_ble_eq_true rfl, Nat.le_of_ble_eq_true rfl⟩ (EvP.mono (by decide) (c_F_turn hT hX hJ )) (fun r119 P120 g121 => mpp 193 rfl ?_)
    obtain ⟨⟨x122, rfl, g123⟩, hT124, k125, J128, R126⟩ := g121
    have k127 : KW [10, 11, 12, 65, 66, 67, 192, 193, 194, 256, 320, 385, 386, 640, 641, 704, 768, 1985, 1987, 2048, 2112, 2113, 2114] Po P120 := KW.trans KW.refl k125 rfl
    have wx122 := ti_full x122
    replace g123 : KPX Po P120 ∧ turnC Po P120 x122.toInt (fv Po 289 4).toInt := g123
    show MEvP _ none q_107 193 [(0, .ref 0)] [.int x122] _ _ _ _
    have u129 : KPX Po P120 ∧ PFC Po P120 x122.toInt (fv Po 289 3).toInt (fv Po 289 4).toInt (fv Po 289 5).toInt (fv Po 289 6).toInt (fv Po 289 7).toInt := ⟨g123.1, Or.inr (Or.inr (Or.inr (Or.inl (⟨by omega, g123.2⟩))))⟩
    exact mp_iret ⟨⟨_, rfl, u129⟩, hT124, k127, J128, trivial⟩ dX6_perform_193 (Or.inl rfl)
  · refine mp_t (s_tabIn (t := 206) (off := 199) dX6_perform_7 (by omega) (by rw [c8]; rfl) (by decide)) ?_
    refine mp_a (a_aload_n dX6_perform_206 rfl) (mpp 207 rfl ?_)
    refine mp_a (a_aload_n dX6_perform_207 rfl) (mpp 208 rfl ?_)
    refine mt_getU (i := 32) (k := 4) (A := 289) hT dX6_perform_208 rfl rl_0 (by decide) rfl (by decide) rfl un_8 (mpp 211 rfl ?_)
    refine mt_getI (i := 279) (k := 4) hT dX6_perform_211 rfl rl_289 (by decide) rfl (by decide) rfl (fun g131 g132 => mpp 214 rfl ?_)
    refine mt_callv (i := 303) (q' := q_56) (As := [.int (fv Po 289 4)]) (rest := []) hT dX6_perform_214 rfl qm_56 (by decide) rfl rl_0 (by decide) rfl (Nat.le_of_ble_eq_true rfl) rfl ⟨rfl, rfl⟩ ⟨Nat.le_of_ble_eq_true rfl, Nat.le_of_ble_eq_true rfl⟩ (EvP.mono (by decide) (c_F_unfold hT hX hJ )) (fun r133 P134 g135 => mpp 217 rfl ?_)
    obtain ⟨⟨x136, rfl, g137⟩, hT138, k139, J142, R140⟩ := g135
    have k141 : KW [10, 11, 12, 65, 66, 67, 192, 193, 194, 256, 320, 385, 386, 640, 641, 704, 768, 1985, 1987, 2048, 2112, 2113, 2114] Po P134 := KW.trans KW.refl k139 rfl
    have wx136 := ti_full x136
    replace g137 : KPX Po P134 ∧ unfoldC Po P134 x136.toInt (fv Po 289 4).toInt := g137
    show MEvP _ none q_107 217 [(0, .ref 0)] [.int x136] _ _ _ _
    have u143 : KPX Po P134 ∧ PFC Po P134 x136.toInt (fv Po 289 3).toInt (fv Po 289 4).toInt (fv Po 289 5).toInt (fv Po 289 6).toInt (fv Po 289 7).toInt := ⟨g137.1, Or.inr (Or.inr (Or.inr (Or.inr (Or.inr (Or.inl (⟨by omega, g137.2⟩))))))⟩
    exact mp_iret ⟨⟨_, rfl, u143⟩, hT138, k141, J142, trivial⟩ dX6_perform_217 (Or.inl rfl)
  · refine mp_t (s_tabIn (t := 230) (off := 223) dX6_perform_7 (by omega) (by rw [c8]; rfl) (by decide)) ?_
    refine mp_a (a_sipush (v := -1002) dX6_perform_230 rfl) (mpp 233 rfl ?_)
    have u145 : KPX Po Po ∧ PFC Po Po (-1002 : Int) (fv Po 289 3).toInt (fv Po 289 4).toInt (fv Po 289 5).toInt (fv Po 289 6).toInt (fv Po 289 7).toInt := ⟨⟨rfl, fun _ _ _ => rfl⟩, Or.inr (Or.inr (Or.inr (Or.inr (Or.inr (Or.inr (Or.inr (⟨by omega, rfl⟩)))))))⟩
    exact mp_iret ⟨⟨_, rfl, u145⟩, hT, KW.refl, hJ, trivial⟩ dX6_perform_233 (Or.inl rfl)
  · refine mp_t (s_tabIn (t := 230) (off := 223) dX6_perform_7 (by omega) (by rw [c8]; rfl) (by decide)) ?_
    refine mp_a (a_sipush (v := -1002) dX6_perform_230 rfl) (mpp 233 rfl ?_)
    have u147 : KPX Po Po ∧ PFC Po Po (-1002 : Int) (fv Po 289 3).toInt (fv Po 289 4).toInt (fv Po 289 5).toInt (fv Po 289 6).toInt (fv Po 289 7).toInt := ⟨⟨rfl, fun _ _ _ => rfl⟩, Or.inr (Or.inr (Or.inr (Or.inr (Or.inr (Or.inr (Or.inr (⟨by omega, rfl⟩)))))))⟩
    exact mp_iret ⟨⟨_, rfl, u147⟩, hT, KW.refl, hJ, trivial⟩ dX6_perform_233 (Or.inl rfl)
  · refine mp_t (s_tabIn (t := 218) (off := 211) dX6_perform_7 (by omega) (by rw [c8]; rfl) (by decide)) ?_
    refine mp_a (a_aload_n dX6_perform_218 rfl) (mpp 219 rfl ?_)
    refine mp_a (a_aload_n dX6_perform_219 rfl) (mpp 220 rfl ?_)
    refine mt_getU (i := 32) (k := 4) (A := 289) hT dX6_perform_220 rfl rl_0 (by decide) rfl (by decide) rfl un_8 (mpp 223 rfl ?_)
    refine mt_getI (i := 279) (k := 4) hT dX6_perform_223 rfl rl_289 (by decide) rfl (by decide) rfl (fun g149 g150 => mpp 226 rfl ?_)
    refine mt_callv (i := 306) (q' := q_57) (As := [.int (fv Po 289 4)]) (rest := []) hT dX6_perform_226 rfl qm_57 (by decide) rfl rl_0 (by decide) rfl (Nat.le_of_ble_eq_true rfl) rfl ⟨rfl, rfl⟩ ⟨Nat.le_of_ble_eq_true rfl, Nat.le_of_ble_eq_true rfl⟩ (EvP.mono (by decide) (c_F_drop hT hX hJ )) (fun r151 P152 g153 => mpp 229 rfl ?_)
    obtain ⟨⟨x154, rfl, g155⟩, hT156, k157, J160, R158⟩ := g153
    have k159 : KW [10, 11, 12, 65, 66, 67, 192, 193, 194, 256, 320, 385, 386, 640, 641, 704, 768, 1985, 1987, 2048, 2112, 2113, 2114] Po P152 := KW.trans KW.refl k157 rfl
    have wx154 := ti_full x154
    replace g155 : KPX Po P152 ∧ dropC Po P152 x154.toInt (fv Po 289 4).toInt := g155
    show MEvP _ none q_107 229 [(0, .ref 0)] [.int x154] _ _ _ _
    have u161 : KPX Po P152 ∧ PFC Po P152 x154.toInt (fv Po 289 3).toInt (fv Po 289 4).toInt (fv Po 289 5).toInt (fv Po 289 6).toInt (fv Po 289 7).toInt := ⟨g155.1, Or.inr (Or.inr (Or.inr (Or.inr (Or.inr (Or.inr (Or.inl (⟨by omega, g155.2⟩)))))))⟩
    exact mp_iret ⟨⟨_, rfl, u161⟩, hT156, k159, J160, trivial⟩ dX6_perform_229 (Or.inl rfl)

